section Pk0
def pon_477 : aPo := (some (.inl aTop), [none, some [((.ofNat (nat_lit 2)), (.ofNat (nat_lit 5)), (nat_lit 1))], some [((.ofNat (nat_lit 1)), (.ofNat (nat_lit 5)), (nat_lit 1))]], [sl_304, sl_344], [])
def mdn_478 : List (Nat × Nat × Nat) := [((nat_lit 0), (nat_lit 2), (nat_lit 3)), ((nat_lit 92), (nat_lit 4), (nat_lit 5)), ((nat_lit 93), (nat_lit 0), (nat_lit 8))]
set_option maxRecDepth 100000 in
theorem btX11_fresh : bTab oX11_fresh tX11_fresh := ⟨ofX11_fresh, by decide +kernel⟩
def ct_145 : aCt := (mX11_fresh, [ag_0, ag_1, ag_1], ([], [((0, 3), 2), ((92, 0), 2)]), [pon_477, pon_393], mdn_478, [], (nat_lit 5))
set_option maxRecDepth 100000 in
theorem S_145 : aSpec wd ct_145 := bChk_ok wx_ok btX11_fresh (nds := []) (fk := []) (rk := (1, [])) (sp := 0) (fuel := 3000) (by decide +kernel) (lk_d S_71 ml_11_98 (lk_d S_6 ml_11_98 (lk_d S_144 ml_11_261 (lk_d S_65 ml_11_112 (lk_d S_116 ml_11_258 lk_n))))) odX11_fresh
def ag_479 : aAg := .inl [((.ofNat (nat_lit 7)), (.ofNat (nat_lit 1030)), (nat_lit 1))]
def lcn_480 : Nat × aAg := ((nat_lit 3), .inl [((.ofNat (nat_lit 7)), (.ofNat (nat_lit 1030)), (nat_lit 1))])
def lcn_481 : Nat × aAg := ((nat_lit 4), .inl [((.ofNat (nat_lit 0)), (.ofNat (nat_lit 1030)), (nat_lit 1))])
def ct_146 : aCt := (mX7_isFarFromKept, [ag_347, ag_444, ag_419, ag_479], ([], []), [pon_37, pon_38], [], [], (nat_lit 2))
set_option maxRecDepth 100000 in
theorem S_146 : aSpec wd ct_146 := bChk_ok wx_ok btX7_isFarFromKept (nds := [((nat_lit 3), [lcn_352, lcn_445, lcn_446, lcn_480, lcn_481], [], [], [], (1030, [(3, -1)]))]) (fk := []) (rk := (1031, [])) (sp := 8) (fuel := 3000) (by decide +kernel) (lk_d S_127 ml_7_60 lk_n) odX7_isFarFromKept
def ag_482 : aAg := .inl [((.ofNat (nat_lit 6)), (.ofNat (nat_lit 1029)), (nat_lit 1))]
def lcn_483 : Nat × aAg := ((nat_lit 3), .inl [((.ofNat (nat_lit 6)), (.ofNat (nat_lit 1029)), (nat_lit 1))])
def ct_147 : aCt := (mX7_isFarFromKept, [ag_347, ag_444, ag_419, ag_482], ([], []), [pon_37, pon_38], [], [], (nat_lit 2))
set_option maxRecDepth 100000 in
theorem S_147 : aSpec wd ct_147 := bChk_ok wx_ok btX7_isFarFromKept (nds := [((nat_lit 3), [lcn_352, lcn_445, lcn_446, lcn_483, lcn_481], [], [], [], (1030, [(3, -1)]))]) (fk := []) (rk := (1031, [])) (sp := 8) (fuel := 3000) (by decide +kernel) (lk_d S_127 ml_7_60 lk_n) odX7_isFarFromKept
def ag_484 : aAg := .inl [((.ofNat (nat_lit 5)), (.ofNat (nat_lit 1028)), (nat_lit 1))]
def lcn_485 : Nat × aAg := ((nat_lit 3), .inl [((.ofNat (nat_lit 5)), (.ofNat (nat_lit 1028)), (nat_lit 1))])
def ct_148 : aCt := (mX7_isFarFromKept, [ag_347, ag_444, ag_419, ag_484], ([], []), [pon_37, pon_38], [], [], (nat_lit 2))
set_option maxRecDepth 100000 in
theorem S_148 : aSpec wd ct_148 := bChk_ok wx_ok btX7_isFarFromKept (nds := [((nat_lit 3), [lcn_352, lcn_445, lcn_446, lcn_485, lcn_481], [], [], [], (1030, [(3, -1)]))]) (fk := []) (rk := (1031, [])) (sp := 8) (fuel := 3000) (by decide +kernel) (lk_d S_127 ml_7_60 lk_n) odX7_isFarFromKept
def ag_486 : aAg := .inl [((.ofNat (nat_lit 4)), (.ofNat (nat_lit 1027)), (nat_lit 1))]
def lcn_487 : Nat × aAg := ((nat_lit 3), .inl [((.ofNat (nat_lit 4)), (.ofNat (nat_lit 1027)), (nat_lit 1))])
def ct_149 : aCt := (mX7_isFarFromKept, [ag_347, ag_444, ag_419, ag_486], ([], []), [pon_37, pon_38], [], [], (nat_lit 2))
set_option maxRecDepth 100000 in
theorem S_149 : aSpec wd ct_149 := bChk_ok wx_ok btX7_isFarFromKept (nds := [((nat_lit 3), [lcn_352, lcn_445, lcn_446, lcn_487, lcn_481], [], [], [], (1030, [(3, -1)]))]) (fk := []) (rk := (1031, [])) (sp := 8) (fuel := 3000) (by decide +kernel) (lk_d S_127 ml_7_60 lk_n) odX7_isFarFromKept
def ag_488 : aAg := .inl [((.ofNat (nat_lit 3)), (.ofNat (nat_lit 1026)), (nat_lit 1))]
def lcn_489 : Nat × aAg := ((nat_lit 3), .inl [((.ofNat (nat_lit 3)), (.ofNat (nat_lit 1026)), (nat_lit 1))])
def ct_150 : aCt := (mX7_isFarFromKept, [ag_347, ag_444, ag_419, ag_488], ([], []), [pon_37, pon_38], [], [], (nat_lit 2))
set_option maxRecDepth 100000 in
theorem S_150 : aSpec wd ct_150 := bChk_ok wx_ok btX7_isFarFromKept (nds := [((nat_lit 3), [lcn_352, lcn_445, lcn_446, lcn_489, lcn_481], [], [], [], (1030, [(3, -1)]))]) (fk := []) (rk := (1031, [])) (sp := 8) (fuel := 3000) (by decide +kernel) (lk_d S_127 ml_7_60 lk_n) odX7_isFarFromKept
def ag_490 : aAg := .inl [((.ofNat (nat_lit 2)), (.ofNat (nat_lit 1025)), (nat_lit 1))]
def lcn_491 : Nat × aAg := ((nat_lit 3), .inl [((.ofNat (nat_lit 2)), (.ofNat (nat_lit 1025)), (nat_lit 1))])
def ct_151 : aCt := (mX7_isFarFromKept, [ag_347, ag_444, ag_419, ag_490], ([], []), [pon_37, pon_38], [], [], (nat_lit 2))
set_option maxRecDepth 100000 in
theorem S_151 : aSpec wd ct_151 := bChk_ok wx_ok btX7_isFarFromKept (nds := [((nat_lit 3), [lcn_352, lcn_445, lcn_446, lcn_491, lcn_481], [], [], [], (1030, [(3, -1)]))]) (fk := []) (rk := (1031, [])) (sp := 8) (fuel := 3000) (by decide +kernel) (lk_d S_127 ml_7_60 lk_n) odX7_isFarFromKept
def ag_492 : aAg := .inl [((.ofNat (nat_lit 1)), (.ofNat (nat_lit 1024)), (nat_lit 1))]
def lcn_493 : Nat × aAg := ((nat_lit 3), .inl [((.ofNat (nat_lit 1)), (.ofNat (nat_lit 1024)), (nat_lit 1))])
def lcn_494 : Nat × aAg := ((nat_lit 4), .inl [((.ofNat (nat_lit 0)), (.ofNat (nat_lit 1024)), (nat_lit 1))])
def ct_152 : aCt := (mX7_isFarFromKept, [ag_347, ag_444, ag_419, ag_492], ([], []), [pon_37, pon_38], [], [], (nat_lit 2))
set_option maxRecDepth 100000 in
theorem S_152 : aSpec wd ct_152 := bChk_ok wx_ok btX7_isFarFromKept (nds := [((nat_lit 3), [lcn_352, lcn_445, lcn_446, lcn_493, lcn_494], [], [], [], (1024, [(3, -1)]))]) (fk := []) (rk := (1025, [])) (sp := 8) (fuel := 3000) (by decide +kernel) (lk_d S_127 ml_7_60 lk_n) odX7_isFarFromKept
def lcn_495 : Nat × aAg := ((nat_lit 4), .inl [((.ofNat (nat_lit 0)), (.ofNat (nat_lit 1023)), (nat_lit 1))])
def ct_153 : aCt := (mX7_isFarFromKept, [ag_347, ag_444, ag_419, ag_444], ([], []), [pon_37, pon_38], [], [], (nat_lit 2))
set_option maxRecDepth 100000 in
theorem S_153 : aSpec wd ct_153 := bChk_ok wx_ok btX7_isFarFromKept (nds := [((nat_lit 3), [lcn_352, lcn_445, lcn_446, lcn_291, lcn_495], [], [], [], (1023, [(3, -1)]))]) (fk := []) (rk := (1024, [])) (sp := 8) (fuel := 3000) (by decide +kernel) (lk_d S_127 ml_7_60 lk_n) odX7_isFarFromKept
def ag_496 : aAg := .inl [((.ofNat (nat_lit 1024)), (.ofNat (nat_lit 1024)), (nat_lit 1))]
def pon_497 : aPo := (some (.inl [((.ofNat (nat_lit 0)), (.ofNat (nat_lit 1029)), (nat_lit 1))]), [], [], [])
def mdn_498 : List (Nat × Nat × Nat) := [((nat_lit 92), (nat_lit 4), (nat_lit 5)), ((nat_lit 93), (nat_lit 0), (nat_lit 1031))]
def lcn_499 : Nat × aAg := ((nat_lit 4), .inl [((.ofNat (nat_lit 1024)), (.ofNat (nat_lit 1024)), (nat_lit 1))])
def lcn_500 : Nat × aAg := ((nat_lit 6), .inl [((.ofNat (nat_lit 7)), (.ofNat (nat_lit 1031)), (nat_lit 1))])
def lcn_501 : Nat × aAg := ((nat_lit 6), .inl [((.ofNat (nat_lit 6)), (.ofNat (nat_lit 1030)), (nat_lit 1))])
def lcn_502 : Nat × aAg := ((nat_lit 6), .inl [((.ofNat (nat_lit 5)), (.ofNat (nat_lit 1030)), (nat_lit 1))])
def lcn_503 : Nat × aAg := ((nat_lit 6), .inl [((.ofNat (nat_lit 4)), (.ofNat (nat_lit 1030)), (nat_lit 1))])
def lcn_504 : Nat × aAg := ((nat_lit 6), .inl [((.ofNat (nat_lit 3)), (.ofNat (nat_lit 1030)), (nat_lit 1))])
def lcn_505 : Nat × aAg := ((nat_lit 6), .inl [((.ofNat (nat_lit 2)), (.ofNat (nat_lit 1030)), (nat_lit 1))])
def lcn_506 : Nat × aAg := ((nat_lit 6), .inl [((.ofNat (nat_lit 1)), (.ofNat (nat_lit 1030)), (nat_lit 1))])
def lcn_507 : Nat × aAg := ((nat_lit 6), .inl [((.ofNat (nat_lit 0)), (.ofNat (nat_lit 1024)), (nat_lit 1))])
def ct_154 : aCt := (mX7_findNew, [ag_347, ag_419, ag_455, ag_348, ag_496], ([sl_344], [((92, 0), 2)]), [pon_497], mdn_498, [], (nat_lit 4))
set_option maxRecDepth 100000 in
theorem S_154 : aSpec wd ct_154 := bChk_ok wx_ok btX7_findNew (nds := [((nat_lit 24), [lcn_352, lcn_422, lcn_458, lcn_370, lcn_499, lcn_459, lcn_500, lcn_461, lcn_462], [], [sl_344], [((92, 0), 2)], (1057799, [(3, -1025), (5, -1)])), ((nat_lit 24), [lcn_352, lcn_422, lcn_458, lcn_370, lcn_499, lcn_463, lcn_501, lcn_461, lcn_462], [], [sl_344], [((92, 0), 2)], (1056774, [(3, -1025), (5, -1)])), ((nat_lit 24), [lcn_352, lcn_422, lcn_458, lcn_370, lcn_499, lcn_465, lcn_502, lcn_461, lcn_462], [], [sl_344], [((92, 0), 2)], (1056774, [(3, -1025), (5, -1)])), ((nat_lit 24), [lcn_352, lcn_422, lcn_458, lcn_370, lcn_499, lcn_467, lcn_503, lcn_461, lcn_462], [], [sl_344], [((92, 0), 2)], (1056774, [(3, -1025), (5, -1)])), ((nat_lit 24), [lcn_352, lcn_422, lcn_458, lcn_370, lcn_499, lcn_469, lcn_504, lcn_461, lcn_462], [], [sl_344], [((92, 0), 2)], (1056774, [(3, -1025), (5, -1)])), ((nat_lit 24), [lcn_352, lcn_422, lcn_458, lcn_370, lcn_499, lcn_471, lcn_505, lcn_461, lcn_462], [], [sl_344], [((92, 0), 2)], (1056774, [(3, -1025), (5, -1)])), ((nat_lit 24), [lcn_352, lcn_422, lcn_458, lcn_370, lcn_499, lcn_473, lcn_506, lcn_461, lcn_462], [], [sl_344], [((92, 0), 2)], (1056774, [(3, -1025), (5, -1)])), ((nat_lit 24), [lcn_352, lcn_422, lcn_458, lcn_370, lcn_499, lcn_475, lcn_507, lcn_461, lcn_462], [], [sl_344], [((92, 0), 2)], (1050624, [(3, -1025), (5, -1)]))]) (fk := [6]) (rk := (1055750, [])) (sp := 16777216) (fuel := 3000) (by decide +kernel) (lk_d S_128 ml_7_77 (lk_d S_130 ml_7_77 (lk_d S_132 ml_7_77 (lk_d S_134 ml_7_77 (lk_d S_136 ml_7_77 (lk_d S_138 ml_7_77 (lk_d S_140 ml_7_77 (lk_d S_142 ml_7_77 (lk_d S_126 ml_7_73 (lk_d S_146 ml_7_77 (lk_d S_147 ml_7_77 (lk_d S_148 ml_7_77 (lk_d S_149 ml_7_77 (lk_d S_150 ml_7_77 (lk_d S_151 ml_7_77 (lk_d S_152 ml_7_77 (lk_d S_153 ml_7_77 (lk_d S_124 ml_7_70 lk_n)))))))))))))))))) odX7_findNew
def mdn_508 : List (Nat × Nat × Nat) := [((nat_lit 0), (nat_lit 2), (nat_lit 3)), ((nat_lit 92), (nat_lit 4), (nat_lit 5)), ((nat_lit 93), (nat_lit 0), (nat_lit 1031))]
set_option maxRecDepth 100000 in
theorem btX11_byTurns : bTab oX11_byTurns tX11_byTurns := ⟨ofX11_byTurns, by decide +kernel⟩
def ct_155 : aCt := (mX11_byTurns, [ag_0, ag_1, ag_1], ([], [((0, 3), 2), ((92, 0), 2)]), [pon_477, pon_393], mdn_508, [], (nat_lit 5))
set_option maxRecDepth 100000 in
theorem S_155 : aSpec wd ct_155 := bChk_ok wx_ok btX11_byTurns (nds := []) (fk := []) (rk := (1, [])) (sp := 0) (fuel := 3000) (by decide +kernel) (lk_d S_71 ml_11_98 (lk_d S_6 ml_11_98 (lk_d S_154 ml_11_261 (lk_d S_65 ml_11_112 (lk_d S_116 ml_11_258 lk_n))))) odX11_byTurns
set_option maxRecDepth 100000 in
theorem btX11_near : bTab oX11_near tX11_near := ⟨ofX11_near, by decide +kernel⟩
def ct_156 : aCt := (mX11_near, [ag_0, ag_1], ([], [((0, 3), 2), ((92, 0), 2)]), [pon_374, pon_336], mdn_375, [], (nat_lit 4))
set_option maxRecDepth 100000 in
theorem S_156 : aSpec wd ct_156 := bChk_ok wx_ok btX11_near (nds := []) (fk := []) (rk := (1, [])) (sp := 0) (fuel := 3000) (by decide +kernel) (lk_d S_71 ml_11_98 (lk_d S_92 ml_11_201 (lk_d S_73 ml_11_147 (lk_d S_65 ml_11_112 lk_n)))) odX11_near
set_option maxRecDepth 100000 in
theorem btX11_asNear : bTab oX11_asNear tX11_asNear := ⟨ofX11_asNear, by decide +kernel⟩
def ct_157 : aCt := (mX11_asNear, [ag_0, ag_1], ([], [((0, 3), 2), ((92, 0), 2)]), [pon_374, pon_336], mdn_375, [], (nat_lit 4))
set_option maxRecDepth 100000 in
theorem S_157 : aSpec wd ct_157 := bChk_ok wx_ok btX11_asNear (nds := []) (fk := []) (rk := (1, [])) (sp := 0) (fuel := 3000) (by decide +kernel) (lk_d S_71 ml_11_98 (lk_d S_92 ml_11_201 (lk_d S_73 ml_11_147 (lk_d S_65 ml_11_112 lk_n)))) odX11_asNear
def pon_509 : aPo := (some (.inl [((.ofNat (nat_lit 0)), (.ofNat (nat_lit 0)), (nat_lit 1))]), [some [((.negSucc (nat_lit 2147483647)), (.negSucc (nat_lit 0)), (nat_lit 1)), ((.ofNat (nat_lit 100)), (.ofNat (nat_lit 2147483647)), (nat_lit 1))], none], [], [])
def pon_510 : aPo := (some (.inl [((.ofNat (nat_lit 1)), (.ofNat (nat_lit 1)), (nat_lit 1))]), [some [((.ofNat (nat_lit 0)), (.ofNat (nat_lit 99)), (nat_lit 1))], none], [], [])
def ct_158 : aCt := (mX11_isWithin, [ag_1, ag_198], ([], []), [pon_509, pon_510], [], [], (nat_lit 0))
set_option maxRecDepth 100000 in
theorem S_158 : aSpec wd ct_158 := bChk_ok wx_ok btX11_isWithin (nds := []) (fk := []) (rk := (1, [])) (sp := 0) (fuel := 3000) (by decide +kernel) lk_n odX11_isWithin
def ag_511 : aAg := .inl [((.ofNat (nat_lit 0)), (.ofNat (nat_lit 10098)), (nat_lit 1))]
def ct_159 : aCt := (mX7_fallIn, [ag_347, ag_511], ([], [((92, 0), 2)]), [pon_349, pon_37], [], [], (nat_lit 0))
set_option maxRecDepth 100000 in
theorem S_159 : aSpec wd ct_159 := bChk_ok wx_ok btX7_fallIn (nds := []) (fk := []) (rk := (1, [])) (sp := 0) (fuel := 3000) (by decide +kernel) lk_n odX7_fallIn
def lcn_512 : Nat × aAg := ((nat_lit 3), .inl [((.ofNat (nat_lit 0)), (.ofNat (nat_lit 10098)), (nat_lit 1))])
def ct_160 : aCt := (mX7_hearerOf, [ag_347, ag_1, ag_137, ag_511], ([], [((92, 0), 2)]), [pon_368, pon_52], mdn_369, [], (nat_lit 2))
set_option maxRecDepth 100000 in
theorem S_160 : aSpec wd ct_160 := bChk_ok wx_ok btX7_hearerOf (nds := [((nat_lit 32), [lcn_352, lcn_274, lcn_143, lcn_512, lcn_354, lcn_371, lcn_372], [], [sl_373], [((92, 0), 2)], (7, [(5, -1)]))]) (fk := []) (rk := (8, [])) (sp := 4294967296) (fuel := 3000) (by decide +kernel) (lk_d S_159 ml_7_50 (lk_d S_87 ml_7_54 (lk_d S_88 ml_7_54 (lk_d S_90 ml_7_60 lk_n)))) odX7_hearerOf
def ct_161 : aCt := (mX11_hearerIn, [ag_0, ag_190, ag_511], ([], [((0, 3), 2), ((92, 0), 2)]), [pon_368, pon_52], mdn_369, [], (nat_lit 3))
set_option maxRecDepth 100000 in
theorem S_161 : aSpec wd ct_161 := bChk_ok wx_ok btX11_hearerIn (nds := []) (fk := []) (rk := (1, [])) (sp := 0) (fuel := 3000) (by decide +kernel) (lk_d S_84 ml_11_198 (lk_d S_160 ml_11_277 lk_n)) odX11_hearerIn
def pon_513 : aPo := (some (.inl aTop), [none, some [((.ofNat (nat_lit 0)), (.ofNat (nat_lit 7)), (nat_lit 1))], some [((.ofNat (nat_lit 0)), (.ofNat (nat_lit 99)), (nat_lit 1))]], [sl_304, sl_341], [])
set_option maxRecDepth 100000 in
theorem btX11_heardIn : bTab oX11_heardIn tX11_heardIn := ⟨ofX11_heardIn, by decide +kernel⟩
def ct_162 : aCt := (mX11_heardIn, [ag_0, ag_1, ag_1], ([], [((0, 3), 2), ((92, 0), 2)]), [pon_513, pon_393], mdn_375, [], (nat_lit 4))
set_option maxRecDepth 100000 in
theorem S_162 : aSpec wd ct_162 := bChk_ok wx_ok btX11_heardIn (nds := []) (fk := []) (rk := (1, [])) (sp := 0) (fuel := 3000) (by decide +kernel) (lk_d S_6 ml_11_98 (lk_d S_71 ml_11_98 (lk_d S_161 ml_11_201 (lk_d S_73 ml_11_147 (lk_d S_158 ml_11_227 (lk_d S_65 ml_11_112 lk_n)))))) odX11_heardIn
def ct_163 : aCt := (mX7_hearerOf, [ag_347, ag_1, ag_137, ag_511], ([sl_344], [((92, 0), 2)]), [pon_368, pon_52], mdn_369, [], (nat_lit 2))
set_option maxRecDepth 100000 in
theorem S_163 : aSpec wd ct_163 := bChk_ok wx_ok btX7_hearerOf (nds := [((nat_lit 32), [lcn_352, lcn_274, lcn_143, lcn_512, lcn_354, lcn_371, lcn_372], [], [sl_344, sl_373], [((92, 0), 2)], (7, [(5, -1)]))]) (fk := []) (rk := (8, [])) (sp := 4294967296) (fuel := 3000) (by decide +kernel) (lk_d S_159 ml_7_50 (lk_d S_87 ml_7_54 (lk_d S_88 ml_7_54 (lk_d S_90 ml_7_60 lk_n)))) odX7_hearerOf
def lcn_514 : Nat × aAg := ((nat_lit 2), .inl [((.ofNat (nat_lit 0)), (.ofNat (nat_lit 100)), (nat_lit 1))])
set_option maxRecDepth 100000 in
theorem btX11_strange : bTab oX11_strange tX11_strange := ⟨ofX11_strange, by decide +kernel⟩
def ct_164 : aCt := (mX11_strange, [ag_0, ag_1], ([], [((0, 3), 2), ((92, 0), 2)]), [pon_409, pon_336], mdn_375, [], (nat_lit 3))
set_option maxRecDepth 100000 in
theorem S_164 : aSpec wd ct_164 := bChk_ok wx_ok btX11_strange (nds := [((nat_lit 16), [lcn_410, lcn_250, lcn_514], [], [sl_344], [((0, 3), 2), ((92, 0), 2)], (100, [(1, -1)]))]) (fk := []) (rk := (101, [])) (sp := 65536) (fuel := 3000) (by decide +kernel) (lk_d S_71 ml_11_98 (lk_d S_75 ml_11_174 (lk_d S_65 ml_11_112 (lk_d S_163 ml_11_277 lk_n)))) odX11_strange
def ag_515 : aAg := .inr (.inl [(nat_lit 95)])
def ag_516 : aAg := .inl [((.ofNat (nat_lit 1000000000)), (.ofNat (nat_lit 1000000000)), (nat_lit 1))]
def mdn_517 : List (Nat × Nat × Nat) := [((nat_lit 95), (nat_lit 0), (nat_lit 7))]
def lcn_518 : Nat × aAg := ((nat_lit 0), .inr (.inl [(nat_lit 95)]))
def lcn_519 : Nat × aAg := ((nat_lit 1), .inl [((.ofNat (nat_lit 1000000000)), (.ofNat (nat_lit 1000000000)), (nat_lit 1))])
set_option maxRecDepth 100000 in
theorem btJ7_fill_53178 : bTab oJ7_fill_53178 tJ7_fill_53178 := ⟨ofJ7_fill_53178, by decide +kernel⟩
def ct_165 : aCt := (mJ7_fill_53178, [ag_515, ag_516], ([], []), [pon_49], mdn_517, [], (nat_lit 0))
set_option maxRecDepth 100000 in
theorem S_165 : aSpec wd ct_165 := bChk_ok wx_ok btJ7_fill_53178 (nds := [((nat_lit 5), [lcn_518, lcn_519, lcn_414, lcn_108], [], [], [], (7, [(0, -1)]))]) (fk := []) (rk := (8, [])) (sp := 32) (fuel := 3000) (by decide +kernel) lk_n odJ7_fill_53178
def lcn_520 : Nat × aAg := ((nat_lit 3), .inl aTop)
def ct_166 : aCt := (mX6_dayOfLeaving, [ag_397, ag_170, ag_1, ag_1], ([], []), [pon_130], [], [], (nat_lit 0))
set_option maxRecDepth 100000 in
theorem S_166 : aSpec wd ct_166 := bChk_ok wx_ok btX6_dayOfLeaving (nds := [((nat_lit 16), [lcn_399, lcn_175, lcn_132, lcn_520, lcn_354, lcn_402], [], [], [], (4, [(3, -1)]))]) (fk := []) (rk := (5, [])) (sp := 65536) (fuel := 3000) (by decide +kernel) lk_n odX6_dayOfLeaving
def ag_521 : aAg := .inr (.inl [(nat_lit 9), (nat_lit 10), (nat_lit 11), (nat_lit 12), (nat_lit 13), (nat_lit 14), (nat_lit 15), (nat_lit 16), (nat_lit 17), (nat_lit 18), (nat_lit 19), (nat_lit 20)])
set_option maxRecDepth 100000 in
theorem btX6_goes : bTab oX6_goes tX6_goes := ⟨ofX6_goes, by decide +kernel⟩
def ct_167 : aCt := (mX6_goes, [ag_397, ag_170, ag_521, ag_125, ag_125], ([], []), [pon_37, pon_38], mdn_517, [], (nat_lit 1))
set_option maxRecDepth 100000 in
theorem S_167 : aSpec wd ct_167 := bChk_ok wx_ok btX6_goes (nds := []) (fk := []) (rk := (1, [])) (sp := 0) (fuel := 3000) (by decide +kernel) (lk_d S_166 ml_6_80 lk_n) odX6_goes
def ct_168 : aCt := (mX6_dayOfLeaving, [ag_397, ag_22, ag_1, ag_1], ([], []), [pon_130], [], [], (nat_lit 0))
set_option maxRecDepth 100000 in
theorem S_168 : aSpec wd ct_168 := bChk_ok wx_ok btX6_dayOfLeaving (nds := [((nat_lit 16), [lcn_399, lcn_167, lcn_132, lcn_520, lcn_354, lcn_402], [], [], [], (4, [(3, -1)]))]) (fk := []) (rk := (5, [])) (sp := 65536) (fuel := 3000) (by decide +kernel) lk_n odX6_dayOfLeaving
def ag_522 : aAg := .inl [((.ofNat (nat_lit 1)), (.ofNat (nat_lit 1)), (nat_lit 1)), ((.ofNat (nat_lit 3)), (.ofNat (nat_lit 3)), (nat_lit 1))]
def ct_169 : aCt := (mX6_dayOfLeaving, [ag_397, ag_522, ag_1, ag_1], ([], []), [pon_130], [], [], (nat_lit 0))
set_option maxRecDepth 100000 in
theorem S_169 : aSpec wd ct_169 := bChk_ok wx_ok btX6_dayOfLeaving (nds := [((nat_lit 16), [lcn_399, lcn_203, lcn_132, lcn_520, lcn_354, lcn_402], [], [], [], (4, [(3, -1)]))]) (fk := []) (rk := (5, [])) (sp := 65536) (fuel := 3000) (by decide +kernel) lk_n odX6_dayOfLeaving
def ag_523 : aAg := .inl [((.ofNat (nat_lit 1)), (.ofNat (nat_lit 3)), (nat_lit 1))]
def pon_524 : aPo := (some (.inl [((.ofNat (nat_lit 1)), (.ofNat (nat_lit 1)), (nat_lit 1))]), [none, some [((.ofNat (nat_lit 1)), (.ofNat (nat_lit 3)), (nat_lit 1))], none, none, none], [], [])
def ct_170 : aCt := (mX6_goes, [ag_397, ag_523, ag_521, ag_125, ag_125], ([], []), [pon_37, pon_524], mdn_517, [], (nat_lit 1))
set_option maxRecDepth 100000 in
theorem S_170 : aSpec wd ct_170 := bChk_ok wx_ok btX6_goes (nds := []) (fk := []) (rk := (1, [])) (sp := 0) (fuel := 3000) (by decide +kernel) (lk_d S_168 ml_6_80 (lk_d S_169 ml_6_80 lk_n)) odX6_goes
def lcn_525 : Nat × aAg := ((nat_lit 1), .inl [((.ofNat (nat_lit 0)), (.ofNat (nat_lit 3)), (nat_lit 1))])
def lcn_526 : Nat × aAg := ((nat_lit 4), .inl [((.ofNat (nat_lit 1)), (.ofNat (nat_lit 7)), (nat_lit 1))])
def lcn_527 : Nat × aAg := ((nat_lit 5), .inl [((.ofNat (nat_lit 0)), (.ofNat (nat_lit 1)), (nat_lit 1))])
def lcn_528 : Nat × aAg := ((nat_lit 6), .inl [((.ofNat (nat_lit 0)), (.ofNat (nat_lit 6)), (nat_lit 1))])
def lcn_529 : Nat × aAg := ((nat_lit 7), .inl [((.ofNat (nat_lit 0)), (.ofNat (nat_lit 12)), (nat_lit 1))])
set_option maxRecDepth 100000 in
theorem btX6_findFirstDays : bTab oX6_findFirstDays tX6_findFirstDays := ⟨ofX6_findFirstDays, by decide +kernel⟩
def ct_171 : aCt := (mX6_findFirstDays, [ag_397, ag_364, ag_125, ag_348], ([sl_344], [((94, 0), 2)]), [pon_49], mdn_517, [], (nat_lit 2))
set_option maxRecDepth 100000 in
theorem S_171 : aSpec wd ct_171 := bChk_ok wx_ok btX6_findFirstDays (nds := [((nat_lit 39), [lcn_399, lcn_525, lcn_251, lcn_370, lcn_526, lcn_527, lcn_372], [], [sl_344], [((94, 0), 2)], (111, [(5, -14)])), ((nat_lit 57), [lcn_399, lcn_525, lcn_251, lcn_370, lcn_526, lcn_527, lcn_528, lcn_529], [], [sl_344], [((94, 0), 2)], (110, [(5, -14), (6, -1)]))]) (fk := []) (rk := (112, [])) (sp := 144115737831669760) (fuel := 3000) (by decide +kernel) (lk_d S_165 ml_6_38 (lk_d S_97 ml_6_64 (lk_d S_167 ml_6_70 (lk_d S_170 ml_6_70 lk_n)))) odX6_findFirstDays
set_option maxRecDepth 100000 in
theorem btX6_firstDayAt : bTab oX6_firstDayAt tX6_firstDayAt := ⟨ofX6_firstDayAt, by decide +kernel⟩
def ct_172 : aCt := (mX6_firstDayAt, [ag_397, ag_364, ag_125, ag_125, ag_348], ([sl_344], [((94, 0), 2)]), [pon_130, pon_52], mdn_517, [], (nat_lit 3))
set_option maxRecDepth 100000 in
theorem S_172 : aSpec wd ct_172 := bChk_ok wx_ok btX6_firstDayAt (nds := []) (fk := []) (rk := (1, [])) (sp := 0) (fuel := 3000) (by decide +kernel) (lk_d S_171 ml_6_84 lk_n) odX6_firstDayAt
def pon_530 : aPo := (some (.inl aTop), [none, some [((.ofNat (nat_lit 0)), (.ofNat (nat_lit 4)), (nat_lit 1))], some [((.ofNat (nat_lit 0)), (.ofNat (nat_lit 6)), (nat_lit 1))], some [((.ofNat (nat_lit 0)), (.ofNat (nat_lit 6)), (nat_lit 1))], some [((.ofNat (nat_lit 0)), (.ofNat (nat_lit 9999)), (nat_lit 1))]], [sl_304, sl_344, sl_337], [])
def pon_531 : aPo := (some (.inl [((.negSucc (nat_lit 0)), (.negSucc (nat_lit 0)), (nat_lit 1))]), [none, some aTop, none, none, none], [sl_392], [])
def mdn_532 : List (Nat × Nat × Nat) := [((nat_lit 0), (nat_lit 2), (nat_lit 3)), ((nat_lit 95), (nat_lit 0), (nat_lit 7))]
set_option maxRecDepth 100000 in
theorem btX11_arrival : bTab oX11_arrival tX11_arrival := ⟨ofX11_arrival, by decide +kernel⟩
def ct_173 : aCt := (mX11_arrival, [ag_0, ag_1, ag_1, ag_1, ag_1], ([], [((0, 3), 2), ((94, 0), 2)]), [pon_530, pon_531], mdn_532, [], (nat_lit 4))
set_option maxRecDepth 100000 in
theorem S_173 : aSpec wd ct_173 := bChk_ok wx_ok btX11_arrival (nds := []) (fk := []) (rk := (1, [])) (sp := 0) (fuel := 3000) (by decide +kernel) (lk_d S_6 ml_11_98 (lk_d S_71 ml_11_98 (lk_d S_172 ml_11_280 (lk_d S_94 ml_11_174 (lk_d S_70 ml_11_121 (lk_d S_75 ml_11_174 (lk_d S_103 ml_11_227 (lk_d S_65 ml_11_112 lk_n)))))))) odX11_arrival
def ct_174 : aCt := (mX6_findFirstDays, [ag_397, ag_364, ag_125, ag_1], ([], [((94, 0), 2)]), [pon_49], mdn_517, [], (nat_lit 2))
set_option maxRecDepth 100000 in
theorem S_174 : aSpec wd ct_174 := bChk_ok wx_ok btX6_findFirstDays (nds := [((nat_lit 39), [lcn_399, lcn_525, lcn_251, lcn_520, lcn_448, lcn_527, lcn_372], [], [], [((94, 0), 2)], (111, [(5, -14)])), ((nat_lit 57), [lcn_399, lcn_525, lcn_251, lcn_520, lcn_526, lcn_527, lcn_528, lcn_529], [], [], [((94, 0), 2)], (110, [(5, -14), (6, -1)]))]) (fk := []) (rk := (112, [])) (sp := 144115737831669760) (fuel := 3000) (by decide +kernel) (lk_d S_165 ml_6_38 (lk_d S_97 ml_6_64 (lk_d S_167 ml_6_70 (lk_d S_170 ml_6_70 lk_n)))) odX6_findFirstDays
def ct_175 : aCt := (mX6_firstDayAt, [ag_397, ag_364, ag_125, ag_125, ag_1], ([], [((94, 0), 2)]), [pon_130, pon_52], mdn_517, [], (nat_lit 3))
set_option maxRecDepth 100000 in
theorem S_175 : aSpec wd ct_175 := bChk_ok wx_ok btX6_firstDayAt (nds := []) (fk := []) (rk := (1, [])) (sp := 0) (fuel := 3000) (by decide +kernel) (lk_d S_174 ml_6_84 lk_n) odX6_firstDayAt
def sl_533 : (Nat × Nat) × aI := (((nat_lit 94), (nat_lit 4)), [((.ofNat (nat_lit 0)), (.ofNat (nat_lit 6)), (nat_lit 1))])
def pon_534 : aPo := (some (.inl aTop), [], [sl_533], [])
def mdn_535 : List (Nat × Nat × Nat) := [((nat_lit 92), (nat_lit 2), (nat_lit 4)), ((nat_lit 94), (nat_lit 4), (nat_lit 7)), ((nat_lit 95), (nat_lit 0), (nat_lit 7))]
set_option maxRecDepth 100000 in
theorem btX6_dayOfBringing : bTab oX6_dayOfBringing tX6_dayOfBringing := ⟨ofX6_dayOfBringing, by decide +kernel⟩
def ct_176 : aCt := (mX6_dayOfBringing, [ag_397, ag_265, ag_190], ([sl_327], [((92, 0), 2), ((94, 0), 2)]), [pon_534, pon_52], mdn_535, [], (nat_lit 4))
set_option maxRecDepth 100000 in
theorem S_176 : aSpec wd ct_176 := bChk_ok wx_ok btX6_dayOfBringing (nds := []) (fk := []) (rk := (1, [])) (sp := 0) (fuel := 3000) (by decide +kernel) (lk_d S_106 ml_6_96 (lk_d S_84 ml_6_115 (lk_d S_175 ml_6_136 (lk_d S_91 ml_6_122 lk_n)))) odX6_dayOfBringing
def ct_177 : aCt := (mX6_dayOfBringing, [ag_397, ag_364, ag_190], ([sl_325], [((92, 0), 2), ((94, 0), 2)]), [pon_534, pon_52], mdn_535, [], (nat_lit 4))
set_option maxRecDepth 100000 in
theorem S_177 : aSpec wd ct_177 := bChk_ok wx_ok btX6_dayOfBringing (nds := []) (fk := []) (rk := (1, [])) (sp := 0) (fuel := 3000) (by decide +kernel) (lk_d S_106 ml_6_96 (lk_d S_84 ml_6_115 (lk_d S_175 ml_6_136 (lk_d S_91 ml_6_122 lk_n)))) odX6_dayOfBringing
def ct_178 : aCt := (mX6_dayOfBringing, [ag_397, ag_405, ag_190], ([sl_323], [((92, 0), 2), ((94, 0), 2)]), [pon_534, pon_52], mdn_535, [], (nat_lit 4))
set_option maxRecDepth 100000 in
theorem S_178 : aSpec wd ct_178 := bChk_ok wx_ok btX6_dayOfBringing (nds := []) (fk := []) (rk := (1, [])) (sp := 0) (fuel := 3000) (by decide +kernel) (lk_d S_106 ml_6_96 (lk_d S_84 ml_6_115 (lk_d S_175 ml_6_136 (lk_d S_91 ml_6_122 lk_n)))) odX6_dayOfBringing
def ag_536 : aAg := .inl [((.ofNat (nat_lit 0)), (.ofNat (nat_lit 1)), (nat_lit 1))]
def ct_179 : aCt := (mX6_dayOfBringing, [ag_397, ag_536, ag_190], ([sl_321], [((92, 0), 2), ((94, 0), 2)]), [pon_534, pon_52], mdn_535, [], (nat_lit 4))
set_option maxRecDepth 100000 in
theorem S_179 : aSpec wd ct_179 := bChk_ok wx_ok btX6_dayOfBringing (nds := []) (fk := []) (rk := (1, [])) (sp := 0) (fuel := 3000) (by decide +kernel) (lk_d S_106 ml_6_96 (lk_d S_84 ml_6_115 (lk_d S_175 ml_6_136 (lk_d S_91 ml_6_122 lk_n)))) odX6_dayOfBringing
def ct_180 : aCt := (mX6_dayOfBringing, [ag_397, ag_170, ag_190], ([sl_319], [((92, 0), 2), ((94, 0), 2)]), [pon_534, pon_52], mdn_535, [], (nat_lit 4))
set_option maxRecDepth 100000 in
theorem S_180 : aSpec wd ct_180 := bChk_ok wx_ok btX6_dayOfBringing (nds := []) (fk := []) (rk := (1, [])) (sp := 0) (fuel := 3000) (by decide +kernel) (lk_d S_106 ml_6_96 (lk_d S_84 ml_6_115 (lk_d S_175 ml_6_136 (lk_d S_91 ml_6_122 lk_n)))) odX6_dayOfBringing
def pon_537 : aPo := (some (.inl aTop), [none, some [((.ofNat (nat_lit 0)), (.ofNat (nat_lit 4)), (nat_lit 1))], some [((.ofNat (nat_lit 0)), (.ofNat (nat_lit 7)), (nat_lit 1))]], [sl_304, sl_337, sl_341], [])
def mdn_538 : List (Nat × Nat × Nat) := [((nat_lit 0), (nat_lit 2), (nat_lit 3)), ((nat_lit 92), (nat_lit 2), (nat_lit 4)), ((nat_lit 94), (nat_lit 4), (nat_lit 7)), ((nat_lit 95), (nat_lit 0), (nat_lit 7))]
set_option maxRecDepth 100000 in
theorem btX11_brings : bTab oX11_brings tX11_brings := ⟨ofX11_brings, by decide +kernel⟩
def ct_181 : aCt := (mX11_brings, [ag_0, ag_1, ag_1], ([], [((0, 3), 2), ((92, 0), 2), ((94, 0), 2)]), [pon_537, pon_339], mdn_538, [], (nat_lit 5))
set_option maxRecDepth 100000 in
theorem S_181 : aSpec wd ct_181 := bChk_ok wx_ok btX11_brings (nds := []) (fk := []) (rk := (1, [])) (sp := 0) (fuel := 3000) (by decide +kernel) (lk_d S_71 ml_11_98 (lk_d S_180 ml_11_283 (lk_d S_179 ml_11_283 (lk_d S_178 ml_11_283 (lk_d S_177 ml_11_283 (lk_d S_176 ml_11_283 (lk_d S_70 ml_11_121 (lk_d S_73 ml_11_147 (lk_d S_65 ml_11_112 lk_n))))))))) odX11_brings
def pon_539 : aPo := (some (.inl [((.negSucc (nat_lit 1)), (.negSucc (nat_lit 1)), (nat_lit 1)), ((.ofNat (nat_lit 0)), (.ofNat (nat_lit 4)), (nat_lit 1))]), [], [sl_337], [])
def pon_540 : aPo := (some (.inl [((.negSucc (nat_lit 1)), (.negSucc (nat_lit 1)), (nat_lit 1))]), [], [sl_317], [])
def lcn_541 : Nat × aAg := ((nat_lit 1), .inl [((.ofNat (nat_lit 0)), (.ofNat (nat_lit 7)), (nat_lit 1))])
def lcn_542 : Nat × aAg := ((nat_lit 2), .inl [((.negSucc (nat_lit 1)), (.negSucc (nat_lit 1)), (nat_lit 1))])
def lcn_543 : Nat × aAg := ((nat_lit 2), .inl [((.negSucc (nat_lit 1)), (.negSucc (nat_lit 1)), (nat_lit 1)), ((.ofNat (nat_lit 0)), (.ofNat (nat_lit 4)), (nat_lit 1))])
def lcn_544 : Nat × aAg := ((nat_lit 3), .inl [((.negSucc (nat_lit 2147483647)), (.negSucc (nat_lit 2)), (nat_lit 1)), ((.negSucc (nat_lit 0)), (.ofNat (nat_lit 2147483647)), (nat_lit 1))])
def lcn_545 : Nat × aAg := ((nat_lit 4), .inl [((.ofNat (nat_lit 1)), (.ofNat (nat_lit 5)), (nat_lit 1))])
def lcn_546 : Nat × aAg := ((nat_lit 5), .inl aTop)
def lcn_547 : Nat × aAg := ((nat_lit 2), .inl [((.negSucc (nat_lit 1)), (.negSucc (nat_lit 1)), (nat_lit 1)), ((.ofNat (nat_lit 0)), (.ofNat (nat_lit 3)), (nat_lit 1))])
def lcn_548 : Nat × aAg := ((nat_lit 4), .inl [((.ofNat (nat_lit 1)), (.ofNat (nat_lit 4)), (nat_lit 1))])
def lcn_549 : Nat × aAg := ((nat_lit 2), .inl [((.negSucc (nat_lit 1)), (.negSucc (nat_lit 1)), (nat_lit 1)), ((.ofNat (nat_lit 0)), (.ofNat (nat_lit 2)), (nat_lit 1))])
def lcn_550 : Nat × aAg := ((nat_lit 4), .inl [((.ofNat (nat_lit 1)), (.ofNat (nat_lit 3)), (nat_lit 1))])
def lcn_551 : Nat × aAg := ((nat_lit 2), .inl [((.negSucc (nat_lit 1)), (.negSucc (nat_lit 1)), (nat_lit 1)), ((.ofNat (nat_lit 0)), (.ofNat (nat_lit 1)), (nat_lit 1))])
def lcn_552 : Nat × aAg := ((nat_lit 4), .inl [((.ofNat (nat_lit 1)), (.ofNat (nat_lit 2)), (nat_lit 1))])
def lcn_553 : Nat × aAg := ((nat_lit 2), .inl [((.negSucc (nat_lit 1)), (.negSucc (nat_lit 1)), (nat_lit 1)), ((.ofNat (nat_lit 0)), (.ofNat (nat_lit 0)), (nat_lit 1))])
set_option maxRecDepth 100000 in
theorem btX6_soonestBringer : bTab oX6_soonestBringer tX6_soonestBringer := ⟨ofX6_soonestBringer, by decide +kernel⟩
def ct_182 : aCt := (mX6_soonestBringer, [ag_397, ag_190], ([], [((92, 0), 2), ((94, 0), 2)]), [pon_539, pon_540], mdn_535, [], (nat_lit 5))
set_option maxRecDepth 100000 in
theorem S_182 : aSpec wd ct_182 := bChk_ok wx_ok btX6_soonestBringer (nds := [((nat_lit 8), [lcn_399, lcn_541, lcn_542, lcn_101, lcn_424], [], [], [((92, 0), 2), ((94, 0), 2)], (8, [])), ((nat_lit 8), [lcn_399, lcn_541, lcn_543, lcn_544, lcn_545, lcn_546], [], [sl_327], [((92, 0), 2), ((94, 0), 2)], (5, [(3, -1)])), ((nat_lit 8), [lcn_399, lcn_541, lcn_547, lcn_544, lcn_548, lcn_546], [], [sl_325], [((92, 0), 2), ((94, 0), 2)], (4, [(3, -1)])), ((nat_lit 8), [lcn_399, lcn_541, lcn_549, lcn_544, lcn_550, lcn_546], [], [sl_323], [((92, 0), 2), ((94, 0), 2)], (3, [(3, -1)])), ((nat_lit 8), [lcn_399, lcn_541, lcn_551, lcn_544, lcn_552, lcn_546], [], [sl_321], [((92, 0), 2), ((94, 0), 2)], (4, [(1, -2), (3, -1)])), ((nat_lit 8), [lcn_399, lcn_541, lcn_553, lcn_544, lcn_426, lcn_546], [], [sl_319], [((92, 0), 2), ((94, 0), 2)], (0, []))]) (fk := [17]) (rk := (9, [])) (sp := 256) (fuel := 3000) (by decide +kernel) (lk_d S_180 ml_6_155 (lk_d S_179 ml_6_155 (lk_d S_178 ml_6_155 (lk_d S_177 ml_6_155 (lk_d S_176 ml_6_155 lk_n))))) odX6_soonestBringer
set_option maxRecDepth 100000 in
theorem btX11_soonest : bTab oX11_soonest tX11_soonest := ⟨ofX11_soonest, by decide +kernel⟩
def ct_183 : aCt := (mX11_soonest, [ag_0, ag_1], ([], [((0, 3), 2), ((92, 0), 2), ((94, 0), 2)]), [pon_374, pon_336], mdn_538, [], (nat_lit 6))
set_option maxRecDepth 100000 in
theorem S_183 : aSpec wd ct_183 := bChk_ok wx_ok btX11_soonest (nds := []) (fk := []) (rk := (1, [])) (sp := 0) (fuel := 3000) (by decide +kernel) (lk_d S_71 ml_11_98 (lk_d S_182 ml_11_286 (lk_d S_73 ml_11_147 (lk_d S_65 ml_11_112 lk_n)))) odX11_soonest
def ag_554 : aAg := .inl [((.negSucc (nat_lit 1)), (.negSucc (nat_lit 1)), (nat_lit 1))]
def lcn_555 : Nat × aAg := ((nat_lit 3), .inl [((.negSucc (nat_lit 1)), (.negSucc (nat_lit 1)), (nat_lit 1))])
def lcn_556 : Nat × aAg := ((nat_lit 3), .inl [((.negSucc (nat_lit 1)), (.negSucc (nat_lit 1)), (nat_lit 1)), ((.ofNat (nat_lit 0)), (.ofNat (nat_lit 4)), (nat_lit 1))])
def lcn_557 : Nat × aAg := ((nat_lit 3), .inl [((.negSucc (nat_lit 1)), (.negSucc (nat_lit 1)), (nat_lit 1)), ((.ofNat (nat_lit 0)), (.ofNat (nat_lit 3)), (nat_lit 1))])
def lcn_558 : Nat × aAg := ((nat_lit 3), .inl [((.negSucc (nat_lit 1)), (.negSucc (nat_lit 1)), (nat_lit 1)), ((.ofNat (nat_lit 0)), (.ofNat (nat_lit 2)), (nat_lit 1))])
def lcn_559 : Nat × aAg := ((nat_lit 3), .inl [((.negSucc (nat_lit 1)), (.negSucc (nat_lit 1)), (nat_lit 1)), ((.ofNat (nat_lit 0)), (.ofNat (nat_lit 1)), (nat_lit 1))])
def lcn_560 : Nat × aAg := ((nat_lit 3), .inl [((.negSucc (nat_lit 1)), (.negSucc (nat_lit 1)), (nat_lit 1)), ((.ofNat (nat_lit 0)), (.ofNat (nat_lit 0)), (nat_lit 1))])
set_option maxRecDepth 100000 in
theorem btX6_surestBringer : bTab oX6_surestBringer tX6_surestBringer := ⟨ofX6_surestBringer, by decide +kernel⟩
def ct_184 : aCt := (mX6_surestBringer, [ag_397, ag_190, ag_554], ([], [((92, 0), 2), ((94, 0), 2)]), [pon_539, pon_540], mdn_535, [], (nat_lit 5))
set_option maxRecDepth 100000 in
theorem S_184 : aSpec wd ct_184 := bChk_ok wx_ok btX6_surestBringer (nds := [((nat_lit 6), [lcn_399, lcn_541, lcn_542, lcn_555, lcn_424], [], [], [((92, 0), 2), ((94, 0), 2)], (8, [])), ((nat_lit 6), [lcn_399, lcn_541, lcn_542, lcn_556, lcn_545, lcn_527], [], [sl_327], [((92, 0), 2), ((94, 0), 2)], (5, [(2, -1)])), ((nat_lit 6), [lcn_399, lcn_541, lcn_542, lcn_557, lcn_548, lcn_527], [], [sl_325], [((92, 0), 2), ((94, 0), 2)], (4, [(2, -1)])), ((nat_lit 6), [lcn_399, lcn_541, lcn_542, lcn_558, lcn_550, lcn_527], [], [sl_323], [((92, 0), 2), ((94, 0), 2)], (3, [(2, -1)])), ((nat_lit 6), [lcn_399, lcn_541, lcn_542, lcn_559, lcn_552, lcn_527], [], [sl_321], [((92, 0), 2), ((94, 0), 2)], (4, [(1, -2), (2, -1)])), ((nat_lit 6), [lcn_399, lcn_541, lcn_542, lcn_560, lcn_426, lcn_473], [], [sl_319], [((92, 0), 2), ((94, 0), 2)], (0, []))]) (fk := [15]) (rk := (9, [])) (sp := 64) (fuel := 3000) (by decide +kernel) (lk_d S_180 ml_6_155 (lk_d S_179 ml_6_155 (lk_d S_178 ml_6_155 (lk_d S_177 ml_6_155 (lk_d S_176 ml_6_155 lk_n))))) odX6_surestBringer
set_option maxRecDepth 100000 in
theorem btX11_surest : bTab oX11_surest tX11_surest := ⟨ofX11_surest, by decide +kernel⟩
def ct_185 : aCt := (mX11_surest, [ag_0, ag_1], ([], [((0, 3), 2), ((92, 0), 2), ((94, 0), 2)]), [pon_374, pon_336], mdn_538, [], (nat_lit 6))
set_option maxRecDepth 100000 in
theorem S_185 : aSpec wd ct_185 := bChk_ok wx_ok btX11_surest (nds := []) (fk := []) (rk := (1, [])) (sp := 0) (fuel := 3000) (by decide +kernel) (lk_d S_71 ml_11_98 (lk_d S_184 ml_11_289 (lk_d S_73 ml_11_147 (lk_d S_65 ml_11_112 lk_n)))) odX11_surest
def ag_561 : aAg := .inl [((.ofNat (nat_lit 0)), (.ofNat (nat_lit 99999)), (nat_lit 1))]
def pon_562 : aPo := (some (.inl [((.ofNat (nat_lit 0)), (.ofNat (nat_lit 31)), (nat_lit 1))]), [], [sl_337], [])
def pon_563 : aPo := (some (.inl [((.ofNat (nat_lit 0)), (.ofNat (nat_lit 0)), (nat_lit 1))]), [], [sl_317], [])
def lcn_564 : Nat × aAg := ((nat_lit 2), .inl [((.ofNat (nat_lit 0)), (.ofNat (nat_lit 99999)), (nat_lit 1))])
def lcn_565 : Nat × aAg := ((nat_lit 3), .inl [((.ofNat (nat_lit 0)), (.ofNat (nat_lit 31)), (nat_lit 1))])
def lcn_566 : Nat × aAg := ((nat_lit 3), .inl [((.ofNat (nat_lit 0)), (.ofNat (nat_lit 15)), (nat_lit 1))])
set_option maxRecDepth 100000 in
theorem btX6_bringersBy : bTab oX6_bringersBy tX6_bringersBy := ⟨ofX6_bringersBy, by decide +kernel⟩
def ct_186 : aCt := (mX6_bringersBy, [ag_397, ag_190, ag_561], ([], [((92, 0), 2), ((94, 0), 2)]), [pon_562, pon_563], mdn_535, [], (nat_lit 5))
set_option maxRecDepth 100000 in
theorem S_186 : aSpec wd ct_186 := bChk_ok wx_ok btX6_bringersBy (nds := [((nat_lit 5), [lcn_399, lcn_541, lcn_564, lcn_101, lcn_424], [], [], [((92, 0), 2), ((94, 0), 2)], (5, [])), ((nat_lit 5), [lcn_399, lcn_541, lcn_564, lcn_565, lcn_545, lcn_546], [], [sl_327], [((92, 0), 2), ((94, 0), 2)], (5, [(3, -1)])), ((nat_lit 5), [lcn_399, lcn_541, lcn_564, lcn_566, lcn_548, lcn_546], [], [sl_325], [((92, 0), 2), ((94, 0), 2)], (4, [(3, -1)])), ((nat_lit 5), [lcn_399, lcn_541, lcn_564, lcn_441, lcn_550, lcn_546], [], [sl_323], [((92, 0), 2), ((94, 0), 2)], (3, [(3, -1)])), ((nat_lit 5), [lcn_399, lcn_541, lcn_564, lcn_430, lcn_552, lcn_546], [], [sl_321], [((92, 0), 2), ((94, 0), 2)], (2, [(3, -1)])), ((nat_lit 5), [lcn_399, lcn_541, lcn_564, lcn_425, lcn_426, lcn_546], [], [sl_319], [((92, 0), 2), ((94, 0), 2)], (0, []))]) (fk := [14]) (rk := (6, [])) (sp := 32) (fuel := 3000) (by decide +kernel) (lk_d S_180 ml_6_155 (lk_d S_179 ml_6_155 (lk_d S_178 ml_6_155 (lk_d S_177 ml_6_155 (lk_d S_176 ml_6_155 lk_n))))) odX6_bringersBy
def pon_567 : aPo := (some (.inl aTop), [none, some [((.ofNat (nat_lit 0)), (.ofNat (nat_lit 7)), (nat_lit 1))], some [((.ofNat (nat_lit 0)), (.ofNat (nat_lit 99999)), (nat_lit 1))]], [sl_304, sl_341], [])
set_option maxRecDepth 100000 in
theorem btX11_by : bTab oX11_by tX11_by := ⟨ofX11_by, by decide +kernel⟩
def ct_187 : aCt := (mX11_by, [ag_0, ag_1, ag_1], ([], [((0, 3), 2), ((92, 0), 2), ((94, 0), 2)]), [pon_567, pon_393], mdn_538, [], (nat_lit 6))
set_option maxRecDepth 100000 in
theorem S_187 : aSpec wd ct_187 := bChk_ok wx_ok btX11_by (nds := []) (fk := []) (rk := (1, [])) (sp := 0) (fuel := 3000) (by decide +kernel) (lk_d S_6 ml_11_98 (lk_d S_71 ml_11_98 (lk_d S_186 ml_11_292 (lk_d S_73 ml_11_147 (lk_d S_100 ml_11_227 (lk_d S_65 ml_11_112 lk_n)))))) odX11_by
def sl_568 : (Nat × Nat) × aI := (((nat_lit 0), (nat_lit 2)), [((.ofNat (nat_lit 6)), (.ofNat (nat_lit 6)), (nat_lit 1))])
def pon_569 : aPo := (some (.inl [((.negSucc (nat_lit 0)), (.negSucc (nat_lit 0)), (nat_lit 1))]), [], [sl_568], [])
def ct_188 : aCt := (mX11_refused, [ag_0, ag_153], ([], []), [pon_569], mdn_25, [], (nat_lit 0))
set_option maxRecDepth 100000 in
theorem S_188 : aSpec wd ct_188 := bChk_ok wx_ok btX11_refused (nds := []) (fk := []) (rk := (1, [])) (sp := 0) (fuel := 3000) (by decide +kernel) lk_n odX11_refused
def pon_570 : aPo := (some (.inl [((.negSucc (nat_lit 1)), (.negSucc (nat_lit 1)), (nat_lit 1)), ((.ofNat (nat_lit 0)), (.ofNat (nat_lit 4)), (nat_lit 1))]), [], [], [])
def lcn_571 : Nat × aAg := ((nat_lit 2), .inl [((.ofNat (nat_lit 0)), (.ofNat (nat_lit 4)), (nat_lit 1))])
def ct_189 : aCt := (mX6_surestBringer, [ag_397, ag_190, ag_265], ([sl_337], [((92, 0), 2), ((94, 0), 2)]), [pon_570], mdn_535, [], (nat_lit 5))
set_option maxRecDepth 100000 in
theorem S_189 : aSpec wd ct_189 := bChk_ok wx_ok btX6_surestBringer (nds := [((nat_lit 6), [lcn_399, lcn_541, lcn_571, lcn_555, lcn_424], [], [sl_337], [((92, 0), 2), ((94, 0), 2)], (8, [])), ((nat_lit 6), [lcn_399, lcn_541, lcn_571, lcn_556, lcn_545, lcn_527], [], [sl_327], [((92, 0), 2), ((94, 0), 2)], (5, [(3, -1)])), ((nat_lit 6), [lcn_399, lcn_541, lcn_571, lcn_557, lcn_548, lcn_527], [], [sl_325], [((92, 0), 2), ((94, 0), 2)], (4, [(3, -1)])), ((nat_lit 6), [lcn_399, lcn_541, lcn_571, lcn_558, lcn_550, lcn_527], [], [sl_323], [((92, 0), 2), ((94, 0), 2)], (3, [(3, -1)])), ((nat_lit 6), [lcn_399, lcn_541, lcn_571, lcn_559, lcn_552, lcn_527], [], [sl_321], [((92, 0), 2), ((94, 0), 2)], (4, [(2, -2), (3, -1)])), ((nat_lit 6), [lcn_399, lcn_541, lcn_571, lcn_560, lcn_426, lcn_473], [], [sl_319], [((92, 0), 2), ((94, 0), 2)], (0, []))]) (fk := [15]) (rk := (9, [])) (sp := 64) (fuel := 3000) (by decide +kernel) (lk_d S_180 ml_6_155 (lk_d S_179 ml_6_155 (lk_d S_178 ml_6_155 (lk_d S_177 ml_6_155 (lk_d S_176 ml_6_155 lk_n))))) odX6_surestBringer
end Pk0
section Pk1
def ag_572 : aAg := .inl [((.ofNat (nat_lit 10000)), (.ofNat (nat_lit 10000)), (nat_lit 1))]
def pon_573 : aPo := (some (.inl [((.ofNat (nat_lit 1)), (.ofNat (nat_lit 2147483647)), (nat_lit 1))]), [], [], [])
def lcn_574 : Nat × aAg := ((nat_lit 0), .inl [((.ofNat (nat_lit 10000)), (.ofNat (nat_lit 10000)), (nat_lit 1))])
def lcn_575 : Nat × aAg := ((nat_lit 2), .inl [((.negSucc (nat_lit 2147483647)), (.negSucc (nat_lit 0)), (nat_lit 1)), ((.ofNat (nat_lit 1)), (.ofNat (nat_lit 2147483647)), (nat_lit 1))])
def lcn_576 : Nat × aAg := ((nat_lit 4), .inl [((.ofNat (nat_lit 0)), (.ofNat (nat_lit 47)), (nat_lit 1))])
set_option maxRecDepth 100000 in
theorem btX11_commonDivisor : bTab oX11_commonDivisor tX11_commonDivisor := ⟨ofX11_commonDivisor, by decide +kernel⟩
def ct_190 : aCt := (mX11_commonDivisor, [ag_572, ag_1], ([], []), [pon_573], [], [], (nat_lit 1))
set_option maxRecDepth 100000 in
theorem S_190 : aSpec wd ct_190 := bChk_ok wx_ok btX11_commonDivisor (nds := [((nat_lit 7), [lcn_574, lcn_274, lcn_575, lcn_520, lcn_576], [], [], [], (47, [(3, -1)]))]) (fk := []) (rk := (48, [])) (sp := 128) (fuel := 3000) (by decide +kernel) lk_n odX11_commonDivisor
def lcn_577 : Nat × aAg := ((nat_lit 0), .inl [((.ofNat (nat_lit 100)), (.ofNat (nat_lit 100)), (nat_lit 1))])
def ct_191 : aCt := (mX11_commonDivisor, [ag_183, ag_1], ([], []), [pon_573], [], [], (nat_lit 1))
set_option maxRecDepth 100000 in
theorem S_191 : aSpec wd ct_191 := bChk_ok wx_ok btX11_commonDivisor (nds := [((nat_lit 7), [lcn_577, lcn_274, lcn_575, lcn_520, lcn_576], [], [], [], (47, [(3, -1)]))]) (fk := []) (rk := (48, [])) (sp := 128) (fuel := 3000) (by decide +kernel) lk_n odX11_commonDivisor
def sl_578 : (Nat × Nat) × aI := (((nat_lit 0), (nat_lit 2)), [((.ofNat (nat_lit 0)), (.ofNat (nat_lit 1)), (nat_lit 1)), ((.ofNat (nat_lit 6)), (.ofNat (nat_lit 6)), (nat_lit 1))])
def pon_579 : aPo := (some (.inr ()), [], [sl_578], [])
set_option maxRecDepth 100000 in
theorem btX11_registered : bTab oX11_registered tX11_registered := ⟨ofX11_registered, by decide +kernel⟩
def ct_192 : aCt := (mX11_registered, [ag_0, ag_1, ag_536], ([], [((0, 3), 2), ((92, 0), 2), ((94, 0), 2)]), [pon_579], mdn_538, [], (nat_lit 6))
set_option maxRecDepth 100000 in
theorem S_192 : aSpec wd ct_192 := bChk_ok wx_ok btX11_registered (nds := []) (fk := []) (rk := (1, [])) (sp := 0) (fuel := 3000) (by decide +kernel) (lk_d S_188 ml_11_98 (lk_d S_71 ml_11_98 (lk_d S_184 ml_11_289 (lk_d S_189 ml_11_289 (lk_d S_73 ml_11_147 (lk_d S_190 ml_11_295 (lk_d S_65 ml_11_112 (lk_d S_191 ml_11_295 lk_n)))))))) odX11_registered
def ag_580 : aAg := .inr (.inl [(nat_lit 103)])
def mdn_581 : List (Nat × Nat × Nat) := [((nat_lit 103), (nat_lit 0), (nat_lit 288))]
def lcn_582 : Nat × aAg := ((nat_lit 0), .inr (.inl [(nat_lit 103)]))
def lcn_583 : Nat × aAg := ((nat_lit 2), .inl [((.ofNat (nat_lit 0)), (.ofNat (nat_lit 363)), (nat_lit 1))])
def lcn_584 : Nat × aAg := ((nat_lit 3), .inl [((.ofNat (nat_lit 288)), (.ofNat (nat_lit 288)), (nat_lit 1))])
def ct_193 : aCt := (mJ7_fill_53178, [ag_580, ag_170], ([], []), [pon_49], mdn_581, [], (nat_lit 0))
set_option maxRecDepth 100000 in
theorem S_193 : aSpec wd ct_193 := bChk_ok wx_ok btJ7_fill_53178 (nds := [((nat_lit 5), [lcn_582, lcn_175, lcn_583, lcn_584], [], [], [], (363, [(0, -1)]))]) (fk := []) (rk := (364, [])) (sp := 32) (fuel := 3000) (by decide +kernel) lk_n odJ7_fill_53178
def ag_585 : aAg := .inr (.inl [(nat_lit 100)])
def mdn_586 : List (Nat × Nat × Nat) := [((nat_lit 100), (nat_lit 2), (nat_lit 4))]
def lcn_587 : Nat × aAg := ((nat_lit 0), .inr (.inl [(nat_lit 100)]))
def sl_588 : (Nat × Nat) × aI := (((nat_lit 100), (nat_lit 2)), [((.ofNat (nat_lit 0)), (.ofNat (nat_lit 0)), (nat_lit 1))])
def sl_589 : (Nat × Nat) × aI := (((nat_lit 100), (nat_lit 3)), [((.ofNat (nat_lit 0)), (.ofNat (nat_lit 0)), (nat_lit 1))])
set_option maxRecDepth 100000 in
theorem btX1_choose : bTab oX1_choose tX1_choose := ⟨ofX1_choose, by decide +kernel⟩
def ct_194 : aCt := (mX1_choose, [ag_585, ag_170, ag_413], ([], []), [pon_49], mdn_586, [], (nat_lit 0))
set_option maxRecDepth 100000 in
theorem S_194 : aSpec wd ct_194 := bChk_ok wx_ok btX1_choose (nds := [((nat_lit 15), [lcn_587, lcn_175, lcn_296, lcn_101, lcn_424], [], [sl_588, sl_589], [], (0, []))]) (fk := []) (rk := (1, [])) (sp := 32768) (fuel := 3000) (by decide +kernel) lk_n odX1_choose
def mdn_590 : List (Nat × Nat × Nat) := [((nat_lit 100), (nat_lit 2), (nat_lit 4)), ((nat_lit 103), (nat_lit 0), (nat_lit 288))]
def lcn_591 : Nat × aAg := ((nat_lit 3), .inl [((.negSucc (nat_lit 0)), (.negSucc (nat_lit 0)), (nat_lit 1))])
set_option maxRecDepth 100000 in
theorem btX1_solve : bTab oX1_solve tX1_solve := ⟨ofX1_solve, by decide +kernel⟩
def ct_195 : aCt := (mX1_solve, [ag_585, ag_170, ag_413], ([], []), [pon_49], mdn_590, [], (nat_lit 1))
set_option maxRecDepth 100000 in
theorem S_195 : aSpec wd ct_195 := bChk_ok wx_ok btX1_solve (nds := [((nat_lit 12), [lcn_587, lcn_175, lcn_296, lcn_591], [], [], [], (0, []))]) (fk := []) (rk := (1, [])) (sp := 4096) (fuel := 3000) (by decide +kernel) (lk_d S_193 ml_1_28 (lk_d S_194 ml_1_44 lk_n)) odX1_solve
def lcn_592 : Nat × aAg := ((nat_lit 2), .inl [((.ofNat (nat_lit 0)), (.ofNat (nat_lit 0)), (nat_lit 1))])
set_option maxRecDepth 100000 in
theorem btX1_firstBest : bTab oX1_firstBest tX1_firstBest := ⟨ofX1_firstBest, by decide +kernel⟩
def ct_196 : aCt := (mX1_firstBest, [ag_585, ag_190, ag_170, ag_170], ([], []), [pon_52], [], [], (nat_lit 0))
set_option maxRecDepth 100000 in
theorem S_196 : aSpec wd ct_196 := bChk_ok wx_ok btX1_firstBest (nds := [((nat_lit 3), [lcn_587, lcn_541, lcn_592, lcn_101, lcn_424], [], [], [], (0, []))]) (fk := []) (rk := (1, [])) (sp := 8) (fuel := 3000) (by decide +kernel) lk_n odX1_firstBest
def ag_593 : aAg := .inl [((.ofNat (nat_lit 1)), (.ofNat (nat_lit 8)), (nat_lit 1))]
def mdn_594 : List (Nat × Nat × Nat) := [((nat_lit 100), (nat_lit 2), (nat_lit 4)), ((nat_lit 102), (nat_lit 0), (nat_lit 8))]
def lcn_595 : Nat × aAg := ((nat_lit 1), .inl [((.ofNat (nat_lit 1)), (.ofNat (nat_lit 8)), (nat_lit 1))])
def lcn_596 : Nat × aAg := ((nat_lit 4), .inl [((.ofNat (nat_lit 0)), (.ofNat (nat_lit 8)), (nat_lit 1))])
def ct_197 : aCt := (mX1_choose, [ag_585, ag_593, ag_170], ([], []), [pon_49], mdn_594, [], (nat_lit 1))
set_option maxRecDepth 100000 in
theorem S_197 : aSpec wd ct_197 := bChk_ok wx_ok btX1_choose (nds := [((nat_lit 15), [lcn_587, lcn_595, lcn_592, lcn_101, lcn_596], [], [sl_588, sl_589], [], (8, [(1, -1)]))]) (fk := []) (rk := (9, [])) (sp := 32768) (fuel := 3000) (by decide +kernel) (lk_d S_196 ml_1_49 lk_n) odX1_choose
def mdn_597 : List (Nat × Nat × Nat) := [((nat_lit 100), (nat_lit 2), (nat_lit 4)), ((nat_lit 102), (nat_lit 0), (nat_lit 8)), ((nat_lit 103), (nat_lit 0), (nat_lit 288))]
def lcn_598 : Nat × aAg := ((nat_lit 3), .inl [((.negSucc (nat_lit 0)), (.ofNat (nat_lit 7)), (nat_lit 1))])
def lcn_599 : Nat × aAg := ((nat_lit 6), .inl [((.ofNat (nat_lit 0)), (.ofNat (nat_lit 0)), (nat_lit 1))])
def ct_198 : aCt := (mX1_solve, [ag_585, ag_593, ag_170], ([], []), [pon_49], mdn_597, [], (nat_lit 2))
set_option maxRecDepth 100000 in
theorem S_198 : aSpec wd ct_198 := bChk_ok wx_ok btX1_solve (nds := [((nat_lit 12), [lcn_587, lcn_595, lcn_592, lcn_598], [], [], [], (9, [(1, 5)])), ((nat_lit 19), [lcn_587, lcn_595, lcn_592, lcn_441, lcn_454], [], [], [], (8, [(1, 5), (2, -2)])), ((nat_lit 46), [lcn_587, lcn_595, lcn_592, lcn_441, lcn_424, lcn_546, lcn_599], [], [], [], (7, [(1, 5)]))]) (fk := []) (rk := (45, [])) (sp := 70368744706048) (fuel := 3000) (by decide +kernel) (lk_d S_193 ml_1_28 (lk_d S_197 ml_1_44 lk_n)) odX1_solve
set_option maxRecDepth 100000 in
theorem btX1_worth : bTab oX1_worth tX1_worth := ⟨ofX1_worth, by decide +kernel⟩
def ct_199 : aCt := (mX1_worth, [ag_585, ag_190, ag_170, ag_536], ([], []), [pon_130, pon_52], [], [], (nat_lit 0))
set_option maxRecDepth 100000 in
theorem S_199 : aSpec wd ct_199 := bChk_ok wx_ok btX1_worth (nds := []) (fk := []) (rk := (1, [])) (sp := 0) (fuel := 3000) (by decide +kernel) lk_n odX1_worth
def ct_200 : aCt := (mX1_firstBest, [ag_585, ag_190, ag_53, ag_536], ([], []), [pon_52, pon_37], [], [], (nat_lit 1))
set_option maxRecDepth 100000 in
theorem S_200 : aSpec wd ct_200 := bChk_ok wx_ok btX1_firstBest (nds := [((nat_lit 3), [lcn_587, lcn_541, lcn_447, lcn_425, lcn_454], [], [], [], (1, [(2, -1)]))]) (fk := []) (rk := (2, [])) (sp := 8) (fuel := 3000) (by decide +kernel) (lk_d S_199 ml_1_34 lk_n) odX1_firstBest
def ct_201 : aCt := (mX1_choose, [ag_585, ag_593, ag_53], ([], []), [pon_49], mdn_594, [], (nat_lit 2))
set_option maxRecDepth 100000 in
theorem S_201 : aSpec wd ct_201 := bChk_ok wx_ok btX1_choose (nds := [((nat_lit 15), [lcn_587, lcn_595, lcn_447, lcn_425, lcn_596], [], [], [], (8, [(2, -1)]))]) (fk := []) (rk := (9, [])) (sp := 32768) (fuel := 3000) (by decide +kernel) (lk_d S_200 ml_1_49 lk_n) odX1_choose
def ct_202 : aCt := (mX1_solve, [ag_585, ag_593, ag_53], ([], []), [pon_49], mdn_597, [], (nat_lit 3))
set_option maxRecDepth 100000 in
theorem S_202 : aSpec wd ct_202 := bChk_ok wx_ok btX1_solve (nds := [((nat_lit 12), [lcn_587, lcn_595, lcn_447, lcn_598], [], [], [], (19, [(1, 10)])), ((nat_lit 19), [lcn_587, lcn_595, lcn_447, lcn_441, lcn_453], [], [], [], (18, [(1, 10), (2, -3)])), ((nat_lit 46), [lcn_587, lcn_595, lcn_447, lcn_441, lcn_454, lcn_546, lcn_476], [], [], [], (17, [(1, 10), (2, -3), (4, -1)]))]) (fk := []) (rk := (90, [])) (sp := 70368744706048) (fuel := 3000) (by decide +kernel) (lk_d S_193 ml_1_28 (lk_d S_201 ml_1_44 (lk_d S_199 ml_1_34 lk_n))) odX1_solve
def ct_203 : aCt := (mX1_worth, [ag_585, ag_190, ag_536, ag_364], ([], []), [pon_130, pon_52], [], [], (nat_lit 0))
set_option maxRecDepth 100000 in
theorem S_203 : aSpec wd ct_203 := bChk_ok wx_ok btX1_worth (nds := []) (fk := []) (rk := (1, [])) (sp := 0) (fuel := 3000) (by decide +kernel) lk_n odX1_worth
def lcn_600 : Nat × aAg := ((nat_lit 2), .inl [((.ofNat (nat_lit 2)), (.ofNat (nat_lit 2)), (nat_lit 1))])
def ct_204 : aCt := (mX1_firstBest, [ag_585, ag_190, ag_22, ag_364], ([], []), [pon_456, pon_52], [], [], (nat_lit 1))
set_option maxRecDepth 100000 in
theorem S_204 : aSpec wd ct_204 := bChk_ok wx_ok btX1_firstBest (nds := [((nat_lit 3), [lcn_587, lcn_541, lcn_600, lcn_430, lcn_453], [], [], [], (2, [(2, -1)]))]) (fk := []) (rk := (3, [])) (sp := 8) (fuel := 3000) (by decide +kernel) (lk_d S_203 ml_1_34 lk_n) odX1_firstBest
def ct_205 : aCt := (mX1_choose, [ag_585, ag_593, ag_22], ([], []), [pon_49], mdn_594, [], (nat_lit 2))
set_option maxRecDepth 100000 in
theorem S_205 : aSpec wd ct_205 := bChk_ok wx_ok btX1_choose (nds := [((nat_lit 15), [lcn_587, lcn_595, lcn_600, lcn_430, lcn_596], [], [], [], (8, [(2, -1)]))]) (fk := []) (rk := (9, [])) (sp := 32768) (fuel := 3000) (by decide +kernel) (lk_d S_204 ml_1_49 lk_n) odX1_choose
def lcn_601 : Nat × aAg := ((nat_lit 6), .inl [((.ofNat (nat_lit 0)), (.ofNat (nat_lit 2)), (nat_lit 1))])
def ct_206 : aCt := (mX1_solve, [ag_585, ag_593, ag_22], ([], []), [pon_49], mdn_597, [], (nat_lit 3))
set_option maxRecDepth 100000 in
theorem S_206 : aSpec wd ct_206 := bChk_ok wx_ok btX1_solve (nds := [((nat_lit 12), [lcn_587, lcn_595, lcn_600, lcn_598], [], [], [], (41, [(1, 21)])), ((nat_lit 19), [lcn_587, lcn_595, lcn_600, lcn_441, lcn_451], [], [], [], (40, [(1, 21), (2, -4)])), ((nat_lit 46), [lcn_587, lcn_595, lcn_600, lcn_441, lcn_452, lcn_546, lcn_601], [], [], [], (39, [(1, 21), (2, -4), (4, -1)]))]) (fk := []) (rk := (189, [])) (sp := 70368744706048) (fuel := 3000) (by decide +kernel) (lk_d S_193 ml_1_28 (lk_d S_205 ml_1_44 (lk_d S_203 ml_1_34 lk_n))) odX1_solve
def ct_207 : aCt := (mX1_worth, [ag_585, ag_190, ag_405, ag_190], ([], []), [pon_130, pon_52], [], [], (nat_lit 0))
set_option maxRecDepth 100000 in
theorem S_207 : aSpec wd ct_207 := bChk_ok wx_ok btX1_worth (nds := []) (fk := []) (rk := (1, [])) (sp := 0) (fuel := 3000) (by decide +kernel) lk_n odX1_worth
def pon_602 : aPo := (some (.inl [((.ofNat (nat_lit 0)), (.ofNat (nat_lit 2)), (nat_lit 1))]), [], [], [])
def ct_208 : aCt := (mX1_firstBest, [ag_585, ag_190, ag_122, ag_190], ([], []), [pon_602, pon_52], [], [], (nat_lit 1))
set_option maxRecDepth 100000 in
theorem S_208 : aSpec wd ct_208 := bChk_ok wx_ok btX1_firstBest (nds := [((nat_lit 3), [lcn_587, lcn_541, lcn_176, lcn_441, lcn_452], [], [], [], (3, [(2, -1)]))]) (fk := []) (rk := (4, [])) (sp := 8) (fuel := 3000) (by decide +kernel) (lk_d S_207 ml_1_34 lk_n) odX1_firstBest
def ct_209 : aCt := (mX1_choose, [ag_585, ag_593, ag_122], ([], []), [pon_49], mdn_594, [], (nat_lit 2))
set_option maxRecDepth 100000 in
theorem S_209 : aSpec wd ct_209 := bChk_ok wx_ok btX1_choose (nds := [((nat_lit 15), [lcn_587, lcn_595, lcn_176, lcn_441, lcn_596], [], [], [], (8, [(2, -1)]))]) (fk := []) (rk := (9, [])) (sp := 32768) (fuel := 3000) (by decide +kernel) (lk_d S_208 ml_1_49 lk_n) odX1_choose
def lcn_603 : Nat × aAg := ((nat_lit 6), .inl [((.ofNat (nat_lit 0)), (.ofNat (nat_lit 3)), (nat_lit 1))])
def ct_210 : aCt := (mX1_solve, [ag_585, ag_593, ag_122], ([], []), [pon_49], mdn_597, [], (nat_lit 3))
set_option maxRecDepth 100000 in
theorem S_210 : aSpec wd ct_210 := bChk_ok wx_ok btX1_solve (nds := [((nat_lit 12), [lcn_587, lcn_595, lcn_176, lcn_598], [], [], [], (91, [(1, 46)])), ((nat_lit 19), [lcn_587, lcn_595, lcn_176, lcn_441, lcn_596], [], [], [], (90, [(1, 46), (2, -5)])), ((nat_lit 46), [lcn_587, lcn_595, lcn_176, lcn_441, lcn_448, lcn_546, lcn_603], [], [], [], (89, [(1, 46), (2, -5), (4, -1)]))]) (fk := []) (rk := (414, [])) (sp := 70368744706048) (fuel := 3000) (by decide +kernel) (lk_d S_193 ml_1_28 (lk_d S_209 ml_1_44 (lk_d S_207 ml_1_34 lk_n))) odX1_solve
def ag_604 : aAg := .inl [((.ofNat (nat_lit 0)), (.ofNat (nat_lit 15)), (nat_lit 1))]
def ct_211 : aCt := (mX1_worth, [ag_585, ag_190, ag_364, ag_604], ([], []), [pon_130, pon_52], [], [], (nat_lit 0))
set_option maxRecDepth 100000 in
theorem S_211 : aSpec wd ct_211 := bChk_ok wx_ok btX1_worth (nds := []) (fk := []) (rk := (1, [])) (sp := 0) (fuel := 3000) (by decide +kernel) lk_n odX1_worth
def ct_212 : aCt := (mX1_firstBest, [ag_585, ag_190, ag_159, ag_604], ([], []), [pon_349, pon_52], [], [], (nat_lit 1))
set_option maxRecDepth 100000 in
theorem S_212 : aSpec wd ct_212 := bChk_ok wx_ok btX1_firstBest (nds := [((nat_lit 3), [lcn_587, lcn_541, lcn_168, lcn_566, lcn_451], [], [], [], (4, [(2, -1)]))]) (fk := []) (rk := (5, [])) (sp := 8) (fuel := 3000) (by decide +kernel) (lk_d S_211 ml_1_34 lk_n) odX1_firstBest
def ct_213 : aCt := (mX1_choose, [ag_585, ag_593, ag_159], ([], []), [pon_49], mdn_594, [], (nat_lit 2))
set_option maxRecDepth 100000 in
theorem S_213 : aSpec wd ct_213 := bChk_ok wx_ok btX1_choose (nds := [((nat_lit 15), [lcn_587, lcn_595, lcn_168, lcn_566, lcn_596], [], [], [], (8, [(2, -1)]))]) (fk := []) (rk := (9, [])) (sp := 32768) (fuel := 3000) (by decide +kernel) (lk_d S_212 ml_1_49 lk_n) odX1_choose
def lcn_605 : Nat × aAg := ((nat_lit 4), .inl [((.ofNat (nat_lit 0)), (.ofNat (nat_lit 16)), (nat_lit 1))])
def lcn_606 : Nat × aAg := ((nat_lit 4), .inl [((.ofNat (nat_lit 0)), (.ofNat (nat_lit 15)), (nat_lit 1))])
def lcn_607 : Nat × aAg := ((nat_lit 6), .inl [((.ofNat (nat_lit 0)), (.ofNat (nat_lit 4)), (nat_lit 1))])
def ct_214 : aCt := (mX1_solve, [ag_585, ag_593, ag_159], ([], []), [pon_49], mdn_597, [], (nat_lit 3))
set_option maxRecDepth 100000 in
theorem S_214 : aSpec wd ct_214 := bChk_ok wx_ok btX1_solve (nds := [((nat_lit 12), [lcn_587, lcn_595, lcn_168, lcn_598], [], [], [], (205, [(1, 103)])), ((nat_lit 19), [lcn_587, lcn_595, lcn_168, lcn_441, lcn_605], [], [], [], (204, [(1, 103), (2, -6)])), ((nat_lit 46), [lcn_587, lcn_595, lcn_168, lcn_441, lcn_606, lcn_546, lcn_607], [], [], [], (203, [(1, 103), (2, -6), (4, -1)]))]) (fk := []) (rk := (927, [])) (sp := 70368744706048) (fuel := 3000) (by decide +kernel) (lk_d S_193 ml_1_28 (lk_d S_213 ml_1_44 (lk_d S_211 ml_1_34 lk_n))) odX1_solve
def ag_608 : aAg := .inl [((.ofNat (nat_lit 0)), (.ofNat (nat_lit 31)), (nat_lit 1))]
def ct_215 : aCt := (mX1_worth, [ag_585, ag_190, ag_265, ag_608], ([], []), [pon_130, pon_52], [], [], (nat_lit 0))
set_option maxRecDepth 100000 in
theorem S_215 : aSpec wd ct_215 := bChk_ok wx_ok btX1_worth (nds := []) (fk := []) (rk := (1, [])) (sp := 0) (fuel := 3000) (by decide +kernel) lk_n odX1_worth
def pon_609 : aPo := (some (.inl [((.ofNat (nat_lit 0)), (.ofNat (nat_lit 4)), (nat_lit 1))]), [], [], [])
def lcn_610 : Nat × aAg := ((nat_lit 2), .inl [((.ofNat (nat_lit 5)), (.ofNat (nat_lit 5)), (nat_lit 1))])
def ct_216 : aCt := (mX1_firstBest, [ag_585, ag_190, ag_150, ag_608], ([], []), [pon_609, pon_52], [], [], (nat_lit 1))
set_option maxRecDepth 100000 in
theorem S_216 : aSpec wd ct_216 := bChk_ok wx_ok btX1_firstBest (nds := [((nat_lit 3), [lcn_587, lcn_541, lcn_610, lcn_565, lcn_450], [], [], [], (5, [(2, -1)]))]) (fk := []) (rk := (6, [])) (sp := 8) (fuel := 3000) (by decide +kernel) (lk_d S_215 ml_1_34 lk_n) odX1_firstBest
def ct_217 : aCt := (mX1_choose, [ag_585, ag_593, ag_150], ([], []), [pon_49], mdn_594, [], (nat_lit 2))
set_option maxRecDepth 100000 in
theorem S_217 : aSpec wd ct_217 := bChk_ok wx_ok btX1_choose (nds := [((nat_lit 15), [lcn_587, lcn_595, lcn_610, lcn_565, lcn_596], [], [], [], (8, [(2, -1)]))]) (fk := []) (rk := (9, [])) (sp := 32768) (fuel := 3000) (by decide +kernel) (lk_d S_216 ml_1_49 lk_n) odX1_choose
def lcn_611 : Nat × aAg := ((nat_lit 4), .inl [((.ofNat (nat_lit 0)), (.ofNat (nat_lit 32)), (nat_lit 1))])
def lcn_612 : Nat × aAg := ((nat_lit 4), .inl [((.ofNat (nat_lit 0)), (.ofNat (nat_lit 31)), (nat_lit 1))])
def lcn_613 : Nat × aAg := ((nat_lit 6), .inl [((.ofNat (nat_lit 0)), (.ofNat (nat_lit 5)), (nat_lit 1))])
def ct_218 : aCt := (mX1_solve, [ag_585, ag_593, ag_150], ([], []), [pon_49], mdn_597, [], (nat_lit 3))
set_option maxRecDepth 100000 in
theorem S_218 : aSpec wd ct_218 := bChk_ok wx_ok btX1_solve (nds := [((nat_lit 12), [lcn_587, lcn_595, lcn_610, lcn_598], [], [], [], (463, [(1, 232)])), ((nat_lit 19), [lcn_587, lcn_595, lcn_610, lcn_441, lcn_611], [], [], [], (462, [(1, 232), (2, -7)])), ((nat_lit 46), [lcn_587, lcn_595, lcn_610, lcn_441, lcn_612, lcn_546, lcn_613], [], [], [], (461, [(1, 232), (2, -7), (4, -1)]))]) (fk := []) (rk := (2088, [])) (sp := 70368744706048) (fuel := 3000) (by decide +kernel) (lk_d S_193 ml_1_28 (lk_d S_217 ml_1_44 (lk_d S_215 ml_1_34 lk_n))) odX1_solve
def mdn_614 : List (Nat × Nat × Nat) := [((nat_lit 92), (nat_lit 2), (nat_lit 4)), ((nat_lit 94), (nat_lit 4), (nat_lit 7)), ((nat_lit 95), (nat_lit 0), (nat_lit 7)), ((nat_lit 100), (nat_lit 2), (nat_lit 4)), ((nat_lit 101), (nat_lit 0), (nat_lit 40)), ((nat_lit 102), (nat_lit 0), (nat_lit 8)), ((nat_lit 103), (nat_lit 0), (nat_lit 288))]
def lcn_615 : Nat × aAg := ((nat_lit 2), .inl [((.ofNat (nat_lit 0)), (.ofNat (nat_lit 3)), (nat_lit 1))])
def lcn_616 : Nat × aAg := ((nat_lit 2), .inl [((.ofNat (nat_lit 0)), (.ofNat (nat_lit 2)), (nat_lit 1))])
def lcn_617 : Nat × aAg := ((nat_lit 2), .inl [((.ofNat (nat_lit 0)), (.ofNat (nat_lit 1)), (nat_lit 1))])
def lcn_618 : Nat × aAg := ((nat_lit 1), .inl [((.ofNat (nat_lit 1)), (.ofNat (nat_lit 7)), (nat_lit 1))])
def sl_619 : (Nat × Nat) × aI := (((nat_lit 2), (nat_lit 7)), [((.ofNat (nat_lit 2)), (.ofNat (nat_lit 8)), (nat_lit 1))])
set_option maxRecDepth 100000 in
theorem btX11_solveMatch : bTab oX11_solveMatch tX11_solveMatch := ⟨ofX11_solveMatch, by decide +kernel⟩
def ct_219 : aCt := (mX11_solveMatch, [ag_0], ([sl_344], [((0, 3), 2), ((92, 0), 2), ((94, 0), 2)]), [pon_49], mdn_614, [], (nat_lit 5))
set_option maxRecDepth 100000 in
theorem S_219 : aSpec wd ct_219 := bChk_ok wx_ok btX11_solveMatch (nds := [((nat_lit 2), [lcn_410, lcn_175], [], [sl_344], [((0, 3), 2), ((92, 0), 2), ((94, 0), 2)], (63, [])), ((nat_lit 15), [lcn_410, lcn_175, lcn_592], [], [sl_344, sl_341], [((0, 3), 2), ((92, 0), 2), ((94, 0), 2)], (62, [])), ((nat_lit 15), [lcn_410, lcn_541, lcn_296], [], [sl_344, sl_327, sl_341], [((0, 3), 2), ((92, 0), 2), ((94, 0), 2)], (61, [(0, -7), (1, -1)])), ((nat_lit 15), [lcn_410, lcn_541, lcn_571], [], [sl_344, sl_325, sl_341], [((0, 3), 2), ((92, 0), 2), ((94, 0), 2)], (52, [(0, -6), (1, -1)])), ((nat_lit 15), [lcn_410, lcn_541, lcn_615], [], [sl_344, sl_323, sl_341], [((0, 3), 2), ((92, 0), 2), ((94, 0), 2)], (43, [(0, -5), (1, -1)])), ((nat_lit 15), [lcn_410, lcn_541, lcn_616], [], [sl_344, sl_321, sl_341], [((0, 3), 2), ((92, 0), 2), ((94, 0), 2)], (34, [(0, -4), (1, -1)])), ((nat_lit 15), [lcn_410, lcn_541, lcn_617], [], [sl_344, sl_319, sl_341], [((0, 3), 2), ((92, 0), 2), ((94, 0), 2)], (25, [(0, -3), (1, -1)])), ((nat_lit 2), [lcn_410, lcn_595, lcn_592], [], [sl_344, sl_317, sl_341], [((0, 3), 2), ((92, 0), 2), ((94, 0), 2)], (17, [(0, -2)])), ((nat_lit 2), [lcn_410, lcn_595, lcn_447], [], [sl_344, sl_319, sl_341], [((0, 3), 2), ((92, 0), 2), ((94, 0), 2)], (26, [(0, -3)])), ((nat_lit 15), [lcn_410, lcn_618, lcn_592], [], [sl_344, sl_317, sl_619], [((0, 3), 2), ((92, 0), 2), ((94, 0), 2)], (16, [(0, -2)])), ((nat_lit 2), [lcn_410, lcn_595, lcn_600], [], [sl_344, sl_321, sl_341], [((0, 3), 2), ((92, 0), 2), ((94, 0), 2)], (35, [(0, -4)])), ((nat_lit 2), [lcn_410, lcn_595, lcn_176], [], [sl_344, sl_323, sl_341], [((0, 3), 2), ((92, 0), 2), ((94, 0), 2)], (44, [(0, -5)])), ((nat_lit 2), [lcn_410, lcn_595, lcn_168], [], [sl_344, sl_325, sl_341], [((0, 3), 2), ((92, 0), 2), ((94, 0), 2)], (53, [(0, -6)])), ((nat_lit 2), [lcn_410, lcn_595, lcn_610], [], [sl_344, sl_327, sl_341], [((0, 3), 2), ((92, 0), 2), ((94, 0), 2)], (62, [(0, -7)]))]) (fk := [23]) (rk := (64, [])) (sp := 32772) (fuel := 3000) (by decide +kernel) (lk_d S_195 ml_11_404 (lk_d S_180 ml_11_283 (lk_d S_198 ml_11_404 (lk_d S_202 ml_11_404 (lk_d S_206 ml_11_404 (lk_d S_210 ml_11_404 (lk_d S_214 ml_11_404 (lk_d S_218 ml_11_404 (lk_d S_179 ml_11_283 (lk_d S_178 ml_11_283 (lk_d S_177 ml_11_283 (lk_d S_176 ml_11_283 lk_n)))))))))))) odX11_solveMatch
def mdn_620 : List (Nat × Nat × Nat) := [((nat_lit 0), (nat_lit 2), (nat_lit 3)), ((nat_lit 92), (nat_lit 2), (nat_lit 4)), ((nat_lit 94), (nat_lit 4), (nat_lit 7)), ((nat_lit 95), (nat_lit 0), (nat_lit 7)), ((nat_lit 100), (nat_lit 2), (nat_lit 4)), ((nat_lit 101), (nat_lit 0), (nat_lit 40)), ((nat_lit 102), (nat_lit 0), (nat_lit 8)), ((nat_lit 103), (nat_lit 0), (nat_lit 288))]
set_option maxRecDepth 100000 in
theorem btX11_match : bTab oX11_match tX11_match := ⟨ofX11_match, by decide +kernel⟩
def ct_220 : aCt := (mX11_match, [ag_0], ([], [((0, 3), 2), ((92, 0), 2), ((94, 0), 2)]), [pon_409, pon_415], mdn_620, [], (nat_lit 6))
set_option maxRecDepth 100000 in
theorem S_220 : aSpec wd ct_220 := bChk_ok wx_ok btX11_match (nds := []) (fk := []) (rk := (1, [])) (sp := 0) (fuel := 3000) (by decide +kernel) (lk_d S_219 ml_11_298 (lk_d S_99 ml_11_222 (lk_d S_71 ml_11_98 (lk_d S_65 ml_11_112 lk_n)))) odX11_match
set_option maxRecDepth 100000 in
theorem btX11_matchDays : bTab oX11_matchDays tX11_matchDays := ⟨ofX11_matchDays, by decide +kernel⟩
def ct_221 : aCt := (mX11_matchDays, [ag_0], ([], [((0, 3), 2), ((92, 0), 2), ((94, 0), 2)]), [pon_409, pon_415], mdn_620, [], (nat_lit 6))
set_option maxRecDepth 100000 in
theorem S_221 : aSpec wd ct_221 := bChk_ok wx_ok btX11_matchDays (nds := []) (fk := []) (rk := (1, [])) (sp := 0) (fuel := 3000) (by decide +kernel) (lk_d S_219 ml_11_298 (lk_d S_99 ml_11_222 (lk_d S_71 ml_11_98 (lk_d S_65 ml_11_112 lk_n)))) odX11_matchDays
def ct_222 : aCt := (mX11_solveMatch, [ag_0], ([sl_341], [((0, 3), 2), ((92, 0), 2), ((94, 0), 2)]), [pon_49], mdn_614, [], (nat_lit 5))
set_option maxRecDepth 100000 in
theorem S_222 : aSpec wd ct_222 := bChk_ok wx_ok btX11_solveMatch (nds := [((nat_lit 2), [lcn_410, lcn_175], [], [sl_341], [((0, 3), 2), ((92, 0), 2), ((94, 0), 2)], (63, [])), ((nat_lit 15), [lcn_410, lcn_175, lcn_592], [], [sl_341], [((0, 3), 2), ((92, 0), 2), ((94, 0), 2)], (62, [])), ((nat_lit 15), [lcn_410, lcn_541, lcn_296], [], [sl_327, sl_341], [((0, 3), 2), ((92, 0), 2), ((94, 0), 2)], (61, [(0, -7), (1, -1)])), ((nat_lit 15), [lcn_410, lcn_541, lcn_571], [], [sl_325, sl_341], [((0, 3), 2), ((92, 0), 2), ((94, 0), 2)], (52, [(0, -6), (1, -1)])), ((nat_lit 15), [lcn_410, lcn_541, lcn_615], [], [sl_323, sl_341], [((0, 3), 2), ((92, 0), 2), ((94, 0), 2)], (43, [(0, -5), (1, -1)])), ((nat_lit 15), [lcn_410, lcn_541, lcn_616], [], [sl_321, sl_341], [((0, 3), 2), ((92, 0), 2), ((94, 0), 2)], (34, [(0, -4), (1, -1)])), ((nat_lit 15), [lcn_410, lcn_541, lcn_617], [], [sl_319, sl_341], [((0, 3), 2), ((92, 0), 2), ((94, 0), 2)], (25, [(0, -3), (1, -1)])), ((nat_lit 2), [lcn_410, lcn_595, lcn_592], [], [sl_317, sl_341], [((0, 3), 2), ((92, 0), 2), ((94, 0), 2)], (17, [(0, -2)])), ((nat_lit 2), [lcn_410, lcn_595, lcn_447], [], [sl_319, sl_341], [((0, 3), 2), ((92, 0), 2), ((94, 0), 2)], (26, [(0, -3)])), ((nat_lit 15), [lcn_410, lcn_618, lcn_592], [], [sl_317, sl_619], [((0, 3), 2), ((92, 0), 2), ((94, 0), 2)], (16, [(0, -2)])), ((nat_lit 2), [lcn_410, lcn_595, lcn_600], [], [sl_321, sl_341], [((0, 3), 2), ((92, 0), 2), ((94, 0), 2)], (35, [(0, -4)])), ((nat_lit 2), [lcn_410, lcn_595, lcn_176], [], [sl_323, sl_341], [((0, 3), 2), ((92, 0), 2), ((94, 0), 2)], (44, [(0, -5)])), ((nat_lit 2), [lcn_410, lcn_595, lcn_168], [], [sl_325, sl_341], [((0, 3), 2), ((92, 0), 2), ((94, 0), 2)], (53, [(0, -6)])), ((nat_lit 2), [lcn_410, lcn_595, lcn_610], [], [sl_327, sl_341], [((0, 3), 2), ((92, 0), 2), ((94, 0), 2)], (62, [(0, -7)]))]) (fk := [23]) (rk := (64, [])) (sp := 32772) (fuel := 3000) (by decide +kernel) (lk_d S_180 ml_11_283 (lk_d S_198 ml_11_404 (lk_d S_202 ml_11_404 (lk_d S_206 ml_11_404 (lk_d S_210 ml_11_404 (lk_d S_214 ml_11_404 (lk_d S_218 ml_11_404 (lk_d S_179 ml_11_283 (lk_d S_178 ml_11_283 (lk_d S_177 ml_11_283 (lk_d S_176 ml_11_283 lk_n))))))))))) odX11_solveMatch
set_option maxRecDepth 100000 in
theorem btX11_matchOf : bTab oX11_matchOf tX11_matchOf := ⟨ofX11_matchOf, by decide +kernel⟩
def ct_223 : aCt := (mX11_matchOf, [ag_0, ag_1], ([], [((0, 3), 2), ((92, 0), 2), ((94, 0), 2)]), [pon_374, pon_336], mdn_620, [], (nat_lit 6))
set_option maxRecDepth 100000 in
theorem S_223 : aSpec wd ct_223 := bChk_ok wx_ok btX11_matchOf (nds := []) (fk := []) (rk := (1, [])) (sp := 0) (fuel := 3000) (by decide +kernel) (lk_d S_222 ml_11_298 (lk_d S_71 ml_11_98 (lk_d S_73 ml_11_147 (lk_d S_65 ml_11_112 lk_n)))) odX11_matchOf
def pon_621 : aPo := (some (.inl [((.ofNat (nat_lit 1)), (.ofNat (nat_lit 1)), (nat_lit 1))]), [none, some [((.ofNat (nat_lit 0)), (.ofNat (nat_lit 7)), (nat_lit 1))]], [], [])
def ct_224 : aCt := (mX11_isBox, [ag_0, ag_1], ([sl_341], [((0, 3), 2)]), [pon_376, pon_621], [], [], (nat_lit 0))
set_option maxRecDepth 100000 in
theorem S_224 : aSpec wd ct_224 := bChk_ok wx_ok btX11_isBox (nds := []) (fk := []) (rk := (1, [])) (sp := 0) (fuel := 3000) (by decide +kernel) lk_n odX11_isBox
def pon_622 : aPo := (some (.inl [((.ofNat (nat_lit 0)), (.ofNat (nat_lit 0)), (nat_lit 1))]), [none, some [((.negSucc (nat_lit 2147483647)), (.negSucc (nat_lit 0)), (nat_lit 1)), ((.ofNat (nat_lit 5)), (.ofNat (nat_lit 2147483647)), (nat_lit 1))]], [], [])
def pon_623 : aPo := (some (.inl [((.ofNat (nat_lit 1)), (.ofNat (nat_lit 1)), (nat_lit 1))]), [none, some [((.ofNat (nat_lit 0)), (.ofNat (nat_lit 4)), (nat_lit 1))]], [], [])
def ct_225 : aCt := (mX11_isWhale, [ag_0, ag_1], ([sl_327], [((0, 3), 2)]), [pon_622, pon_623], [], [], (nat_lit 0))
set_option maxRecDepth 100000 in
theorem S_225 : aSpec wd ct_225 := bChk_ok wx_ok btX11_isWhale (nds := []) (fk := [12]) (rk := (1, [])) (sp := 0) (fuel := 3000) (by decide +kernel) lk_n odX11_isWhale
def pon_624 : aPo := (some (.inl [((.negSucc (nat_lit 2147483647)), (.ofNat (nat_lit 2147483646)), (nat_lit 1))]), [], [sl_533], [])
set_option maxRecDepth 100000 in
theorem btX6_dayOfMeeting : bTab oX6_dayOfMeeting tX6_dayOfMeeting := ⟨ofX6_dayOfMeeting, by decide +kernel⟩
def ct_226 : aCt := (mX6_dayOfMeeting, [ag_397, ag_190, ag_265, ag_190, ag_265], ([sl_327], [((92, 0), 2), ((94, 0), 2)]), [pon_624, pon_52], mdn_535, [], (nat_lit 5))
set_option maxRecDepth 100000 in
theorem S_226 : aSpec wd ct_226 := bChk_ok wx_ok btX6_dayOfMeeting (nds := []) (fk := []) (rk := (1, [])) (sp := 0) (fuel := 3000) (by decide +kernel) (lk_d S_176 ml_6_155 lk_n) odX6_dayOfMeeting
def pon_625 : aPo := (some (.inl [((.ofNat (nat_lit 0)), (.ofNat (nat_lit 0)), (nat_lit 1))]), [none, some [((.negSucc (nat_lit 2147483647)), (.negSucc (nat_lit 0)), (nat_lit 1)), ((.ofNat (nat_lit 4)), (.ofNat (nat_lit 2147483647)), (nat_lit 1))]], [], [])
def pon_626 : aPo := (some (.inl [((.ofNat (nat_lit 1)), (.ofNat (nat_lit 1)), (nat_lit 1))]), [none, some [((.ofNat (nat_lit 0)), (.ofNat (nat_lit 3)), (nat_lit 1))]], [], [])
def ct_227 : aCt := (mX11_isWhale, [ag_0, ag_1], ([sl_325], [((0, 3), 2)]), [pon_625, pon_626], [], [], (nat_lit 0))
set_option maxRecDepth 100000 in
theorem S_227 : aSpec wd ct_227 := bChk_ok wx_ok btX11_isWhale (nds := []) (fk := [12]) (rk := (1, [])) (sp := 0) (fuel := 3000) (by decide +kernel) lk_n odX11_isWhale
def ct_228 : aCt := (mX6_dayOfMeeting, [ag_397, ag_190, ag_364, ag_190, ag_364], ([sl_325], [((92, 0), 2), ((94, 0), 2)]), [pon_624, pon_52], mdn_535, [], (nat_lit 5))
set_option maxRecDepth 100000 in
theorem S_228 : aSpec wd ct_228 := bChk_ok wx_ok btX6_dayOfMeeting (nds := []) (fk := []) (rk := (1, [])) (sp := 0) (fuel := 3000) (by decide +kernel) (lk_d S_177 ml_6_155 lk_n) odX6_dayOfMeeting
def pon_627 : aPo := (some (.inl [((.ofNat (nat_lit 0)), (.ofNat (nat_lit 0)), (nat_lit 1))]), [none, some [((.negSucc (nat_lit 2147483647)), (.negSucc (nat_lit 0)), (nat_lit 1)), ((.ofNat (nat_lit 3)), (.ofNat (nat_lit 2147483647)), (nat_lit 1))]], [], [])
def pon_628 : aPo := (some (.inl [((.ofNat (nat_lit 1)), (.ofNat (nat_lit 1)), (nat_lit 1))]), [none, some [((.ofNat (nat_lit 0)), (.ofNat (nat_lit 2)), (nat_lit 1))]], [], [])
def ct_229 : aCt := (mX11_isWhale, [ag_0, ag_1], ([sl_323], [((0, 3), 2)]), [pon_627, pon_628], [], [], (nat_lit 0))
set_option maxRecDepth 100000 in
theorem S_229 : aSpec wd ct_229 := bChk_ok wx_ok btX11_isWhale (nds := []) (fk := [12]) (rk := (1, [])) (sp := 0) (fuel := 3000) (by decide +kernel) lk_n odX11_isWhale
def ct_230 : aCt := (mX6_dayOfMeeting, [ag_397, ag_190, ag_405, ag_190, ag_405], ([sl_323], [((92, 0), 2), ((94, 0), 2)]), [pon_624, pon_52], mdn_535, [], (nat_lit 5))
set_option maxRecDepth 100000 in
theorem S_230 : aSpec wd ct_230 := bChk_ok wx_ok btX6_dayOfMeeting (nds := []) (fk := []) (rk := (1, [])) (sp := 0) (fuel := 3000) (by decide +kernel) (lk_d S_178 ml_6_155 lk_n) odX6_dayOfMeeting
def pon_629 : aPo := (some (.inl [((.ofNat (nat_lit 0)), (.ofNat (nat_lit 0)), (nat_lit 1))]), [none, some [((.negSucc (nat_lit 2147483647)), (.negSucc (nat_lit 0)), (nat_lit 1)), ((.ofNat (nat_lit 2)), (.ofNat (nat_lit 2147483647)), (nat_lit 1))]], [], [])
def pon_630 : aPo := (some (.inl [((.ofNat (nat_lit 1)), (.ofNat (nat_lit 1)), (nat_lit 1))]), [none, some [((.ofNat (nat_lit 0)), (.ofNat (nat_lit 1)), (nat_lit 1))]], [], [])
def ct_231 : aCt := (mX11_isWhale, [ag_0, ag_1], ([sl_321], [((0, 3), 2)]), [pon_629, pon_630], [], [], (nat_lit 0))
set_option maxRecDepth 100000 in
theorem S_231 : aSpec wd ct_231 := bChk_ok wx_ok btX11_isWhale (nds := []) (fk := [12]) (rk := (1, [])) (sp := 0) (fuel := 3000) (by decide +kernel) lk_n odX11_isWhale
def ct_232 : aCt := (mX6_dayOfMeeting, [ag_397, ag_190, ag_536, ag_190, ag_536], ([sl_321], [((92, 0), 2), ((94, 0), 2)]), [pon_624, pon_52], mdn_535, [], (nat_lit 5))
set_option maxRecDepth 100000 in
theorem S_232 : aSpec wd ct_232 := bChk_ok wx_ok btX6_dayOfMeeting (nds := []) (fk := []) (rk := (1, [])) (sp := 0) (fuel := 3000) (by decide +kernel) (lk_d S_179 ml_6_155 lk_n) odX6_dayOfMeeting
def pon_631 : aPo := (some (.inl [((.ofNat (nat_lit 1)), (.ofNat (nat_lit 1)), (nat_lit 1))]), [none, some [((.ofNat (nat_lit 0)), (.ofNat (nat_lit 0)), (nat_lit 1))]], [], [])
def ct_233 : aCt := (mX11_isWhale, [ag_0, ag_1], ([sl_319], [((0, 3), 2)]), [pon_376, pon_631], [], [], (nat_lit 0))
set_option maxRecDepth 100000 in
theorem S_233 : aSpec wd ct_233 := bChk_ok wx_ok btX11_isWhale (nds := []) (fk := [12]) (rk := (1, [])) (sp := 0) (fuel := 3000) (by decide +kernel) lk_n odX11_isWhale
def sl_632 : (Nat × Nat) × aI := (((nat_lit 2), (nat_lit 6)), [((.ofNat (nat_lit 2)), (.ofNat (nat_lit 5)), (nat_lit 1))])
def pon_633 : aPo := (some (.inl aTop), [none, some [((.ofNat (nat_lit 0)), (.ofNat (nat_lit 7)), (nat_lit 1))], some [((.ofNat (nat_lit 0)), (.ofNat (nat_lit 4)), (nat_lit 1))], some [((.ofNat (nat_lit 0)), (.ofNat (nat_lit 7)), (nat_lit 1))], some [((.ofNat (nat_lit 0)), (.ofNat (nat_lit 4)), (nat_lit 1))]], [sl_304, sl_632, sl_341], [])
set_option maxRecDepth 100000 in
theorem btX11_meet : bTab oX11_meet tX11_meet := ⟨ofX11_meet, by decide +kernel⟩
def ct_234 : aCt := (mX11_meet, [ag_0, ag_1, ag_1, ag_1, ag_1], ([], [((0, 3), 2), ((92, 0), 2), ((94, 0), 2)]), [pon_633, pon_336], mdn_538, [], (nat_lit 6))
set_option maxRecDepth 100000 in
theorem S_234 : aSpec wd ct_234 := bChk_ok wx_ok btX11_meet (nds := []) (fk := []) (rk := (1, [])) (sp := 0) (fuel := 3000) (by decide +kernel) (lk_d S_71 ml_11_98 (lk_d S_232 ml_11_310 (lk_d S_230 ml_11_310 (lk_d S_228 ml_11_310 (lk_d S_226 ml_11_310 (lk_d S_225 ml_11_121 (lk_d S_227 ml_11_121 (lk_d S_229 ml_11_121 (lk_d S_231 ml_11_121 (lk_d S_233 ml_11_121 (lk_d S_224 ml_11_147 (lk_d S_73 ml_11_147 (lk_d S_70 ml_11_121 (lk_d S_65 ml_11_112 lk_n)))))))))))))) odX11_meet
def ag_634 : aAg := .inl [((.negSucc (nat_lit 1)), (.negSucc (nat_lit 1)), (nat_lit 1)), ((.ofNat (nat_lit 1)), (.ofNat (nat_lit 1)), (nat_lit 1)), ((.ofNat (nat_lit 3)), (.ofNat (nat_lit 3)), (nat_lit 1))]
def lcn_635 : Nat × aAg := ((nat_lit 1), .inl [((.negSucc (nat_lit 1)), (.negSucc (nat_lit 1)), (nat_lit 1)), ((.ofNat (nat_lit 1)), (.ofNat (nat_lit 1)), (nat_lit 1))])
def ct_235 : aCt := (mX6_dayOfLeaving, [ag_397, ag_634, ag_1, ag_1], ([], []), [pon_130], [], [], (nat_lit 0))
set_option maxRecDepth 100000 in
theorem S_235 : aSpec wd ct_235 := bChk_ok wx_ok btX6_dayOfLeaving (nds := [((nat_lit 16), [lcn_399, lcn_635, lcn_132, lcn_520, lcn_354, lcn_402], [], [], [], (4, [(4, -1)]))]) (fk := []) (rk := (5, [])) (sp := 65536) (fuel := 3000) (by decide +kernel) lk_n odX6_dayOfLeaving
def ag_636 : aAg := .inl [((.negSucc (nat_lit 1)), (.negSucc (nat_lit 1)), (nat_lit 1)), ((.ofNat (nat_lit 1)), (.ofNat (nat_lit 3)), (nat_lit 1))]
def pon_637 : aPo := (some (.inl [((.ofNat (nat_lit 1)), (.ofNat (nat_lit 1)), (nat_lit 1))]), [none, some [((.negSucc (nat_lit 1)), (.negSucc (nat_lit 1)), (nat_lit 1)), ((.ofNat (nat_lit 1)), (.ofNat (nat_lit 3)), (nat_lit 1))], none, none, none], [], [])
def ct_236 : aCt := (mX6_goes, [ag_397, ag_636, ag_521, ag_125, ag_125], ([], []), [pon_37, pon_637], mdn_517, [], (nat_lit 1))
set_option maxRecDepth 100000 in
theorem S_236 : aSpec wd ct_236 := bChk_ok wx_ok btX6_goes (nds := []) (fk := []) (rk := (1, [])) (sp := 0) (fuel := 3000) (by decide +kernel) (lk_d S_168 ml_6_80 (lk_d S_235 ml_6_80 lk_n)) odX6_goes
def ag_638 : aAg := .inl [((.negSucc (nat_lit 1)), (.negSucc (nat_lit 1)), (nat_lit 1)), ((.ofNat (nat_lit 0)), (.ofNat (nat_lit 3)), (nat_lit 1))]
def lcn_639 : Nat × aAg := ((nat_lit 1), .inl [((.negSucc (nat_lit 1)), (.negSucc (nat_lit 1)), (nat_lit 1)), ((.ofNat (nat_lit 0)), (.ofNat (nat_lit 3)), (nat_lit 1))])
def ct_237 : aCt := (mX6_findFirstDays, [ag_397, ag_638, ag_125, ag_1], ([sl_344], [((94, 0), 2)]), [pon_49], mdn_517, [], (nat_lit 2))
set_option maxRecDepth 100000 in
theorem S_237 : aSpec wd ct_237 := bChk_ok wx_ok btX6_findFirstDays (nds := [((nat_lit 39), [lcn_399, lcn_639, lcn_251, lcn_520, lcn_526, lcn_527, lcn_372], [], [sl_344], [((94, 0), 2)], (111, [(5, -14)])), ((nat_lit 57), [lcn_399, lcn_639, lcn_251, lcn_520, lcn_526, lcn_527, lcn_528, lcn_529], [], [sl_344], [((94, 0), 2)], (110, [(5, -14), (6, -1)]))]) (fk := []) (rk := (112, [])) (sp := 144115737831669760) (fuel := 3000) (by decide +kernel) (lk_d S_165 ml_6_38 (lk_d S_97 ml_6_64 (lk_d S_167 ml_6_70 (lk_d S_236 ml_6_70 lk_n)))) odX6_findFirstDays
def sl_640 : (Nat × Nat) × aI := (((nat_lit 2), (nat_lit 8)), [((.ofNat (nat_lit 1)), (.ofNat (nat_lit 8)), (nat_lit 1))])
def pon_641 : aPo := (some (.inl [((.ofNat (nat_lit 0)), (.ofNat (nat_lit 0)), (nat_lit 1))]), [], [sl_640], [])
set_option maxRecDepth 100000 in
theorem btX6_isFitting : bTab oX6_isFitting tX6_isFitting := ⟨ofX6_isFitting, by decide +kernel⟩
def ct_238 : aCt := (mX6_isFitting, [ag_397, ag_265], ([sl_344, sl_337], [((94, 0), 2)]), [pon_641, pon_38], mdn_517, [], (nat_lit 3))
set_option maxRecDepth 100000 in
theorem S_238 : aSpec wd ct_238 := bChk_ok wx_ok btX6_isFitting (nds := [((nat_lit 18), [lcn_399, lcn_268, lcn_251, lcn_520, lcn_596], [], [sl_344, sl_337], [((94, 0), 2)], (8, [(3, -1)]))]) (fk := []) (rk := (9, [])) (sp := 262144) (fuel := 3000) (by decide +kernel) (lk_d S_237 ml_6_84 lk_n) odX6_isFitting
def pon_642 : aPo := (some (.inl [((.ofNat (nat_lit 0)), (.ofNat (nat_lit 31)), (nat_lit 1))]), [], [], [])
def lcn_643 : Nat × aAg := ((nat_lit 1), .inl [((.ofNat (nat_lit 0)), (.ofNat (nat_lit 31)), (nat_lit 1))])
set_option maxRecDepth 100000 in
theorem btX6_fittingWhales : bTab oX6_fittingWhales tX6_fittingWhales := ⟨ofX6_fittingWhales, by decide +kernel⟩
def ct_239 : aCt := (mX6_fittingWhales, [ag_397], ([sl_344], [((94, 0), 2)]), [pon_642], mdn_517, [], (nat_lit 4))
set_option maxRecDepth 100000 in
theorem S_239 : aSpec wd ct_239 := bChk_ok wx_ok btX6_fittingWhales (nds := [((nat_lit 4), [lcn_399, lcn_643, lcn_296], [], [sl_344], [((94, 0), 2)], (5, [(1, -1)]))]) (fk := []) (rk := (6, [])) (sp := 16) (fuel := 3000) (by decide +kernel) (lk_d S_238 ml_6_164 lk_n) odX6_fittingWhales
set_option maxRecDepth 100000 in
theorem btX11_fits : bTab oX11_fits tX11_fits := ⟨ofX11_fits, by decide +kernel⟩
def ct_240 : aCt := (mX11_fits, [ag_0], ([], [((0, 3), 2), ((94, 0), 2)]), [pon_409, pon_415], mdn_532, [], (nat_lit 5))
set_option maxRecDepth 100000 in
theorem S_240 : aSpec wd ct_240 := bChk_ok wx_ok btX11_fits (nds := []) (fk := []) (rk := (1, [])) (sp := 0) (fuel := 3000) (by decide +kernel) (lk_d S_239 ml_11_313 (lk_d S_99 ml_11_222 (lk_d S_71 ml_11_98 (lk_d S_65 ml_11_112 lk_n)))) odX11_fits
def lcn_644 : Nat × aAg := ((nat_lit 2), .inl [((.negSucc (nat_lit 0)), (.ofNat (nat_lit 7)), (nat_lit 1))])
def ct_241 : aCt := (mX4_lastSpoutOf, [ag_360, ag_265], ([], []), [pon_420, pon_52], [], [], (nat_lit 0))
set_option maxRecDepth 100000 in
theorem S_241 : aSpec wd ct_241 := bChk_ok wx_ok btX4_lastSpoutOf (nds := [((nat_lit 7), [lcn_381, lcn_268, lcn_644], [], [], [], (1, [(1, 1)]))]) (fk := []) (rk := (9, [])) (sp := 128) (fuel := 3000) (by decide +kernel) lk_n odX4_lastSpoutOf
def ct_242 : aCt := (mX6_findFirstDays, [ag_397, ag_364, ag_125, ag_170], ([], [((94, 0), 2)]), [pon_49], mdn_517, [], (nat_lit 2))
set_option maxRecDepth 100000 in
theorem S_242 : aSpec wd ct_242 := bChk_ok wx_ok btX6_findFirstDays (nds := [((nat_lit 39), [lcn_399, lcn_525, lcn_251, lcn_101, lcn_448, lcn_527, lcn_372], [], [], [((94, 0), 2)], (111, [(4, -14)])), ((nat_lit 57), [lcn_399, lcn_525, lcn_251, lcn_101, lcn_526, lcn_527, lcn_528, lcn_529], [], [], [((94, 0), 2)], (110, [(4, -14), (5, -1)]))]) (fk := []) (rk := (112, [])) (sp := 144115737831669760) (fuel := 3000) (by decide +kernel) (lk_d S_165 ml_6_38 (lk_d S_97 ml_6_64 (lk_d S_167 ml_6_70 (lk_d S_170 ml_6_70 lk_n)))) odX6_findFirstDays
def pon_645 : aPo := (some (.inl [((.ofNat (nat_lit 0)), (.ofNat (nat_lit 127)), (nat_lit 1))]), [], [], [])
def lcn_646 : Nat × aAg := ((nat_lit 3), .inl [((.negSucc (nat_lit 1)), (.negSucc (nat_lit 1)), (nat_lit 1)), ((.ofNat (nat_lit 0)), (.ofNat (nat_lit 7)), (nat_lit 1))])
def lcn_647 : Nat × aAg := ((nat_lit 5), .inl [((.ofNat (nat_lit 0)), (.ofNat (nat_lit 127)), (nat_lit 1))])
set_option maxRecDepth 100000 in
theorem btX6_islandsReached : bTab oX6_islandsReached tX6_islandsReached := ⟨ofX6_islandsReached, by decide +kernel⟩
def ct_243 : aCt := (mX6_islandsReached, [ag_397, ag_265, ag_561], ([sl_327], [((94, 0), 2)]), [pon_645], mdn_517, [], (nat_lit 3))
set_option maxRecDepth 100000 in
theorem S_243 : aSpec wd ct_243 := bChk_ok wx_ok btX6_islandsReached (nds := [((nat_lit 90), [lcn_399, lcn_268, lcn_564, lcn_646, lcn_449, lcn_647, lcn_372], [], [sl_327], [((94, 0), 2)], (7, [(5, -1)]))]) (fk := []) (rk := (8, [])) (sp := 1237940039285380274899124224) (fuel := 3000) (by decide +kernel) (lk_d S_241 ml_6_185 (lk_d S_242 ml_6_84 (lk_d S_174 ml_6_84 lk_n))) odX6_islandsReached
def ct_244 : aCt := (mX4_lastSpoutOf, [ag_360, ag_364], ([], []), [pon_420, pon_52], [], [], (nat_lit 0))
set_option maxRecDepth 100000 in
theorem S_244 : aSpec wd ct_244 := bChk_ok wx_ok btX4_lastSpoutOf (nds := [((nat_lit 7), [lcn_381, lcn_525, lcn_644], [], [], [], (1, [(1, 1)]))]) (fk := []) (rk := (9, [])) (sp := 128) (fuel := 3000) (by decide +kernel) lk_n odX4_lastSpoutOf
def ct_245 : aCt := (mX6_islandsReached, [ag_397, ag_364, ag_561], ([sl_325], [((94, 0), 2)]), [pon_645], mdn_517, [], (nat_lit 3))
set_option maxRecDepth 100000 in
theorem S_245 : aSpec wd ct_245 := bChk_ok wx_ok btX6_islandsReached (nds := [((nat_lit 90), [lcn_399, lcn_525, lcn_564, lcn_646, lcn_449, lcn_647, lcn_372], [], [sl_325], [((94, 0), 2)], (7, [(5, -1)]))]) (fk := []) (rk := (8, [])) (sp := 1237940039285380274899124224) (fuel := 3000) (by decide +kernel) (lk_d S_244 ml_6_185 (lk_d S_242 ml_6_84 (lk_d S_174 ml_6_84 lk_n))) odX6_islandsReached
def ct_246 : aCt := (mX4_lastSpoutOf, [ag_360, ag_405], ([], []), [pon_420, pon_52], [], [], (nat_lit 0))
set_option maxRecDepth 100000 in
theorem S_246 : aSpec wd ct_246 := bChk_ok wx_ok btX4_lastSpoutOf (nds := [((nat_lit 7), [lcn_381, lcn_400, lcn_644], [], [], [], (1, [(1, 1)]))]) (fk := []) (rk := (9, [])) (sp := 128) (fuel := 3000) (by decide +kernel) lk_n odX4_lastSpoutOf
def ct_247 : aCt := (mX6_islandsReached, [ag_397, ag_405, ag_561], ([sl_323], [((94, 0), 2)]), [pon_645], mdn_517, [], (nat_lit 3))
set_option maxRecDepth 100000 in
theorem S_247 : aSpec wd ct_247 := bChk_ok wx_ok btX6_islandsReached (nds := [((nat_lit 90), [lcn_399, lcn_400, lcn_564, lcn_646, lcn_449, lcn_647, lcn_372], [], [sl_323], [((94, 0), 2)], (7, [(5, -1)]))]) (fk := []) (rk := (8, [])) (sp := 1237940039285380274899124224) (fuel := 3000) (by decide +kernel) (lk_d S_246 ml_6_185 (lk_d S_242 ml_6_84 (lk_d S_174 ml_6_84 lk_n))) odX6_islandsReached
def lcn_648 : Nat × aAg := ((nat_lit 1), .inl [((.ofNat (nat_lit 0)), (.ofNat (nat_lit 1)), (nat_lit 1))])
def ct_248 : aCt := (mX4_lastSpoutOf, [ag_360, ag_536], ([], []), [pon_420, pon_52], [], [], (nat_lit 0))
set_option maxRecDepth 100000 in
theorem S_248 : aSpec wd ct_248 := bChk_ok wx_ok btX4_lastSpoutOf (nds := [((nat_lit 7), [lcn_381, lcn_648, lcn_644], [], [], [], (1, [(1, 1)]))]) (fk := []) (rk := (9, [])) (sp := 128) (fuel := 3000) (by decide +kernel) lk_n odX4_lastSpoutOf
def ct_249 : aCt := (mX6_islandsReached, [ag_397, ag_536, ag_561], ([sl_321], [((94, 0), 2)]), [pon_645], mdn_517, [], (nat_lit 3))
set_option maxRecDepth 100000 in
theorem S_249 : aSpec wd ct_249 := bChk_ok wx_ok btX6_islandsReached (nds := [((nat_lit 90), [lcn_399, lcn_648, lcn_564, lcn_646, lcn_449, lcn_647, lcn_372], [], [sl_321], [((94, 0), 2)], (7, [(5, -1)]))]) (fk := []) (rk := (8, [])) (sp := 1237940039285380274899124224) (fuel := 3000) (by decide +kernel) (lk_d S_248 ml_6_185 (lk_d S_242 ml_6_84 (lk_d S_174 ml_6_84 lk_n))) odX6_islandsReached
def ct_250 : aCt := (mX4_lastSpoutOf, [ag_360, ag_170], ([], []), [pon_420, pon_52], [], [], (nat_lit 0))
set_option maxRecDepth 100000 in
theorem S_250 : aSpec wd ct_250 := bChk_ok wx_ok btX4_lastSpoutOf (nds := [((nat_lit 7), [lcn_381, lcn_175, lcn_644], [], [], [], (1, [(0, 1)]))]) (fk := []) (rk := (9, [])) (sp := 128) (fuel := 3000) (by decide +kernel) lk_n odX4_lastSpoutOf
def sl_649 : (Nat × Nat) × aI := (((nat_lit 21), (nat_lit 0)), [((.ofNat (nat_lit 0)), (.ofNat (nat_lit 3)), (nat_lit 1))])
def ct_251 : aCt := (mX6_islandsReached, [ag_397, ag_170, ag_561], ([sl_319], [((94, 0), 2)]), [pon_645], mdn_517, [], (nat_lit 3))
set_option maxRecDepth 100000 in
theorem S_251 : aSpec wd ct_251 := bChk_ok wx_ok btX6_islandsReached (nds := [((nat_lit 90), [lcn_399, lcn_175, lcn_564, lcn_646, lcn_449, lcn_647, lcn_372], [], [sl_319, sl_649], [((94, 0), 2)], (7, [(4, -1)]))]) (fk := []) (rk := (8, [])) (sp := 1237940039285380274899124224) (fuel := 3000) (by decide +kernel) (lk_d S_250 ml_6_185 (lk_d S_242 ml_6_84 (lk_d S_174 ml_6_84 lk_n))) odX6_islandsReached
def pon_650 : aPo := (some (.inl aTop), [none, some [((.ofNat (nat_lit 0)), (.ofNat (nat_lit 4)), (nat_lit 1))], some [((.ofNat (nat_lit 0)), (.ofNat (nat_lit 99999)), (nat_lit 1))]], [sl_304, sl_337], [])
def pon_651 : aPo := (some (.inl [((.negSucc (nat_lit 0)), (.negSucc (nat_lit 0)), (nat_lit 1))]), [none, some aTop, none], [sl_392], [])
set_option maxRecDepth 100000 in
theorem btX11_reach : bTab oX11_reach tX11_reach := ⟨ofX11_reach, by decide +kernel⟩
def ct_252 : aCt := (mX11_reach, [ag_0, ag_1, ag_1], ([], [((0, 3), 2), ((94, 0), 2)]), [pon_650, pon_651], mdn_532, [], (nat_lit 4))
set_option maxRecDepth 100000 in
theorem S_252 : aSpec wd ct_252 := bChk_ok wx_ok btX11_reach (nds := []) (fk := []) (rk := (1, [])) (sp := 0) (fuel := 3000) (by decide +kernel) (lk_d S_6 ml_11_98 (lk_d S_71 ml_11_98 (lk_d S_251 ml_11_316 (lk_d S_249 ml_11_316 (lk_d S_247 ml_11_316 (lk_d S_245 ml_11_316 (lk_d S_243 ml_11_316 (lk_d S_70 ml_11_121 (lk_d S_100 ml_11_227 (lk_d S_65 ml_11_112 lk_n)))))))))) odX11_reach
def ct_253 : aCt := (mJ6_bitCount_0f7a4, [ag_608], ([], []), [pon_367], [], [], (nat_lit 0))
set_option maxRecDepth 100000 in
theorem S_253 : aSpec wd ct_253 := bChk_ok wx_ok btJ6_bitCount_0f7a4 (nds := []) (fk := []) (rk := (1, [])) (sp := 0) (fuel := 3000) (by decide +kernel) lk_n odJ6_bitCount_0f7a4
def ct_254 : aCt := (mX6_findFirstDays, [ag_397, ag_638, ag_125, ag_170], ([sl_344], [((94, 0), 2)]), [pon_49], mdn_517, [], (nat_lit 2))
set_option maxRecDepth 100000 in
theorem S_254 : aSpec wd ct_254 := bChk_ok wx_ok btX6_findFirstDays (nds := [((nat_lit 39), [lcn_399, lcn_639, lcn_251, lcn_101, lcn_526, lcn_527, lcn_372], [], [sl_344], [((94, 0), 2)], (111, [(4, -14)])), ((nat_lit 57), [lcn_399, lcn_639, lcn_251, lcn_101, lcn_526, lcn_527, lcn_528, lcn_529], [], [sl_344], [((94, 0), 2)], (110, [(4, -14), (5, -1)]))]) (fk := []) (rk := (112, [])) (sp := 144115737831669760) (fuel := 3000) (by decide +kernel) (lk_d S_165 ml_6_38 (lk_d S_97 ml_6_64 (lk_d S_167 ml_6_70 (lk_d S_236 ml_6_70 lk_n)))) odX6_findFirstDays
end Pk1
section Pk2
def ct_255 : aCt := (mX6_islandsReached, [ag_397, ag_265, ag_561], ([sl_344, sl_337], [((94, 0), 2)]), [pon_645], mdn_517, [], (nat_lit 3))
set_option maxRecDepth 100000 in
theorem S_255 : aSpec wd ct_255 := bChk_ok wx_ok btX6_islandsReached (nds := [((nat_lit 90), [lcn_399, lcn_268, lcn_564, lcn_646, lcn_449, lcn_647, lcn_372], [], [sl_344, sl_337], [((94, 0), 2)], (7, [(5, -1)]))]) (fk := []) (rk := (8, [])) (sp := 1237940039285380274899124224) (fuel := 3000) (by decide +kernel) (lk_d S_241 ml_6_185 (lk_d S_254 ml_6_84 (lk_d S_237 ml_6_84 lk_n))) odX6_islandsReached
set_option maxRecDepth 100000 in
theorem btX6_whalesReaching : bTab oX6_whalesReaching tX6_whalesReaching := ⟨ofX6_whalesReaching, by decide +kernel⟩
def ct_256 : aCt := (mX6_whalesReaching, [ag_397, ag_125, ag_561], ([sl_344], [((94, 0), 2)]), [pon_130], mdn_517, [], (nat_lit 4))
set_option maxRecDepth 100000 in
theorem S_256 : aSpec wd ct_256 := bChk_ok wx_ok btX6_whalesReaching (nds := [((nat_lit 5), [lcn_399, lcn_250, lcn_564, lcn_520, lcn_450], [], [sl_344], [((94, 0), 2)], (5, [(3, -1)]))]) (fk := []) (rk := (6, [])) (sp := 32) (fuel := 3000) (by decide +kernel) (lk_d S_255 ml_6_203 lk_n) odX6_whalesReaching
def lcn_652 : Nat × aAg := ((nat_lit 1), .inl [((.ofNat (nat_lit 0)), (.ofNat (nat_lit 99999)), (nat_lit 1))])
def lcn_653 : Nat × aAg := ((nat_lit 2), .inl [((.ofNat (nat_lit 0)), (.ofNat (nat_lit 63)), (nat_lit 1))])
def lcn_654 : Nat × aAg := ((nat_lit 3), .inl [((.negSucc (nat_lit 1)), (.negSucc (nat_lit 1)), (nat_lit 1)), ((.ofNat (nat_lit 0)), (.ofNat (nat_lit 6)), (nat_lit 1))])
def lcn_655 : Nat × aAg := ((nat_lit 5), .inl [((.ofNat (nat_lit 0)), (.ofNat (nat_lit 7)), (nat_lit 1))])
set_option maxRecDepth 100000 in
theorem btX6_bestPier : bTab oX6_bestPier tX6_bestPier := ⟨ofX6_bestPier, by decide +kernel⟩
def ct_257 : aCt := (mX6_bestPier, [ag_397, ag_561], ([sl_344], [((94, 0), 2)]), [pon_368], mdn_517, [], (nat_lit 5))
set_option maxRecDepth 100000 in
theorem S_257 : aSpec wd ct_257 := bChk_ok wx_ok btX6_bestPier (nds := [((nat_lit 17), [lcn_399, lcn_652, lcn_653, lcn_654, lcn_354, lcn_655], [], [sl_344], [((94, 0), 2)], (7, [(4, -1)]))]) (fk := []) (rk := (8, [])) (sp := 131072) (fuel := 3000) (by decide +kernel) (lk_d S_239 ml_6_188 (lk_d S_253 ml_6_192 (lk_d S_256 ml_6_197 lk_n))) odX6_bestPier
set_option maxRecDepth 100000 in
theorem btX11_pier : bTab oX11_pier tX11_pier := ⟨ofX11_pier, by decide +kernel⟩
def ct_258 : aCt := (mX11_pier, [ag_0, ag_1], ([], [((0, 3), 2), ((94, 0), 2)]), [pon_391, pon_393], mdn_532, [], (nat_lit 6))
set_option maxRecDepth 100000 in
theorem S_258 : aSpec wd ct_258 := bChk_ok wx_ok btX11_pier (nds := []) (fk := []) (rk := (1, [])) (sp := 0) (fuel := 3000) (by decide +kernel) (lk_d S_99 ml_11_222 (lk_d S_6 ml_11_98 (lk_d S_71 ml_11_98 (lk_d S_257 ml_11_319 (lk_d S_100 ml_11_227 (lk_d S_65 ml_11_112 lk_n)))))) odX11_pier
def ag_656 : aAg := .inr (.inl [(nat_lit 96)])
def ag_657 : aAg := .inl [((.ofNat (nat_lit 0)), (.ofNat (nat_lit 127)), (nat_lit 1))]
def pon_658 : aPo := (some (.inl [((.ofNat (nat_lit 0)), (.ofNat (nat_lit 4095)), (nat_lit 1))]), [], [], [])
def lcn_659 : Nat × aAg := ((nat_lit 0), .inr (.inl [(nat_lit 96)]))
def lcn_660 : Nat × aAg := ((nat_lit 1), .inl [((.ofNat (nat_lit 0)), (.ofNat (nat_lit 127)), (nat_lit 1))])
def lcn_661 : Nat × aAg := ((nat_lit 2), .inl [((.ofNat (nat_lit 0)), (.ofNat (nat_lit 4095)), (nat_lit 1))])
set_option maxRecDepth 100000 in
theorem btX3_waysOutOf : bTab oX3_waysOutOf tX3_waysOutOf := ⟨ofX3_waysOutOf, by decide +kernel⟩
def ct_259 : aCt := (mX3_waysOutOf, [ag_656, ag_657], ([], [((96, 0), 2)]), [pon_658], [], [], (nat_lit 0))
set_option maxRecDepth 100000 in
theorem S_259 : aSpec wd ct_259 := bChk_ok wx_ok btX3_waysOutOf (nds := [((nat_lit 4), [lcn_659, lcn_660, lcn_661, lcn_382], [], [], [((96, 0), 2)], (12, [(2, -1)]))]) (fk := []) (rk := (13, [])) (sp := 16) (fuel := 3000) (by decide +kernel) lk_n odX3_waysOutOf
def ag_662 : aAg := .inl [((.ofNat (nat_lit 0)), (.ofNat (nat_lit 4095)), (nat_lit 1))]
def ct_260 : aCt := (mJ6_bitCount_0f7a4, [ag_662], ([], []), [pon_367], [], [], (nat_lit 0))
set_option maxRecDepth 100000 in
theorem S_260 : aSpec wd ct_260 := bChk_ok wx_ok btJ6_bitCount_0f7a4 (nds := []) (fk := []) (rk := (1, [])) (sp := 0) (fuel := 3000) (by decide +kernel) lk_n odJ6_bitCount_0f7a4
def pon_663 : aPo := (some (.inl [((.negSucc (nat_lit 1)), (.negSucc (nat_lit 1)), (nat_lit 1)), ((.ofNat (nat_lit 0)), (.ofNat (nat_lit 4095)), (nat_lit 1))]), [], [], [])
def lcn_664 : Nat × aAg := ((nat_lit 4), .inl [((.negSucc (nat_lit 1)), (.negSucc (nat_lit 1)), (nat_lit 1)), ((.ofNat (nat_lit 0)), (.ofNat (nat_lit 4095)), (nat_lit 1))])
def lcn_665 : Nat × aAg := ((nat_lit 5), .inl [((.ofNat (nat_lit 0)), (.ofNat (nat_lit 13)), (nat_lit 1))])
def lcn_666 : Nat × aAg := ((nat_lit 6), .inl [((.ofNat (nat_lit 0)), (.ofNat (nat_lit 128)), (nat_lit 1))])
set_option maxRecDepth 100000 in
theorem btX3_fewestToWatch : bTab oX3_fewestToWatch tX3_fewestToWatch := ⟨ofX3_fewestToWatch, by decide +kernel⟩
def ct_261 : aCt := (mX3_fewestToWatch, [ag_656, ag_125, ag_125, ag_1], ([sl_344], [((96, 0), 2)]), [pon_663], [], [], (nat_lit 1))
set_option maxRecDepth 100000 in
theorem S_261 : aSpec wd ct_261 := bChk_ok wx_ok btX3_fewestToWatch (nds := [((nat_lit 11), [lcn_659, lcn_250, lcn_251, lcn_520, lcn_664, lcn_665, lcn_666], [], [sl_344], [((96, 0), 2)], (128, [(5, -1)]))]) (fk := []) (rk := (129, [])) (sp := 2048) (fuel := 3000) (by decide +kernel) (lk_d S_259 ml_3_31 (lk_d S_260 ml_3_35 lk_n)) odX3_fewestToWatch
set_option maxRecDepth 100000 in
theorem btX11_watch : bTab oX11_watch tX11_watch := ⟨ofX11_watch, by decide +kernel⟩
def ct_262 : aCt := (mX11_watch, [ag_0, ag_1, ag_1], ([], [((0, 3), 2), ((96, 0), 2)]), [pon_384, pon_336], mdn_25, [], (nat_lit 2))
set_option maxRecDepth 100000 in
theorem S_262 : aSpec wd ct_262 := bChk_ok wx_ok btX11_watch (nds := []) (fk := []) (rk := (1, [])) (sp := 0) (fuel := 3000) (by decide +kernel) (lk_d S_71 ml_11_98 (lk_d S_65 ml_11_112 (lk_d S_261 ml_11_325 (lk_d S_95 ml_11_204 lk_n)))) odX11_watch
def ag_667 : aAg := .inr (.inl [(nat_lit 98)])
def ag_668 : aAg := .inl [((.ofNat (nat_lit 1000000)), (.ofNat (nat_lit 1000000)), (nat_lit 1))]
def mdn_669 : List (Nat × Nat × Nat) := [((nat_lit 98), (nat_lit 0), (nat_lit 49))]
def lcn_670 : Nat × aAg := ((nat_lit 0), .inr (.inl [(nat_lit 98)]))
def lcn_671 : Nat × aAg := ((nat_lit 1), .inl [((.ofNat (nat_lit 1000000)), (.ofNat (nat_lit 1000000)), (nat_lit 1))])
def lcn_672 : Nat × aAg := ((nat_lit 3), .inl [((.ofNat (nat_lit 49)), (.ofNat (nat_lit 49)), (nat_lit 1))])
def ct_263 : aCt := (mJ7_fill_53178, [ag_667, ag_668], ([], []), [pon_49], mdn_669, [], (nat_lit 0))
set_option maxRecDepth 100000 in
theorem S_263 : aSpec wd ct_263 := bChk_ok wx_ok btJ7_fill_53178 (nds := [((nat_lit 5), [lcn_670, lcn_671, lcn_653, lcn_672], [], [], [], (63, [(0, -1)]))]) (fk := []) (rk := (64, [])) (sp := 32) (fuel := 3000) (by decide +kernel) lk_n odJ7_fill_53178
def lcn_673 : Nat × aAg := ((nat_lit 2), .inl [((.ofNat (nat_lit 0)), (.ofNat (nat_lit 12)), (nat_lit 1))])
set_option maxRecDepth 100000 in
theorem btX3_findShortest : bTab oX3_findShortest tX3_findShortest := ⟨ofX3_findShortest, by decide +kernel⟩
def ct_264 : aCt := (mX3_findShortest, [ag_656, ag_1], ([sl_344], [((96, 0), 2)]), [pon_49], mdn_669, [], (nat_lit 1))
set_option maxRecDepth 100000 in
theorem S_264 : aSpec wd ct_264 := bChk_ok wx_ok btX3_findShortest (nds := [((nat_lit 11), [lcn_659, lcn_274, lcn_673], [], [sl_344], [((96, 0), 2)], (596, [(1, -1)])), ((nat_lit 128), [lcn_659, lcn_274, lcn_414], [], [sl_344], [((96, 0), 2)], (583, [(1, -73)])), ((nat_lit 141), [lcn_659, lcn_274, lcn_251, lcn_441], [], [sl_344], [((96, 0), 2)], (582, [(1, -73), (2, -9)])), ((nat_lit 155), [lcn_659, lcn_274, lcn_251, lcn_144, lcn_448], [], [sl_344], [((96, 0), 2)], (581, [(1, -73), (2, -9), (3, -1)]))]) (fk := []) (rk := (597, [])) (sp := 45674714100022899442696306450542532841204353024) (fuel := 3000) (by decide +kernel) (lk_d S_263 ml_3_67 lk_n) odX3_findShortest
def ag_674 : aAg := .inl [((.ofNat (nat_lit 1)), (.ofNat (nat_lit 127)), (nat_lit 1))]
set_option maxRecDepth 100000 in
theorem btX3_daysOver : bTab oX3_daysOver tX3_daysOver := ⟨ofX3_daysOver, by decide +kernel⟩
def ct_265 : aCt := (mX3_daysOver, [ag_656, ag_674, ag_125, ag_125], ([], []), [pon_130], [], [], (nat_lit 0))
set_option maxRecDepth 100000 in
theorem S_265 : aSpec wd ct_265 := bChk_ok wx_ok btX3_daysOver (nds := []) (fk := []) (rk := (1, [])) (sp := 0) (fuel := 3000) (by decide +kernel) lk_n odX3_daysOver
def mdn_675 : List (Nat × Nat × Nat) := [((nat_lit 99), (nat_lit 7), (nat_lit 896))]
def lcn_676 : Nat × aAg := ((nat_lit 1), .inl [((.ofNat (nat_lit 1)), (.ofNat (nat_lit 127)), (nat_lit 1))])
def lcn_677 : Nat × aAg := ((nat_lit 2), .inl [((.ofNat (nat_lit 0)), (.ofNat (nat_lit 127)), (nat_lit 1))])
def lcn_678 : Nat × aAg := ((nat_lit 2), .inl [((.ofNat (nat_lit 1)), (.ofNat (nat_lit 127)), (nat_lit 1))])
def lcn_679 : Nat × aAg := ((nat_lit 4), .inl [((.negSucc (nat_lit 2147483647)), (.ofNat (nat_lit 1000000)), (nat_lit 1))])
set_option maxRecDepth 100000 in
theorem btX3_findRests : bTab oX3_findRests tX3_findRests := ⟨ofX3_findRests, by decide +kernel⟩
def ct_266 : aCt := (mX3_findRests, [ag_656], ([sl_344], [((96, 0), 2)]), [pon_49], mdn_675, [], (nat_lit 1))
set_option maxRecDepth 100000 in
theorem S_266 : aSpec wd ct_266 := bChk_ok wx_ok btX3_findRests (nds := [((nat_lit 14), [lcn_659, lcn_676, lcn_677], [], [sl_344], [((96, 0), 2)], (72, [(1, 73)])), ((nat_lit 20), [lcn_659, lcn_676, lcn_678, lcn_441], [], [sl_344], [((96, 0), 2)], (71, [(1, 73), (2, -9)])), ((nat_lit 47), [lcn_659, lcn_676, lcn_678, lcn_144, lcn_679, lcn_655], [], [sl_344], [((96, 0), 2)], (70, [(1, 73), (2, -9), (4, -1)]))]) (fk := []) (rk := (9344, [])) (sp := 140737489420288) (fuel := 3000) (by decide +kernel) (lk_d S_265 ml_3_81 lk_n) odX3_findRests
def ct_267 : aCt := (mX3_daysOver, [ag_656, ag_657, ag_125, ag_125], ([], []), [pon_130], [], [], (nat_lit 0))
set_option maxRecDepth 100000 in
theorem S_267 : aSpec wd ct_267 := bChk_ok wx_ok btX3_daysOver (nds := []) (fk := []) (rk := (1, [])) (sp := 0) (fuel := 3000) (by decide +kernel) lk_n odX3_daysOver
set_option maxRecDepth 100000 in
theorem btX3_nextOf : bTab oX3_nextOf tX3_nextOf := ⟨ofX3_nextOf, by decide +kernel⟩
def ct_268 : aCt := (mX3_nextOf, [ag_656, ag_657, ag_125], ([sl_429], [((96, 0), 2)]), [pon_267], [], [], (nat_lit 1))
set_option maxRecDepth 100000 in
theorem S_268 : aSpec wd ct_268 := bChk_ok wx_ok btX3_nextOf (nds := [((nat_lit 2), [lcn_659, lcn_660, lcn_251, lcn_441], [], [sl_429], [((96, 0), 2)], (7, [(2, -1)]))]) (fk := []) (rk := (8, [])) (sp := 4) (fuel := 3000) (by decide +kernel) (lk_d S_267 ml_3_81 lk_n) odX3_nextOf
def pon_680 : aPo := (some (.inl [((.negSucc (nat_lit 2147483647)), (.ofNat (nat_lit 999999)), (nat_lit 1))]), [], [], [])
def mdn_681 : List (Nat × Nat × Nat) := [((nat_lit 97), (nat_lit 0), (nat_lit 7)), ((nat_lit 98), (nat_lit 0), (nat_lit 49)), ((nat_lit 99), (nat_lit 7), (nat_lit 896))]
def lcn_682 : Nat × aAg := ((nat_lit 3), .inl [((.negSucc (nat_lit 2147483647)), (.ofNat (nat_lit 999999)), (nat_lit 1))])
def lcn_683 : Nat × aAg := ((nat_lit 4), .inl [((.ofNat (nat_lit 0)), (.ofNat (nat_lit 127)), (nat_lit 1))])
def lcn_684 : Nat × aAg := ((nat_lit 5), .inl [((.ofNat (nat_lit 1)), (.ofNat (nat_lit 7)), (nat_lit 1))])
set_option maxRecDepth 100000 in
theorem btX3_findRound : bTab oX3_findRound tX3_findRound := ⟨ofX3_findRound, by decide +kernel⟩
def ct_269 : aCt := (mX3_findRound, [ag_656, ag_125, ag_1], ([sl_344], [((96, 0), 2)]), [pon_680, pon_52], mdn_681, [], (nat_lit 2))
set_option maxRecDepth 100000 in
theorem S_269 : aSpec wd ct_269 := bChk_ok wx_ok btX3_findRound (nds := [((nat_lit 47), [lcn_659, lcn_250, lcn_132, lcn_682, lcn_683, lcn_684], [], [sl_344], [((96, 0), 2)], (7, [(4, -1)]))]) (fk := []) (rk := (7, [])) (sp := 140737488355328) (fuel := 3000) (by decide +kernel) (lk_d S_266 ml_3_59 (lk_d S_268 ml_3_63 (lk_d S_264 ml_3_55 lk_n))) odX3_findRound
def mdn_685 : List (Nat × Nat × Nat) := [((nat_lit 0), (nat_lit 2), (nat_lit 3)), ((nat_lit 97), (nat_lit 0), (nat_lit 7)), ((nat_lit 98), (nat_lit 0), (nat_lit 49)), ((nat_lit 99), (nat_lit 7), (nat_lit 896))]
set_option maxRecDepth 100000 in
theorem btX11_round : bTab oX11_round tX11_round := ⟨ofX11_round, by decide +kernel⟩
def ct_270 : aCt := (mX11_round, [ag_0, ag_1], ([], [((0, 3), 2), ((96, 0), 2)]), [pon_346, pon_336], mdn_685, [], (nat_lit 3))
set_option maxRecDepth 100000 in
theorem S_270 : aSpec wd ct_270 := bChk_ok wx_ok btX11_round (nds := []) (fk := []) (rk := (1, [])) (sp := 0) (fuel := 3000) (by decide +kernel) (lk_d S_71 ml_11_98 (lk_d S_75 ml_11_174 (lk_d S_65 ml_11_112 (lk_d S_269 ml_11_328 lk_n)))) odX11_round
def sl_686 : (Nat × Nat) × aI := (((nat_lit 0), (nat_lit 2)), [((.ofNat (nat_lit 1)), (.ofNat (nat_lit 1)), (nat_lit 1)), ((.ofNat (nat_lit 6)), (.ofNat (nat_lit 6)), (nat_lit 1))])
def pon_687 : aPo := (some (.inl [((.negSucc (nat_lit 0)), (.negSucc (nat_lit 0)), (nat_lit 1))]), [], [sl_686], [])
set_option maxRecDepth 100000 in
theorem btX11_roundAt : bTab oX11_roundAt tX11_roundAt := ⟨ofX11_roundAt, by decide +kernel⟩
def ct_271 : aCt := (mX11_roundAt, [ag_0, ag_1, ag_1], ([], [((0, 3), 2), ((96, 0), 2)]), [pon_384, pon_687], mdn_685, [], (nat_lit 3))
set_option maxRecDepth 100000 in
theorem S_271 : aSpec wd ct_271 := bChk_ok wx_ok btX11_roundAt (nds := []) (fk := []) (rk := (1, [])) (sp := 0) (fuel := 3000) (by decide +kernel) (lk_d S_188 ml_11_98 (lk_d S_71 ml_11_98 (lk_d S_94 ml_11_174 (lk_d S_75 ml_11_174 (lk_d S_65 ml_11_112 (lk_d S_269 ml_11_328 lk_n)))))) odX11_roundAt
def ag_688 : aAg := .inl [((.ofNat (nat_lit 65536)), (.ofNat (nat_lit 65536)), (nat_lit 1))]
def pon_689 : aPo := (some (.inl [((.ofNat (nat_lit 0)), (.ofNat (nat_lit 0)), (nat_lit 1))]), [some [((.negSucc (nat_lit 2147483647)), (.negSucc (nat_lit 0)), (nat_lit 1)), ((.ofNat (nat_lit 65537)), (.ofNat (nat_lit 2147483647)), (nat_lit 1))], none], [], [])
def pon_690 : aPo := (some (.inl [((.ofNat (nat_lit 1)), (.ofNat (nat_lit 1)), (nat_lit 1))]), [some [((.ofNat (nat_lit 0)), (.ofNat (nat_lit 65536)), (nat_lit 1))], none], [], [])
def ct_272 : aCt := (mX11_isWithin, [ag_1, ag_688], ([], []), [pon_689, pon_690], [], [], (nat_lit 0))
set_option maxRecDepth 100000 in
theorem S_272 : aSpec wd ct_272 := bChk_ok wx_ok btX11_isWithin (nds := []) (fk := []) (rk := (1, [])) (sp := 0) (fuel := 3000) (by decide +kernel) lk_n odX11_isWithin
def pon_691 : aPo := (some (.inl [((.ofNat (nat_lit 0)), (.ofNat (nat_lit 0)), (nat_lit 1))]), [some [((.negSucc (nat_lit 2147483647)), (.negSucc (nat_lit 0)), (nat_lit 1)), ((.ofNat (nat_lit 51)), (.ofNat (nat_lit 2147483647)), (nat_lit 1))], none], [], [])
def pon_692 : aPo := (some (.inl [((.ofNat (nat_lit 1)), (.ofNat (nat_lit 1)), (nat_lit 1))]), [some [((.ofNat (nat_lit 0)), (.ofNat (nat_lit 50)), (nat_lit 1))], none], [], [])
def ct_273 : aCt := (mX11_isWithin, [ag_1, ag_177], ([], []), [pon_691, pon_692], [], [], (nat_lit 0))
set_option maxRecDepth 100000 in
theorem S_273 : aSpec wd ct_273 := bChk_ok wx_ok btX11_isWithin (nds := []) (fk := []) (rk := (1, [])) (sp := 0) (fuel := 3000) (by decide +kernel) lk_n odX11_isWithin
def pon_693 : aPo := (some (.inl [((.negSucc (nat_lit 65535)), (.ofNat (nat_lit 65536)), (nat_lit 1))]), [], [], [])
def mdn_694 : List (Nat × Nat × Nat) := [((nat_lit 92), (nat_lit 1), (nat_lit 2))]
set_option maxRecDepth 100000 in
theorem btX7_draw : bTab oX7_draw tX7_draw := ⟨ofX7_draw, by decide +kernel⟩
def ct_274 : aCt := (mX7_draw, [ag_347], ([], []), [pon_693], mdn_694, [], (nat_lit 0))
set_option maxRecDepth 100000 in
theorem S_274 : aSpec wd ct_274 := bChk_ok wx_ok btX7_draw (nds := []) (fk := []) (rk := (1, [])) (sp := 0) (fuel := 3000) (by decide +kernel) lk_n odX7_draw
def ag_695 : aAg := .inl [((.negSucc (nat_lit 998)), (.ofNat (nat_lit 999)), (nat_lit 1))]
def ag_696 : aAg := .inl [((.negSucc (nat_lit 2)), (.ofNat (nat_lit 3)), (nat_lit 1))]
set_option maxRecDepth 100000 in
theorem btX11_withNote : bTab oX11_withNote tX11_withNote := ⟨ofX11_withNote, by decide +kernel⟩
def ct_275 : aCt := (mX11_withNote, [ag_1, ag_350, ag_695, ag_696], ([], []), [pon_130], [], [], (nat_lit 0))
set_option maxRecDepth 100000 in
theorem S_275 : aSpec wd ct_275 := bChk_ok wx_ok btX11_withNote (nds := []) (fk := []) (rk := (1, [])) (sp := 0) (fuel := 3000) (by decide +kernel) lk_n odX11_withNote
set_option maxRecDepth 100000 in
theorem btX7_slipped : bTab oX7_slipped tX7_slipped := ⟨ofX7_slipped, by decide +kernel⟩
def ct_276 : aCt := (mX7_slipped, [ag_347, ag_1, ag_137], ([], [((92, 0), 2)]), [pon_130], mdn_694, [], (nat_lit 1))
set_option maxRecDepth 100000 in
theorem S_276 : aSpec wd ct_276 := bChk_ok wx_ok btX7_slipped (nds := []) (fk := []) (rk := (1, [])) (sp := 0) (fuel := 3000) (by decide +kernel) (lk_d S_274 ml_7_85 (lk_d S_275 ml_7_92 lk_n)) odX7_slipped
def ag_697 : aAg := .inl [((.ofNat (nat_lit 0)), (.ofNat (nat_lit 10048)), (nat_lit 1))]
def ct_277 : aCt := (mX7_fallIn, [ag_347, ag_697], ([], [((92, 0), 2)]), [pon_349, pon_37], [], [], (nat_lit 0))
set_option maxRecDepth 100000 in
theorem S_277 : aSpec wd ct_277 := bChk_ok wx_ok btX7_fallIn (nds := []) (fk := []) (rk := (1, [])) (sp := 0) (fuel := 3000) (by decide +kernel) lk_n odX7_fallIn
def lcn_698 : Nat × aAg := ((nat_lit 3), .inl [((.ofNat (nat_lit 0)), (.ofNat (nat_lit 10048)), (nat_lit 1))])
def ct_278 : aCt := (mX7_hearerOf, [ag_347, ag_1, ag_137, ag_697], ([sl_344], [((92, 0), 2)]), [pon_368, pon_52], mdn_369, [], (nat_lit 2))
set_option maxRecDepth 100000 in
theorem S_278 : aSpec wd ct_278 := bChk_ok wx_ok btX7_hearerOf (nds := [((nat_lit 32), [lcn_352, lcn_274, lcn_143, lcn_698, lcn_354, lcn_371, lcn_372], [], [sl_344, sl_373], [((92, 0), 2)], (7, [(5, -1)]))]) (fk := []) (rk := (8, [])) (sp := 4294967296) (fuel := 3000) (by decide +kernel) (lk_d S_277 ml_7_50 (lk_d S_87 ml_7_54 (lk_d S_88 ml_7_54 (lk_d S_90 ml_7_60 lk_n)))) odX7_hearerOf
def mdn_699 : List (Nat × Nat × Nat) := [((nat_lit 92), (nat_lit 1), (nat_lit 4))]
def lcn_700 : Nat × aAg := ((nat_lit 1), .inl [((.ofNat (nat_lit 0)), (.ofNat (nat_lit 10048)), (nat_lit 1))])
set_option maxRecDepth 100000 in
theorem btX11_heardWithSlips : bTab oX11_heardWithSlips tX11_heardWithSlips := ⟨ofX11_heardWithSlips, by decide +kernel⟩
def ct_279 : aCt := (mX11_heardWithSlips, [ag_0, ag_697], ([sl_344], [((0, 3), 2), ((92, 0), 2)]), [pon_130], mdn_699, [], (nat_lit 3))
set_option maxRecDepth 100000 in
theorem S_279 : aSpec wd ct_279 := bChk_ok wx_ok btX11_heardWithSlips (nds := [((nat_lit 4), [lcn_410, lcn_700, lcn_132, lcn_411], [], [sl_344], [((0, 3), 2), ((92, 0), 2)], (8, [(2, -1)]))]) (fk := []) (rk := (9, [])) (sp := 16) (fuel := 3000) (by decide +kernel) (lk_d S_84 ml_11_198 (lk_d S_276 ml_11_399 (lk_d S_278 ml_11_277 lk_n))) odX11_heardWithSlips
def mdn_701 : List (Nat × Nat × Nat) := [((nat_lit 0), (nat_lit 2), (nat_lit 3)), ((nat_lit 92), (nat_lit 1), (nat_lit 4))]
def lcn_702 : Nat × aAg := ((nat_lit 1), .inl [((.ofNat (nat_lit 0)), (.ofNat (nat_lit 65536)), (nat_lit 1))])
def lcn_703 : Nat × aAg := ((nat_lit 2), .inl [((.ofNat (nat_lit 0)), (.ofNat (nat_lit 50)), (nat_lit 1))])
def lcn_704 : Nat × aAg := ((nat_lit 4), .inl [((.ofNat (nat_lit 0)), (.ofNat (nat_lit 63)), (nat_lit 1))])
set_option maxRecDepth 100000 in
theorem btX11_decade : bTab oX11_decade tX11_decade := ⟨ofX11_decade, by decide +kernel⟩
def ct_280 : aCt := (mX11_decade, [ag_0, ag_1, ag_1], ([], [((0, 3), 2), ((92, 0), 2)]), [pon_409, pon_393], mdn_701, [], (nat_lit 4))
set_option maxRecDepth 100000 in
theorem S_280 : aSpec wd ct_280 := bChk_ok wx_ok btX11_decade (nds := [((nat_lit 51), [lcn_410, lcn_702, lcn_703, lcn_520, lcn_704], [], [sl_344], [((0, 3), 2), ((92, 0), 2)], (63, [(3, -1)]))]) (fk := []) (rk := (64, [])) (sp := 2251799813685248) (fuel := 3000) (by decide +kernel) (lk_d S_99 ml_11_222 (lk_d S_6 ml_11_98 (lk_d S_71 ml_11_98 (lk_d S_279 ml_11_338 (lk_d S_272 ml_11_227 (lk_d S_273 ml_11_227 (lk_d S_65 ml_11_112 lk_n))))))) odX11_decade
def sl_705 : (Nat × Nat) × aI := (((nat_lit 0), (nat_lit 2)), [((.ofNat (nat_lit 5)), (.ofNat (nat_lit 5)), (nat_lit 1))])
def pon_706 : aPo := (some (.inl [((.negSucc (nat_lit 0)), (.negSucc (nat_lit 0)), (nat_lit 1))]), [], [sl_705], [])
def ct_281 : aCt := (mX11_refused, [ag_0, ag_150], ([], []), [pon_706], mdn_25, [], (nat_lit 0))
set_option maxRecDepth 100000 in
theorem S_281 : aSpec wd ct_281 := bChk_ok wx_ok btX11_refused (nds := []) (fk := []) (rk := (1, [])) (sp := 0) (fuel := 3000) (by decide +kernel) lk_n odX11_refused
def ag_707 : aAg := .inr (.inl [(nat_lit 106), (nat_lit 112), (nat_lit 118), (nat_lit 124), (nat_lit 130), (nat_lit 136), (nat_lit 142), (nat_lit 148), (nat_lit 154), (nat_lit 160), (nat_lit 166), (nat_lit 172)])
def mdn_708 : List (Nat × Nat × Nat) := [((nat_lit 106), (nat_lit 0), (nat_lit 2)), ((nat_lit 107), (nat_lit 0), (nat_lit 5)), ((nat_lit 108), (nat_lit 0), (nat_lit 5)), ((nat_lit 109), (nat_lit 0), (nat_lit 8)), ((nat_lit 110), (nat_lit 0), (nat_lit 8)), ((nat_lit 111), (nat_lit 0), (nat_lit 8)), ((nat_lit 112), (nat_lit 0), (nat_lit 2)), ((nat_lit 113), (nat_lit 0), (nat_lit 5)), ((nat_lit 114), (nat_lit 0), (nat_lit 5)), ((nat_lit 115), (nat_lit 0), (nat_lit 8)), ((nat_lit 116), (nat_lit 0), (nat_lit 8)), ((nat_lit 117), (nat_lit 0), (nat_lit 8)), ((nat_lit 118), (nat_lit 0), (nat_lit 2)), ((nat_lit 119), (nat_lit 0), (nat_lit 5)), ((nat_lit 120), (nat_lit 0), (nat_lit 5)), ((nat_lit 121), (nat_lit 0), (nat_lit 8)), ((nat_lit 122), (nat_lit 0), (nat_lit 8)), ((nat_lit 123), (nat_lit 0), (nat_lit 8)), ((nat_lit 124), (nat_lit 0), (nat_lit 2)), ((nat_lit 125), (nat_lit 0), (nat_lit 5)), ((nat_lit 126), (nat_lit 0), (nat_lit 5)), ((nat_lit 127), (nat_lit 0), (nat_lit 8)), ((nat_lit 128), (nat_lit 0), (nat_lit 8)), ((nat_lit 129), (nat_lit 0), (nat_lit 8)), ((nat_lit 130), (nat_lit 0), (nat_lit 2)), ((nat_lit 131), (nat_lit 0), (nat_lit 5)), ((nat_lit 132), (nat_lit 0), (nat_lit 5)), ((nat_lit 133), (nat_lit 0), (nat_lit 8)), ((nat_lit 134), (nat_lit 0), (nat_lit 8)), ((nat_lit 135), (nat_lit 0), (nat_lit 8)), ((nat_lit 136), (nat_lit 0), (nat_lit 2)), ((nat_lit 137), (nat_lit 0), (nat_lit 5)), ((nat_lit 138), (nat_lit 0), (nat_lit 5)), ((nat_lit 139), (nat_lit 0), (nat_lit 8)), ((nat_lit 140), (nat_lit 0), (nat_lit 8)), ((nat_lit 141), (nat_lit 0), (nat_lit 8)), ((nat_lit 142), (nat_lit 0), (nat_lit 2)), ((nat_lit 143), (nat_lit 0), (nat_lit 5)), ((nat_lit 144), (nat_lit 0), (nat_lit 5)), ((nat_lit 145), (nat_lit 0), (nat_lit 8)), ((nat_lit 146), (nat_lit 0), (nat_lit 8)), ((nat_lit 147), (nat_lit 0), (nat_lit 8)), ((nat_lit 148), (nat_lit 0), (nat_lit 2)), ((nat_lit 149), (nat_lit 0), (nat_lit 5)), ((nat_lit 150), (nat_lit 0), (nat_lit 5)), ((nat_lit 151), (nat_lit 0), (nat_lit 8)), ((nat_lit 152), (nat_lit 0), (nat_lit 8)), ((nat_lit 153), (nat_lit 0), (nat_lit 8)), ((nat_lit 154), (nat_lit 0), (nat_lit 2)), ((nat_lit 155), (nat_lit 0), (nat_lit 5)), ((nat_lit 156), (nat_lit 0), (nat_lit 5)), ((nat_lit 157), (nat_lit 0), (nat_lit 8)), ((nat_lit 158), (nat_lit 0), (nat_lit 8)), ((nat_lit 159), (nat_lit 0), (nat_lit 8)), ((nat_lit 160), (nat_lit 0), (nat_lit 2)), ((nat_lit 161), (nat_lit 0), (nat_lit 5)), ((nat_lit 162), (nat_lit 0), (nat_lit 5)), ((nat_lit 163), (nat_lit 0), (nat_lit 8)), ((nat_lit 164), (nat_lit 0), (nat_lit 8)), ((nat_lit 165), (nat_lit 0), (nat_lit 8)), ((nat_lit 166), (nat_lit 0), (nat_lit 2)), ((nat_lit 167), (nat_lit 0), (nat_lit 5)), ((nat_lit 168), (nat_lit 0), (nat_lit 5)), ((nat_lit 169), (nat_lit 0), (nat_lit 8)), ((nat_lit 170), (nat_lit 0), (nat_lit 8)), ((nat_lit 171), (nat_lit 0), (nat_lit 8)), ((nat_lit 172), (nat_lit 0), (nat_lit 2)), ((nat_lit 173), (nat_lit 0), (nat_lit 5)), ((nat_lit 174), (nat_lit 0), (nat_lit 5)), ((nat_lit 175), (nat_lit 0), (nat_lit 8)), ((nat_lit 176), (nat_lit 0), (nat_lit 8)), ((nat_lit 177), (nat_lit 0), (nat_lit 8))]
set_option maxRecDepth 100000 in
theorem btX2_copyFrom : bTab oX2_copyFrom tX2_copyFrom := ⟨ofX2_copyFrom, by decide +kernel⟩
def ct_282 : aCt := (mX2_copyFrom, [ag_707, ag_292], ([], []), [pon_49], mdn_708, [], (nat_lit 1))
set_option maxRecDepth 100000 in
theorem S_282 : aSpec wd ct_282 := bChk_ok wx_ok btX2_copyFrom (nds := []) (fk := []) (rk := (1, [])) (sp := 0) (fuel := 3000) (by decide +kernel) lk_n odX2_copyFrom
def mdn_709 : List (Nat × Nat × Nat) := [((nat_lit 0), (nat_lit 12), (nat_lit 14)), ((nat_lit 106), (nat_lit 0), (nat_lit 2)), ((nat_lit 107), (nat_lit 0), (nat_lit 5)), ((nat_lit 108), (nat_lit 0), (nat_lit 5)), ((nat_lit 109), (nat_lit 0), (nat_lit 8)), ((nat_lit 110), (nat_lit 0), (nat_lit 8)), ((nat_lit 111), (nat_lit 0), (nat_lit 8)), ((nat_lit 112), (nat_lit 0), (nat_lit 2)), ((nat_lit 113), (nat_lit 0), (nat_lit 5)), ((nat_lit 114), (nat_lit 0), (nat_lit 5)), ((nat_lit 115), (nat_lit 0), (nat_lit 8)), ((nat_lit 116), (nat_lit 0), (nat_lit 8)), ((nat_lit 117), (nat_lit 0), (nat_lit 8)), ((nat_lit 118), (nat_lit 0), (nat_lit 2)), ((nat_lit 119), (nat_lit 0), (nat_lit 5)), ((nat_lit 120), (nat_lit 0), (nat_lit 5)), ((nat_lit 121), (nat_lit 0), (nat_lit 8)), ((nat_lit 122), (nat_lit 0), (nat_lit 8)), ((nat_lit 123), (nat_lit 0), (nat_lit 8)), ((nat_lit 124), (nat_lit 0), (nat_lit 2)), ((nat_lit 125), (nat_lit 0), (nat_lit 5)), ((nat_lit 126), (nat_lit 0), (nat_lit 5)), ((nat_lit 127), (nat_lit 0), (nat_lit 8)), ((nat_lit 128), (nat_lit 0), (nat_lit 8)), ((nat_lit 129), (nat_lit 0), (nat_lit 8)), ((nat_lit 130), (nat_lit 0), (nat_lit 2)), ((nat_lit 131), (nat_lit 0), (nat_lit 5)), ((nat_lit 132), (nat_lit 0), (nat_lit 5)), ((nat_lit 133), (nat_lit 0), (nat_lit 8)), ((nat_lit 134), (nat_lit 0), (nat_lit 8)), ((nat_lit 135), (nat_lit 0), (nat_lit 8)), ((nat_lit 136), (nat_lit 0), (nat_lit 2)), ((nat_lit 137), (nat_lit 0), (nat_lit 5)), ((nat_lit 138), (nat_lit 0), (nat_lit 5)), ((nat_lit 139), (nat_lit 0), (nat_lit 8)), ((nat_lit 140), (nat_lit 0), (nat_lit 8)), ((nat_lit 141), (nat_lit 0), (nat_lit 8)), ((nat_lit 142), (nat_lit 0), (nat_lit 2)), ((nat_lit 143), (nat_lit 0), (nat_lit 5)), ((nat_lit 144), (nat_lit 0), (nat_lit 5)), ((nat_lit 145), (nat_lit 0), (nat_lit 8)), ((nat_lit 146), (nat_lit 0), (nat_lit 8)), ((nat_lit 147), (nat_lit 0), (nat_lit 8)), ((nat_lit 148), (nat_lit 0), (nat_lit 2)), ((nat_lit 149), (nat_lit 0), (nat_lit 5)), ((nat_lit 150), (nat_lit 0), (nat_lit 5)), ((nat_lit 151), (nat_lit 0), (nat_lit 8)), ((nat_lit 152), (nat_lit 0), (nat_lit 8)), ((nat_lit 153), (nat_lit 0), (nat_lit 8)), ((nat_lit 154), (nat_lit 0), (nat_lit 2)), ((nat_lit 155), (nat_lit 0), (nat_lit 5)), ((nat_lit 156), (nat_lit 0), (nat_lit 5)), ((nat_lit 157), (nat_lit 0), (nat_lit 8)), ((nat_lit 158), (nat_lit 0), (nat_lit 8)), ((nat_lit 159), (nat_lit 0), (nat_lit 8)), ((nat_lit 160), (nat_lit 0), (nat_lit 2)), ((nat_lit 161), (nat_lit 0), (nat_lit 5)), ((nat_lit 162), (nat_lit 0), (nat_lit 5)), ((nat_lit 163), (nat_lit 0), (nat_lit 8)), ((nat_lit 164), (nat_lit 0), (nat_lit 8)), ((nat_lit 165), (nat_lit 0), (nat_lit 8)), ((nat_lit 166), (nat_lit 0), (nat_lit 2)), ((nat_lit 167), (nat_lit 0), (nat_lit 5)), ((nat_lit 168), (nat_lit 0), (nat_lit 5)), ((nat_lit 169), (nat_lit 0), (nat_lit 8)), ((nat_lit 170), (nat_lit 0), (nat_lit 8)), ((nat_lit 171), (nat_lit 0), (nat_lit 8)), ((nat_lit 172), (nat_lit 0), (nat_lit 2)), ((nat_lit 173), (nat_lit 0), (nat_lit 5)), ((nat_lit 174), (nat_lit 0), (nat_lit 5)), ((nat_lit 175), (nat_lit 0), (nat_lit 8)), ((nat_lit 176), (nat_lit 0), (nat_lit 8)), ((nat_lit 177), (nat_lit 0), (nat_lit 8))]
set_option maxRecDepth 100000 in
theorem btX11_keepForUndo : bTab oX11_keepForUndo tX11_keepForUndo := ⟨ofX11_keepForUndo, by decide +kernel⟩
def ct_283 : aCt := (mX11_keepForUndo, [ag_0], ([], []), [pon_49], mdn_709, [], (nat_lit 2))
set_option maxRecDepth 100000 in
theorem S_283 : aSpec wd ct_283 := bChk_ok wx_ok btX11_keepForUndo (nds := []) (fk := []) (rk := (1, [])) (sp := 0) (fuel := 3000) (by decide +kernel) (lk_d S_282 ml_11_359 lk_n) odX11_keepForUndo
def pon_710 : aPo := (some (.inl aTop), [none, some [((.ofNat (nat_lit 0)), (.ofNat (nat_lit 4)), (nat_lit 1))], some [((.ofNat (nat_lit 0)), (.ofNat (nat_lit 7)), (nat_lit 1))]], [sl_304, sl_337, sl_341, sl_533], [])
def sl_711 : (Nat × Nat) × aI := (((nat_lit 0), (nat_lit 2)), [((.ofNat (nat_lit 1)), (.ofNat (nat_lit 1)), (nat_lit 1)), ((.ofNat (nat_lit 5)), (.ofNat (nat_lit 5)), (nat_lit 1))])
def pon_712 : aPo := (some (.inl [((.negSucc (nat_lit 0)), (.negSucc (nat_lit 0)), (nat_lit 1))]), [none, some aTop, none], [sl_711], [])
def mdn_713 : List (Nat × Nat × Nat) := [((nat_lit 0), (nat_lit 2), (nat_lit 3)), ((nat_lit 0), (nat_lit 12), (nat_lit 14)), ((nat_lit 87), (nat_lit 0), (nat_lit 5)), ((nat_lit 88), (nat_lit 0), (nat_lit 5)), ((nat_lit 89), (nat_lit 0), (nat_lit 8)), ((nat_lit 90), (nat_lit 0), (nat_lit 8)), ((nat_lit 92), (nat_lit 2), (nat_lit 4)), ((nat_lit 94), (nat_lit 4), (nat_lit 7)), ((nat_lit 95), (nat_lit 0), (nat_lit 7)), ((nat_lit 106), (nat_lit 0), (nat_lit 2)), ((nat_lit 107), (nat_lit 0), (nat_lit 5)), ((nat_lit 108), (nat_lit 0), (nat_lit 5)), ((nat_lit 109), (nat_lit 0), (nat_lit 8)), ((nat_lit 110), (nat_lit 0), (nat_lit 8)), ((nat_lit 111), (nat_lit 0), (nat_lit 8)), ((nat_lit 112), (nat_lit 0), (nat_lit 2)), ((nat_lit 113), (nat_lit 0), (nat_lit 5)), ((nat_lit 114), (nat_lit 0), (nat_lit 5)), ((nat_lit 115), (nat_lit 0), (nat_lit 8)), ((nat_lit 116), (nat_lit 0), (nat_lit 8)), ((nat_lit 117), (nat_lit 0), (nat_lit 8)), ((nat_lit 118), (nat_lit 0), (nat_lit 2)), ((nat_lit 119), (nat_lit 0), (nat_lit 5)), ((nat_lit 120), (nat_lit 0), (nat_lit 5)), ((nat_lit 121), (nat_lit 0), (nat_lit 8)), ((nat_lit 122), (nat_lit 0), (nat_lit 8)), ((nat_lit 123), (nat_lit 0), (nat_lit 8)), ((nat_lit 124), (nat_lit 0), (nat_lit 2)), ((nat_lit 125), (nat_lit 0), (nat_lit 5)), ((nat_lit 126), (nat_lit 0), (nat_lit 5)), ((nat_lit 127), (nat_lit 0), (nat_lit 8)), ((nat_lit 128), (nat_lit 0), (nat_lit 8)), ((nat_lit 129), (nat_lit 0), (nat_lit 8)), ((nat_lit 130), (nat_lit 0), (nat_lit 2)), ((nat_lit 131), (nat_lit 0), (nat_lit 5)), ((nat_lit 132), (nat_lit 0), (nat_lit 5)), ((nat_lit 133), (nat_lit 0), (nat_lit 8)), ((nat_lit 134), (nat_lit 0), (nat_lit 8)), ((nat_lit 135), (nat_lit 0), (nat_lit 8)), ((nat_lit 136), (nat_lit 0), (nat_lit 2)), ((nat_lit 137), (nat_lit 0), (nat_lit 5)), ((nat_lit 138), (nat_lit 0), (nat_lit 5)), ((nat_lit 139), (nat_lit 0), (nat_lit 8)), ((nat_lit 140), (nat_lit 0), (nat_lit 8)), ((nat_lit 141), (nat_lit 0), (nat_lit 8)), ((nat_lit 142), (nat_lit 0), (nat_lit 2)), ((nat_lit 143), (nat_lit 0), (nat_lit 5)), ((nat_lit 144), (nat_lit 0), (nat_lit 5)), ((nat_lit 145), (nat_lit 0), (nat_lit 8)), ((nat_lit 146), (nat_lit 0), (nat_lit 8)), ((nat_lit 147), (nat_lit 0), (nat_lit 8)), ((nat_lit 148), (nat_lit 0), (nat_lit 2)), ((nat_lit 149), (nat_lit 0), (nat_lit 5)), ((nat_lit 150), (nat_lit 0), (nat_lit 5)), ((nat_lit 151), (nat_lit 0), (nat_lit 8)), ((nat_lit 152), (nat_lit 0), (nat_lit 8)), ((nat_lit 153), (nat_lit 0), (nat_lit 8)), ((nat_lit 154), (nat_lit 0), (nat_lit 2)), ((nat_lit 155), (nat_lit 0), (nat_lit 5)), ((nat_lit 156), (nat_lit 0), (nat_lit 5)), ((nat_lit 157), (nat_lit 0), (nat_lit 8)), ((nat_lit 158), (nat_lit 0), (nat_lit 8)), ((nat_lit 159), (nat_lit 0), (nat_lit 8)), ((nat_lit 160), (nat_lit 0), (nat_lit 2)), ((nat_lit 161), (nat_lit 0), (nat_lit 5)), ((nat_lit 162), (nat_lit 0), (nat_lit 5)), ((nat_lit 163), (nat_lit 0), (nat_lit 8)), ((nat_lit 164), (nat_lit 0), (nat_lit 8)), ((nat_lit 165), (nat_lit 0), (nat_lit 8)), ((nat_lit 166), (nat_lit 0), (nat_lit 2)), ((nat_lit 167), (nat_lit 0), (nat_lit 5)), ((nat_lit 168), (nat_lit 0), (nat_lit 5)), ((nat_lit 169), (nat_lit 0), (nat_lit 8)), ((nat_lit 170), (nat_lit 0), (nat_lit 8)), ((nat_lit 171), (nat_lit 0), (nat_lit 8)), ((nat_lit 172), (nat_lit 0), (nat_lit 2)), ((nat_lit 173), (nat_lit 0), (nat_lit 5)), ((nat_lit 174), (nat_lit 0), (nat_lit 5)), ((nat_lit 175), (nat_lit 0), (nat_lit 8)), ((nat_lit 176), (nat_lit 0), (nat_lit 8)), ((nat_lit 177), (nat_lit 0), (nat_lit 8))]
set_option maxRecDepth 100000 in
theorem btX11_send : bTab oX11_send tX11_send := ⟨ofX11_send, by decide +kernel⟩
def ct_284 : aCt := (mX11_send, [ag_0, ag_1, ag_1], ([], [((0, 3), 2), ((92, 0), 2), ((94, 0), 2)]), [pon_710, pon_712], mdn_713, [], (nat_lit 5))
set_option maxRecDepth 100000 in
theorem S_284 : aSpec wd ct_284 := bChk_ok wx_ok btX11_send (nds := []) (fk := []) (rk := (1, [])) (sp := 0) (fuel := 3000) (by decide +kernel) (lk_d S_283 ml_11_341 (lk_d S_281 ml_11_98 (lk_d S_71 ml_11_98 (lk_d S_180 ml_11_283 (lk_d S_179 ml_11_283 (lk_d S_178 ml_11_283 (lk_d S_177 ml_11_283 (lk_d S_176 ml_11_283 (lk_d S_70 ml_11_121 (lk_d S_73 ml_11_147 (lk_d S_65 ml_11_112 lk_n))))))))))) odX11_send
def ag_714 : aAg := .inl [((.negSucc (nat_lit 0)), (.ofNat (nat_lit 3)), (nat_lit 1))]
def pon_715 : aPo := (some (.inl [((.ofNat (nat_lit 0)), (.ofNat (nat_lit 0)), (nat_lit 1))]), [some aTop, none], [], [])
def pon_716 : aPo := (some (.inl [((.ofNat (nat_lit 1)), (.ofNat (nat_lit 1)), (nat_lit 1))]), [some [((.ofNat (nat_lit 0)), (.ofNat (nat_lit 3)), (nat_lit 1))], some [((.ofNat (nat_lit 0)), (.ofNat (nat_lit 3)), (nat_lit 1))]], [], [])
def ct_285 : aCt := (mX11_isWithin, [ag_1, ag_714], ([], []), [pon_715, pon_716], [], [], (nat_lit 0))
set_option maxRecDepth 100000 in
theorem S_285 : aSpec wd ct_285 := bChk_ok wx_ok btX11_isWithin (nds := []) (fk := []) (rk := (1, [])) (sp := 0) (fuel := 3000) (by decide +kernel) lk_n odX11_isWithin
def ct_286 : aCt := (mX11_withNote, [ag_1, ag_137, ag_351, ag_364], ([], []), [pon_130], [], [], (nat_lit 0))
set_option maxRecDepth 100000 in
theorem S_286 : aSpec wd ct_286 := bChk_ok wx_ok btX11_withNote (nds := []) (fk := []) (rk := (1, [])) (sp := 0) (fuel := 3000) (by decide +kernel) lk_n odX11_withNote
def pon_717 : aPo := (some (.inl [((.ofNat (nat_lit 0)), (.ofNat (nat_lit 0)), (nat_lit 1))]), [], [sl_705], [])
set_option maxRecDepth 100000 in
theorem btX11_hasRefused : bTab oX11_hasRefused tX11_hasRefused := ⟨ofX11_hasRefused, by decide +kernel⟩
def ct_287 : aCt := (mX11_hasRefused, [ag_0, ag_150], ([], []), [pon_717], mdn_25, [], (nat_lit 0))
set_option maxRecDepth 100000 in
theorem S_287 : aSpec wd ct_287 := bChk_ok wx_ok btX11_hasRefused (nds := []) (fk := []) (rk := (1, [])) (sp := 0) (fuel := 3000) (by decide +kernel) lk_n odX11_hasRefused
def pon_718 : aPo := (some (.inl [((.ofNat (nat_lit 1)), (.ofNat (nat_lit 1)), (nat_lit 1))]), [], [sl_304], [])
set_option maxRecDepth 100000 in
theorem btX11_hasGranted : bTab oX11_hasGranted tX11_hasGranted := ⟨ofX11_hasGranted, by decide +kernel⟩
def ct_288 : aCt := (mX11_hasGranted, [ag_0], ([], []), [pon_718], mdn_25, [], (nat_lit 0))
set_option maxRecDepth 100000 in
theorem S_288 : aSpec wd ct_288 := bChk_ok wx_ok btX11_hasGranted (nds := []) (fk := []) (rk := (1, [])) (sp := 0) (fuel := 3000) (by decide +kernel) lk_n odX11_hasGranted
def pon_719 : aPo := (some (.inl [((.ofNat (nat_lit 0)), (.ofNat (nat_lit 0)), (nat_lit 1))]), [], [sl_23], [])
def ct_289 : aCt := (mX11_hasRefused, [ag_0, ag_22], ([], []), [pon_719], mdn_25, [], (nat_lit 0))
set_option maxRecDepth 100000 in
theorem S_289 : aSpec wd ct_289 := bChk_ok wx_ok btX11_hasRefused (nds := []) (fk := []) (rk := (1, [])) (sp := 0) (fuel := 3000) (by decide +kernel) lk_n odX11_hasRefused
def pon_720 : aPo := (some (.inl [((.ofNat (nat_lit 0)), (.ofNat (nat_lit 0)), (nat_lit 1))]), [], [sl_335], [])
def ct_290 : aCt := (mX11_hasRefused, [ag_0, ag_53], ([], []), [pon_720], mdn_25, [], (nat_lit 0))
set_option maxRecDepth 100000 in
theorem S_290 : aSpec wd ct_290 := bChk_ok wx_ok btX11_hasRefused (nds := []) (fk := []) (rk := (1, [])) (sp := 0) (fuel := 3000) (by decide +kernel) lk_n odX11_hasRefused
def sl_721 : (Nat × Nat) × aI := (((nat_lit 0), (nat_lit 2)), [((.ofNat (nat_lit 1)), (.ofNat (nat_lit 2)), (nat_lit 1)), ((.ofNat (nat_lit 5)), (.ofNat (nat_lit 5)), (nat_lit 1))])
def pon_722 : aPo := (some (.inl [((.ofNat (nat_lit 0)), (.ofNat (nat_lit 0)), (nat_lit 1))]), [], [sl_721], [])
def pon_723 : aPo := (some (.inl [((.ofNat (nat_lit 1)), (.ofNat (nat_lit 1)), (nat_lit 1))]), [none, some [((.ofNat (nat_lit 0)), (.ofNat (nat_lit 7)), (nat_lit 1))], some [((.ofNat (nat_lit 0)), (.ofNat (nat_lit 999)), (nat_lit 1))], some [((.ofNat (nat_lit 0)), (.ofNat (nat_lit 3)), (nat_lit 1))]], [sl_304, sl_341], [])
def mdn_724 : List (Nat × Nat × Nat) := [((nat_lit 0), (nat_lit 2), (nat_lit 3)), ((nat_lit 0), (nat_lit 12), (nat_lit 14)), ((nat_lit 91), (nat_lit 0), (nat_lit 8)), ((nat_lit 106), (nat_lit 0), (nat_lit 2)), ((nat_lit 107), (nat_lit 0), (nat_lit 5)), ((nat_lit 108), (nat_lit 0), (nat_lit 5)), ((nat_lit 109), (nat_lit 0), (nat_lit 8)), ((nat_lit 110), (nat_lit 0), (nat_lit 8)), ((nat_lit 111), (nat_lit 0), (nat_lit 8)), ((nat_lit 112), (nat_lit 0), (nat_lit 2)), ((nat_lit 113), (nat_lit 0), (nat_lit 5)), ((nat_lit 114), (nat_lit 0), (nat_lit 5)), ((nat_lit 115), (nat_lit 0), (nat_lit 8)), ((nat_lit 116), (nat_lit 0), (nat_lit 8)), ((nat_lit 117), (nat_lit 0), (nat_lit 8)), ((nat_lit 118), (nat_lit 0), (nat_lit 2)), ((nat_lit 119), (nat_lit 0), (nat_lit 5)), ((nat_lit 120), (nat_lit 0), (nat_lit 5)), ((nat_lit 121), (nat_lit 0), (nat_lit 8)), ((nat_lit 122), (nat_lit 0), (nat_lit 8)), ((nat_lit 123), (nat_lit 0), (nat_lit 8)), ((nat_lit 124), (nat_lit 0), (nat_lit 2)), ((nat_lit 125), (nat_lit 0), (nat_lit 5)), ((nat_lit 126), (nat_lit 0), (nat_lit 5)), ((nat_lit 127), (nat_lit 0), (nat_lit 8)), ((nat_lit 128), (nat_lit 0), (nat_lit 8)), ((nat_lit 129), (nat_lit 0), (nat_lit 8)), ((nat_lit 130), (nat_lit 0), (nat_lit 2)), ((nat_lit 131), (nat_lit 0), (nat_lit 5)), ((nat_lit 132), (nat_lit 0), (nat_lit 5)), ((nat_lit 133), (nat_lit 0), (nat_lit 8)), ((nat_lit 134), (nat_lit 0), (nat_lit 8)), ((nat_lit 135), (nat_lit 0), (nat_lit 8)), ((nat_lit 136), (nat_lit 0), (nat_lit 2)), ((nat_lit 137), (nat_lit 0), (nat_lit 5)), ((nat_lit 138), (nat_lit 0), (nat_lit 5)), ((nat_lit 139), (nat_lit 0), (nat_lit 8)), ((nat_lit 140), (nat_lit 0), (nat_lit 8)), ((nat_lit 141), (nat_lit 0), (nat_lit 8)), ((nat_lit 142), (nat_lit 0), (nat_lit 2)), ((nat_lit 143), (nat_lit 0), (nat_lit 5)), ((nat_lit 144), (nat_lit 0), (nat_lit 5)), ((nat_lit 145), (nat_lit 0), (nat_lit 8)), ((nat_lit 146), (nat_lit 0), (nat_lit 8)), ((nat_lit 147), (nat_lit 0), (nat_lit 8)), ((nat_lit 148), (nat_lit 0), (nat_lit 2)), ((nat_lit 149), (nat_lit 0), (nat_lit 5)), ((nat_lit 150), (nat_lit 0), (nat_lit 5)), ((nat_lit 151), (nat_lit 0), (nat_lit 8)), ((nat_lit 152), (nat_lit 0), (nat_lit 8)), ((nat_lit 153), (nat_lit 0), (nat_lit 8)), ((nat_lit 154), (nat_lit 0), (nat_lit 2)), ((nat_lit 155), (nat_lit 0), (nat_lit 5)), ((nat_lit 156), (nat_lit 0), (nat_lit 5)), ((nat_lit 157), (nat_lit 0), (nat_lit 8)), ((nat_lit 158), (nat_lit 0), (nat_lit 8)), ((nat_lit 159), (nat_lit 0), (nat_lit 8)), ((nat_lit 160), (nat_lit 0), (nat_lit 2)), ((nat_lit 161), (nat_lit 0), (nat_lit 5)), ((nat_lit 162), (nat_lit 0), (nat_lit 5)), ((nat_lit 163), (nat_lit 0), (nat_lit 8)), ((nat_lit 164), (nat_lit 0), (nat_lit 8)), ((nat_lit 165), (nat_lit 0), (nat_lit 8)), ((nat_lit 166), (nat_lit 0), (nat_lit 2)), ((nat_lit 167), (nat_lit 0), (nat_lit 5)), ((nat_lit 168), (nat_lit 0), (nat_lit 5)), ((nat_lit 169), (nat_lit 0), (nat_lit 8)), ((nat_lit 170), (nat_lit 0), (nat_lit 8)), ((nat_lit 171), (nat_lit 0), (nat_lit 8)), ((nat_lit 172), (nat_lit 0), (nat_lit 2)), ((nat_lit 173), (nat_lit 0), (nat_lit 5)), ((nat_lit 174), (nat_lit 0), (nat_lit 5)), ((nat_lit 175), (nat_lit 0), (nat_lit 8)), ((nat_lit 176), (nat_lit 0), (nat_lit 8)), ((nat_lit 177), (nat_lit 0), (nat_lit 8))]
set_option maxRecDepth 100000 in
theorem btX11_tune : bTab oX11_tune tX11_tune := ⟨ofX11_tune, by decide +kernel⟩
def ct_291 : aCt := (mX11_tune, [ag_0, ag_1, ag_1, ag_1], ([], [((0, 3), 2)]), [pon_722, pon_723], mdn_724, [], (nat_lit 3))
set_option maxRecDepth 100000 in
theorem S_291 : aSpec wd ct_291 := bChk_ok wx_ok btX11_tune (nds := []) (fk := []) (rk := (1, [])) (sp := 0) (fuel := 3000) (by decide +kernel) (lk_d S_283 ml_11_341 (lk_d S_288 ml_11_356 (lk_d S_287 ml_11_347 (lk_d S_289 ml_11_347 (lk_d S_290 ml_11_347 (lk_d S_84 ml_11_198 (lk_d S_106 ml_11_242 (lk_d S_285 ml_11_227 (lk_d S_286 ml_11_353 (lk_d S_85 ml_11_191 lk_n)))))))))) odX11_tune
def sl_725 : (Nat × Nat) × aI := (((nat_lit 0), (nat_lit 2)), [((.ofNat (nat_lit 3)), (.ofNat (nat_lit 3)), (nat_lit 1))])
def pon_726 : aPo := (some (.inl [((.negSucc (nat_lit 0)), (.negSucc (nat_lit 0)), (nat_lit 1))]), [], [sl_725], [])
def ct_292 : aCt := (mX11_refused, [ag_0, ag_122], ([], []), [pon_726], mdn_25, [], (nat_lit 0))
set_option maxRecDepth 100000 in
theorem S_292 : aSpec wd ct_292 := bChk_ok wx_ok btX11_refused (nds := []) (fk := []) (rk := (1, [])) (sp := 0) (fuel := 3000) (by decide +kernel) lk_n odX11_refused
def pon_727 : aPo := (some (.inl aTop), [none, some [((.ofNat (nat_lit 1)), (.ofNat (nat_lit 99)), (nat_lit 1))]], [sl_304, sl_344], [])
def sl_728 : (Nat × Nat) × aI := (((nat_lit 0), (nat_lit 2)), [((.ofNat (nat_lit 1)), (.ofNat (nat_lit 3)), (nat_lit 1))])
def pon_729 : aPo := (some (.inl [((.negSucc (nat_lit 0)), (.negSucc (nat_lit 0)), (nat_lit 1))]), [], [sl_728], [])
def mdn_730 : List (Nat × Nat × Nat) := [((nat_lit 0), (nat_lit 2), (nat_lit 3)), ((nat_lit 0), (nat_lit 12), (nat_lit 14)), ((nat_lit 86), (nat_lit 0), (nat_lit 1)), ((nat_lit 106), (nat_lit 0), (nat_lit 2)), ((nat_lit 107), (nat_lit 0), (nat_lit 5)), ((nat_lit 108), (nat_lit 0), (nat_lit 5)), ((nat_lit 109), (nat_lit 0), (nat_lit 8)), ((nat_lit 110), (nat_lit 0), (nat_lit 8)), ((nat_lit 111), (nat_lit 0), (nat_lit 8)), ((nat_lit 112), (nat_lit 0), (nat_lit 2)), ((nat_lit 113), (nat_lit 0), (nat_lit 5)), ((nat_lit 114), (nat_lit 0), (nat_lit 5)), ((nat_lit 115), (nat_lit 0), (nat_lit 8)), ((nat_lit 116), (nat_lit 0), (nat_lit 8)), ((nat_lit 117), (nat_lit 0), (nat_lit 8)), ((nat_lit 118), (nat_lit 0), (nat_lit 2)), ((nat_lit 119), (nat_lit 0), (nat_lit 5)), ((nat_lit 120), (nat_lit 0), (nat_lit 5)), ((nat_lit 121), (nat_lit 0), (nat_lit 8)), ((nat_lit 122), (nat_lit 0), (nat_lit 8)), ((nat_lit 123), (nat_lit 0), (nat_lit 8)), ((nat_lit 124), (nat_lit 0), (nat_lit 2)), ((nat_lit 125), (nat_lit 0), (nat_lit 5)), ((nat_lit 126), (nat_lit 0), (nat_lit 5)), ((nat_lit 127), (nat_lit 0), (nat_lit 8)), ((nat_lit 128), (nat_lit 0), (nat_lit 8)), ((nat_lit 129), (nat_lit 0), (nat_lit 8)), ((nat_lit 130), (nat_lit 0), (nat_lit 2)), ((nat_lit 131), (nat_lit 0), (nat_lit 5)), ((nat_lit 132), (nat_lit 0), (nat_lit 5)), ((nat_lit 133), (nat_lit 0), (nat_lit 8)), ((nat_lit 134), (nat_lit 0), (nat_lit 8)), ((nat_lit 135), (nat_lit 0), (nat_lit 8)), ((nat_lit 136), (nat_lit 0), (nat_lit 2)), ((nat_lit 137), (nat_lit 0), (nat_lit 5)), ((nat_lit 138), (nat_lit 0), (nat_lit 5)), ((nat_lit 139), (nat_lit 0), (nat_lit 8)), ((nat_lit 140), (nat_lit 0), (nat_lit 8)), ((nat_lit 141), (nat_lit 0), (nat_lit 8)), ((nat_lit 142), (nat_lit 0), (nat_lit 2)), ((nat_lit 143), (nat_lit 0), (nat_lit 5)), ((nat_lit 144), (nat_lit 0), (nat_lit 5)), ((nat_lit 145), (nat_lit 0), (nat_lit 8)), ((nat_lit 146), (nat_lit 0), (nat_lit 8)), ((nat_lit 147), (nat_lit 0), (nat_lit 8)), ((nat_lit 148), (nat_lit 0), (nat_lit 2)), ((nat_lit 149), (nat_lit 0), (nat_lit 5)), ((nat_lit 150), (nat_lit 0), (nat_lit 5)), ((nat_lit 151), (nat_lit 0), (nat_lit 8)), ((nat_lit 152), (nat_lit 0), (nat_lit 8)), ((nat_lit 153), (nat_lit 0), (nat_lit 8)), ((nat_lit 154), (nat_lit 0), (nat_lit 2)), ((nat_lit 155), (nat_lit 0), (nat_lit 5)), ((nat_lit 156), (nat_lit 0), (nat_lit 5)), ((nat_lit 157), (nat_lit 0), (nat_lit 8)), ((nat_lit 158), (nat_lit 0), (nat_lit 8)), ((nat_lit 159), (nat_lit 0), (nat_lit 8)), ((nat_lit 160), (nat_lit 0), (nat_lit 2)), ((nat_lit 161), (nat_lit 0), (nat_lit 5)), ((nat_lit 162), (nat_lit 0), (nat_lit 5)), ((nat_lit 163), (nat_lit 0), (nat_lit 8)), ((nat_lit 164), (nat_lit 0), (nat_lit 8)), ((nat_lit 165), (nat_lit 0), (nat_lit 8)), ((nat_lit 166), (nat_lit 0), (nat_lit 2)), ((nat_lit 167), (nat_lit 0), (nat_lit 5)), ((nat_lit 168), (nat_lit 0), (nat_lit 5)), ((nat_lit 169), (nat_lit 0), (nat_lit 8)), ((nat_lit 170), (nat_lit 0), (nat_lit 8)), ((nat_lit 171), (nat_lit 0), (nat_lit 8)), ((nat_lit 172), (nat_lit 0), (nat_lit 2)), ((nat_lit 173), (nat_lit 0), (nat_lit 5)), ((nat_lit 174), (nat_lit 0), (nat_lit 5)), ((nat_lit 175), (nat_lit 0), (nat_lit 8)), ((nat_lit 176), (nat_lit 0), (nat_lit 8)), ((nat_lit 177), (nat_lit 0), (nat_lit 8))]
set_option maxRecDepth 100000 in
theorem btX11_years : bTab oX11_years tX11_years := ⟨ofX11_years, by decide +kernel⟩
def ct_293 : aCt := (mX11_years, [ag_0, ag_1], ([], [((0, 3), 2)]), [pon_727, pon_729], mdn_730, [], (nat_lit 3))
set_option maxRecDepth 100000 in
theorem S_293 : aSpec wd ct_293 := bChk_ok wx_ok btX11_years (nds := []) (fk := [38]) (rk := (1, [])) (sp := 0) (fuel := 3000) (by decide +kernel) (lk_d S_99 ml_11_222 (lk_d S_283 ml_11_341 (lk_d S_6 ml_11_98 (lk_d S_292 ml_11_98 (lk_d S_71 ml_11_98 (lk_d S_65 ml_11_112 lk_n)))))) odX11_years
def pon_731 : aPo := (some (.inl [((.ofNat (nat_lit 0)), (.ofNat (nat_lit 0)), (nat_lit 1))]), [], [sl_711], [])
def pon_732 : aPo := (some (.inl [((.ofNat (nat_lit 1)), (.ofNat (nat_lit 1)), (nat_lit 1))]), [none, some [((.ofNat (nat_lit 0)), (.ofNat (nat_lit 11)), (nat_lit 1))], some [((.ofNat (nat_lit 0)), (.ofNat (nat_lit 1)), (nat_lit 1))]], [sl_304, sl_379], [])
def mdn_733 : List (Nat × Nat × Nat) := [((nat_lit 0), (nat_lit 2), (nat_lit 3)), ((nat_lit 0), (nat_lit 12), (nat_lit 14)), ((nat_lit 86), (nat_lit 1), (nat_lit 2)), ((nat_lit 106), (nat_lit 0), (nat_lit 2)), ((nat_lit 107), (nat_lit 0), (nat_lit 5)), ((nat_lit 108), (nat_lit 0), (nat_lit 5)), ((nat_lit 109), (nat_lit 0), (nat_lit 8)), ((nat_lit 110), (nat_lit 0), (nat_lit 8)), ((nat_lit 111), (nat_lit 0), (nat_lit 8)), ((nat_lit 112), (nat_lit 0), (nat_lit 2)), ((nat_lit 113), (nat_lit 0), (nat_lit 5)), ((nat_lit 114), (nat_lit 0), (nat_lit 5)), ((nat_lit 115), (nat_lit 0), (nat_lit 8)), ((nat_lit 116), (nat_lit 0), (nat_lit 8)), ((nat_lit 117), (nat_lit 0), (nat_lit 8)), ((nat_lit 118), (nat_lit 0), (nat_lit 2)), ((nat_lit 119), (nat_lit 0), (nat_lit 5)), ((nat_lit 120), (nat_lit 0), (nat_lit 5)), ((nat_lit 121), (nat_lit 0), (nat_lit 8)), ((nat_lit 122), (nat_lit 0), (nat_lit 8)), ((nat_lit 123), (nat_lit 0), (nat_lit 8)), ((nat_lit 124), (nat_lit 0), (nat_lit 2)), ((nat_lit 125), (nat_lit 0), (nat_lit 5)), ((nat_lit 126), (nat_lit 0), (nat_lit 5)), ((nat_lit 127), (nat_lit 0), (nat_lit 8)), ((nat_lit 128), (nat_lit 0), (nat_lit 8)), ((nat_lit 129), (nat_lit 0), (nat_lit 8)), ((nat_lit 130), (nat_lit 0), (nat_lit 2)), ((nat_lit 131), (nat_lit 0), (nat_lit 5)), ((nat_lit 132), (nat_lit 0), (nat_lit 5)), ((nat_lit 133), (nat_lit 0), (nat_lit 8)), ((nat_lit 134), (nat_lit 0), (nat_lit 8)), ((nat_lit 135), (nat_lit 0), (nat_lit 8)), ((nat_lit 136), (nat_lit 0), (nat_lit 2)), ((nat_lit 137), (nat_lit 0), (nat_lit 5)), ((nat_lit 138), (nat_lit 0), (nat_lit 5)), ((nat_lit 139), (nat_lit 0), (nat_lit 8)), ((nat_lit 140), (nat_lit 0), (nat_lit 8)), ((nat_lit 141), (nat_lit 0), (nat_lit 8)), ((nat_lit 142), (nat_lit 0), (nat_lit 2)), ((nat_lit 143), (nat_lit 0), (nat_lit 5)), ((nat_lit 144), (nat_lit 0), (nat_lit 5)), ((nat_lit 145), (nat_lit 0), (nat_lit 8)), ((nat_lit 146), (nat_lit 0), (nat_lit 8)), ((nat_lit 147), (nat_lit 0), (nat_lit 8)), ((nat_lit 148), (nat_lit 0), (nat_lit 2)), ((nat_lit 149), (nat_lit 0), (nat_lit 5)), ((nat_lit 150), (nat_lit 0), (nat_lit 5)), ((nat_lit 151), (nat_lit 0), (nat_lit 8)), ((nat_lit 152), (nat_lit 0), (nat_lit 8)), ((nat_lit 153), (nat_lit 0), (nat_lit 8)), ((nat_lit 154), (nat_lit 0), (nat_lit 2)), ((nat_lit 155), (nat_lit 0), (nat_lit 5)), ((nat_lit 156), (nat_lit 0), (nat_lit 5)), ((nat_lit 157), (nat_lit 0), (nat_lit 8)), ((nat_lit 158), (nat_lit 0), (nat_lit 8)), ((nat_lit 159), (nat_lit 0), (nat_lit 8)), ((nat_lit 160), (nat_lit 0), (nat_lit 2)), ((nat_lit 161), (nat_lit 0), (nat_lit 5)), ((nat_lit 162), (nat_lit 0), (nat_lit 5)), ((nat_lit 163), (nat_lit 0), (nat_lit 8)), ((nat_lit 164), (nat_lit 0), (nat_lit 8)), ((nat_lit 165), (nat_lit 0), (nat_lit 8)), ((nat_lit 166), (nat_lit 0), (nat_lit 2)), ((nat_lit 167), (nat_lit 0), (nat_lit 5)), ((nat_lit 168), (nat_lit 0), (nat_lit 5)), ((nat_lit 169), (nat_lit 0), (nat_lit 8)), ((nat_lit 170), (nat_lit 0), (nat_lit 8)), ((nat_lit 171), (nat_lit 0), (nat_lit 8)), ((nat_lit 172), (nat_lit 0), (nat_lit 2)), ((nat_lit 173), (nat_lit 0), (nat_lit 5)), ((nat_lit 174), (nat_lit 0), (nat_lit 5)), ((nat_lit 175), (nat_lit 0), (nat_lit 8)), ((nat_lit 176), (nat_lit 0), (nat_lit 8)), ((nat_lit 177), (nat_lit 0), (nat_lit 8))]
set_option maxRecDepth 100000 in
theorem btX11_close : bTab oX11_close tX11_close := ⟨ofX11_close, by decide +kernel⟩
def ct_294 : aCt := (mX11_close, [ag_0, ag_1, ag_536], ([], [((0, 3), 2)]), [pon_731, pon_732], mdn_733, [], (nat_lit 3))
set_option maxRecDepth 100000 in
theorem S_294 : aSpec wd ct_294 := bChk_ok wx_ok btX11_close (nds := []) (fk := []) (rk := (1, [])) (sp := 0) (fuel := 3000) (by decide +kernel) (lk_d S_283 ml_11_341 (lk_d S_288 ml_11_356 (lk_d S_287 ml_11_347 (lk_d S_290 ml_11_347 (lk_d S_97 ml_11_210 (lk_d S_102 ml_11_230 lk_n)))))) odX11_close
def pon_734 : aPo := (some (.inl [((.ofNat (nat_lit 0)), (.ofNat (nat_lit 0)), (nat_lit 1))]), [], [sl_568], [])
def ct_295 : aCt := (mX11_hasRefused, [ag_0, ag_153], ([], []), [pon_734], mdn_25, [], (nat_lit 0))
set_option maxRecDepth 100000 in
theorem S_295 : aSpec wd ct_295 := bChk_ok wx_ok btX11_hasRefused (nds := []) (fk := []) (rk := (1, [])) (sp := 0) (fuel := 3000) (by decide +kernel) lk_n odX11_hasRefused
def ct_296 : aCt := (mX2_copyFrom, [ag_292, ag_707], ([], []), [pon_49], mdn_293, [], (nat_lit 1))
set_option maxRecDepth 100000 in
theorem S_296 : aSpec wd ct_296 := bChk_ok wx_ok btX2_copyFrom (nds := []) (fk := []) (rk := (1, [])) (sp := 0) (fuel := 3000) (by decide +kernel) lk_n odX2_copyFrom
def mdn_735 : List (Nat × Nat × Nat) := [((nat_lit 0), (nat_lit 2), (nat_lit 3)), ((nat_lit 0), (nat_lit 12), (nat_lit 14)), ((nat_lit 86), (nat_lit 0), (nat_lit 2)), ((nat_lit 87), (nat_lit 0), (nat_lit 5)), ((nat_lit 88), (nat_lit 0), (nat_lit 5)), ((nat_lit 89), (nat_lit 0), (nat_lit 8)), ((nat_lit 90), (nat_lit 0), (nat_lit 8)), ((nat_lit 91), (nat_lit 0), (nat_lit 8))]
set_option maxRecDepth 100000 in
theorem btX11_undo : bTab oX11_undo tX11_undo := ⟨ofX11_undo, by decide +kernel⟩
def ct_297 : aCt := (mX11_undo, [ag_0], ([], []), [pon_734, pon_718], mdn_735, [], (nat_lit 2))
set_option maxRecDepth 100000 in
theorem S_297 : aSpec wd ct_297 := bChk_ok wx_ok btX11_undo (nds := []) (fk := []) (rk := (1, [])) (sp := 0) (fuel := 3000) (by decide +kernel) (lk_d S_288 ml_11_356 (lk_d S_295 ml_11_347 (lk_d S_296 ml_11_359 lk_n))) odX11_undo
def ag_736 : aAg := .inr (.inl [(nat_lit 178), (nat_lit 184), (nat_lit 190)])
def mdn_737 : List (Nat × Nat × Nat) := [((nat_lit 178), (nat_lit 0), (nat_lit 2)), ((nat_lit 179), (nat_lit 0), (nat_lit 5)), ((nat_lit 180), (nat_lit 0), (nat_lit 5)), ((nat_lit 181), (nat_lit 0), (nat_lit 8)), ((nat_lit 182), (nat_lit 0), (nat_lit 8)), ((nat_lit 183), (nat_lit 0), (nat_lit 8)), ((nat_lit 184), (nat_lit 0), (nat_lit 2)), ((nat_lit 185), (nat_lit 0), (nat_lit 5)), ((nat_lit 186), (nat_lit 0), (nat_lit 5)), ((nat_lit 187), (nat_lit 0), (nat_lit 8)), ((nat_lit 188), (nat_lit 0), (nat_lit 8)), ((nat_lit 189), (nat_lit 0), (nat_lit 8)), ((nat_lit 190), (nat_lit 0), (nat_lit 2)), ((nat_lit 191), (nat_lit 0), (nat_lit 5)), ((nat_lit 192), (nat_lit 0), (nat_lit 5)), ((nat_lit 193), (nat_lit 0), (nat_lit 8)), ((nat_lit 194), (nat_lit 0), (nat_lit 8)), ((nat_lit 195), (nat_lit 0), (nat_lit 8))]
def ct_298 : aCt := (mX2_copyFrom, [ag_736, ag_292], ([], []), [pon_49], mdn_737, [], (nat_lit 1))
set_option maxRecDepth 100000 in
theorem S_298 : aSpec wd ct_298 := bChk_ok wx_ok btX2_copyFrom (nds := []) (fk := []) (rk := (1, [])) (sp := 0) (fuel := 3000) (by decide +kernel) lk_n odX2_copyFrom
def sl_738 : (Nat × Nat) × aI := (((nat_lit 0), (nat_lit 15)), [((.ofNat (nat_lit 1)), (.ofNat (nat_lit 3)), (nat_lit 1))])
def pon_739 : aPo := (some (.inl aTop), [], [sl_304, sl_738, sl_344], [])
def sl_740 : (Nat × Nat) × aI := (((nat_lit 0), (nat_lit 2)), [((.ofNat (nat_lit 1)), (.ofNat (nat_lit 1)), (nat_lit 1)), ((.ofNat (nat_lit 3)), (.ofNat (nat_lit 3)), (nat_lit 1))])
def pon_741 : aPo := (some (.inl [((.negSucc (nat_lit 0)), (.negSucc (nat_lit 0)), (nat_lit 1))]), [], [sl_740], [])
def mdn_742 : List (Nat × Nat × Nat) := [((nat_lit 0), (nat_lit 2), (nat_lit 3)), ((nat_lit 0), (nat_lit 15), (nat_lit 16)), ((nat_lit 178), (nat_lit 0), (nat_lit 2)), ((nat_lit 179), (nat_lit 0), (nat_lit 5)), ((nat_lit 180), (nat_lit 0), (nat_lit 5)), ((nat_lit 181), (nat_lit 0), (nat_lit 8)), ((nat_lit 182), (nat_lit 0), (nat_lit 8)), ((nat_lit 183), (nat_lit 0), (nat_lit 8)), ((nat_lit 184), (nat_lit 0), (nat_lit 2)), ((nat_lit 185), (nat_lit 0), (nat_lit 5)), ((nat_lit 186), (nat_lit 0), (nat_lit 5)), ((nat_lit 187), (nat_lit 0), (nat_lit 8)), ((nat_lit 188), (nat_lit 0), (nat_lit 8)), ((nat_lit 189), (nat_lit 0), (nat_lit 8)), ((nat_lit 190), (nat_lit 0), (nat_lit 2)), ((nat_lit 191), (nat_lit 0), (nat_lit 5)), ((nat_lit 192), (nat_lit 0), (nat_lit 5)), ((nat_lit 193), (nat_lit 0), (nat_lit 8)), ((nat_lit 194), (nat_lit 0), (nat_lit 8)), ((nat_lit 195), (nat_lit 0), (nat_lit 8))]
set_option maxRecDepth 100000 in
theorem btX11_image : bTab oX11_image tX11_image := ⟨ofX11_image, by decide +kernel⟩
def ct_299 : aCt := (mX11_image, [ag_0], ([], [((0, 3), 2)]), [pon_739, pon_741], mdn_742, [], (nat_lit 2))
set_option maxRecDepth 100000 in
theorem S_299 : aSpec wd ct_299 := bChk_ok wx_ok btX11_image (nds := []) (fk := []) (rk := (1, [])) (sp := 0) (fuel := 3000) (by decide +kernel) (lk_d S_99 ml_11_222 (lk_d S_292 ml_11_98 (lk_d S_71 ml_11_98 (lk_d S_298 ml_11_359 (lk_d S_65 ml_11_112 lk_n))))) odX11_image
def ct_300 : aCt := (mX2_copyFrom, [ag_292, ag_736], ([], []), [pon_49], mdn_293, [], (nat_lit 1))
set_option maxRecDepth 100000 in
theorem S_300 : aSpec wd ct_300 := bChk_ok wx_ok btX2_copyFrom (nds := []) (fk := []) (rk := (1, [])) (sp := 0) (fuel := 3000) (by decide +kernel) lk_n odX2_copyFrom
def pon_743 : aPo := (some (.inl [((.ofNat (nat_lit 0)), (.ofNat (nat_lit 0)), (nat_lit 1))]), [none, some aTop], [sl_335], [])
def pon_744 : aPo := (some (.inl [((.ofNat (nat_lit 1)), (.ofNat (nat_lit 1)), (nat_lit 1))]), [none, some [((.ofNat (nat_lit 0)), (.ofNat (nat_lit 2)), (nat_lit 1))]], [sl_304, sl_738], [])
def mdn_745 : List (Nat × Nat × Nat) := [((nat_lit 0), (nat_lit 2), (nat_lit 3)), ((nat_lit 0), (nat_lit 13), (nat_lit 14)), ((nat_lit 86), (nat_lit 0), (nat_lit 2)), ((nat_lit 87), (nat_lit 0), (nat_lit 5)), ((nat_lit 88), (nat_lit 0), (nat_lit 5)), ((nat_lit 89), (nat_lit 0), (nat_lit 8)), ((nat_lit 90), (nat_lit 0), (nat_lit 8)), ((nat_lit 91), (nat_lit 0), (nat_lit 8))]
set_option maxRecDepth 100000 in
theorem btX11_back : bTab oX11_back tX11_back := ⟨ofX11_back, by decide +kernel⟩
def ct_301 : aCt := (mX11_back, [ag_0, ag_1], ([], []), [pon_743, pon_744], mdn_745, [], (nat_lit 2))
set_option maxRecDepth 100000 in
theorem S_301 : aSpec wd ct_301 := bChk_ok wx_ok btX11_back (nds := []) (fk := []) (rk := (1, [])) (sp := 0) (fuel := 3000) (by decide +kernel) (lk_d S_288 ml_11_356 (lk_d S_290 ml_11_347 (lk_d S_300 ml_11_359 lk_n))) odX11_back
def pon_746 : aPo := (some (.inl aTop), [none, some [((.ofNat (nat_lit 0)), (.ofNat (nat_lit 12)), (nat_lit 1))]], [], [])
def pon_747 : aPo := (some (.inl [((.negSucc (nat_lit 0)), (.negSucc (nat_lit 0)), (nat_lit 1))]), [none, some [((.negSucc (nat_lit 2147483647)), (.negSucc (nat_lit 0)), (nat_lit 1)), ((.ofNat (nat_lit 13)), (.ofNat (nat_lit 2147483647)), (nat_lit 1))]], [], [])
set_option maxRecDepth 100000 in
theorem btX11_size : bTab oX11_size tX11_size := ⟨ofX11_size, by decide +kernel⟩
def ct_302 : aCt := (mX11_size, [ag_0, ag_1], ([], [((0, 3), 2)]), [pon_746, pon_747], [], [], (nat_lit 0))
set_option maxRecDepth 100000 in
theorem S_302 : aSpec wd ct_302 := bChk_ok wx_ok btX11_size (nds := []) (fk := []) (rk := (1, [])) (sp := 0) (fuel := 3000) (by decide +kernel) lk_n odX11_size
set_option maxRecDepth 100000 in
theorem btX11_trouble : bTab oX11_trouble tX11_trouble := ⟨ofX11_trouble, by decide +kernel⟩
def ct_303 : aCt := (mX11_trouble, [ag_0], ([], []), [pon_267], [], [], (nat_lit 0))
set_option maxRecDepth 100000 in
theorem S_303 : aSpec wd ct_303 := bChk_ok wx_ok btX11_trouble (nds := []) (fk := []) (rk := (1, [])) (sp := 0) (fuel := 3000) (by decide +kernel) lk_n odX11_trouble
def ct_304 : aCt := (mX11_feed, [ag_0, ag_1, ag_1, ag_1, ag_1, ag_1], ([], []), [pon_18, pon_20], mdn_21, [], (nat_lit 1))
set_option maxRecDepth 100000 in
theorem S_304 : aSpec wd ct_304 := bChk_ok wx_ok btX11_feed (nds := []) (fk := []) (rk := (1, [])) (sp := 0) (fuel := 3000) (by decide +kernel) (lk_d S_0 ml_11_94 (lk_d S_1 ml_11_94 (lk_d S_2 ml_11_94 (lk_d S_3 ml_11_94 (lk_d S_4 ml_11_94 lk_n))))) odX11_feed
def sl_748 : (Nat × Nat) × aI := (((nat_lit 2), (nat_lit 5)), [((.ofNat (nat_lit 0)), (.ofNat (nat_lit 0)), (nat_lit 1))])
def sl_749 : (Nat × Nat) × aI := (((nat_lit 2), (nat_lit 7)), [((.ofNat (nat_lit 0)), (.ofNat (nat_lit 0)), (nat_lit 1))])
def sl_750 : (Nat × Nat) × aI := (((nat_lit 2), (nat_lit 8)), [((.ofNat (nat_lit 0)), (.ofNat (nat_lit 0)), (nat_lit 1))])
def pon_751 : aPo := (none, [], [sl_385, sl_748, sl_317, sl_749, sl_750], [])
def mdn_752 : List (Nat × Nat × Nat) := [((nat_lit 2), (nat_lit 0), (nat_lit 9))]
def ct_305 : aCt := (mX4_clear, [ag_360], ([], []), [pon_751], mdn_752, [], (nat_lit 0))
set_option maxRecDepth 100000 in
theorem S_305 : aSpec wd ct_305 := bChk_ok wx_ok btX4_clear (nds := []) (fk := []) (rk := (1, [])) (sp := 0) (fuel := 3000) (by decide +kernel) lk_n odX4_clear
def ct_306 : aCt := (mX5_songOfToken, [ag_34], ([], [((82, 6), 2)]), [pon_130, pon_52], [], [], (nat_lit 0))
set_option maxRecDepth 100000 in
theorem S_306 : aSpec wd ct_306 := bChk_ok wx_ok btX5_songOfToken (nds := [((nat_lit 31), [lcn_40, lcn_131, lcn_132, lcn_60], [], [], [((82, 6), 2)], (1000, [(2, -1)]))]) (fk := []) (rk := (1001, [])) (sp := 2147483648) (fuel := 3000) (by decide +kernel) lk_n odX5_songOfToken
def sl_753 : (Nat × Nat) × aI := (((nat_lit 2), (nat_lit 4)), [((.ofNat (nat_lit 0)), (.ofNat (nat_lit 6)), (nat_lit 1))])
def sl_754 : (Nat × Nat) × aI := (((nat_lit 2), (nat_lit 4)), [((.ofNat (nat_lit 1)), (.ofNat (nat_lit 6)), (nat_lit 1))])
def pon_755 : aPo := (some (.inl [((.ofNat (nat_lit 1)), (.ofNat (nat_lit 1)), (nat_lit 1))]), [], [sl_754], [])
def ct_307 : aCt := (mX4_hasSong, [ag_360, ag_136, ag_137], ([sl_753], []), [pon_37, pon_755], [], [], (nat_lit 0))
set_option maxRecDepth 100000 in
theorem S_307 : aSpec wd ct_307 := bChk_ok wx_ok btX4_hasSong (nds := [((nat_lit 2), [lcn_381, lcn_142, lcn_143, lcn_144], [], [sl_753], [], (6, [(2, -1)]))]) (fk := []) (rk := (7, [])) (sp := 4) (fuel := 3000) (by decide +kernel) lk_n odX4_hasSong
def pon_756 : aPo := (some (.inl [((.ofNat (nat_lit 0)), (.ofNat (nat_lit 0)), (nat_lit 1))]), [], [sl_753, sl_145], [])
def pon_757 : aPo := (some (.inl [((.ofNat (nat_lit 1)), (.ofNat (nat_lit 1)), (nat_lit 1))]), [], [sl_344, sl_61, sl_54], [])
def mdn_758 : List (Nat × Nat × Nat) := [((nat_lit 2), (nat_lit 4), (nat_lit 5)), ((nat_lit 3), (nat_lit 0), (nat_lit 7)), ((nat_lit 4), (nat_lit 0), (nat_lit 7)), ((nat_lit 82), (nat_lit 2), (nat_lit 5)), ((nat_lit 82), (nat_lit 10), (nat_lit 13)), ((nat_lit 84), (nat_lit 0), (nat_lit 20)), ((nat_lit 85), (nat_lit 0), (nat_lit 20))]
def ct_308 : aCt := (mX5_readIsland, [ag_34], ([sl_753, sl_54], [((82, 6), 2)]), [pon_756, pon_757], mdn_758, [], (nat_lit 3))
set_option maxRecDepth 100000 in
theorem S_308 : aSpec wd ct_308 := bChk_ok wx_ok btX5_readIsland (nds := []) (fk := []) (rk := (1, [])) (sp := 0) (fuel := 3000) (by decide +kernel) (lk_d S_306 ml_5_161 (lk_d S_10 ml_5_70 (lk_d S_12 ml_5_76 (lk_d S_18 ml_5_76 (lk_d S_15 ml_5_76 (lk_d S_16 ml_5_158 (lk_d S_307 ml_5_164 lk_n))))))) odX5_readIsland
def mdn_759 : List (Nat × Nat × Nat) := [((nat_lit 2), (nat_lit 0), (nat_lit 4)), ((nat_lit 82), (nat_lit 2), (nat_lit 6)), ((nat_lit 82), (nat_lit 11), (nat_lit 13))]
def ct_309 : aCt := (mX5_readHead, [ag_34], ([sl_54], [((82, 6), 2)]), [pon_163, pon_187], mdn_759, [], (nat_lit 3))
set_option maxRecDepth 100000 in
theorem S_309 : aSpec wd ct_309 := bChk_ok wx_ok btX5_readHead (nds := []) (fk := []) (rk := (1, [])) (sp := 0) (fuel := 3000) (by decide +kernel) (lk_d S_26 ml_5_142 (lk_d S_27 ml_5_142 (lk_d S_28 ml_5_142 (lk_d S_25 ml_5_142 (lk_d S_23 ml_5_138 lk_n))))) odX5_readHead
def ag_760 : aAg := .inr (.inl [(nat_lit 26), (nat_lit 27), (nat_lit 28), (nat_lit 29), (nat_lit 30), (nat_lit 31), (nat_lit 32), (nat_lit 33)])
def sl_761 : (Nat × Nat) × aI := (((nat_lit 2), (nat_lit 7)), [((.ofNat (nat_lit 0)), (.ofNat (nat_lit 7)), (nat_lit 1))])
def pon_762 : aPo := (some (.inl [((.ofNat (nat_lit 0)), (.ofNat (nat_lit 0)), (nat_lit 1))]), [], [sl_761, sl_213], [])
def pon_763 : aPo := (some (.inl [((.ofNat (nat_lit 1)), (.ofNat (nat_lit 1)), (nat_lit 1))]), [], [sl_341, sl_208, sl_61, sl_54], [])
def mdn_764 : List (Nat × Nat × Nat) := [((nat_lit 2), (nat_lit 7), (nat_lit 8)), ((nat_lit 26), (nat_lit 0), (nat_lit 4)), ((nat_lit 27), (nat_lit 0), (nat_lit 4)), ((nat_lit 28), (nat_lit 0), (nat_lit 4)), ((nat_lit 29), (nat_lit 0), (nat_lit 4)), ((nat_lit 30), (nat_lit 0), (nat_lit 4)), ((nat_lit 31), (nat_lit 0), (nat_lit 4)), ((nat_lit 32), (nat_lit 0), (nat_lit 4)), ((nat_lit 33), (nat_lit 0), (nat_lit 4)), ((nat_lit 82), (nat_lit 2), (nat_lit 6)), ((nat_lit 82), (nat_lit 10), (nat_lit 13)), ((nat_lit 84), (nat_lit 0), (nat_lit 20)), ((nat_lit 85), (nat_lit 0), (nat_lit 20))]
def ct_310 : aCt := (mX5_readBox, [ag_34, ag_760], ([sl_761, sl_54], [((82, 6), 2)]), [pon_762, pon_763], mdn_764, [], (nat_lit 3))
set_option maxRecDepth 100000 in
theorem S_310 : aSpec wd ct_310 := bChk_ok wx_ok btX5_readBox (nds := []) (fk := []) (rk := (1, [])) (sp := 0) (fuel := 3000) (by decide +kernel) (lk_d S_34 ml_5_173 (lk_d S_33 ml_5_173 (lk_d S_35 ml_5_142 (lk_d S_36 ml_5_142 (lk_d S_30 ml_5_158 (lk_d S_23 ml_5_138 lk_n)))))) odX5_readBox
def ag_765 : aAg := .inr (.inl [(nat_lit 25)])
def pon_766 : aPo := (some (.inl [((.ofNat (nat_lit 0)), (.ofNat (nat_lit 0)), (nat_lit 1))]), [], [sl_325, sl_213], [])
def pon_767 : aPo := (some (.inl [((.ofNat (nat_lit 1)), (.ofNat (nat_lit 1)), (nat_lit 1))]), [], [sl_327, sl_219, sl_61, sl_54], [])
def mdn_768 : List (Nat × Nat × Nat) := [((nat_lit 2), (nat_lit 6), (nat_lit 7)), ((nat_lit 25), (nat_lit 0), (nat_lit 4)), ((nat_lit 82), (nat_lit 2), (nat_lit 6)), ((nat_lit 82), (nat_lit 10), (nat_lit 13)), ((nat_lit 84), (nat_lit 0), (nat_lit 20)), ((nat_lit 85), (nat_lit 0), (nat_lit 20))]
def ct_311 : aCt := (mX5_readWhale, [ag_34, ag_765], ([sl_325, sl_54], [((82, 6), 2)]), [pon_766, pon_767], mdn_768, [], (nat_lit 3))
set_option maxRecDepth 100000 in
theorem S_311 : aSpec wd ct_311 := bChk_ok wx_ok btX5_readWhale (nds := []) (fk := []) (rk := (1, [])) (sp := 0) (fuel := 3000) (by decide +kernel) (lk_d S_10 ml_5_70 (lk_d S_39 ml_5_195 (lk_d S_33 ml_5_173 (lk_d S_12 ml_5_76 (lk_d S_40 ml_5_142 (lk_d S_41 ml_5_142 (lk_d S_38 ml_5_158 (lk_d S_23 ml_5_138 lk_n)))))))) odX5_readWhale
end Pk2
