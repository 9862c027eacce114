section Pk0
def pon_538 : aPo := (some (.inl [((.negSucc (nat_lit 1)), (.negSucc (nat_lit 1)), (nat_lit 1)), ((.ofNat (nat_lit 0)), (.ofNat (nat_lit 4)), (nat_lit 1))]), [], [sl_334], [])
def pon_539 : aPo := (some (.inl [((.negSucc (nat_lit 1)), (.negSucc (nat_lit 1)), (nat_lit 1))]), [], [sl_314], [])
def lcn_540 : Nat × aAg := ((nat_lit 1), .inl [((.ofNat (nat_lit 0)), (.ofNat (nat_lit 7)), (nat_lit 1))])
def lcn_541 : Nat × aAg := ((nat_lit 2), .inl [((.negSucc (nat_lit 1)), (.negSucc (nat_lit 1)), (nat_lit 1))])
def lcn_542 : Nat × aAg := ((nat_lit 2), .inl [((.negSucc (nat_lit 1)), (.negSucc (nat_lit 1)), (nat_lit 1)), ((.ofNat (nat_lit 0)), (.ofNat (nat_lit 4)), (nat_lit 1))])
def lcn_543 : Nat × aAg := ((nat_lit 3), .inl [((.negSucc (nat_lit 2147483647)), (.negSucc (nat_lit 2)), (nat_lit 1)), ((.negSucc (nat_lit 0)), (.ofNat (nat_lit 2147483647)), (nat_lit 1))])
def lcn_544 : Nat × aAg := ((nat_lit 4), .inl [((.ofNat (nat_lit 1)), (.ofNat (nat_lit 5)), (nat_lit 1))])
def lcn_545 : Nat × aAg := ((nat_lit 5), .inl aTop)
def lcn_546 : Nat × aAg := ((nat_lit 2), .inl [((.negSucc (nat_lit 1)), (.negSucc (nat_lit 1)), (nat_lit 1)), ((.ofNat (nat_lit 0)), (.ofNat (nat_lit 3)), (nat_lit 1))])
def lcn_547 : Nat × aAg := ((nat_lit 4), .inl [((.ofNat (nat_lit 1)), (.ofNat (nat_lit 4)), (nat_lit 1))])
def lcn_548 : Nat × aAg := ((nat_lit 2), .inl [((.negSucc (nat_lit 1)), (.negSucc (nat_lit 1)), (nat_lit 1)), ((.ofNat (nat_lit 0)), (.ofNat (nat_lit 2)), (nat_lit 1))])
def lcn_549 : Nat × aAg := ((nat_lit 4), .inl [((.ofNat (nat_lit 1)), (.ofNat (nat_lit 3)), (nat_lit 1))])
def lcn_550 : Nat × aAg := ((nat_lit 2), .inl [((.negSucc (nat_lit 1)), (.negSucc (nat_lit 1)), (nat_lit 1)), ((.ofNat (nat_lit 0)), (.ofNat (nat_lit 1)), (nat_lit 1))])
def lcn_551 : Nat × aAg := ((nat_lit 4), .inl [((.ofNat (nat_lit 1)), (.ofNat (nat_lit 2)), (nat_lit 1))])
def lcn_552 : Nat × aAg := ((nat_lit 2), .inl [((.negSucc (nat_lit 1)), (.negSucc (nat_lit 1)), (nat_lit 1)), ((.ofNat (nat_lit 0)), (.ofNat (nat_lit 0)), (nat_lit 1))])
set_option maxRecDepth 100000 in
theorem btX6_soonestBringer : bTab oX6_soonestBringer tX6_soonestBringer := ⟨ofX6_soonestBringer, by decide +kernel⟩
def ct_173 : aCt := (mX6_soonestBringer, [ag_394, ag_190], ([], [((92, 0), 2), ((94, 0), 2)]), [pon_538, pon_539], mdn_534, [], (nat_lit 5))
set_option maxRecDepth 100000 in
theorem S_173 : aSpec wd ct_173 := bChk_ok wx_ok btX6_soonestBringer (nds := [((nat_lit 8), [lcn_396, lcn_540, lcn_541, lcn_101, lcn_421], [], [], [((92, 0), 2), ((94, 0), 2)], (8, [])), ((nat_lit 8), [lcn_396, lcn_540, lcn_542, lcn_543, lcn_544, lcn_545], [], [sl_324], [((92, 0), 2), ((94, 0), 2)], (5, [(3, -1)])), ((nat_lit 8), [lcn_396, lcn_540, lcn_546, lcn_543, lcn_547, lcn_545], [], [sl_322], [((92, 0), 2), ((94, 0), 2)], (4, [(3, -1)])), ((nat_lit 8), [lcn_396, lcn_540, lcn_548, lcn_543, lcn_549, lcn_545], [], [sl_320], [((92, 0), 2), ((94, 0), 2)], (3, [(3, -1)])), ((nat_lit 8), [lcn_396, lcn_540, lcn_550, lcn_543, lcn_551, lcn_545], [], [sl_318], [((92, 0), 2), ((94, 0), 2)], (4, [(1, -2), (3, -1)])), ((nat_lit 8), [lcn_396, lcn_540, lcn_552, lcn_543, lcn_423, lcn_545], [], [sl_316], [((92, 0), 2), ((94, 0), 2)], (0, []))]) (fk := [17]) (rk := (9, [])) (sp := 256) (fuel := 3000) (by decide +kernel) (lk_d S_171 ml_6_155 (lk_d S_170 ml_6_155 (lk_d S_169 ml_6_155 (lk_d S_168 ml_6_155 (lk_d S_167 ml_6_155 lk_n))))) odX6_soonestBringer
set_option maxRecDepth 100000 in
theorem btX11_soonest : bTab oX11_soonest tX11_soonest := ⟨ofX11_soonest, by decide +kernel⟩
def ct_174 : aCt := (mX11_soonest, [ag_0, ag_1], ([], [((0, 3), 2), ((92, 0), 2), ((94, 0), 2)]), [pon_371, pon_333], mdn_537, [], (nat_lit 6))
set_option maxRecDepth 100000 in
theorem S_174 : aSpec wd ct_174 := bChk_ok wx_ok btX11_soonest (nds := []) (fk := []) (rk := (1, [])) (sp := 0) (fuel := 3000) (by decide +kernel) (lk_d S_63 ml_11_98 (lk_d S_173 ml_11_286 (lk_d S_65 ml_11_147 (lk_d S_57 ml_11_112 lk_n)))) odX11_soonest
def ag_553 : aAg := .inl [((.negSucc (nat_lit 1)), (.negSucc (nat_lit 1)), (nat_lit 1)), ((.ofNat (nat_lit 0)), (.ofNat (nat_lit 4)), (nat_lit 1))]
def lcn_554 : Nat × aAg := ((nat_lit 3), .inl [((.negSucc (nat_lit 1)), (.negSucc (nat_lit 1)), (nat_lit 1))])
def lcn_555 : Nat × aAg := ((nat_lit 3), .inl [((.negSucc (nat_lit 1)), (.negSucc (nat_lit 1)), (nat_lit 1)), ((.ofNat (nat_lit 0)), (.ofNat (nat_lit 4)), (nat_lit 1))])
def lcn_556 : Nat × aAg := ((nat_lit 3), .inl [((.negSucc (nat_lit 1)), (.negSucc (nat_lit 1)), (nat_lit 1)), ((.ofNat (nat_lit 0)), (.ofNat (nat_lit 3)), (nat_lit 1))])
def lcn_557 : Nat × aAg := ((nat_lit 3), .inl [((.negSucc (nat_lit 1)), (.negSucc (nat_lit 1)), (nat_lit 1)), ((.ofNat (nat_lit 0)), (.ofNat (nat_lit 2)), (nat_lit 1))])
def lcn_558 : Nat × aAg := ((nat_lit 3), .inl [((.negSucc (nat_lit 1)), (.negSucc (nat_lit 1)), (nat_lit 1)), ((.ofNat (nat_lit 0)), (.ofNat (nat_lit 1)), (nat_lit 1))])
def lcn_559 : Nat × aAg := ((nat_lit 3), .inl [((.negSucc (nat_lit 1)), (.negSucc (nat_lit 1)), (nat_lit 1)), ((.ofNat (nat_lit 0)), (.ofNat (nat_lit 0)), (nat_lit 1))])
set_option maxRecDepth 100000 in
theorem btX6_surestBringer : bTab oX6_surestBringer tX6_surestBringer := ⟨ofX6_surestBringer, by decide +kernel⟩
def ct_175 : aCt := (mX6_surestBringer, [ag_394, ag_190, ag_553], ([], [((92, 0), 2), ((94, 0), 2)]), [pon_538, pon_539], mdn_534, [], (nat_lit 5))
set_option maxRecDepth 100000 in
theorem S_175 : aSpec wd ct_175 := bChk_ok wx_ok btX6_surestBringer (nds := [((nat_lit 6), [lcn_396, lcn_540, lcn_542, lcn_554, lcn_421], [], [], [((92, 0), 2), ((94, 0), 2)], (8, [])), ((nat_lit 6), [lcn_396, lcn_540, lcn_542, lcn_555, lcn_544, lcn_525], [], [sl_324], [((92, 0), 2), ((94, 0), 2)], (5, [(3, -1)])), ((nat_lit 6), [lcn_396, lcn_540, lcn_542, lcn_556, lcn_547, lcn_525], [], [sl_322], [((92, 0), 2), ((94, 0), 2)], (4, [(3, -1)])), ((nat_lit 6), [lcn_396, lcn_540, lcn_542, lcn_557, lcn_549, lcn_525], [], [sl_320], [((92, 0), 2), ((94, 0), 2)], (3, [(3, -1)])), ((nat_lit 6), [lcn_396, lcn_540, lcn_542, lcn_558, lcn_551, lcn_525], [], [sl_318], [((92, 0), 2), ((94, 0), 2)], (4, [(2, -2), (3, -1)])), ((nat_lit 6), [lcn_396, lcn_540, lcn_542, lcn_559, lcn_423, lcn_470], [], [sl_316], [((92, 0), 2), ((94, 0), 2)], (0, []))]) (fk := [15]) (rk := (9, [])) (sp := 64) (fuel := 3000) (by decide +kernel) (lk_d S_171 ml_6_155 (lk_d S_170 ml_6_155 (lk_d S_169 ml_6_155 (lk_d S_168 ml_6_155 (lk_d S_167 ml_6_155 lk_n))))) odX6_surestBringer
set_option maxRecDepth 100000 in
theorem btX11_surest : bTab oX11_surest tX11_surest := ⟨ofX11_surest, by decide +kernel⟩
def ct_176 : aCt := (mX11_surest, [ag_0, ag_1], ([], [((0, 3), 2), ((92, 0), 2), ((94, 0), 2)]), [pon_371, pon_333], mdn_537, [], (nat_lit 6))
set_option maxRecDepth 100000 in
theorem S_176 : aSpec wd ct_176 := bChk_ok wx_ok btX11_surest (nds := []) (fk := []) (rk := (1, [])) (sp := 0) (fuel := 3000) (by decide +kernel) (lk_d S_63 ml_11_98 (lk_d S_175 ml_11_289 (lk_d S_65 ml_11_147 (lk_d S_57 ml_11_112 lk_n)))) odX11_surest
def ag_560 : aAg := .inl [((.ofNat (nat_lit 0)), (.ofNat (nat_lit 99999)), (nat_lit 1))]
def pon_561 : aPo := (some (.inl [((.ofNat (nat_lit 0)), (.ofNat (nat_lit 31)), (nat_lit 1))]), [], [sl_334], [])
def pon_562 : aPo := (some (.inl [((.ofNat (nat_lit 0)), (.ofNat (nat_lit 0)), (nat_lit 1))]), [], [sl_314], [])
def lcn_563 : Nat × aAg := ((nat_lit 2), .inl [((.ofNat (nat_lit 0)), (.ofNat (nat_lit 99999)), (nat_lit 1))])
def lcn_564 : Nat × aAg := ((nat_lit 3), .inl [((.ofNat (nat_lit 0)), (.ofNat (nat_lit 31)), (nat_lit 1))])
def lcn_565 : Nat × aAg := ((nat_lit 3), .inl [((.ofNat (nat_lit 0)), (.ofNat (nat_lit 15)), (nat_lit 1))])
set_option maxRecDepth 100000 in
theorem btX6_bringersBy : bTab oX6_bringersBy tX6_bringersBy := ⟨ofX6_bringersBy, by decide +kernel⟩
def ct_177 : aCt := (mX6_bringersBy, [ag_394, ag_190, ag_560], ([], [((92, 0), 2), ((94, 0), 2)]), [pon_561, pon_562], mdn_534, [], (nat_lit 5))
set_option maxRecDepth 100000 in
theorem S_177 : aSpec wd ct_177 := bChk_ok wx_ok btX6_bringersBy (nds := [((nat_lit 5), [lcn_396, lcn_540, lcn_563, lcn_101, lcn_421], [], [], [((92, 0), 2), ((94, 0), 2)], (5, [])), ((nat_lit 5), [lcn_396, lcn_540, lcn_563, lcn_564, lcn_544, lcn_545], [], [sl_324], [((92, 0), 2), ((94, 0), 2)], (5, [(3, -1)])), ((nat_lit 5), [lcn_396, lcn_540, lcn_563, lcn_565, lcn_547, lcn_545], [], [sl_322], [((92, 0), 2), ((94, 0), 2)], (4, [(3, -1)])), ((nat_lit 5), [lcn_396, lcn_540, lcn_563, lcn_438, lcn_549, lcn_545], [], [sl_320], [((92, 0), 2), ((94, 0), 2)], (3, [(3, -1)])), ((nat_lit 5), [lcn_396, lcn_540, lcn_563, lcn_427, lcn_551, lcn_545], [], [sl_318], [((92, 0), 2), ((94, 0), 2)], (2, [(3, -1)])), ((nat_lit 5), [lcn_396, lcn_540, lcn_563, lcn_422, lcn_423, lcn_545], [], [sl_316], [((92, 0), 2), ((94, 0), 2)], (0, []))]) (fk := [14]) (rk := (6, [])) (sp := 32) (fuel := 3000) (by decide +kernel) (lk_d S_171 ml_6_155 (lk_d S_170 ml_6_155 (lk_d S_169 ml_6_155 (lk_d S_168 ml_6_155 (lk_d S_167 ml_6_155 lk_n))))) odX6_bringersBy
def pon_566 : aPo := (some (.inl aTop), [none, some [((.ofNat (nat_lit 0)), (.ofNat (nat_lit 7)), (nat_lit 1))], some [((.ofNat (nat_lit 0)), (.ofNat (nat_lit 99999)), (nat_lit 1))]], [sl_301, sl_338], [])
set_option maxRecDepth 100000 in
theorem btX11_by : bTab oX11_by tX11_by := ⟨ofX11_by, by decide +kernel⟩
def ct_178 : aCt := (mX11_by, [ag_0, ag_1, ag_1], ([], [((0, 3), 2), ((92, 0), 2), ((94, 0), 2)]), [pon_566, pon_390], mdn_537, [], (nat_lit 6))
set_option maxRecDepth 100000 in
theorem S_178 : aSpec wd ct_178 := bChk_ok wx_ok btX11_by (nds := []) (fk := []) (rk := (1, [])) (sp := 0) (fuel := 3000) (by decide +kernel) (lk_d S_6 ml_11_98 (lk_d S_63 ml_11_98 (lk_d S_177 ml_11_292 (lk_d S_65 ml_11_147 (lk_d S_92 ml_11_227 (lk_d S_57 ml_11_112 lk_n)))))) odX11_by
def sl_567 : (Nat × Nat) × aI := (((nat_lit 0), (nat_lit 2)), [((.ofNat (nat_lit 6)), (.ofNat (nat_lit 6)), (nat_lit 1))])
def pon_568 : aPo := (some (.inl [((.negSucc (nat_lit 0)), (.negSucc (nat_lit 0)), (nat_lit 1))]), [], [sl_567], [])
def ct_179 : aCt := (mX11_refused, [ag_0, ag_153], ([], []), [pon_568], mdn_25, [], (nat_lit 0))
set_option maxRecDepth 100000 in
theorem S_179 : aSpec wd ct_179 := bChk_ok wx_ok btX11_refused (nds := []) (fk := []) (rk := (1, [])) (sp := 0) (fuel := 3000) (by decide +kernel) lk_n odX11_refused
def pon_569 : aPo := (some (.inl [((.ofNat (nat_lit 1)), (.ofNat (nat_lit 2147483647)), (nat_lit 1))]), [], [], [])
def lcn_570 : Nat × aAg := ((nat_lit 0), .inl [((.ofNat (nat_lit 100)), (.ofNat (nat_lit 100)), (nat_lit 1))])
def lcn_571 : Nat × aAg := ((nat_lit 2), .inl [((.negSucc (nat_lit 2147483647)), (.negSucc (nat_lit 0)), (nat_lit 1)), ((.ofNat (nat_lit 1)), (.ofNat (nat_lit 2147483647)), (nat_lit 1))])
def lcn_572 : Nat × aAg := ((nat_lit 4), .inl [((.ofNat (nat_lit 0)), (.ofNat (nat_lit 47)), (nat_lit 1))])
set_option maxRecDepth 100000 in
theorem btX11_commonDivisor : bTab oX11_commonDivisor tX11_commonDivisor := ⟨ofX11_commonDivisor, by decide +kernel⟩
def ct_180 : aCt := (mX11_commonDivisor, [ag_183, ag_1], ([], []), [pon_569], [], [], (nat_lit 1))
set_option maxRecDepth 100000 in
theorem S_180 : aSpec wd ct_180 := bChk_ok wx_ok btX11_commonDivisor (nds := [((nat_lit 7), [lcn_570, lcn_271, lcn_571, lcn_517, lcn_572], [], [], [], (47, [(3, -1)]))]) (fk := []) (rk := (48, [])) (sp := 128) (fuel := 3000) (by decide +kernel) lk_n odX11_commonDivisor
def ag_573 : aAg := .inl [((.ofNat (nat_lit 10000)), (.ofNat (nat_lit 10000)), (nat_lit 1))]
def lcn_574 : Nat × aAg := ((nat_lit 0), .inl [((.ofNat (nat_lit 10000)), (.ofNat (nat_lit 10000)), (nat_lit 1))])
def ct_181 : aCt := (mX11_commonDivisor, [ag_573, ag_1], ([], []), [pon_569], [], [], (nat_lit 1))
set_option maxRecDepth 100000 in
theorem S_181 : aSpec wd ct_181 := bChk_ok wx_ok btX11_commonDivisor (nds := [((nat_lit 7), [lcn_574, lcn_271, lcn_571, lcn_517, lcn_572], [], [], [], (47, [(3, -1)]))]) (fk := []) (rk := (48, [])) (sp := 128) (fuel := 3000) (by decide +kernel) lk_n odX11_commonDivisor
def sl_575 : (Nat × Nat) × aI := (((nat_lit 0), (nat_lit 2)), [((.ofNat (nat_lit 0)), (.ofNat (nat_lit 1)), (nat_lit 1)), ((.ofNat (nat_lit 6)), (.ofNat (nat_lit 6)), (nat_lit 1))])
def pon_576 : aPo := (some (.inr ()), [], [sl_575], [])
set_option maxRecDepth 100000 in
theorem btX11_registered : bTab oX11_registered tX11_registered := ⟨ofX11_registered, by decide +kernel⟩
def ct_182 : aCt := (mX11_registered, [ag_0, ag_1, ag_535], ([], [((0, 3), 2), ((92, 0), 2), ((94, 0), 2)]), [pon_576], mdn_537, [], (nat_lit 6))
set_option maxRecDepth 100000 in
theorem S_182 : aSpec wd ct_182 := bChk_ok wx_ok btX11_registered (nds := []) (fk := []) (rk := (1, [])) (sp := 0) (fuel := 3000) (by decide +kernel) (lk_d S_179 ml_11_98 (lk_d S_63 ml_11_98 (lk_d S_175 ml_11_289 (lk_d S_65 ml_11_147 (lk_d S_180 ml_11_295 (lk_d S_57 ml_11_112 (lk_d S_181 ml_11_295 lk_n))))))) odX11_registered
def ag_577 : aAg := .inr (.inl [(nat_lit 103)])
def mdn_578 : List (Nat × Nat × Nat) := [((nat_lit 103), (nat_lit 0), (nat_lit 288))]
def lcn_579 : Nat × aAg := ((nat_lit 0), .inr (.inl [(nat_lit 103)]))
def lcn_580 : Nat × aAg := ((nat_lit 2), .inl [((.ofNat (nat_lit 0)), (.ofNat (nat_lit 363)), (nat_lit 1))])
def lcn_581 : Nat × aAg := ((nat_lit 3), .inl [((.ofNat (nat_lit 288)), (.ofNat (nat_lit 288)), (nat_lit 1))])
def ct_183 : aCt := (mJ7_fill_53178, [ag_577, ag_170], ([], []), [pon_49], mdn_578, [], (nat_lit 0))
set_option maxRecDepth 100000 in
theorem S_183 : aSpec wd ct_183 := bChk_ok wx_ok btJ7_fill_53178 (nds := [((nat_lit 5), [lcn_579, lcn_175, lcn_580, lcn_581], [], [], [], (363, [(0, -1)]))]) (fk := []) (rk := (364, [])) (sp := 32) (fuel := 3000) (by decide +kernel) lk_n odJ7_fill_53178
def ag_582 : aAg := .inr (.inl [(nat_lit 100)])
def mdn_583 : List (Nat × Nat × Nat) := [((nat_lit 100), (nat_lit 2), (nat_lit 4))]
def lcn_584 : Nat × aAg := ((nat_lit 0), .inr (.inl [(nat_lit 100)]))
def sl_585 : (Nat × Nat) × aI := (((nat_lit 100), (nat_lit 2)), [((.ofNat (nat_lit 0)), (.ofNat (nat_lit 0)), (nat_lit 1))])
def sl_586 : (Nat × Nat) × aI := (((nat_lit 100), (nat_lit 3)), [((.ofNat (nat_lit 0)), (.ofNat (nat_lit 0)), (nat_lit 1))])
set_option maxRecDepth 100000 in
theorem btX1_choose : bTab oX1_choose tX1_choose := ⟨ofX1_choose, by decide +kernel⟩
def ct_184 : aCt := (mX1_choose, [ag_582, ag_170, ag_410], ([], []), [pon_49], mdn_583, [], (nat_lit 0))
set_option maxRecDepth 100000 in
theorem S_184 : aSpec wd ct_184 := bChk_ok wx_ok btX1_choose (nds := [((nat_lit 15), [lcn_584, lcn_175, lcn_293, lcn_101, lcn_421], [], [sl_585, sl_586], [], (0, []))]) (fk := []) (rk := (1, [])) (sp := 32768) (fuel := 3000) (by decide +kernel) lk_n odX1_choose
def mdn_587 : List (Nat × Nat × Nat) := [((nat_lit 100), (nat_lit 2), (nat_lit 4)), ((nat_lit 103), (nat_lit 0), (nat_lit 288))]
def lcn_588 : Nat × aAg := ((nat_lit 3), .inl [((.negSucc (nat_lit 0)), (.negSucc (nat_lit 0)), (nat_lit 1))])
set_option maxRecDepth 100000 in
theorem btX1_solve : bTab oX1_solve tX1_solve := ⟨ofX1_solve, by decide +kernel⟩
def ct_185 : aCt := (mX1_solve, [ag_582, ag_170, ag_410], ([], []), [pon_49], mdn_587, [], (nat_lit 1))
set_option maxRecDepth 100000 in
theorem S_185 : aSpec wd ct_185 := bChk_ok wx_ok btX1_solve (nds := [((nat_lit 12), [lcn_584, lcn_175, lcn_293, lcn_588], [], [], [], (0, []))]) (fk := []) (rk := (1, [])) (sp := 4096) (fuel := 3000) (by decide +kernel) (lk_d S_183 ml_1_28 (lk_d S_184 ml_1_44 lk_n)) odX1_solve
def lcn_589 : Nat × aAg := ((nat_lit 2), .inl [((.ofNat (nat_lit 0)), (.ofNat (nat_lit 0)), (nat_lit 1))])
set_option maxRecDepth 100000 in
theorem btX1_firstBest : bTab oX1_firstBest tX1_firstBest := ⟨ofX1_firstBest, by decide +kernel⟩
def ct_186 : aCt := (mX1_firstBest, [ag_582, ag_190, ag_170, ag_170], ([], []), [pon_52], [], [], (nat_lit 0))
set_option maxRecDepth 100000 in
theorem S_186 : aSpec wd ct_186 := bChk_ok wx_ok btX1_firstBest (nds := [((nat_lit 3), [lcn_584, lcn_540, lcn_589, lcn_101, lcn_421], [], [], [], (0, []))]) (fk := []) (rk := (1, [])) (sp := 8) (fuel := 3000) (by decide +kernel) lk_n odX1_firstBest
def ag_590 : aAg := .inl [((.ofNat (nat_lit 1)), (.ofNat (nat_lit 8)), (nat_lit 1))]
def mdn_591 : List (Nat × Nat × Nat) := [((nat_lit 100), (nat_lit 2), (nat_lit 4)), ((nat_lit 102), (nat_lit 0), (nat_lit 8))]
def lcn_592 : Nat × aAg := ((nat_lit 1), .inl [((.ofNat (nat_lit 1)), (.ofNat (nat_lit 8)), (nat_lit 1))])
def lcn_593 : Nat × aAg := ((nat_lit 4), .inl [((.ofNat (nat_lit 0)), (.ofNat (nat_lit 8)), (nat_lit 1))])
def ct_187 : aCt := (mX1_choose, [ag_582, ag_590, ag_170], ([], []), [pon_49], mdn_591, [], (nat_lit 1))
set_option maxRecDepth 100000 in
theorem S_187 : aSpec wd ct_187 := bChk_ok wx_ok btX1_choose (nds := [((nat_lit 15), [lcn_584, lcn_592, lcn_589, lcn_101, lcn_593], [], [sl_585, sl_586], [], (8, [(1, -1)]))]) (fk := []) (rk := (9, [])) (sp := 32768) (fuel := 3000) (by decide +kernel) (lk_d S_186 ml_1_49 lk_n) odX1_choose
def mdn_594 : List (Nat × Nat × Nat) := [((nat_lit 100), (nat_lit 2), (nat_lit 4)), ((nat_lit 102), (nat_lit 0), (nat_lit 8)), ((nat_lit 103), (nat_lit 0), (nat_lit 288))]
def lcn_595 : Nat × aAg := ((nat_lit 3), .inl [((.negSucc (nat_lit 0)), (.ofNat (nat_lit 7)), (nat_lit 1))])
def lcn_596 : Nat × aAg := ((nat_lit 6), .inl [((.ofNat (nat_lit 0)), (.ofNat (nat_lit 0)), (nat_lit 1))])
def ct_188 : aCt := (mX1_solve, [ag_582, ag_590, ag_170], ([], []), [pon_49], mdn_594, [], (nat_lit 2))
set_option maxRecDepth 100000 in
theorem S_188 : aSpec wd ct_188 := bChk_ok wx_ok btX1_solve (nds := [((nat_lit 12), [lcn_584, lcn_592, lcn_589, lcn_595], [], [], [], (9, [(1, 5)])), ((nat_lit 19), [lcn_584, lcn_592, lcn_589, lcn_438, lcn_451], [], [], [], (8, [(1, 5), (2, -2)])), ((nat_lit 46), [lcn_584, lcn_592, lcn_589, lcn_438, lcn_421, lcn_545, lcn_596], [], [], [], (7, [(1, 5)]))]) (fk := []) (rk := (45, [])) (sp := 70368744706048) (fuel := 3000) (by decide +kernel) (lk_d S_183 ml_1_28 (lk_d S_187 ml_1_44 lk_n)) odX1_solve
set_option maxRecDepth 100000 in
theorem btX1_worth : bTab oX1_worth tX1_worth := ⟨ofX1_worth, by decide +kernel⟩
def ct_189 : aCt := (mX1_worth, [ag_582, ag_190, ag_170, ag_535], ([], []), [pon_130, pon_52], [], [], (nat_lit 0))
set_option maxRecDepth 100000 in
theorem S_189 : aSpec wd ct_189 := bChk_ok wx_ok btX1_worth (nds := []) (fk := []) (rk := (1, [])) (sp := 0) (fuel := 3000) (by decide +kernel) lk_n odX1_worth
def ct_190 : aCt := (mX1_firstBest, [ag_582, ag_190, ag_53, ag_535], ([], []), [pon_52, pon_37], [], [], (nat_lit 1))
set_option maxRecDepth 100000 in
theorem S_190 : aSpec wd ct_190 := bChk_ok wx_ok btX1_firstBest (nds := [((nat_lit 3), [lcn_584, lcn_540, lcn_444, lcn_422, lcn_451], [], [], [], (1, [(2, -1)]))]) (fk := []) (rk := (2, [])) (sp := 8) (fuel := 3000) (by decide +kernel) (lk_d S_189 ml_1_34 lk_n) odX1_firstBest
def ct_191 : aCt := (mX1_choose, [ag_582, ag_590, ag_53], ([], []), [pon_49], mdn_591, [], (nat_lit 2))
set_option maxRecDepth 100000 in
theorem S_191 : aSpec wd ct_191 := bChk_ok wx_ok btX1_choose (nds := [((nat_lit 15), [lcn_584, lcn_592, lcn_444, lcn_422, lcn_593], [], [], [], (8, [(2, -1)]))]) (fk := []) (rk := (9, [])) (sp := 32768) (fuel := 3000) (by decide +kernel) (lk_d S_190 ml_1_49 lk_n) odX1_choose
def ct_192 : aCt := (mX1_solve, [ag_582, ag_590, ag_53], ([], []), [pon_49], mdn_594, [], (nat_lit 3))
set_option maxRecDepth 100000 in
theorem S_192 : aSpec wd ct_192 := bChk_ok wx_ok btX1_solve (nds := [((nat_lit 12), [lcn_584, lcn_592, lcn_444, lcn_595], [], [], [], (19, [(1, 10)])), ((nat_lit 19), [lcn_584, lcn_592, lcn_444, lcn_438, lcn_450], [], [], [], (18, [(1, 10), (2, -3)])), ((nat_lit 46), [lcn_584, lcn_592, lcn_444, lcn_438, lcn_451, lcn_545, lcn_473], [], [], [], (17, [(1, 10), (2, -3), (4, -1)]))]) (fk := []) (rk := (90, [])) (sp := 70368744706048) (fuel := 3000) (by decide +kernel) (lk_d S_183 ml_1_28 (lk_d S_191 ml_1_44 (lk_d S_189 ml_1_34 lk_n))) odX1_solve
def ct_193 : aCt := (mX1_worth, [ag_582, ag_190, ag_535, ag_361], ([], []), [pon_130, pon_52], [], [], (nat_lit 0))
set_option maxRecDepth 100000 in
theorem S_193 : aSpec wd ct_193 := bChk_ok wx_ok btX1_worth (nds := []) (fk := []) (rk := (1, [])) (sp := 0) (fuel := 3000) (by decide +kernel) lk_n odX1_worth
def lcn_597 : Nat × aAg := ((nat_lit 2), .inl [((.ofNat (nat_lit 2)), (.ofNat (nat_lit 2)), (nat_lit 1))])
def ct_194 : aCt := (mX1_firstBest, [ag_582, ag_190, ag_22, ag_361], ([], []), [pon_453, pon_52], [], [], (nat_lit 1))
set_option maxRecDepth 100000 in
theorem S_194 : aSpec wd ct_194 := bChk_ok wx_ok btX1_firstBest (nds := [((nat_lit 3), [lcn_584, lcn_540, lcn_597, lcn_427, lcn_450], [], [], [], (2, [(2, -1)]))]) (fk := []) (rk := (3, [])) (sp := 8) (fuel := 3000) (by decide +kernel) (lk_d S_193 ml_1_34 lk_n) odX1_firstBest
def ct_195 : aCt := (mX1_choose, [ag_582, ag_590, ag_22], ([], []), [pon_49], mdn_591, [], (nat_lit 2))
set_option maxRecDepth 100000 in
theorem S_195 : aSpec wd ct_195 := bChk_ok wx_ok btX1_choose (nds := [((nat_lit 15), [lcn_584, lcn_592, lcn_597, lcn_427, lcn_593], [], [], [], (8, [(2, -1)]))]) (fk := []) (rk := (9, [])) (sp := 32768) (fuel := 3000) (by decide +kernel) (lk_d S_194 ml_1_49 lk_n) odX1_choose
def lcn_598 : Nat × aAg := ((nat_lit 6), .inl [((.ofNat (nat_lit 0)), (.ofNat (nat_lit 2)), (nat_lit 1))])
def ct_196 : aCt := (mX1_solve, [ag_582, ag_590, ag_22], ([], []), [pon_49], mdn_594, [], (nat_lit 3))
set_option maxRecDepth 100000 in
theorem S_196 : aSpec wd ct_196 := bChk_ok wx_ok btX1_solve (nds := [((nat_lit 12), [lcn_584, lcn_592, lcn_597, lcn_595], [], [], [], (41, [(1, 21)])), ((nat_lit 19), [lcn_584, lcn_592, lcn_597, lcn_438, lcn_448], [], [], [], (40, [(1, 21), (2, -4)])), ((nat_lit 46), [lcn_584, lcn_592, lcn_597, lcn_438, lcn_449, lcn_545, lcn_598], [], [], [], (39, [(1, 21), (2, -4), (4, -1)]))]) (fk := []) (rk := (189, [])) (sp := 70368744706048) (fuel := 3000) (by decide +kernel) (lk_d S_183 ml_1_28 (lk_d S_195 ml_1_44 (lk_d S_193 ml_1_34 lk_n))) odX1_solve
def ct_197 : aCt := (mX1_worth, [ag_582, ag_190, ag_402, ag_190], ([], []), [pon_130, pon_52], [], [], (nat_lit 0))
set_option maxRecDepth 100000 in
theorem S_197 : aSpec wd ct_197 := bChk_ok wx_ok btX1_worth (nds := []) (fk := []) (rk := (1, [])) (sp := 0) (fuel := 3000) (by decide +kernel) lk_n odX1_worth
def pon_599 : aPo := (some (.inl [((.ofNat (nat_lit 0)), (.ofNat (nat_lit 2)), (nat_lit 1))]), [], [], [])
def ct_198 : aCt := (mX1_firstBest, [ag_582, ag_190, ag_122, ag_190], ([], []), [pon_599, pon_52], [], [], (nat_lit 1))
set_option maxRecDepth 100000 in
theorem S_198 : aSpec wd ct_198 := bChk_ok wx_ok btX1_firstBest (nds := [((nat_lit 3), [lcn_584, lcn_540, lcn_176, lcn_438, lcn_449], [], [], [], (3, [(2, -1)]))]) (fk := []) (rk := (4, [])) (sp := 8) (fuel := 3000) (by decide +kernel) (lk_d S_197 ml_1_34 lk_n) odX1_firstBest
def ct_199 : aCt := (mX1_choose, [ag_582, ag_590, ag_122], ([], []), [pon_49], mdn_591, [], (nat_lit 2))
set_option maxRecDepth 100000 in
theorem S_199 : aSpec wd ct_199 := bChk_ok wx_ok btX1_choose (nds := [((nat_lit 15), [lcn_584, lcn_592, lcn_176, lcn_438, lcn_593], [], [], [], (8, [(2, -1)]))]) (fk := []) (rk := (9, [])) (sp := 32768) (fuel := 3000) (by decide +kernel) (lk_d S_198 ml_1_49 lk_n) odX1_choose
def lcn_600 : Nat × aAg := ((nat_lit 6), .inl [((.ofNat (nat_lit 0)), (.ofNat (nat_lit 3)), (nat_lit 1))])
def ct_200 : aCt := (mX1_solve, [ag_582, ag_590, ag_122], ([], []), [pon_49], mdn_594, [], (nat_lit 3))
set_option maxRecDepth 100000 in
theorem S_200 : aSpec wd ct_200 := bChk_ok wx_ok btX1_solve (nds := [((nat_lit 12), [lcn_584, lcn_592, lcn_176, lcn_595], [], [], [], (91, [(1, 46)])), ((nat_lit 19), [lcn_584, lcn_592, lcn_176, lcn_438, lcn_593], [], [], [], (90, [(1, 46), (2, -5)])), ((nat_lit 46), [lcn_584, lcn_592, lcn_176, lcn_438, lcn_445, lcn_545, lcn_600], [], [], [], (89, [(1, 46), (2, -5), (4, -1)]))]) (fk := []) (rk := (414, [])) (sp := 70368744706048) (fuel := 3000) (by decide +kernel) (lk_d S_183 ml_1_28 (lk_d S_199 ml_1_44 (lk_d S_197 ml_1_34 lk_n))) odX1_solve
def ag_601 : aAg := .inl [((.ofNat (nat_lit 0)), (.ofNat (nat_lit 15)), (nat_lit 1))]
def ct_201 : aCt := (mX1_worth, [ag_582, ag_190, ag_361, ag_601], ([], []), [pon_130, pon_52], [], [], (nat_lit 0))
set_option maxRecDepth 100000 in
theorem S_201 : aSpec wd ct_201 := bChk_ok wx_ok btX1_worth (nds := []) (fk := []) (rk := (1, [])) (sp := 0) (fuel := 3000) (by decide +kernel) lk_n odX1_worth
def ct_202 : aCt := (mX1_firstBest, [ag_582, ag_190, ag_159, ag_601], ([], []), [pon_346, pon_52], [], [], (nat_lit 1))
set_option maxRecDepth 100000 in
theorem S_202 : aSpec wd ct_202 := bChk_ok wx_ok btX1_firstBest (nds := [((nat_lit 3), [lcn_584, lcn_540, lcn_168, lcn_565, lcn_448], [], [], [], (4, [(2, -1)]))]) (fk := []) (rk := (5, [])) (sp := 8) (fuel := 3000) (by decide +kernel) (lk_d S_201 ml_1_34 lk_n) odX1_firstBest
def ct_203 : aCt := (mX1_choose, [ag_582, ag_590, ag_159], ([], []), [pon_49], mdn_591, [], (nat_lit 2))
set_option maxRecDepth 100000 in
theorem S_203 : aSpec wd ct_203 := bChk_ok wx_ok btX1_choose (nds := [((nat_lit 15), [lcn_584, lcn_592, lcn_168, lcn_565, lcn_593], [], [], [], (8, [(2, -1)]))]) (fk := []) (rk := (9, [])) (sp := 32768) (fuel := 3000) (by decide +kernel) (lk_d S_202 ml_1_49 lk_n) odX1_choose
def lcn_602 : Nat × aAg := ((nat_lit 4), .inl [((.ofNat (nat_lit 0)), (.ofNat (nat_lit 16)), (nat_lit 1))])
def lcn_603 : Nat × aAg := ((nat_lit 4), .inl [((.ofNat (nat_lit 0)), (.ofNat (nat_lit 15)), (nat_lit 1))])
def lcn_604 : Nat × aAg := ((nat_lit 6), .inl [((.ofNat (nat_lit 0)), (.ofNat (nat_lit 4)), (nat_lit 1))])
def ct_204 : aCt := (mX1_solve, [ag_582, ag_590, ag_159], ([], []), [pon_49], mdn_594, [], (nat_lit 3))
set_option maxRecDepth 100000 in
theorem S_204 : aSpec wd ct_204 := bChk_ok wx_ok btX1_solve (nds := [((nat_lit 12), [lcn_584, lcn_592, lcn_168, lcn_595], [], [], [], (205, [(1, 103)])), ((nat_lit 19), [lcn_584, lcn_592, lcn_168, lcn_438, lcn_602], [], [], [], (204, [(1, 103), (2, -6)])), ((nat_lit 46), [lcn_584, lcn_592, lcn_168, lcn_438, lcn_603, lcn_545, lcn_604], [], [], [], (203, [(1, 103), (2, -6), (4, -1)]))]) (fk := []) (rk := (927, [])) (sp := 70368744706048) (fuel := 3000) (by decide +kernel) (lk_d S_183 ml_1_28 (lk_d S_203 ml_1_44 (lk_d S_201 ml_1_34 lk_n))) odX1_solve
def ag_605 : aAg := .inl [((.ofNat (nat_lit 0)), (.ofNat (nat_lit 31)), (nat_lit 1))]
def ct_205 : aCt := (mX1_worth, [ag_582, ag_190, ag_217, ag_605], ([], []), [pon_130, pon_52], [], [], (nat_lit 0))
set_option maxRecDepth 100000 in
theorem S_205 : aSpec wd ct_205 := bChk_ok wx_ok btX1_worth (nds := []) (fk := []) (rk := (1, [])) (sp := 0) (fuel := 3000) (by decide +kernel) lk_n odX1_worth
def pon_606 : aPo := (some (.inl [((.ofNat (nat_lit 0)), (.ofNat (nat_lit 4)), (nat_lit 1))]), [], [], [])
def lcn_607 : Nat × aAg := ((nat_lit 2), .inl [((.ofNat (nat_lit 5)), (.ofNat (nat_lit 5)), (nat_lit 1))])
def ct_206 : aCt := (mX1_firstBest, [ag_582, ag_190, ag_150, ag_605], ([], []), [pon_606, pon_52], [], [], (nat_lit 1))
set_option maxRecDepth 100000 in
theorem S_206 : aSpec wd ct_206 := bChk_ok wx_ok btX1_firstBest (nds := [((nat_lit 3), [lcn_584, lcn_540, lcn_607, lcn_564, lcn_447], [], [], [], (5, [(2, -1)]))]) (fk := []) (rk := (6, [])) (sp := 8) (fuel := 3000) (by decide +kernel) (lk_d S_205 ml_1_34 lk_n) odX1_firstBest
def ct_207 : aCt := (mX1_choose, [ag_582, ag_590, ag_150], ([], []), [pon_49], mdn_591, [], (nat_lit 2))
set_option maxRecDepth 100000 in
theorem S_207 : aSpec wd ct_207 := bChk_ok wx_ok btX1_choose (nds := [((nat_lit 15), [lcn_584, lcn_592, lcn_607, lcn_564, lcn_593], [], [], [], (8, [(2, -1)]))]) (fk := []) (rk := (9, [])) (sp := 32768) (fuel := 3000) (by decide +kernel) (lk_d S_206 ml_1_49 lk_n) odX1_choose
def lcn_608 : Nat × aAg := ((nat_lit 4), .inl [((.ofNat (nat_lit 0)), (.ofNat (nat_lit 32)), (nat_lit 1))])
def lcn_609 : Nat × aAg := ((nat_lit 4), .inl [((.ofNat (nat_lit 0)), (.ofNat (nat_lit 31)), (nat_lit 1))])
def lcn_610 : Nat × aAg := ((nat_lit 6), .inl [((.ofNat (nat_lit 0)), (.ofNat (nat_lit 5)), (nat_lit 1))])
def ct_208 : aCt := (mX1_solve, [ag_582, ag_590, ag_150], ([], []), [pon_49], mdn_594, [], (nat_lit 3))
set_option maxRecDepth 100000 in
theorem S_208 : aSpec wd ct_208 := bChk_ok wx_ok btX1_solve (nds := [((nat_lit 12), [lcn_584, lcn_592, lcn_607, lcn_595], [], [], [], (463, [(1, 232)])), ((nat_lit 19), [lcn_584, lcn_592, lcn_607, lcn_438, lcn_608], [], [], [], (462, [(1, 232), (2, -7)])), ((nat_lit 46), [lcn_584, lcn_592, lcn_607, lcn_438, lcn_609, lcn_545, lcn_610], [], [], [], (461, [(1, 232), (2, -7), (4, -1)]))]) (fk := []) (rk := (2088, [])) (sp := 70368744706048) (fuel := 3000) (by decide +kernel) (lk_d S_183 ml_1_28 (lk_d S_207 ml_1_44 (lk_d S_205 ml_1_34 lk_n))) odX1_solve
def mdn_611 : List (Nat × Nat × Nat) := [((nat_lit 92), (nat_lit 2), (nat_lit 4)), ((nat_lit 94), (nat_lit 4), (nat_lit 7)), ((nat_lit 95), (nat_lit 0), (nat_lit 7)), ((nat_lit 100), (nat_lit 2), (nat_lit 4)), ((nat_lit 101), (nat_lit 0), (nat_lit 40)), ((nat_lit 102), (nat_lit 0), (nat_lit 8)), ((nat_lit 103), (nat_lit 0), (nat_lit 288))]
def lcn_612 : Nat × aAg := ((nat_lit 2), .inl [((.ofNat (nat_lit 0)), (.ofNat (nat_lit 4)), (nat_lit 1))])
def lcn_613 : Nat × aAg := ((nat_lit 2), .inl [((.ofNat (nat_lit 0)), (.ofNat (nat_lit 3)), (nat_lit 1))])
def lcn_614 : Nat × aAg := ((nat_lit 2), .inl [((.ofNat (nat_lit 0)), (.ofNat (nat_lit 2)), (nat_lit 1))])
def lcn_615 : Nat × aAg := ((nat_lit 2), .inl [((.ofNat (nat_lit 0)), (.ofNat (nat_lit 1)), (nat_lit 1))])
def lcn_616 : Nat × aAg := ((nat_lit 1), .inl [((.ofNat (nat_lit 1)), (.ofNat (nat_lit 7)), (nat_lit 1))])
def sl_617 : (Nat × Nat) × aI := (((nat_lit 2), (nat_lit 7)), [((.ofNat (nat_lit 2)), (.ofNat (nat_lit 8)), (nat_lit 1))])
set_option maxRecDepth 100000 in
theorem btX11_solveMatch : bTab oX11_solveMatch tX11_solveMatch := ⟨ofX11_solveMatch, by decide +kernel⟩
def ct_209 : aCt := (mX11_solveMatch, [ag_0], ([sl_341], [((0, 3), 2), ((92, 0), 2), ((94, 0), 2)]), [pon_49], mdn_611, [], (nat_lit 5))
set_option maxRecDepth 100000 in
theorem S_209 : aSpec wd ct_209 := bChk_ok wx_ok btX11_solveMatch (nds := [((nat_lit 2), [lcn_407, lcn_175], [], [sl_341], [((0, 3), 2), ((92, 0), 2), ((94, 0), 2)], (63, [])), ((nat_lit 15), [lcn_407, lcn_175, lcn_589], [], [sl_341, sl_338], [((0, 3), 2), ((92, 0), 2), ((94, 0), 2)], (62, [])), ((nat_lit 15), [lcn_407, lcn_540, lcn_293], [], [sl_341, sl_324, sl_338], [((0, 3), 2), ((92, 0), 2), ((94, 0), 2)], (61, [(0, -7), (1, -1)])), ((nat_lit 15), [lcn_407, lcn_540, lcn_612], [], [sl_341, sl_322, sl_338], [((0, 3), 2), ((92, 0), 2), ((94, 0), 2)], (52, [(0, -6), (1, -1)])), ((nat_lit 15), [lcn_407, lcn_540, lcn_613], [], [sl_341, sl_320, sl_338], [((0, 3), 2), ((92, 0), 2), ((94, 0), 2)], (43, [(0, -5), (1, -1)])), ((nat_lit 15), [lcn_407, lcn_540, lcn_614], [], [sl_341, sl_318, sl_338], [((0, 3), 2), ((92, 0), 2), ((94, 0), 2)], (34, [(0, -4), (1, -1)])), ((nat_lit 15), [lcn_407, lcn_540, lcn_615], [], [sl_341, sl_316, sl_338], [((0, 3), 2), ((92, 0), 2), ((94, 0), 2)], (25, [(0, -3), (1, -1)])), ((nat_lit 2), [lcn_407, lcn_592, lcn_589], [], [sl_341, sl_314, sl_338], [((0, 3), 2), ((92, 0), 2), ((94, 0), 2)], (17, [(0, -2)])), ((nat_lit 2), [lcn_407, lcn_592, lcn_444], [], [sl_341, sl_316, sl_338], [((0, 3), 2), ((92, 0), 2), ((94, 0), 2)], (26, [(0, -3)])), ((nat_lit 15), [lcn_407, lcn_616, lcn_589], [], [sl_341, sl_314, sl_617], [((0, 3), 2), ((92, 0), 2), ((94, 0), 2)], (16, [(0, -2)])), ((nat_lit 2), [lcn_407, lcn_592, lcn_597], [], [sl_341, sl_318, sl_338], [((0, 3), 2), ((92, 0), 2), ((94, 0), 2)], (35, [(0, -4)])), ((nat_lit 2), [lcn_407, lcn_592, lcn_176], [], [sl_341, sl_320, sl_338], [((0, 3), 2), ((92, 0), 2), ((94, 0), 2)], (44, [(0, -5)])), ((nat_lit 2), [lcn_407, lcn_592, lcn_168], [], [sl_341, sl_322, sl_338], [((0, 3), 2), ((92, 0), 2), ((94, 0), 2)], (53, [(0, -6)])), ((nat_lit 2), [lcn_407, lcn_592, lcn_607], [], [sl_341, sl_324, sl_338], [((0, 3), 2), ((92, 0), 2), ((94, 0), 2)], (62, [(0, -7)]))]) (fk := [23]) (rk := (64, [])) (sp := 32772) (fuel := 3000) (by decide +kernel) (lk_d S_185 ml_11_404 (lk_d S_171 ml_11_283 (lk_d S_188 ml_11_404 (lk_d S_192 ml_11_404 (lk_d S_196 ml_11_404 (lk_d S_200 ml_11_404 (lk_d S_204 ml_11_404 (lk_d S_208 ml_11_404 (lk_d S_170 ml_11_283 (lk_d S_169 ml_11_283 (lk_d S_168 ml_11_283 (lk_d S_167 ml_11_283 lk_n)))))))))))) odX11_solveMatch
def mdn_618 : List (Nat × Nat × Nat) := [((nat_lit 0), (nat_lit 2), (nat_lit 3)), ((nat_lit 92), (nat_lit 2), (nat_lit 4)), ((nat_lit 94), (nat_lit 4), (nat_lit 7)), ((nat_lit 95), (nat_lit 0), (nat_lit 7)), ((nat_lit 100), (nat_lit 2), (nat_lit 4)), ((nat_lit 101), (nat_lit 0), (nat_lit 40)), ((nat_lit 102), (nat_lit 0), (nat_lit 8)), ((nat_lit 103), (nat_lit 0), (nat_lit 288))]
set_option maxRecDepth 100000 in
theorem btX11_match : bTab oX11_match tX11_match := ⟨ofX11_match, by decide +kernel⟩
def ct_210 : aCt := (mX11_match, [ag_0], ([], [((0, 3), 2), ((92, 0), 2), ((94, 0), 2)]), [pon_406, pon_412], mdn_618, [], (nat_lit 6))
set_option maxRecDepth 100000 in
theorem S_210 : aSpec wd ct_210 := bChk_ok wx_ok btX11_match (nds := []) (fk := []) (rk := (1, [])) (sp := 0) (fuel := 3000) (by decide +kernel) (lk_d S_209 ml_11_298 (lk_d S_91 ml_11_222 (lk_d S_63 ml_11_98 (lk_d S_57 ml_11_112 lk_n)))) odX11_match
set_option maxRecDepth 100000 in
theorem btX11_matchDays : bTab oX11_matchDays tX11_matchDays := ⟨ofX11_matchDays, by decide +kernel⟩
def ct_211 : aCt := (mX11_matchDays, [ag_0], ([], [((0, 3), 2), ((92, 0), 2), ((94, 0), 2)]), [pon_406, pon_412], mdn_618, [], (nat_lit 6))
set_option maxRecDepth 100000 in
theorem S_211 : aSpec wd ct_211 := bChk_ok wx_ok btX11_matchDays (nds := []) (fk := []) (rk := (1, [])) (sp := 0) (fuel := 3000) (by decide +kernel) (lk_d S_209 ml_11_298 (lk_d S_91 ml_11_222 (lk_d S_63 ml_11_98 (lk_d S_57 ml_11_112 lk_n)))) odX11_matchDays
def ct_212 : aCt := (mX11_solveMatch, [ag_0], ([sl_338], [((0, 3), 2), ((92, 0), 2), ((94, 0), 2)]), [pon_49], mdn_611, [], (nat_lit 5))
set_option maxRecDepth 100000 in
theorem S_212 : aSpec wd ct_212 := bChk_ok wx_ok btX11_solveMatch (nds := [((nat_lit 2), [lcn_407, lcn_175], [], [sl_338], [((0, 3), 2), ((92, 0), 2), ((94, 0), 2)], (63, [])), ((nat_lit 15), [lcn_407, lcn_175, lcn_589], [], [sl_338], [((0, 3), 2), ((92, 0), 2), ((94, 0), 2)], (62, [])), ((nat_lit 15), [lcn_407, lcn_540, lcn_293], [], [sl_324, sl_338], [((0, 3), 2), ((92, 0), 2), ((94, 0), 2)], (61, [(0, -7), (1, -1)])), ((nat_lit 15), [lcn_407, lcn_540, lcn_612], [], [sl_322, sl_338], [((0, 3), 2), ((92, 0), 2), ((94, 0), 2)], (52, [(0, -6), (1, -1)])), ((nat_lit 15), [lcn_407, lcn_540, lcn_613], [], [sl_320, sl_338], [((0, 3), 2), ((92, 0), 2), ((94, 0), 2)], (43, [(0, -5), (1, -1)])), ((nat_lit 15), [lcn_407, lcn_540, lcn_614], [], [sl_318, sl_338], [((0, 3), 2), ((92, 0), 2), ((94, 0), 2)], (34, [(0, -4), (1, -1)])), ((nat_lit 15), [lcn_407, lcn_540, lcn_615], [], [sl_316, sl_338], [((0, 3), 2), ((92, 0), 2), ((94, 0), 2)], (25, [(0, -3), (1, -1)])), ((nat_lit 2), [lcn_407, lcn_592, lcn_589], [], [sl_314, sl_338], [((0, 3), 2), ((92, 0), 2), ((94, 0), 2)], (17, [(0, -2)])), ((nat_lit 2), [lcn_407, lcn_592, lcn_444], [], [sl_316, sl_338], [((0, 3), 2), ((92, 0), 2), ((94, 0), 2)], (26, [(0, -3)])), ((nat_lit 15), [lcn_407, lcn_616, lcn_589], [], [sl_314, sl_617], [((0, 3), 2), ((92, 0), 2), ((94, 0), 2)], (16, [(0, -2)])), ((nat_lit 2), [lcn_407, lcn_592, lcn_597], [], [sl_318, sl_338], [((0, 3), 2), ((92, 0), 2), ((94, 0), 2)], (35, [(0, -4)])), ((nat_lit 2), [lcn_407, lcn_592, lcn_176], [], [sl_320, sl_338], [((0, 3), 2), ((92, 0), 2), ((94, 0), 2)], (44, [(0, -5)])), ((nat_lit 2), [lcn_407, lcn_592, lcn_168], [], [sl_322, sl_338], [((0, 3), 2), ((92, 0), 2), ((94, 0), 2)], (53, [(0, -6)])), ((nat_lit 2), [lcn_407, lcn_592, lcn_607], [], [sl_324, sl_338], [((0, 3), 2), ((92, 0), 2), ((94, 0), 2)], (62, [(0, -7)]))]) (fk := [23]) (rk := (64, [])) (sp := 32772) (fuel := 3000) (by decide +kernel) (lk_d S_171 ml_11_283 (lk_d S_188 ml_11_404 (lk_d S_192 ml_11_404 (lk_d S_196 ml_11_404 (lk_d S_200 ml_11_404 (lk_d S_204 ml_11_404 (lk_d S_208 ml_11_404 (lk_d S_170 ml_11_283 (lk_d S_169 ml_11_283 (lk_d S_168 ml_11_283 (lk_d S_167 ml_11_283 lk_n))))))))))) odX11_solveMatch
set_option maxRecDepth 100000 in
theorem btX11_matchOf : bTab oX11_matchOf tX11_matchOf := ⟨ofX11_matchOf, by decide +kernel⟩
def ct_213 : aCt := (mX11_matchOf, [ag_0, ag_1], ([], [((0, 3), 2), ((92, 0), 2), ((94, 0), 2)]), [pon_371, pon_333], mdn_618, [], (nat_lit 6))
set_option maxRecDepth 100000 in
theorem S_213 : aSpec wd ct_213 := bChk_ok wx_ok btX11_matchOf (nds := []) (fk := []) (rk := (1, [])) (sp := 0) (fuel := 3000) (by decide +kernel) (lk_d S_212 ml_11_298 (lk_d S_63 ml_11_98 (lk_d S_65 ml_11_147 (lk_d S_57 ml_11_112 lk_n)))) odX11_matchOf
def pon_619 : aPo := (some (.inl [((.ofNat (nat_lit 1)), (.ofNat (nat_lit 1)), (nat_lit 1))]), [none, some [((.ofNat (nat_lit 0)), (.ofNat (nat_lit 7)), (nat_lit 1))]], [], [])
def ct_214 : aCt := (mX11_isBox, [ag_0, ag_1], ([sl_338], [((0, 3), 2)]), [pon_373, pon_619], [], [], (nat_lit 0))
set_option maxRecDepth 100000 in
theorem S_214 : aSpec wd ct_214 := bChk_ok wx_ok btX11_isBox (nds := []) (fk := []) (rk := (1, [])) (sp := 0) (fuel := 3000) (by decide +kernel) lk_n odX11_isBox
def pon_620 : aPo := (some (.inl [((.ofNat (nat_lit 0)), (.ofNat (nat_lit 0)), (nat_lit 1))]), [none, some [((.negSucc (nat_lit 2147483647)), (.negSucc (nat_lit 0)), (nat_lit 1)), ((.ofNat (nat_lit 5)), (.ofNat (nat_lit 2147483647)), (nat_lit 1))]], [], [])
def pon_621 : aPo := (some (.inl [((.ofNat (nat_lit 1)), (.ofNat (nat_lit 1)), (nat_lit 1))]), [none, some [((.ofNat (nat_lit 0)), (.ofNat (nat_lit 4)), (nat_lit 1))]], [], [])
def ct_215 : aCt := (mX11_isWhale, [ag_0, ag_1], ([sl_324], [((0, 3), 2)]), [pon_620, pon_621], [], [], (nat_lit 0))
set_option maxRecDepth 100000 in
theorem S_215 : aSpec wd ct_215 := bChk_ok wx_ok btX11_isWhale (nds := []) (fk := [12]) (rk := (1, [])) (sp := 0) (fuel := 3000) (by decide +kernel) lk_n odX11_isWhale
def pon_622 : aPo := (some (.inl [((.negSucc (nat_lit 2147483647)), (.ofNat (nat_lit 2147483646)), (nat_lit 1))]), [], [sl_532], [])
set_option maxRecDepth 100000 in
theorem btX6_dayOfMeeting : bTab oX6_dayOfMeeting tX6_dayOfMeeting := ⟨ofX6_dayOfMeeting, by decide +kernel⟩
def ct_216 : aCt := (mX6_dayOfMeeting, [ag_394, ag_190, ag_217, ag_190, ag_217], ([sl_324], [((92, 0), 2), ((94, 0), 2)]), [pon_622, pon_52], mdn_534, [], (nat_lit 5))
set_option maxRecDepth 100000 in
theorem S_216 : aSpec wd ct_216 := bChk_ok wx_ok btX6_dayOfMeeting (nds := []) (fk := []) (rk := (1, [])) (sp := 0) (fuel := 3000) (by decide +kernel) (lk_d S_167 ml_6_155 lk_n) odX6_dayOfMeeting
def pon_623 : aPo := (some (.inl [((.ofNat (nat_lit 0)), (.ofNat (nat_lit 0)), (nat_lit 1))]), [none, some [((.negSucc (nat_lit 2147483647)), (.negSucc (nat_lit 0)), (nat_lit 1)), ((.ofNat (nat_lit 4)), (.ofNat (nat_lit 2147483647)), (nat_lit 1))]], [], [])
def pon_624 : aPo := (some (.inl [((.ofNat (nat_lit 1)), (.ofNat (nat_lit 1)), (nat_lit 1))]), [none, some [((.ofNat (nat_lit 0)), (.ofNat (nat_lit 3)), (nat_lit 1))]], [], [])
def ct_217 : aCt := (mX11_isWhale, [ag_0, ag_1], ([sl_322], [((0, 3), 2)]), [pon_623, pon_624], [], [], (nat_lit 0))
set_option maxRecDepth 100000 in
theorem S_217 : aSpec wd ct_217 := bChk_ok wx_ok btX11_isWhale (nds := []) (fk := [12]) (rk := (1, [])) (sp := 0) (fuel := 3000) (by decide +kernel) lk_n odX11_isWhale
def ct_218 : aCt := (mX6_dayOfMeeting, [ag_394, ag_190, ag_361, ag_190, ag_361], ([sl_322], [((92, 0), 2), ((94, 0), 2)]), [pon_622, pon_52], mdn_534, [], (nat_lit 5))
set_option maxRecDepth 100000 in
theorem S_218 : aSpec wd ct_218 := bChk_ok wx_ok btX6_dayOfMeeting (nds := []) (fk := []) (rk := (1, [])) (sp := 0) (fuel := 3000) (by decide +kernel) (lk_d S_168 ml_6_155 lk_n) odX6_dayOfMeeting
def pon_625 : aPo := (some (.inl [((.ofNat (nat_lit 0)), (.ofNat (nat_lit 0)), (nat_lit 1))]), [none, some [((.negSucc (nat_lit 2147483647)), (.negSucc (nat_lit 0)), (nat_lit 1)), ((.ofNat (nat_lit 3)), (.ofNat (nat_lit 2147483647)), (nat_lit 1))]], [], [])
def pon_626 : aPo := (some (.inl [((.ofNat (nat_lit 1)), (.ofNat (nat_lit 1)), (nat_lit 1))]), [none, some [((.ofNat (nat_lit 0)), (.ofNat (nat_lit 2)), (nat_lit 1))]], [], [])
def ct_219 : aCt := (mX11_isWhale, [ag_0, ag_1], ([sl_320], [((0, 3), 2)]), [pon_625, pon_626], [], [], (nat_lit 0))
set_option maxRecDepth 100000 in
theorem S_219 : aSpec wd ct_219 := bChk_ok wx_ok btX11_isWhale (nds := []) (fk := [12]) (rk := (1, [])) (sp := 0) (fuel := 3000) (by decide +kernel) lk_n odX11_isWhale
def ct_220 : aCt := (mX6_dayOfMeeting, [ag_394, ag_190, ag_402, ag_190, ag_402], ([sl_320], [((92, 0), 2), ((94, 0), 2)]), [pon_622, pon_52], mdn_534, [], (nat_lit 5))
set_option maxRecDepth 100000 in
theorem S_220 : aSpec wd ct_220 := bChk_ok wx_ok btX6_dayOfMeeting (nds := []) (fk := []) (rk := (1, [])) (sp := 0) (fuel := 3000) (by decide +kernel) (lk_d S_169 ml_6_155 lk_n) odX6_dayOfMeeting
def pon_627 : aPo := (some (.inl [((.ofNat (nat_lit 0)), (.ofNat (nat_lit 0)), (nat_lit 1))]), [none, some [((.negSucc (nat_lit 2147483647)), (.negSucc (nat_lit 0)), (nat_lit 1)), ((.ofNat (nat_lit 2)), (.ofNat (nat_lit 2147483647)), (nat_lit 1))]], [], [])
def pon_628 : aPo := (some (.inl [((.ofNat (nat_lit 1)), (.ofNat (nat_lit 1)), (nat_lit 1))]), [none, some [((.ofNat (nat_lit 0)), (.ofNat (nat_lit 1)), (nat_lit 1))]], [], [])
def ct_221 : aCt := (mX11_isWhale, [ag_0, ag_1], ([sl_318], [((0, 3), 2)]), [pon_627, pon_628], [], [], (nat_lit 0))
set_option maxRecDepth 100000 in
theorem S_221 : aSpec wd ct_221 := bChk_ok wx_ok btX11_isWhale (nds := []) (fk := [12]) (rk := (1, [])) (sp := 0) (fuel := 3000) (by decide +kernel) lk_n odX11_isWhale
def ct_222 : aCt := (mX6_dayOfMeeting, [ag_394, ag_190, ag_535, ag_190, ag_535], ([sl_318], [((92, 0), 2), ((94, 0), 2)]), [pon_622, pon_52], mdn_534, [], (nat_lit 5))
set_option maxRecDepth 100000 in
theorem S_222 : aSpec wd ct_222 := bChk_ok wx_ok btX6_dayOfMeeting (nds := []) (fk := []) (rk := (1, [])) (sp := 0) (fuel := 3000) (by decide +kernel) (lk_d S_170 ml_6_155 lk_n) odX6_dayOfMeeting
def pon_629 : aPo := (some (.inl [((.ofNat (nat_lit 1)), (.ofNat (nat_lit 1)), (nat_lit 1))]), [none, some [((.ofNat (nat_lit 0)), (.ofNat (nat_lit 0)), (nat_lit 1))]], [], [])
def ct_223 : aCt := (mX11_isWhale, [ag_0, ag_1], ([sl_316], [((0, 3), 2)]), [pon_373, pon_629], [], [], (nat_lit 0))
set_option maxRecDepth 100000 in
theorem S_223 : aSpec wd ct_223 := bChk_ok wx_ok btX11_isWhale (nds := []) (fk := [12]) (rk := (1, [])) (sp := 0) (fuel := 3000) (by decide +kernel) lk_n odX11_isWhale
def sl_630 : (Nat × Nat) × aI := (((nat_lit 2), (nat_lit 6)), [((.ofNat (nat_lit 2)), (.ofNat (nat_lit 5)), (nat_lit 1))])
def pon_631 : aPo := (some (.inl aTop), [none, some [((.ofNat (nat_lit 0)), (.ofNat (nat_lit 7)), (nat_lit 1))], some [((.ofNat (nat_lit 0)), (.ofNat (nat_lit 4)), (nat_lit 1))], some [((.ofNat (nat_lit 0)), (.ofNat (nat_lit 7)), (nat_lit 1))], some [((.ofNat (nat_lit 0)), (.ofNat (nat_lit 4)), (nat_lit 1))]], [sl_301, sl_630, sl_338], [])
set_option maxRecDepth 100000 in
theorem btX11_meet : bTab oX11_meet tX11_meet := ⟨ofX11_meet, by decide +kernel⟩
def ct_224 : aCt := (mX11_meet, [ag_0, ag_1, ag_1, ag_1, ag_1], ([], [((0, 3), 2), ((92, 0), 2), ((94, 0), 2)]), [pon_631, pon_333], mdn_537, [], (nat_lit 6))
set_option maxRecDepth 100000 in
theorem S_224 : aSpec wd ct_224 := bChk_ok wx_ok btX11_meet (nds := []) (fk := []) (rk := (1, [])) (sp := 0) (fuel := 3000) (by decide +kernel) (lk_d S_63 ml_11_98 (lk_d S_222 ml_11_310 (lk_d S_220 ml_11_310 (lk_d S_218 ml_11_310 (lk_d S_216 ml_11_310 (lk_d S_215 ml_11_121 (lk_d S_217 ml_11_121 (lk_d S_219 ml_11_121 (lk_d S_221 ml_11_121 (lk_d S_223 ml_11_121 (lk_d S_214 ml_11_147 (lk_d S_65 ml_11_147 (lk_d S_62 ml_11_121 (lk_d S_57 ml_11_112 lk_n)))))))))))))) odX11_meet
def sl_632 : (Nat × Nat) × aI := (((nat_lit 2), (nat_lit 8)), [((.ofNat (nat_lit 1)), (.ofNat (nat_lit 8)), (nat_lit 1))])
def pon_633 : aPo := (some (.inl [((.ofNat (nat_lit 0)), (.ofNat (nat_lit 0)), (nat_lit 1))]), [], [sl_632], [])
set_option maxRecDepth 100000 in
theorem btX6_isFitting : bTab oX6_isFitting tX6_isFitting := ⟨ofX6_isFitting, by decide +kernel⟩
def ct_225 : aCt := (mX6_isFitting, [ag_394, ag_217], ([sl_341, sl_334], [((94, 0), 2)]), [pon_633, pon_38], mdn_514, [], (nat_lit 3))
set_option maxRecDepth 100000 in
theorem S_225 : aSpec wd ct_225 := bChk_ok wx_ok btX6_isFitting (nds := [((nat_lit 18), [lcn_396, lcn_265, lcn_250, lcn_517, lcn_593], [], [sl_341, sl_334], [((94, 0), 2)], (8, [(3, -1)]))]) (fk := []) (rk := (9, [])) (sp := 262144) (fuel := 3000) (by decide +kernel) (lk_d S_163 ml_6_84 lk_n) odX6_isFitting
def pon_634 : aPo := (some (.inl [((.ofNat (nat_lit 0)), (.ofNat (nat_lit 31)), (nat_lit 1))]), [], [], [])
def lcn_635 : Nat × aAg := ((nat_lit 1), .inl [((.ofNat (nat_lit 0)), (.ofNat (nat_lit 31)), (nat_lit 1))])
set_option maxRecDepth 100000 in
theorem btX6_fittingWhales : bTab oX6_fittingWhales tX6_fittingWhales := ⟨ofX6_fittingWhales, by decide +kernel⟩
def ct_226 : aCt := (mX6_fittingWhales, [ag_394], ([sl_341], [((94, 0), 2)]), [pon_634], mdn_514, [], (nat_lit 4))
set_option maxRecDepth 100000 in
theorem S_226 : aSpec wd ct_226 := bChk_ok wx_ok btX6_fittingWhales (nds := [((nat_lit 4), [lcn_396, lcn_635, lcn_293], [], [sl_341], [((94, 0), 2)], (5, [(1, -1)]))]) (fk := []) (rk := (6, [])) (sp := 16) (fuel := 3000) (by decide +kernel) (lk_d S_225 ml_6_164 lk_n) odX6_fittingWhales
set_option maxRecDepth 100000 in
theorem btX11_fits : bTab oX11_fits tX11_fits := ⟨ofX11_fits, by decide +kernel⟩
def ct_227 : aCt := (mX11_fits, [ag_0], ([], [((0, 3), 2), ((94, 0), 2)]), [pon_406, pon_412], mdn_531, [], (nat_lit 5))
set_option maxRecDepth 100000 in
theorem S_227 : aSpec wd ct_227 := bChk_ok wx_ok btX11_fits (nds := []) (fk := []) (rk := (1, [])) (sp := 0) (fuel := 3000) (by decide +kernel) (lk_d S_226 ml_11_313 (lk_d S_91 ml_11_222 (lk_d S_63 ml_11_98 (lk_d S_57 ml_11_112 lk_n)))) odX11_fits
def lcn_636 : Nat × aAg := ((nat_lit 2), .inl [((.negSucc (nat_lit 0)), (.ofNat (nat_lit 7)), (nat_lit 1))])
def ct_228 : aCt := (mX4_lastSpoutOf, [ag_357, ag_217], ([], []), [pon_417, pon_52], [], [], (nat_lit 0))
set_option maxRecDepth 100000 in
theorem S_228 : aSpec wd ct_228 := bChk_ok wx_ok btX4_lastSpoutOf (nds := [((nat_lit 7), [lcn_378, lcn_265, lcn_636], [], [], [], (1, [(1, 1)]))]) (fk := []) (rk := (9, [])) (sp := 128) (fuel := 3000) (by decide +kernel) lk_n odX4_lastSpoutOf
def pon_637 : aPo := (some (.inl [((.ofNat (nat_lit 0)), (.ofNat (nat_lit 127)), (nat_lit 1))]), [], [], [])
def lcn_638 : Nat × aAg := ((nat_lit 3), .inl [((.negSucc (nat_lit 1)), (.negSucc (nat_lit 1)), (nat_lit 1)), ((.ofNat (nat_lit 0)), (.ofNat (nat_lit 7)), (nat_lit 1))])
def lcn_639 : Nat × aAg := ((nat_lit 5), .inl [((.ofNat (nat_lit 0)), (.ofNat (nat_lit 127)), (nat_lit 1))])
set_option maxRecDepth 100000 in
theorem btX6_islandsReached : bTab oX6_islandsReached tX6_islandsReached := ⟨ofX6_islandsReached, by decide +kernel⟩
def ct_229 : aCt := (mX6_islandsReached, [ag_394, ag_217, ag_560], ([sl_324], [((94, 0), 2)]), [pon_637], mdn_514, [], (nat_lit 3))
set_option maxRecDepth 100000 in
theorem S_229 : aSpec wd ct_229 := bChk_ok wx_ok btX6_islandsReached (nds := [((nat_lit 90), [lcn_396, lcn_265, lcn_563, lcn_638, lcn_446, lcn_639, lcn_369], [], [sl_324], [((94, 0), 2)], (7, [(5, -1)]))]) (fk := []) (rk := (8, [])) (sp := 1237940039285380274899124224) (fuel := 3000) (by decide +kernel) (lk_d S_228 ml_6_185 (lk_d S_163 ml_6_84 lk_n)) odX6_islandsReached
def lcn_640 : Nat × aAg := ((nat_lit 1), .inl [((.ofNat (nat_lit 0)), (.ofNat (nat_lit 3)), (nat_lit 1))])
def ct_230 : aCt := (mX4_lastSpoutOf, [ag_357, ag_361], ([], []), [pon_417, pon_52], [], [], (nat_lit 0))
set_option maxRecDepth 100000 in
theorem S_230 : aSpec wd ct_230 := bChk_ok wx_ok btX4_lastSpoutOf (nds := [((nat_lit 7), [lcn_378, lcn_640, lcn_636], [], [], [], (1, [(1, 1)]))]) (fk := []) (rk := (9, [])) (sp := 128) (fuel := 3000) (by decide +kernel) lk_n odX4_lastSpoutOf
def ct_231 : aCt := (mX6_islandsReached, [ag_394, ag_361, ag_560], ([sl_322], [((94, 0), 2)]), [pon_637], mdn_514, [], (nat_lit 3))
set_option maxRecDepth 100000 in
theorem S_231 : aSpec wd ct_231 := bChk_ok wx_ok btX6_islandsReached (nds := [((nat_lit 90), [lcn_396, lcn_640, lcn_563, lcn_638, lcn_446, lcn_639, lcn_369], [], [sl_322], [((94, 0), 2)], (7, [(5, -1)]))]) (fk := []) (rk := (8, [])) (sp := 1237940039285380274899124224) (fuel := 3000) (by decide +kernel) (lk_d S_230 ml_6_185 (lk_d S_163 ml_6_84 lk_n)) odX6_islandsReached
def ct_232 : aCt := (mX4_lastSpoutOf, [ag_357, ag_402], ([], []), [pon_417, pon_52], [], [], (nat_lit 0))
set_option maxRecDepth 100000 in
theorem S_232 : aSpec wd ct_232 := bChk_ok wx_ok btX4_lastSpoutOf (nds := [((nat_lit 7), [lcn_378, lcn_397, lcn_636], [], [], [], (1, [(1, 1)]))]) (fk := []) (rk := (9, [])) (sp := 128) (fuel := 3000) (by decide +kernel) lk_n odX4_lastSpoutOf
def ct_233 : aCt := (mX6_islandsReached, [ag_394, ag_402, ag_560], ([sl_320], [((94, 0), 2)]), [pon_637], mdn_514, [], (nat_lit 3))
set_option maxRecDepth 100000 in
theorem S_233 : aSpec wd ct_233 := bChk_ok wx_ok btX6_islandsReached (nds := [((nat_lit 90), [lcn_396, lcn_397, lcn_563, lcn_638, lcn_446, lcn_639, lcn_369], [], [sl_320], [((94, 0), 2)], (7, [(5, -1)]))]) (fk := []) (rk := (8, [])) (sp := 1237940039285380274899124224) (fuel := 3000) (by decide +kernel) (lk_d S_232 ml_6_185 (lk_d S_163 ml_6_84 lk_n)) odX6_islandsReached
end Pk0
section Pk1
def lcn_641 : Nat × aAg := ((nat_lit 1), .inl [((.ofNat (nat_lit 0)), (.ofNat (nat_lit 1)), (nat_lit 1))])
def ct_234 : aCt := (mX4_lastSpoutOf, [ag_357, ag_535], ([], []), [pon_417, pon_52], [], [], (nat_lit 0))
set_option maxRecDepth 100000 in
theorem S_234 : aSpec wd ct_234 := bChk_ok wx_ok btX4_lastSpoutOf (nds := [((nat_lit 7), [lcn_378, lcn_641, lcn_636], [], [], [], (1, [(1, 1)]))]) (fk := []) (rk := (9, [])) (sp := 128) (fuel := 3000) (by decide +kernel) lk_n odX4_lastSpoutOf
def ct_235 : aCt := (mX6_islandsReached, [ag_394, ag_535, ag_560], ([sl_318], [((94, 0), 2)]), [pon_637], mdn_514, [], (nat_lit 3))
set_option maxRecDepth 100000 in
theorem S_235 : aSpec wd ct_235 := bChk_ok wx_ok btX6_islandsReached (nds := [((nat_lit 90), [lcn_396, lcn_641, lcn_563, lcn_638, lcn_446, lcn_639, lcn_369], [], [sl_318], [((94, 0), 2)], (7, [(5, -1)]))]) (fk := []) (rk := (8, [])) (sp := 1237940039285380274899124224) (fuel := 3000) (by decide +kernel) (lk_d S_234 ml_6_185 (lk_d S_163 ml_6_84 lk_n)) odX6_islandsReached
def ct_236 : aCt := (mX4_lastSpoutOf, [ag_357, ag_170], ([], []), [pon_417, pon_52], [], [], (nat_lit 0))
set_option maxRecDepth 100000 in
theorem S_236 : aSpec wd ct_236 := bChk_ok wx_ok btX4_lastSpoutOf (nds := [((nat_lit 7), [lcn_378, lcn_175, lcn_636], [], [], [], (1, [(0, 1)]))]) (fk := []) (rk := (9, [])) (sp := 128) (fuel := 3000) (by decide +kernel) lk_n odX4_lastSpoutOf
def sl_642 : (Nat × Nat) × aI := (((nat_lit 21), (nat_lit 0)), [((.ofNat (nat_lit 0)), (.ofNat (nat_lit 3)), (nat_lit 1))])
def ct_237 : aCt := (mX6_islandsReached, [ag_394, ag_170, ag_560], ([sl_316], [((94, 0), 2)]), [pon_637], mdn_514, [], (nat_lit 3))
set_option maxRecDepth 100000 in
theorem S_237 : aSpec wd ct_237 := bChk_ok wx_ok btX6_islandsReached (nds := [((nat_lit 90), [lcn_396, lcn_175, lcn_563, lcn_638, lcn_446, lcn_639, lcn_369], [], [sl_316, sl_642], [((94, 0), 2)], (7, [(4, -1)]))]) (fk := []) (rk := (8, [])) (sp := 1237940039285380274899124224) (fuel := 3000) (by decide +kernel) (lk_d S_236 ml_6_185 (lk_d S_163 ml_6_84 lk_n)) odX6_islandsReached
def pon_643 : aPo := (some (.inl aTop), [none, some [((.ofNat (nat_lit 0)), (.ofNat (nat_lit 4)), (nat_lit 1))], some [((.ofNat (nat_lit 0)), (.ofNat (nat_lit 99999)), (nat_lit 1))]], [sl_301, sl_334], [])
def pon_644 : aPo := (some (.inl [((.negSucc (nat_lit 0)), (.negSucc (nat_lit 0)), (nat_lit 1))]), [none, some aTop, none], [sl_389], [])
set_option maxRecDepth 100000 in
theorem btX11_reach : bTab oX11_reach tX11_reach := ⟨ofX11_reach, by decide +kernel⟩
def ct_238 : aCt := (mX11_reach, [ag_0, ag_1, ag_1], ([], [((0, 3), 2), ((94, 0), 2)]), [pon_643, pon_644], mdn_531, [], (nat_lit 4))
set_option maxRecDepth 100000 in
theorem S_238 : aSpec wd ct_238 := bChk_ok wx_ok btX11_reach (nds := []) (fk := []) (rk := (1, [])) (sp := 0) (fuel := 3000) (by decide +kernel) (lk_d S_6 ml_11_98 (lk_d S_63 ml_11_98 (lk_d S_237 ml_11_316 (lk_d S_235 ml_11_316 (lk_d S_233 ml_11_316 (lk_d S_231 ml_11_316 (lk_d S_229 ml_11_316 (lk_d S_62 ml_11_121 (lk_d S_92 ml_11_227 (lk_d S_57 ml_11_112 lk_n)))))))))) odX11_reach
def ct_239 : aCt := (mJ6_bitCount_0f7a4, [ag_605], ([], []), [pon_364], [], [], (nat_lit 0))
set_option maxRecDepth 100000 in
theorem S_239 : aSpec wd ct_239 := bChk_ok wx_ok btJ6_bitCount_0f7a4 (nds := []) (fk := []) (rk := (1, [])) (sp := 0) (fuel := 3000) (by decide +kernel) lk_n odJ6_bitCount_0f7a4
def ct_240 : aCt := (mX6_islandsReached, [ag_394, ag_217, ag_560], ([sl_341, sl_334], [((94, 0), 2)]), [pon_637], mdn_514, [], (nat_lit 3))
set_option maxRecDepth 100000 in
theorem S_240 : aSpec wd ct_240 := bChk_ok wx_ok btX6_islandsReached (nds := [((nat_lit 90), [lcn_396, lcn_265, lcn_563, lcn_638, lcn_446, lcn_639, lcn_369], [], [sl_341, sl_334], [((94, 0), 2)], (7, [(5, -1)]))]) (fk := []) (rk := (8, [])) (sp := 1237940039285380274899124224) (fuel := 3000) (by decide +kernel) (lk_d S_228 ml_6_185 (lk_d S_163 ml_6_84 lk_n)) odX6_islandsReached
set_option maxRecDepth 100000 in
theorem btX6_whalesReaching : bTab oX6_whalesReaching tX6_whalesReaching := ⟨ofX6_whalesReaching, by decide +kernel⟩
def ct_241 : aCt := (mX6_whalesReaching, [ag_394, ag_125, ag_560], ([sl_341], [((94, 0), 2)]), [pon_130], mdn_514, [], (nat_lit 4))
set_option maxRecDepth 100000 in
theorem S_241 : aSpec wd ct_241 := bChk_ok wx_ok btX6_whalesReaching (nds := [((nat_lit 5), [lcn_396, lcn_249, lcn_563, lcn_517, lcn_447], [], [sl_341], [((94, 0), 2)], (5, [(3, -1)]))]) (fk := []) (rk := (6, [])) (sp := 32) (fuel := 3000) (by decide +kernel) (lk_d S_240 ml_6_203 lk_n) odX6_whalesReaching
def lcn_645 : Nat × aAg := ((nat_lit 1), .inl [((.ofNat (nat_lit 0)), (.ofNat (nat_lit 99999)), (nat_lit 1))])
def lcn_646 : Nat × aAg := ((nat_lit 2), .inl [((.ofNat (nat_lit 0)), (.ofNat (nat_lit 63)), (nat_lit 1))])
def lcn_647 : Nat × aAg := ((nat_lit 3), .inl [((.negSucc (nat_lit 1)), (.negSucc (nat_lit 1)), (nat_lit 1)), ((.ofNat (nat_lit 0)), (.ofNat (nat_lit 6)), (nat_lit 1))])
def lcn_648 : Nat × aAg := ((nat_lit 5), .inl [((.ofNat (nat_lit 0)), (.ofNat (nat_lit 7)), (nat_lit 1))])
set_option maxRecDepth 100000 in
theorem btX6_bestPier : bTab oX6_bestPier tX6_bestPier := ⟨ofX6_bestPier, by decide +kernel⟩
def ct_242 : aCt := (mX6_bestPier, [ag_394, ag_560], ([sl_341], [((94, 0), 2)]), [pon_365], mdn_514, [], (nat_lit 5))
set_option maxRecDepth 100000 in
theorem S_242 : aSpec wd ct_242 := bChk_ok wx_ok btX6_bestPier (nds := [((nat_lit 17), [lcn_396, lcn_645, lcn_646, lcn_647, lcn_351, lcn_648], [], [sl_341], [((94, 0), 2)], (7, [(4, -1)]))]) (fk := []) (rk := (8, [])) (sp := 131072) (fuel := 3000) (by decide +kernel) (lk_d S_226 ml_6_188 (lk_d S_239 ml_6_192 (lk_d S_241 ml_6_197 lk_n))) odX6_bestPier
set_option maxRecDepth 100000 in
theorem btX11_pier : bTab oX11_pier tX11_pier := ⟨ofX11_pier, by decide +kernel⟩
def ct_243 : aCt := (mX11_pier, [ag_0, ag_1], ([], [((0, 3), 2), ((94, 0), 2)]), [pon_388, pon_390], mdn_531, [], (nat_lit 6))
set_option maxRecDepth 100000 in
theorem S_243 : aSpec wd ct_243 := bChk_ok wx_ok btX11_pier (nds := []) (fk := []) (rk := (1, [])) (sp := 0) (fuel := 3000) (by decide +kernel) (lk_d S_91 ml_11_222 (lk_d S_6 ml_11_98 (lk_d S_63 ml_11_98 (lk_d S_242 ml_11_319 (lk_d S_92 ml_11_227 (lk_d S_57 ml_11_112 lk_n)))))) odX11_pier
def ag_649 : aAg := .inr (.inl [(nat_lit 96)])
def ag_650 : aAg := .inl [((.ofNat (nat_lit 0)), (.ofNat (nat_lit 127)), (nat_lit 1))]
def pon_651 : aPo := (some (.inl [((.ofNat (nat_lit 0)), (.ofNat (nat_lit 4095)), (nat_lit 1))]), [], [], [])
def lcn_652 : Nat × aAg := ((nat_lit 0), .inr (.inl [(nat_lit 96)]))
def lcn_653 : Nat × aAg := ((nat_lit 1), .inl [((.ofNat (nat_lit 0)), (.ofNat (nat_lit 127)), (nat_lit 1))])
def lcn_654 : Nat × aAg := ((nat_lit 2), .inl [((.ofNat (nat_lit 0)), (.ofNat (nat_lit 4095)), (nat_lit 1))])
set_option maxRecDepth 100000 in
theorem btX3_waysOutOf : bTab oX3_waysOutOf tX3_waysOutOf := ⟨ofX3_waysOutOf, by decide +kernel⟩
def ct_244 : aCt := (mX3_waysOutOf, [ag_649, ag_650], ([], [((96, 0), 2)]), [pon_651], [], [], (nat_lit 0))
set_option maxRecDepth 100000 in
theorem S_244 : aSpec wd ct_244 := bChk_ok wx_ok btX3_waysOutOf (nds := [((nat_lit 4), [lcn_652, lcn_653, lcn_654, lcn_379], [], [], [((96, 0), 2)], (12, [(2, -1)]))]) (fk := []) (rk := (13, [])) (sp := 16) (fuel := 3000) (by decide +kernel) lk_n odX3_waysOutOf
def ag_655 : aAg := .inl [((.ofNat (nat_lit 0)), (.ofNat (nat_lit 4095)), (nat_lit 1))]
def ct_245 : aCt := (mJ6_bitCount_0f7a4, [ag_655], ([], []), [pon_364], [], [], (nat_lit 0))
set_option maxRecDepth 100000 in
theorem S_245 : aSpec wd ct_245 := bChk_ok wx_ok btJ6_bitCount_0f7a4 (nds := []) (fk := []) (rk := (1, [])) (sp := 0) (fuel := 3000) (by decide +kernel) lk_n odJ6_bitCount_0f7a4
def pon_656 : aPo := (some (.inl [((.negSucc (nat_lit 1)), (.negSucc (nat_lit 1)), (nat_lit 1)), ((.ofNat (nat_lit 0)), (.ofNat (nat_lit 4095)), (nat_lit 1))]), [], [], [])
def lcn_657 : Nat × aAg := ((nat_lit 4), .inl [((.negSucc (nat_lit 1)), (.negSucc (nat_lit 1)), (nat_lit 1)), ((.ofNat (nat_lit 0)), (.ofNat (nat_lit 4095)), (nat_lit 1))])
def lcn_658 : Nat × aAg := ((nat_lit 5), .inl [((.ofNat (nat_lit 0)), (.ofNat (nat_lit 13)), (nat_lit 1))])
def lcn_659 : Nat × aAg := ((nat_lit 6), .inl [((.ofNat (nat_lit 0)), (.ofNat (nat_lit 128)), (nat_lit 1))])
set_option maxRecDepth 100000 in
theorem btX3_fewestToWatch : bTab oX3_fewestToWatch tX3_fewestToWatch := ⟨ofX3_fewestToWatch, by decide +kernel⟩
def ct_246 : aCt := (mX3_fewestToWatch, [ag_649, ag_125, ag_125, ag_1], ([sl_341], [((96, 0), 2)]), [pon_656], [], [], (nat_lit 1))
set_option maxRecDepth 100000 in
theorem S_246 : aSpec wd ct_246 := bChk_ok wx_ok btX3_fewestToWatch (nds := [((nat_lit 11), [lcn_652, lcn_249, lcn_250, lcn_517, lcn_657, lcn_658, lcn_659], [], [sl_341], [((96, 0), 2)], (128, [(5, -1)]))]) (fk := []) (rk := (129, [])) (sp := 2048) (fuel := 3000) (by decide +kernel) (lk_d S_244 ml_3_31 (lk_d S_245 ml_3_35 lk_n)) odX3_fewestToWatch
set_option maxRecDepth 100000 in
theorem btX11_watch : bTab oX11_watch tX11_watch := ⟨ofX11_watch, by decide +kernel⟩
def ct_247 : aCt := (mX11_watch, [ag_0, ag_1, ag_1], ([], [((0, 3), 2), ((96, 0), 2)]), [pon_381, pon_333], mdn_25, [], (nat_lit 2))
set_option maxRecDepth 100000 in
theorem S_247 : aSpec wd ct_247 := bChk_ok wx_ok btX11_watch (nds := []) (fk := []) (rk := (1, [])) (sp := 0) (fuel := 3000) (by decide +kernel) (lk_d S_63 ml_11_98 (lk_d S_57 ml_11_112 (lk_d S_246 ml_11_325 (lk_d S_87 ml_11_204 lk_n)))) odX11_watch
def ag_660 : aAg := .inr (.inl [(nat_lit 98)])
def ag_661 : aAg := .inl [((.ofNat (nat_lit 1000000)), (.ofNat (nat_lit 1000000)), (nat_lit 1))]
def mdn_662 : List (Nat × Nat × Nat) := [((nat_lit 98), (nat_lit 0), (nat_lit 49))]
def lcn_663 : Nat × aAg := ((nat_lit 0), .inr (.inl [(nat_lit 98)]))
def lcn_664 : Nat × aAg := ((nat_lit 1), .inl [((.ofNat (nat_lit 1000000)), (.ofNat (nat_lit 1000000)), (nat_lit 1))])
def lcn_665 : Nat × aAg := ((nat_lit 3), .inl [((.ofNat (nat_lit 49)), (.ofNat (nat_lit 49)), (nat_lit 1))])
def ct_248 : aCt := (mJ7_fill_53178, [ag_660, ag_661], ([], []), [pon_49], mdn_662, [], (nat_lit 0))
set_option maxRecDepth 100000 in
theorem S_248 : aSpec wd ct_248 := bChk_ok wx_ok btJ7_fill_53178 (nds := [((nat_lit 5), [lcn_663, lcn_664, lcn_646, lcn_665], [], [], [], (63, [(0, -1)]))]) (fk := []) (rk := (64, [])) (sp := 32) (fuel := 3000) (by decide +kernel) lk_n odJ7_fill_53178
def lcn_666 : Nat × aAg := ((nat_lit 2), .inl [((.ofNat (nat_lit 0)), (.ofNat (nat_lit 12)), (nat_lit 1))])
set_option maxRecDepth 100000 in
theorem btX3_findShortest : bTab oX3_findShortest tX3_findShortest := ⟨ofX3_findShortest, by decide +kernel⟩
def ct_249 : aCt := (mX3_findShortest, [ag_649, ag_1], ([sl_341], [((96, 0), 2)]), [pon_49], mdn_662, [], (nat_lit 1))
set_option maxRecDepth 100000 in
theorem S_249 : aSpec wd ct_249 := bChk_ok wx_ok btX3_findShortest (nds := [((nat_lit 11), [lcn_652, lcn_271, lcn_666], [], [sl_341], [((96, 0), 2)], (596, [(1, -1)])), ((nat_lit 128), [lcn_652, lcn_271, lcn_411], [], [sl_341], [((96, 0), 2)], (583, [(1, -73)])), ((nat_lit 141), [lcn_652, lcn_271, lcn_250, lcn_438], [], [sl_341], [((96, 0), 2)], (582, [(1, -73), (2, -9)])), ((nat_lit 155), [lcn_652, lcn_271, lcn_250, lcn_144, lcn_445], [], [sl_341], [((96, 0), 2)], (581, [(1, -73), (2, -9), (3, -1)]))]) (fk := []) (rk := (597, [])) (sp := 45674714100022899442696306450542532841204353024) (fuel := 3000) (by decide +kernel) (lk_d S_248 ml_3_67 lk_n) odX3_findShortest
def ag_667 : aAg := .inl [((.ofNat (nat_lit 1)), (.ofNat (nat_lit 127)), (nat_lit 1))]
set_option maxRecDepth 100000 in
theorem btX3_daysOver : bTab oX3_daysOver tX3_daysOver := ⟨ofX3_daysOver, by decide +kernel⟩
def ct_250 : aCt := (mX3_daysOver, [ag_649, ag_667, ag_125, ag_125], ([], []), [pon_130], [], [], (nat_lit 0))
set_option maxRecDepth 100000 in
theorem S_250 : aSpec wd ct_250 := bChk_ok wx_ok btX3_daysOver (nds := []) (fk := []) (rk := (1, [])) (sp := 0) (fuel := 3000) (by decide +kernel) lk_n odX3_daysOver
def mdn_668 : List (Nat × Nat × Nat) := [((nat_lit 99), (nat_lit 7), (nat_lit 896))]
def lcn_669 : Nat × aAg := ((nat_lit 1), .inl [((.ofNat (nat_lit 1)), (.ofNat (nat_lit 127)), (nat_lit 1))])
def lcn_670 : Nat × aAg := ((nat_lit 2), .inl [((.ofNat (nat_lit 0)), (.ofNat (nat_lit 127)), (nat_lit 1))])
def lcn_671 : Nat × aAg := ((nat_lit 2), .inl [((.ofNat (nat_lit 1)), (.ofNat (nat_lit 127)), (nat_lit 1))])
def lcn_672 : Nat × aAg := ((nat_lit 4), .inl [((.negSucc (nat_lit 2147483647)), (.ofNat (nat_lit 1000000)), (nat_lit 1))])
set_option maxRecDepth 100000 in
theorem btX3_findRests : bTab oX3_findRests tX3_findRests := ⟨ofX3_findRests, by decide +kernel⟩
def ct_251 : aCt := (mX3_findRests, [ag_649], ([sl_341], [((96, 0), 2)]), [pon_49], mdn_668, [], (nat_lit 1))
set_option maxRecDepth 100000 in
theorem S_251 : aSpec wd ct_251 := bChk_ok wx_ok btX3_findRests (nds := [((nat_lit 14), [lcn_652, lcn_669, lcn_670], [], [sl_341], [((96, 0), 2)], (72, [(1, 73)])), ((nat_lit 20), [lcn_652, lcn_669, lcn_671, lcn_438], [], [sl_341], [((96, 0), 2)], (71, [(1, 73), (2, -9)])), ((nat_lit 47), [lcn_652, lcn_669, lcn_671, lcn_144, lcn_672, lcn_648], [], [sl_341], [((96, 0), 2)], (70, [(1, 73), (2, -9), (4, -1)]))]) (fk := []) (rk := (9344, [])) (sp := 140737489420288) (fuel := 3000) (by decide +kernel) (lk_d S_250 ml_3_81 lk_n) odX3_findRests
def ct_252 : aCt := (mX3_daysOver, [ag_649, ag_650, ag_125, ag_125], ([], []), [pon_130], [], [], (nat_lit 0))
set_option maxRecDepth 100000 in
theorem S_252 : aSpec wd ct_252 := bChk_ok wx_ok btX3_daysOver (nds := []) (fk := []) (rk := (1, [])) (sp := 0) (fuel := 3000) (by decide +kernel) lk_n odX3_daysOver
set_option maxRecDepth 100000 in
theorem btX3_nextOf : bTab oX3_nextOf tX3_nextOf := ⟨ofX3_nextOf, by decide +kernel⟩
def ct_253 : aCt := (mX3_nextOf, [ag_649, ag_650, ag_125], ([sl_426], [((96, 0), 2)]), [pon_264], [], [], (nat_lit 1))
set_option maxRecDepth 100000 in
theorem S_253 : aSpec wd ct_253 := bChk_ok wx_ok btX3_nextOf (nds := [((nat_lit 2), [lcn_652, lcn_653, lcn_250, lcn_438], [], [sl_426], [((96, 0), 2)], (7, [(2, -1)]))]) (fk := []) (rk := (8, [])) (sp := 4) (fuel := 3000) (by decide +kernel) (lk_d S_252 ml_3_81 lk_n) odX3_nextOf
def pon_673 : aPo := (some (.inl [((.negSucc (nat_lit 2147483647)), (.ofNat (nat_lit 999999)), (nat_lit 1))]), [], [], [])
def mdn_674 : List (Nat × Nat × Nat) := [((nat_lit 97), (nat_lit 0), (nat_lit 7)), ((nat_lit 98), (nat_lit 0), (nat_lit 49)), ((nat_lit 99), (nat_lit 7), (nat_lit 896))]
def lcn_675 : Nat × aAg := ((nat_lit 3), .inl [((.negSucc (nat_lit 2147483647)), (.ofNat (nat_lit 999999)), (nat_lit 1))])
def lcn_676 : Nat × aAg := ((nat_lit 4), .inl [((.ofNat (nat_lit 0)), (.ofNat (nat_lit 127)), (nat_lit 1))])
def lcn_677 : Nat × aAg := ((nat_lit 5), .inl [((.ofNat (nat_lit 1)), (.ofNat (nat_lit 7)), (nat_lit 1))])
set_option maxRecDepth 100000 in
theorem btX3_findRound : bTab oX3_findRound tX3_findRound := ⟨ofX3_findRound, by decide +kernel⟩
def ct_254 : aCt := (mX3_findRound, [ag_649, ag_125, ag_1], ([sl_341], [((96, 0), 2)]), [pon_673, pon_52], mdn_674, [], (nat_lit 2))
set_option maxRecDepth 100000 in
theorem S_254 : aSpec wd ct_254 := bChk_ok wx_ok btX3_findRound (nds := [((nat_lit 47), [lcn_652, lcn_249, lcn_132, lcn_675, lcn_676, lcn_677], [], [sl_341], [((96, 0), 2)], (7, [(4, -1)]))]) (fk := []) (rk := (7, [])) (sp := 140737488355328) (fuel := 3000) (by decide +kernel) (lk_d S_251 ml_3_59 (lk_d S_253 ml_3_63 (lk_d S_249 ml_3_55 lk_n))) odX3_findRound
def mdn_678 : List (Nat × Nat × Nat) := [((nat_lit 0), (nat_lit 2), (nat_lit 3)), ((nat_lit 97), (nat_lit 0), (nat_lit 7)), ((nat_lit 98), (nat_lit 0), (nat_lit 49)), ((nat_lit 99), (nat_lit 7), (nat_lit 896))]
set_option maxRecDepth 100000 in
theorem btX11_round : bTab oX11_round tX11_round := ⟨ofX11_round, by decide +kernel⟩
def ct_255 : aCt := (mX11_round, [ag_0, ag_1], ([], [((0, 3), 2), ((96, 0), 2)]), [pon_343, pon_333], mdn_678, [], (nat_lit 3))
set_option maxRecDepth 100000 in
theorem S_255 : aSpec wd ct_255 := bChk_ok wx_ok btX11_round (nds := []) (fk := []) (rk := (1, [])) (sp := 0) (fuel := 3000) (by decide +kernel) (lk_d S_63 ml_11_98 (lk_d S_67 ml_11_174 (lk_d S_57 ml_11_112 (lk_d S_254 ml_11_328 lk_n)))) odX11_round
def sl_679 : (Nat × Nat) × aI := (((nat_lit 0), (nat_lit 2)), [((.ofNat (nat_lit 1)), (.ofNat (nat_lit 1)), (nat_lit 1)), ((.ofNat (nat_lit 6)), (.ofNat (nat_lit 6)), (nat_lit 1))])
def pon_680 : aPo := (some (.inl [((.negSucc (nat_lit 0)), (.negSucc (nat_lit 0)), (nat_lit 1))]), [], [sl_679], [])
set_option maxRecDepth 100000 in
theorem btX11_roundAt : bTab oX11_roundAt tX11_roundAt := ⟨ofX11_roundAt, by decide +kernel⟩
def ct_256 : aCt := (mX11_roundAt, [ag_0, ag_1, ag_1], ([], [((0, 3), 2), ((96, 0), 2)]), [pon_381, pon_680], mdn_678, [], (nat_lit 3))
set_option maxRecDepth 100000 in
theorem S_256 : aSpec wd ct_256 := bChk_ok wx_ok btX11_roundAt (nds := []) (fk := []) (rk := (1, [])) (sp := 0) (fuel := 3000) (by decide +kernel) (lk_d S_179 ml_11_98 (lk_d S_63 ml_11_98 (lk_d S_86 ml_11_174 (lk_d S_67 ml_11_174 (lk_d S_57 ml_11_112 (lk_d S_254 ml_11_328 lk_n)))))) odX11_roundAt
def ag_681 : aAg := .inl [((.ofNat (nat_lit 65536)), (.ofNat (nat_lit 65536)), (nat_lit 1))]
def pon_682 : aPo := (some (.inl [((.ofNat (nat_lit 0)), (.ofNat (nat_lit 0)), (nat_lit 1))]), [some [((.negSucc (nat_lit 2147483647)), (.negSucc (nat_lit 0)), (nat_lit 1)), ((.ofNat (nat_lit 65537)), (.ofNat (nat_lit 2147483647)), (nat_lit 1))], none], [], [])
def pon_683 : aPo := (some (.inl [((.ofNat (nat_lit 1)), (.ofNat (nat_lit 1)), (nat_lit 1))]), [some [((.ofNat (nat_lit 0)), (.ofNat (nat_lit 65536)), (nat_lit 1))], none], [], [])
def ct_257 : aCt := (mX11_isWithin, [ag_1, ag_681], ([], []), [pon_682, pon_683], [], [], (nat_lit 0))
set_option maxRecDepth 100000 in
theorem S_257 : aSpec wd ct_257 := bChk_ok wx_ok btX11_isWithin (nds := []) (fk := []) (rk := (1, [])) (sp := 0) (fuel := 3000) (by decide +kernel) lk_n odX11_isWithin
def pon_684 : aPo := (some (.inl [((.ofNat (nat_lit 0)), (.ofNat (nat_lit 0)), (nat_lit 1))]), [some [((.negSucc (nat_lit 2147483647)), (.negSucc (nat_lit 0)), (nat_lit 1)), ((.ofNat (nat_lit 51)), (.ofNat (nat_lit 2147483647)), (nat_lit 1))], none], [], [])
def pon_685 : aPo := (some (.inl [((.ofNat (nat_lit 1)), (.ofNat (nat_lit 1)), (nat_lit 1))]), [some [((.ofNat (nat_lit 0)), (.ofNat (nat_lit 50)), (nat_lit 1))], none], [], [])
def ct_258 : aCt := (mX11_isWithin, [ag_1, ag_177], ([], []), [pon_684, pon_685], [], [], (nat_lit 0))
set_option maxRecDepth 100000 in
theorem S_258 : aSpec wd ct_258 := bChk_ok wx_ok btX11_isWithin (nds := []) (fk := []) (rk := (1, [])) (sp := 0) (fuel := 3000) (by decide +kernel) lk_n odX11_isWithin
def pon_686 : aPo := (some (.inl [((.negSucc (nat_lit 65535)), (.ofNat (nat_lit 65536)), (nat_lit 1))]), [], [], [])
def mdn_687 : List (Nat × Nat × Nat) := [((nat_lit 92), (nat_lit 1), (nat_lit 2))]
set_option maxRecDepth 100000 in
theorem btX7_draw : bTab oX7_draw tX7_draw := ⟨ofX7_draw, by decide +kernel⟩
def ct_259 : aCt := (mX7_draw, [ag_344], ([], []), [pon_686], mdn_687, [], (nat_lit 0))
set_option maxRecDepth 100000 in
theorem S_259 : aSpec wd ct_259 := bChk_ok wx_ok btX7_draw (nds := []) (fk := []) (rk := (1, [])) (sp := 0) (fuel := 3000) (by decide +kernel) lk_n odX7_draw
def ag_688 : aAg := .inl [((.negSucc (nat_lit 998)), (.ofNat (nat_lit 999)), (nat_lit 1))]
def ag_689 : aAg := .inl [((.negSucc (nat_lit 2)), (.ofNat (nat_lit 3)), (nat_lit 1))]
set_option maxRecDepth 100000 in
theorem btX11_withNote : bTab oX11_withNote tX11_withNote := ⟨ofX11_withNote, by decide +kernel⟩
def ct_260 : aCt := (mX11_withNote, [ag_1, ag_347, ag_688, ag_689], ([], []), [pon_130], [], [], (nat_lit 0))
set_option maxRecDepth 100000 in
theorem S_260 : aSpec wd ct_260 := bChk_ok wx_ok btX11_withNote (nds := []) (fk := []) (rk := (1, [])) (sp := 0) (fuel := 3000) (by decide +kernel) lk_n odX11_withNote
set_option maxRecDepth 100000 in
theorem btX7_slipped : bTab oX7_slipped tX7_slipped := ⟨ofX7_slipped, by decide +kernel⟩
def ct_261 : aCt := (mX7_slipped, [ag_344, ag_1, ag_137], ([], [((92, 0), 2)]), [pon_130], mdn_687, [], (nat_lit 1))
set_option maxRecDepth 100000 in
theorem S_261 : aSpec wd ct_261 := bChk_ok wx_ok btX7_slipped (nds := []) (fk := []) (rk := (1, [])) (sp := 0) (fuel := 3000) (by decide +kernel) (lk_d S_259 ml_7_85 (lk_d S_260 ml_7_92 lk_n)) odX7_slipped
def ag_690 : aAg := .inl [((.ofNat (nat_lit 0)), (.ofNat (nat_lit 10048)), (nat_lit 1))]
def ct_262 : aCt := (mX7_fallIn, [ag_344, ag_690], ([], [((92, 0), 2)]), [pon_346, pon_37], [], [], (nat_lit 0))
set_option maxRecDepth 100000 in
theorem S_262 : aSpec wd ct_262 := bChk_ok wx_ok btX7_fallIn (nds := []) (fk := []) (rk := (1, [])) (sp := 0) (fuel := 3000) (by decide +kernel) lk_n odX7_fallIn
def lcn_691 : Nat × aAg := ((nat_lit 3), .inl [((.ofNat (nat_lit 0)), (.ofNat (nat_lit 10048)), (nat_lit 1))])
def ct_263 : aCt := (mX7_hearerOf, [ag_344, ag_1, ag_137, ag_690], ([sl_341], [((92, 0), 2)]), [pon_365, pon_52], mdn_366, [], (nat_lit 2))
set_option maxRecDepth 100000 in
theorem S_263 : aSpec wd ct_263 := bChk_ok wx_ok btX7_hearerOf (nds := [((nat_lit 32), [lcn_349, lcn_271, lcn_143, lcn_691, lcn_351, lcn_368, lcn_369], [], [sl_341, sl_370], [((92, 0), 2)], (7, [(5, -1)]))]) (fk := []) (rk := (8, [])) (sp := 4294967296) (fuel := 3000) (by decide +kernel) (lk_d S_262 ml_7_50 (lk_d S_79 ml_7_54 (lk_d S_80 ml_7_54 (lk_d S_82 ml_7_60 lk_n)))) odX7_hearerOf
def mdn_692 : List (Nat × Nat × Nat) := [((nat_lit 92), (nat_lit 1), (nat_lit 4))]
def lcn_693 : Nat × aAg := ((nat_lit 1), .inl [((.ofNat (nat_lit 0)), (.ofNat (nat_lit 10048)), (nat_lit 1))])
set_option maxRecDepth 100000 in
theorem btX11_heardWithSlips : bTab oX11_heardWithSlips tX11_heardWithSlips := ⟨ofX11_heardWithSlips, by decide +kernel⟩
def ct_264 : aCt := (mX11_heardWithSlips, [ag_0, ag_690], ([sl_341], [((0, 3), 2), ((92, 0), 2)]), [pon_130], mdn_692, [], (nat_lit 3))
set_option maxRecDepth 100000 in
theorem S_264 : aSpec wd ct_264 := bChk_ok wx_ok btX11_heardWithSlips (nds := [((nat_lit 4), [lcn_407, lcn_693, lcn_132, lcn_408], [], [sl_341], [((0, 3), 2), ((92, 0), 2)], (8, [(2, -1)]))]) (fk := []) (rk := (9, [])) (sp := 16) (fuel := 3000) (by decide +kernel) (lk_d S_76 ml_11_198 (lk_d S_261 ml_11_399 (lk_d S_263 ml_11_277 lk_n))) odX11_heardWithSlips
def mdn_694 : List (Nat × Nat × Nat) := [((nat_lit 0), (nat_lit 2), (nat_lit 3)), ((nat_lit 92), (nat_lit 1), (nat_lit 4))]
def lcn_695 : Nat × aAg := ((nat_lit 1), .inl [((.ofNat (nat_lit 0)), (.ofNat (nat_lit 65536)), (nat_lit 1))])
def lcn_696 : Nat × aAg := ((nat_lit 2), .inl [((.ofNat (nat_lit 0)), (.ofNat (nat_lit 50)), (nat_lit 1))])
def lcn_697 : Nat × aAg := ((nat_lit 4), .inl [((.ofNat (nat_lit 0)), (.ofNat (nat_lit 63)), (nat_lit 1))])
set_option maxRecDepth 100000 in
theorem btX11_decade : bTab oX11_decade tX11_decade := ⟨ofX11_decade, by decide +kernel⟩
def ct_265 : aCt := (mX11_decade, [ag_0, ag_1, ag_1], ([], [((0, 3), 2), ((92, 0), 2)]), [pon_406, pon_390], mdn_694, [], (nat_lit 4))
set_option maxRecDepth 100000 in
theorem S_265 : aSpec wd ct_265 := bChk_ok wx_ok btX11_decade (nds := [((nat_lit 51), [lcn_407, lcn_695, lcn_696, lcn_517, lcn_697], [], [sl_341], [((0, 3), 2), ((92, 0), 2)], (63, [(3, -1)]))]) (fk := []) (rk := (64, [])) (sp := 2251799813685248) (fuel := 3000) (by decide +kernel) (lk_d S_91 ml_11_222 (lk_d S_6 ml_11_98 (lk_d S_63 ml_11_98 (lk_d S_264 ml_11_338 (lk_d S_257 ml_11_227 (lk_d S_258 ml_11_227 (lk_d S_57 ml_11_112 lk_n))))))) odX11_decade
def sl_698 : (Nat × Nat) × aI := (((nat_lit 0), (nat_lit 2)), [((.ofNat (nat_lit 5)), (.ofNat (nat_lit 5)), (nat_lit 1))])
def pon_699 : aPo := (some (.inl [((.negSucc (nat_lit 0)), (.negSucc (nat_lit 0)), (nat_lit 1))]), [], [sl_698], [])
def ct_266 : aCt := (mX11_refused, [ag_0, ag_150], ([], []), [pon_699], mdn_25, [], (nat_lit 0))
set_option maxRecDepth 100000 in
theorem S_266 : aSpec wd ct_266 := bChk_ok wx_ok btX11_refused (nds := []) (fk := []) (rk := (1, [])) (sp := 0) (fuel := 3000) (by decide +kernel) lk_n odX11_refused
def ag_700 : aAg := .inr (.inl [(nat_lit 106), (nat_lit 112), (nat_lit 118), (nat_lit 124), (nat_lit 130), (nat_lit 136), (nat_lit 142), (nat_lit 148), (nat_lit 154), (nat_lit 160), (nat_lit 166), (nat_lit 172)])
def mdn_701 : List (Nat × Nat × Nat) := [((nat_lit 106), (nat_lit 0), (nat_lit 2)), ((nat_lit 107), (nat_lit 0), (nat_lit 5)), ((nat_lit 108), (nat_lit 0), (nat_lit 5)), ((nat_lit 109), (nat_lit 0), (nat_lit 8)), ((nat_lit 110), (nat_lit 0), (nat_lit 8)), ((nat_lit 111), (nat_lit 0), (nat_lit 8)), ((nat_lit 112), (nat_lit 0), (nat_lit 2)), ((nat_lit 113), (nat_lit 0), (nat_lit 5)), ((nat_lit 114), (nat_lit 0), (nat_lit 5)), ((nat_lit 115), (nat_lit 0), (nat_lit 8)), ((nat_lit 116), (nat_lit 0), (nat_lit 8)), ((nat_lit 117), (nat_lit 0), (nat_lit 8)), ((nat_lit 118), (nat_lit 0), (nat_lit 2)), ((nat_lit 119), (nat_lit 0), (nat_lit 5)), ((nat_lit 120), (nat_lit 0), (nat_lit 5)), ((nat_lit 121), (nat_lit 0), (nat_lit 8)), ((nat_lit 122), (nat_lit 0), (nat_lit 8)), ((nat_lit 123), (nat_lit 0), (nat_lit 8)), ((nat_lit 124), (nat_lit 0), (nat_lit 2)), ((nat_lit 125), (nat_lit 0), (nat_lit 5)), ((nat_lit 126), (nat_lit 0), (nat_lit 5)), ((nat_lit 127), (nat_lit 0), (nat_lit 8)), ((nat_lit 128), (nat_lit 0), (nat_lit 8)), ((nat_lit 129), (nat_lit 0), (nat_lit 8)), ((nat_lit 130), (nat_lit 0), (nat_lit 2)), ((nat_lit 131), (nat_lit 0), (nat_lit 5)), ((nat_lit 132), (nat_lit 0), (nat_lit 5)), ((nat_lit 133), (nat_lit 0), (nat_lit 8)), ((nat_lit 134), (nat_lit 0), (nat_lit 8)), ((nat_lit 135), (nat_lit 0), (nat_lit 8)), ((nat_lit 136), (nat_lit 0), (nat_lit 2)), ((nat_lit 137), (nat_lit 0), (nat_lit 5)), ((nat_lit 138), (nat_lit 0), (nat_lit 5)), ((nat_lit 139), (nat_lit 0), (nat_lit 8)), ((nat_lit 140), (nat_lit 0), (nat_lit 8)), ((nat_lit 141), (nat_lit 0), (nat_lit 8)), ((nat_lit 142), (nat_lit 0), (nat_lit 2)), ((nat_lit 143), (nat_lit 0), (nat_lit 5)), ((nat_lit 144), (nat_lit 0), (nat_lit 5)), ((nat_lit 145), (nat_lit 0), (nat_lit 8)), ((nat_lit 146), (nat_lit 0), (nat_lit 8)), ((nat_lit 147), (nat_lit 0), (nat_lit 8)), ((nat_lit 148), (nat_lit 0), (nat_lit 2)), ((nat_lit 149), (nat_lit 0), (nat_lit 5)), ((nat_lit 150), (nat_lit 0), (nat_lit 5)), ((nat_lit 151), (nat_lit 0), (nat_lit 8)), ((nat_lit 152), (nat_lit 0), (nat_lit 8)), ((nat_lit 153), (nat_lit 0), (nat_lit 8)), ((nat_lit 154), (nat_lit 0), (nat_lit 2)), ((nat_lit 155), (nat_lit 0), (nat_lit 5)), ((nat_lit 156), (nat_lit 0), (nat_lit 5)), ((nat_lit 157), (nat_lit 0), (nat_lit 8)), ((nat_lit 158), (nat_lit 0), (nat_lit 8)), ((nat_lit 159), (nat_lit 0), (nat_lit 8)), ((nat_lit 160), (nat_lit 0), (nat_lit 2)), ((nat_lit 161), (nat_lit 0), (nat_lit 5)), ((nat_lit 162), (nat_lit 0), (nat_lit 5)), ((nat_lit 163), (nat_lit 0), (nat_lit 8)), ((nat_lit 164), (nat_lit 0), (nat_lit 8)), ((nat_lit 165), (nat_lit 0), (nat_lit 8)), ((nat_lit 166), (nat_lit 0), (nat_lit 2)), ((nat_lit 167), (nat_lit 0), (nat_lit 5)), ((nat_lit 168), (nat_lit 0), (nat_lit 5)), ((nat_lit 169), (nat_lit 0), (nat_lit 8)), ((nat_lit 170), (nat_lit 0), (nat_lit 8)), ((nat_lit 171), (nat_lit 0), (nat_lit 8)), ((nat_lit 172), (nat_lit 0), (nat_lit 2)), ((nat_lit 173), (nat_lit 0), (nat_lit 5)), ((nat_lit 174), (nat_lit 0), (nat_lit 5)), ((nat_lit 175), (nat_lit 0), (nat_lit 8)), ((nat_lit 176), (nat_lit 0), (nat_lit 8)), ((nat_lit 177), (nat_lit 0), (nat_lit 8))]
set_option maxRecDepth 100000 in
theorem btX2_copyFrom : bTab oX2_copyFrom tX2_copyFrom := ⟨ofX2_copyFrom, by decide +kernel⟩
def ct_267 : aCt := (mX2_copyFrom, [ag_700, ag_289], ([], []), [pon_49], mdn_701, [], (nat_lit 1))
set_option maxRecDepth 100000 in
theorem S_267 : aSpec wd ct_267 := bChk_ok wx_ok btX2_copyFrom (nds := []) (fk := []) (rk := (1, [])) (sp := 0) (fuel := 3000) (by decide +kernel) lk_n odX2_copyFrom
def mdn_702 : List (Nat × Nat × Nat) := [((nat_lit 0), (nat_lit 12), (nat_lit 14)), ((nat_lit 106), (nat_lit 0), (nat_lit 2)), ((nat_lit 107), (nat_lit 0), (nat_lit 5)), ((nat_lit 108), (nat_lit 0), (nat_lit 5)), ((nat_lit 109), (nat_lit 0), (nat_lit 8)), ((nat_lit 110), (nat_lit 0), (nat_lit 8)), ((nat_lit 111), (nat_lit 0), (nat_lit 8)), ((nat_lit 112), (nat_lit 0), (nat_lit 2)), ((nat_lit 113), (nat_lit 0), (nat_lit 5)), ((nat_lit 114), (nat_lit 0), (nat_lit 5)), ((nat_lit 115), (nat_lit 0), (nat_lit 8)), ((nat_lit 116), (nat_lit 0), (nat_lit 8)), ((nat_lit 117), (nat_lit 0), (nat_lit 8)), ((nat_lit 118), (nat_lit 0), (nat_lit 2)), ((nat_lit 119), (nat_lit 0), (nat_lit 5)), ((nat_lit 120), (nat_lit 0), (nat_lit 5)), ((nat_lit 121), (nat_lit 0), (nat_lit 8)), ((nat_lit 122), (nat_lit 0), (nat_lit 8)), ((nat_lit 123), (nat_lit 0), (nat_lit 8)), ((nat_lit 124), (nat_lit 0), (nat_lit 2)), ((nat_lit 125), (nat_lit 0), (nat_lit 5)), ((nat_lit 126), (nat_lit 0), (nat_lit 5)), ((nat_lit 127), (nat_lit 0), (nat_lit 8)), ((nat_lit 128), (nat_lit 0), (nat_lit 8)), ((nat_lit 129), (nat_lit 0), (nat_lit 8)), ((nat_lit 130), (nat_lit 0), (nat_lit 2)), ((nat_lit 131), (nat_lit 0), (nat_lit 5)), ((nat_lit 132), (nat_lit 0), (nat_lit 5)), ((nat_lit 133), (nat_lit 0), (nat_lit 8)), ((nat_lit 134), (nat_lit 0), (nat_lit 8)), ((nat_lit 135), (nat_lit 0), (nat_lit 8)), ((nat_lit 136), (nat_lit 0), (nat_lit 2)), ((nat_lit 137), (nat_lit 0), (nat_lit 5)), ((nat_lit 138), (nat_lit 0), (nat_lit 5)), ((nat_lit 139), (nat_lit 0), (nat_lit 8)), ((nat_lit 140), (nat_lit 0), (nat_lit 8)), ((nat_lit 141), (nat_lit 0), (nat_lit 8)), ((nat_lit 142), (nat_lit 0), (nat_lit 2)), ((nat_lit 143), (nat_lit 0), (nat_lit 5)), ((nat_lit 144), (nat_lit 0), (nat_lit 5)), ((nat_lit 145), (nat_lit 0), (nat_lit 8)), ((nat_lit 146), (nat_lit 0), (nat_lit 8)), ((nat_lit 147), (nat_lit 0), (nat_lit 8)), ((nat_lit 148), (nat_lit 0), (nat_lit 2)), ((nat_lit 149), (nat_lit 0), (nat_lit 5)), ((nat_lit 150), (nat_lit 0), (nat_lit 5)), ((nat_lit 151), (nat_lit 0), (nat_lit 8)), ((nat_lit 152), (nat_lit 0), (nat_lit 8)), ((nat_lit 153), (nat_lit 0), (nat_lit 8)), ((nat_lit 154), (nat_lit 0), (nat_lit 2)), ((nat_lit 155), (nat_lit 0), (nat_lit 5)), ((nat_lit 156), (nat_lit 0), (nat_lit 5)), ((nat_lit 157), (nat_lit 0), (nat_lit 8)), ((nat_lit 158), (nat_lit 0), (nat_lit 8)), ((nat_lit 159), (nat_lit 0), (nat_lit 8)), ((nat_lit 160), (nat_lit 0), (nat_lit 2)), ((nat_lit 161), (nat_lit 0), (nat_lit 5)), ((nat_lit 162), (nat_lit 0), (nat_lit 5)), ((nat_lit 163), (nat_lit 0), (nat_lit 8)), ((nat_lit 164), (nat_lit 0), (nat_lit 8)), ((nat_lit 165), (nat_lit 0), (nat_lit 8)), ((nat_lit 166), (nat_lit 0), (nat_lit 2)), ((nat_lit 167), (nat_lit 0), (nat_lit 5)), ((nat_lit 168), (nat_lit 0), (nat_lit 5)), ((nat_lit 169), (nat_lit 0), (nat_lit 8)), ((nat_lit 170), (nat_lit 0), (nat_lit 8)), ((nat_lit 171), (nat_lit 0), (nat_lit 8)), ((nat_lit 172), (nat_lit 0), (nat_lit 2)), ((nat_lit 173), (nat_lit 0), (nat_lit 5)), ((nat_lit 174), (nat_lit 0), (nat_lit 5)), ((nat_lit 175), (nat_lit 0), (nat_lit 8)), ((nat_lit 176), (nat_lit 0), (nat_lit 8)), ((nat_lit 177), (nat_lit 0), (nat_lit 8))]
set_option maxRecDepth 100000 in
theorem btX11_keepForUndo : bTab oX11_keepForUndo tX11_keepForUndo := ⟨ofX11_keepForUndo, by decide +kernel⟩
def ct_268 : aCt := (mX11_keepForUndo, [ag_0], ([], []), [pon_49], mdn_702, [], (nat_lit 2))
set_option maxRecDepth 100000 in
theorem S_268 : aSpec wd ct_268 := bChk_ok wx_ok btX11_keepForUndo (nds := []) (fk := []) (rk := (1, [])) (sp := 0) (fuel := 3000) (by decide +kernel) (lk_d S_267 ml_11_359 lk_n) odX11_keepForUndo
def pon_703 : aPo := (some (.inl aTop), [none, some [((.ofNat (nat_lit 0)), (.ofNat (nat_lit 4)), (nat_lit 1))], some [((.ofNat (nat_lit 0)), (.ofNat (nat_lit 7)), (nat_lit 1))]], [sl_301, sl_334, sl_338, sl_532], [])
def sl_704 : (Nat × Nat) × aI := (((nat_lit 0), (nat_lit 2)), [((.ofNat (nat_lit 1)), (.ofNat (nat_lit 1)), (nat_lit 1)), ((.ofNat (nat_lit 5)), (.ofNat (nat_lit 5)), (nat_lit 1))])
def pon_705 : aPo := (some (.inl [((.negSucc (nat_lit 0)), (.negSucc (nat_lit 0)), (nat_lit 1))]), [none, some aTop, none], [sl_704], [])
def mdn_706 : List (Nat × Nat × Nat) := [((nat_lit 0), (nat_lit 2), (nat_lit 3)), ((nat_lit 0), (nat_lit 12), (nat_lit 14)), ((nat_lit 87), (nat_lit 0), (nat_lit 5)), ((nat_lit 88), (nat_lit 0), (nat_lit 5)), ((nat_lit 89), (nat_lit 0), (nat_lit 8)), ((nat_lit 90), (nat_lit 0), (nat_lit 8)), ((nat_lit 92), (nat_lit 2), (nat_lit 4)), ((nat_lit 94), (nat_lit 4), (nat_lit 7)), ((nat_lit 95), (nat_lit 0), (nat_lit 7)), ((nat_lit 106), (nat_lit 0), (nat_lit 2)), ((nat_lit 107), (nat_lit 0), (nat_lit 5)), ((nat_lit 108), (nat_lit 0), (nat_lit 5)), ((nat_lit 109), (nat_lit 0), (nat_lit 8)), ((nat_lit 110), (nat_lit 0), (nat_lit 8)), ((nat_lit 111), (nat_lit 0), (nat_lit 8)), ((nat_lit 112), (nat_lit 0), (nat_lit 2)), ((nat_lit 113), (nat_lit 0), (nat_lit 5)), ((nat_lit 114), (nat_lit 0), (nat_lit 5)), ((nat_lit 115), (nat_lit 0), (nat_lit 8)), ((nat_lit 116), (nat_lit 0), (nat_lit 8)), ((nat_lit 117), (nat_lit 0), (nat_lit 8)), ((nat_lit 118), (nat_lit 0), (nat_lit 2)), ((nat_lit 119), (nat_lit 0), (nat_lit 5)), ((nat_lit 120), (nat_lit 0), (nat_lit 5)), ((nat_lit 121), (nat_lit 0), (nat_lit 8)), ((nat_lit 122), (nat_lit 0), (nat_lit 8)), ((nat_lit 123), (nat_lit 0), (nat_lit 8)), ((nat_lit 124), (nat_lit 0), (nat_lit 2)), ((nat_lit 125), (nat_lit 0), (nat_lit 5)), ((nat_lit 126), (nat_lit 0), (nat_lit 5)), ((nat_lit 127), (nat_lit 0), (nat_lit 8)), ((nat_lit 128), (nat_lit 0), (nat_lit 8)), ((nat_lit 129), (nat_lit 0), (nat_lit 8)), ((nat_lit 130), (nat_lit 0), (nat_lit 2)), ((nat_lit 131), (nat_lit 0), (nat_lit 5)), ((nat_lit 132), (nat_lit 0), (nat_lit 5)), ((nat_lit 133), (nat_lit 0), (nat_lit 8)), ((nat_lit 134), (nat_lit 0), (nat_lit 8)), ((nat_lit 135), (nat_lit 0), (nat_lit 8)), ((nat_lit 136), (nat_lit 0), (nat_lit 2)), ((nat_lit 137), (nat_lit 0), (nat_lit 5)), ((nat_lit 138), (nat_lit 0), (nat_lit 5)), ((nat_lit 139), (nat_lit 0), (nat_lit 8)), ((nat_lit 140), (nat_lit 0), (nat_lit 8)), ((nat_lit 141), (nat_lit 0), (nat_lit 8)), ((nat_lit 142), (nat_lit 0), (nat_lit 2)), ((nat_lit 143), (nat_lit 0), (nat_lit 5)), ((nat_lit 144), (nat_lit 0), (nat_lit 5)), ((nat_lit 145), (nat_lit 0), (nat_lit 8)), ((nat_lit 146), (nat_lit 0), (nat_lit 8)), ((nat_lit 147), (nat_lit 0), (nat_lit 8)), ((nat_lit 148), (nat_lit 0), (nat_lit 2)), ((nat_lit 149), (nat_lit 0), (nat_lit 5)), ((nat_lit 150), (nat_lit 0), (nat_lit 5)), ((nat_lit 151), (nat_lit 0), (nat_lit 8)), ((nat_lit 152), (nat_lit 0), (nat_lit 8)), ((nat_lit 153), (nat_lit 0), (nat_lit 8)), ((nat_lit 154), (nat_lit 0), (nat_lit 2)), ((nat_lit 155), (nat_lit 0), (nat_lit 5)), ((nat_lit 156), (nat_lit 0), (nat_lit 5)), ((nat_lit 157), (nat_lit 0), (nat_lit 8)), ((nat_lit 158), (nat_lit 0), (nat_lit 8)), ((nat_lit 159), (nat_lit 0), (nat_lit 8)), ((nat_lit 160), (nat_lit 0), (nat_lit 2)), ((nat_lit 161), (nat_lit 0), (nat_lit 5)), ((nat_lit 162), (nat_lit 0), (nat_lit 5)), ((nat_lit 163), (nat_lit 0), (nat_lit 8)), ((nat_lit 164), (nat_lit 0), (nat_lit 8)), ((nat_lit 165), (nat_lit 0), (nat_lit 8)), ((nat_lit 166), (nat_lit 0), (nat_lit 2)), ((nat_lit 167), (nat_lit 0), (nat_lit 5)), ((nat_lit 168), (nat_lit 0), (nat_lit 5)), ((nat_lit 169), (nat_lit 0), (nat_lit 8)), ((nat_lit 170), (nat_lit 0), (nat_lit 8)), ((nat_lit 171), (nat_lit 0), (nat_lit 8)), ((nat_lit 172), (nat_lit 0), (nat_lit 2)), ((nat_lit 173), (nat_lit 0), (nat_lit 5)), ((nat_lit 174), (nat_lit 0), (nat_lit 5)), ((nat_lit 175), (nat_lit 0), (nat_lit 8)), ((nat_lit 176), (nat_lit 0), (nat_lit 8)), ((nat_lit 177), (nat_lit 0), (nat_lit 8))]
set_option maxRecDepth 100000 in
theorem btX11_send : bTab oX11_send tX11_send := ⟨ofX11_send, by decide +kernel⟩
def ct_269 : aCt := (mX11_send, [ag_0, ag_1, ag_1], ([], [((0, 3), 2), ((92, 0), 2), ((94, 0), 2)]), [pon_703, pon_705], mdn_706, [], (nat_lit 5))
set_option maxRecDepth 100000 in
theorem S_269 : aSpec wd ct_269 := bChk_ok wx_ok btX11_send (nds := []) (fk := []) (rk := (1, [])) (sp := 0) (fuel := 3000) (by decide +kernel) (lk_d S_268 ml_11_341 (lk_d S_266 ml_11_98 (lk_d S_63 ml_11_98 (lk_d S_171 ml_11_283 (lk_d S_170 ml_11_283 (lk_d S_169 ml_11_283 (lk_d S_168 ml_11_283 (lk_d S_167 ml_11_283 (lk_d S_62 ml_11_121 (lk_d S_65 ml_11_147 (lk_d S_57 ml_11_112 lk_n))))))))))) odX11_send
def ag_707 : aAg := .inl [((.negSucc (nat_lit 0)), (.ofNat (nat_lit 3)), (nat_lit 1))]
def pon_708 : aPo := (some (.inl [((.ofNat (nat_lit 0)), (.ofNat (nat_lit 0)), (nat_lit 1))]), [some aTop, none], [], [])
def pon_709 : aPo := (some (.inl [((.ofNat (nat_lit 1)), (.ofNat (nat_lit 1)), (nat_lit 1))]), [some [((.ofNat (nat_lit 0)), (.ofNat (nat_lit 3)), (nat_lit 1))], some [((.ofNat (nat_lit 0)), (.ofNat (nat_lit 3)), (nat_lit 1))]], [], [])
def ct_270 : aCt := (mX11_isWithin, [ag_1, ag_707], ([], []), [pon_708, pon_709], [], [], (nat_lit 0))
set_option maxRecDepth 100000 in
theorem S_270 : aSpec wd ct_270 := bChk_ok wx_ok btX11_isWithin (nds := []) (fk := []) (rk := (1, [])) (sp := 0) (fuel := 3000) (by decide +kernel) lk_n odX11_isWithin
def ct_271 : aCt := (mX11_withNote, [ag_1, ag_137, ag_348, ag_361], ([], []), [pon_130], [], [], (nat_lit 0))
set_option maxRecDepth 100000 in
theorem S_271 : aSpec wd ct_271 := bChk_ok wx_ok btX11_withNote (nds := []) (fk := []) (rk := (1, [])) (sp := 0) (fuel := 3000) (by decide +kernel) lk_n odX11_withNote
def pon_710 : aPo := (some (.inl [((.ofNat (nat_lit 0)), (.ofNat (nat_lit 0)), (nat_lit 1))]), [], [sl_698], [])
set_option maxRecDepth 100000 in
theorem btX11_hasRefused : bTab oX11_hasRefused tX11_hasRefused := ⟨ofX11_hasRefused, by decide +kernel⟩
def ct_272 : aCt := (mX11_hasRefused, [ag_0, ag_150], ([], []), [pon_710], mdn_25, [], (nat_lit 0))
set_option maxRecDepth 100000 in
theorem S_272 : aSpec wd ct_272 := bChk_ok wx_ok btX11_hasRefused (nds := []) (fk := []) (rk := (1, [])) (sp := 0) (fuel := 3000) (by decide +kernel) lk_n odX11_hasRefused
def pon_711 : aPo := (some (.inl [((.ofNat (nat_lit 1)), (.ofNat (nat_lit 1)), (nat_lit 1))]), [], [sl_301], [])
set_option maxRecDepth 100000 in
theorem btX11_hasGranted : bTab oX11_hasGranted tX11_hasGranted := ⟨ofX11_hasGranted, by decide +kernel⟩
def ct_273 : aCt := (mX11_hasGranted, [ag_0], ([], []), [pon_711], mdn_25, [], (nat_lit 0))
set_option maxRecDepth 100000 in
theorem S_273 : aSpec wd ct_273 := bChk_ok wx_ok btX11_hasGranted (nds := []) (fk := []) (rk := (1, [])) (sp := 0) (fuel := 3000) (by decide +kernel) lk_n odX11_hasGranted
def pon_712 : aPo := (some (.inl [((.ofNat (nat_lit 0)), (.ofNat (nat_lit 0)), (nat_lit 1))]), [], [sl_23], [])
def ct_274 : aCt := (mX11_hasRefused, [ag_0, ag_22], ([], []), [pon_712], mdn_25, [], (nat_lit 0))
set_option maxRecDepth 100000 in
theorem S_274 : aSpec wd ct_274 := bChk_ok wx_ok btX11_hasRefused (nds := []) (fk := []) (rk := (1, [])) (sp := 0) (fuel := 3000) (by decide +kernel) lk_n odX11_hasRefused
def pon_713 : aPo := (some (.inl [((.ofNat (nat_lit 0)), (.ofNat (nat_lit 0)), (nat_lit 1))]), [], [sl_332], [])
def ct_275 : aCt := (mX11_hasRefused, [ag_0, ag_53], ([], []), [pon_713], mdn_25, [], (nat_lit 0))
set_option maxRecDepth 100000 in
theorem S_275 : aSpec wd ct_275 := bChk_ok wx_ok btX11_hasRefused (nds := []) (fk := []) (rk := (1, [])) (sp := 0) (fuel := 3000) (by decide +kernel) lk_n odX11_hasRefused
def sl_714 : (Nat × Nat) × aI := (((nat_lit 0), (nat_lit 2)), [((.ofNat (nat_lit 1)), (.ofNat (nat_lit 2)), (nat_lit 1)), ((.ofNat (nat_lit 5)), (.ofNat (nat_lit 5)), (nat_lit 1))])
def pon_715 : aPo := (some (.inl [((.ofNat (nat_lit 0)), (.ofNat (nat_lit 0)), (nat_lit 1))]), [], [sl_714], [])
def pon_716 : aPo := (some (.inl [((.ofNat (nat_lit 1)), (.ofNat (nat_lit 1)), (nat_lit 1))]), [none, some [((.ofNat (nat_lit 0)), (.ofNat (nat_lit 7)), (nat_lit 1))], some [((.ofNat (nat_lit 0)), (.ofNat (nat_lit 999)), (nat_lit 1))], some [((.ofNat (nat_lit 0)), (.ofNat (nat_lit 3)), (nat_lit 1))]], [sl_301, sl_338], [])
def mdn_717 : List (Nat × Nat × Nat) := [((nat_lit 0), (nat_lit 2), (nat_lit 3)), ((nat_lit 0), (nat_lit 12), (nat_lit 14)), ((nat_lit 91), (nat_lit 0), (nat_lit 8)), ((nat_lit 106), (nat_lit 0), (nat_lit 2)), ((nat_lit 107), (nat_lit 0), (nat_lit 5)), ((nat_lit 108), (nat_lit 0), (nat_lit 5)), ((nat_lit 109), (nat_lit 0), (nat_lit 8)), ((nat_lit 110), (nat_lit 0), (nat_lit 8)), ((nat_lit 111), (nat_lit 0), (nat_lit 8)), ((nat_lit 112), (nat_lit 0), (nat_lit 2)), ((nat_lit 113), (nat_lit 0), (nat_lit 5)), ((nat_lit 114), (nat_lit 0), (nat_lit 5)), ((nat_lit 115), (nat_lit 0), (nat_lit 8)), ((nat_lit 116), (nat_lit 0), (nat_lit 8)), ((nat_lit 117), (nat_lit 0), (nat_lit 8)), ((nat_lit 118), (nat_lit 0), (nat_lit 2)), ((nat_lit 119), (nat_lit 0), (nat_lit 5)), ((nat_lit 120), (nat_lit 0), (nat_lit 5)), ((nat_lit 121), (nat_lit 0), (nat_lit 8)), ((nat_lit 122), (nat_lit 0), (nat_lit 8)), ((nat_lit 123), (nat_lit 0), (nat_lit 8)), ((nat_lit 124), (nat_lit 0), (nat_lit 2)), ((nat_lit 125), (nat_lit 0), (nat_lit 5)), ((nat_lit 126), (nat_lit 0), (nat_lit 5)), ((nat_lit 127), (nat_lit 0), (nat_lit 8)), ((nat_lit 128), (nat_lit 0), (nat_lit 8)), ((nat_lit 129), (nat_lit 0), (nat_lit 8)), ((nat_lit 130), (nat_lit 0), (nat_lit 2)), ((nat_lit 131), (nat_lit 0), (nat_lit 5)), ((nat_lit 132), (nat_lit 0), (nat_lit 5)), ((nat_lit 133), (nat_lit 0), (nat_lit 8)), ((nat_lit 134), (nat_lit 0), (nat_lit 8)), ((nat_lit 135), (nat_lit 0), (nat_lit 8)), ((nat_lit 136), (nat_lit 0), (nat_lit 2)), ((nat_lit 137), (nat_lit 0), (nat_lit 5)), ((nat_lit 138), (nat_lit 0), (nat_lit 5)), ((nat_lit 139), (nat_lit 0), (nat_lit 8)), ((nat_lit 140), (nat_lit 0), (nat_lit 8)), ((nat_lit 141), (nat_lit 0), (nat_lit 8)), ((nat_lit 142), (nat_lit 0), (nat_lit 2)), ((nat_lit 143), (nat_lit 0), (nat_lit 5)), ((nat_lit 144), (nat_lit 0), (nat_lit 5)), ((nat_lit 145), (nat_lit 0), (nat_lit 8)), ((nat_lit 146), (nat_lit 0), (nat_lit 8)), ((nat_lit 147), (nat_lit 0), (nat_lit 8)), ((nat_lit 148), (nat_lit 0), (nat_lit 2)), ((nat_lit 149), (nat_lit 0), (nat_lit 5)), ((nat_lit 150), (nat_lit 0), (nat_lit 5)), ((nat_lit 151), (nat_lit 0), (nat_lit 8)), ((nat_lit 152), (nat_lit 0), (nat_lit 8)), ((nat_lit 153), (nat_lit 0), (nat_lit 8)), ((nat_lit 154), (nat_lit 0), (nat_lit 2)), ((nat_lit 155), (nat_lit 0), (nat_lit 5)), ((nat_lit 156), (nat_lit 0), (nat_lit 5)), ((nat_lit 157), (nat_lit 0), (nat_lit 8)), ((nat_lit 158), (nat_lit 0), (nat_lit 8)), ((nat_lit 159), (nat_lit 0), (nat_lit 8)), ((nat_lit 160), (nat_lit 0), (nat_lit 2)), ((nat_lit 161), (nat_lit 0), (nat_lit 5)), ((nat_lit 162), (nat_lit 0), (nat_lit 5)), ((nat_lit 163), (nat_lit 0), (nat_lit 8)), ((nat_lit 164), (nat_lit 0), (nat_lit 8)), ((nat_lit 165), (nat_lit 0), (nat_lit 8)), ((nat_lit 166), (nat_lit 0), (nat_lit 2)), ((nat_lit 167), (nat_lit 0), (nat_lit 5)), ((nat_lit 168), (nat_lit 0), (nat_lit 5)), ((nat_lit 169), (nat_lit 0), (nat_lit 8)), ((nat_lit 170), (nat_lit 0), (nat_lit 8)), ((nat_lit 171), (nat_lit 0), (nat_lit 8)), ((nat_lit 172), (nat_lit 0), (nat_lit 2)), ((nat_lit 173), (nat_lit 0), (nat_lit 5)), ((nat_lit 174), (nat_lit 0), (nat_lit 5)), ((nat_lit 175), (nat_lit 0), (nat_lit 8)), ((nat_lit 176), (nat_lit 0), (nat_lit 8)), ((nat_lit 177), (nat_lit 0), (nat_lit 8))]
set_option maxRecDepth 100000 in
theorem btX11_tune : bTab oX11_tune tX11_tune := ⟨ofX11_tune, by decide +kernel⟩
def ct_276 : aCt := (mX11_tune, [ag_0, ag_1, ag_1, ag_1], ([], [((0, 3), 2)]), [pon_715, pon_716], mdn_717, [], (nat_lit 3))
set_option maxRecDepth 100000 in
theorem S_276 : aSpec wd ct_276 := bChk_ok wx_ok btX11_tune (nds := []) (fk := []) (rk := (1, [])) (sp := 0) (fuel := 3000) (by decide +kernel) (lk_d S_268 ml_11_341 (lk_d S_273 ml_11_356 (lk_d S_272 ml_11_347 (lk_d S_274 ml_11_347 (lk_d S_275 ml_11_347 (lk_d S_76 ml_11_198 (lk_d S_98 ml_11_242 (lk_d S_270 ml_11_227 (lk_d S_271 ml_11_353 (lk_d S_77 ml_11_191 lk_n)))))))))) odX11_tune
def sl_718 : (Nat × Nat) × aI := (((nat_lit 0), (nat_lit 2)), [((.ofNat (nat_lit 3)), (.ofNat (nat_lit 3)), (nat_lit 1))])
def pon_719 : aPo := (some (.inl [((.negSucc (nat_lit 0)), (.negSucc (nat_lit 0)), (nat_lit 1))]), [], [sl_718], [])
def ct_277 : aCt := (mX11_refused, [ag_0, ag_122], ([], []), [pon_719], mdn_25, [], (nat_lit 0))
set_option maxRecDepth 100000 in
theorem S_277 : aSpec wd ct_277 := bChk_ok wx_ok btX11_refused (nds := []) (fk := []) (rk := (1, [])) (sp := 0) (fuel := 3000) (by decide +kernel) lk_n odX11_refused
def pon_720 : aPo := (some (.inl aTop), [none, some [((.ofNat (nat_lit 1)), (.ofNat (nat_lit 99)), (nat_lit 1))]], [sl_301, sl_341], [])
def sl_721 : (Nat × Nat) × aI := (((nat_lit 0), (nat_lit 2)), [((.ofNat (nat_lit 1)), (.ofNat (nat_lit 3)), (nat_lit 1))])
def pon_722 : aPo := (some (.inl [((.negSucc (nat_lit 0)), (.negSucc (nat_lit 0)), (nat_lit 1))]), [], [sl_721], [])
def mdn_723 : List (Nat × Nat × Nat) := [((nat_lit 0), (nat_lit 2), (nat_lit 3)), ((nat_lit 0), (nat_lit 12), (nat_lit 14)), ((nat_lit 86), (nat_lit 0), (nat_lit 1)), ((nat_lit 106), (nat_lit 0), (nat_lit 2)), ((nat_lit 107), (nat_lit 0), (nat_lit 5)), ((nat_lit 108), (nat_lit 0), (nat_lit 5)), ((nat_lit 109), (nat_lit 0), (nat_lit 8)), ((nat_lit 110), (nat_lit 0), (nat_lit 8)), ((nat_lit 111), (nat_lit 0), (nat_lit 8)), ((nat_lit 112), (nat_lit 0), (nat_lit 2)), ((nat_lit 113), (nat_lit 0), (nat_lit 5)), ((nat_lit 114), (nat_lit 0), (nat_lit 5)), ((nat_lit 115), (nat_lit 0), (nat_lit 8)), ((nat_lit 116), (nat_lit 0), (nat_lit 8)), ((nat_lit 117), (nat_lit 0), (nat_lit 8)), ((nat_lit 118), (nat_lit 0), (nat_lit 2)), ((nat_lit 119), (nat_lit 0), (nat_lit 5)), ((nat_lit 120), (nat_lit 0), (nat_lit 5)), ((nat_lit 121), (nat_lit 0), (nat_lit 8)), ((nat_lit 122), (nat_lit 0), (nat_lit 8)), ((nat_lit 123), (nat_lit 0), (nat_lit 8)), ((nat_lit 124), (nat_lit 0), (nat_lit 2)), ((nat_lit 125), (nat_lit 0), (nat_lit 5)), ((nat_lit 126), (nat_lit 0), (nat_lit 5)), ((nat_lit 127), (nat_lit 0), (nat_lit 8)), ((nat_lit 128), (nat_lit 0), (nat_lit 8)), ((nat_lit 129), (nat_lit 0), (nat_lit 8)), ((nat_lit 130), (nat_lit 0), (nat_lit 2)), ((nat_lit 131), (nat_lit 0), (nat_lit 5)), ((nat_lit 132), (nat_lit 0), (nat_lit 5)), ((nat_lit 133), (nat_lit 0), (nat_lit 8)), ((nat_lit 134), (nat_lit 0), (nat_lit 8)), ((nat_lit 135), (nat_lit 0), (nat_lit 8)), ((nat_lit 136), (nat_lit 0), (nat_lit 2)), ((nat_lit 137), (nat_lit 0), (nat_lit 5)), ((nat_lit 138), (nat_lit 0), (nat_lit 5)), ((nat_lit 139), (nat_lit 0), (nat_lit 8)), ((nat_lit 140), (nat_lit 0), (nat_lit 8)), ((nat_lit 141), (nat_lit 0), (nat_lit 8)), ((nat_lit 142), (nat_lit 0), (nat_lit 2)), ((nat_lit 143), (nat_lit 0), (nat_lit 5)), ((nat_lit 144), (nat_lit 0), (nat_lit 5)), ((nat_lit 145), (nat_lit 0), (nat_lit 8)), ((nat_lit 146), (nat_lit 0), (nat_lit 8)), ((nat_lit 147), (nat_lit 0), (nat_lit 8)), ((nat_lit 148), (nat_lit 0), (nat_lit 2)), ((nat_lit 149), (nat_lit 0), (nat_lit 5)), ((nat_lit 150), (nat_lit 0), (nat_lit 5)), ((nat_lit 151), (nat_lit 0), (nat_lit 8)), ((nat_lit 152), (nat_lit 0), (nat_lit 8)), ((nat_lit 153), (nat_lit 0), (nat_lit 8)), ((nat_lit 154), (nat_lit 0), (nat_lit 2)), ((nat_lit 155), (nat_lit 0), (nat_lit 5)), ((nat_lit 156), (nat_lit 0), (nat_lit 5)), ((nat_lit 157), (nat_lit 0), (nat_lit 8)), ((nat_lit 158), (nat_lit 0), (nat_lit 8)), ((nat_lit 159), (nat_lit 0), (nat_lit 8)), ((nat_lit 160), (nat_lit 0), (nat_lit 2)), ((nat_lit 161), (nat_lit 0), (nat_lit 5)), ((nat_lit 162), (nat_lit 0), (nat_lit 5)), ((nat_lit 163), (nat_lit 0), (nat_lit 8)), ((nat_lit 164), (nat_lit 0), (nat_lit 8)), ((nat_lit 165), (nat_lit 0), (nat_lit 8)), ((nat_lit 166), (nat_lit 0), (nat_lit 2)), ((nat_lit 167), (nat_lit 0), (nat_lit 5)), ((nat_lit 168), (nat_lit 0), (nat_lit 5)), ((nat_lit 169), (nat_lit 0), (nat_lit 8)), ((nat_lit 170), (nat_lit 0), (nat_lit 8)), ((nat_lit 171), (nat_lit 0), (nat_lit 8)), ((nat_lit 172), (nat_lit 0), (nat_lit 2)), ((nat_lit 173), (nat_lit 0), (nat_lit 5)), ((nat_lit 174), (nat_lit 0), (nat_lit 5)), ((nat_lit 175), (nat_lit 0), (nat_lit 8)), ((nat_lit 176), (nat_lit 0), (nat_lit 8)), ((nat_lit 177), (nat_lit 0), (nat_lit 8))]
set_option maxRecDepth 100000 in
theorem btX11_years : bTab oX11_years tX11_years := ⟨ofX11_years, by decide +kernel⟩
def ct_278 : aCt := (mX11_years, [ag_0, ag_1], ([], [((0, 3), 2)]), [pon_720, pon_722], mdn_723, [], (nat_lit 3))
set_option maxRecDepth 100000 in
theorem S_278 : aSpec wd ct_278 := bChk_ok wx_ok btX11_years (nds := []) (fk := [38]) (rk := (1, [])) (sp := 0) (fuel := 3000) (by decide +kernel) (lk_d S_91 ml_11_222 (lk_d S_268 ml_11_341 (lk_d S_6 ml_11_98 (lk_d S_277 ml_11_98 (lk_d S_63 ml_11_98 (lk_d S_57 ml_11_112 lk_n)))))) odX11_years
def pon_724 : aPo := (some (.inl [((.ofNat (nat_lit 0)), (.ofNat (nat_lit 0)), (nat_lit 1))]), [], [sl_704], [])
def pon_725 : aPo := (some (.inl [((.ofNat (nat_lit 1)), (.ofNat (nat_lit 1)), (nat_lit 1))]), [none, some [((.ofNat (nat_lit 0)), (.ofNat (nat_lit 11)), (nat_lit 1))], some [((.ofNat (nat_lit 0)), (.ofNat (nat_lit 1)), (nat_lit 1))]], [sl_301, sl_376], [])
def mdn_726 : List (Nat × Nat × Nat) := [((nat_lit 0), (nat_lit 2), (nat_lit 3)), ((nat_lit 0), (nat_lit 12), (nat_lit 14)), ((nat_lit 86), (nat_lit 1), (nat_lit 2)), ((nat_lit 106), (nat_lit 0), (nat_lit 2)), ((nat_lit 107), (nat_lit 0), (nat_lit 5)), ((nat_lit 108), (nat_lit 0), (nat_lit 5)), ((nat_lit 109), (nat_lit 0), (nat_lit 8)), ((nat_lit 110), (nat_lit 0), (nat_lit 8)), ((nat_lit 111), (nat_lit 0), (nat_lit 8)), ((nat_lit 112), (nat_lit 0), (nat_lit 2)), ((nat_lit 113), (nat_lit 0), (nat_lit 5)), ((nat_lit 114), (nat_lit 0), (nat_lit 5)), ((nat_lit 115), (nat_lit 0), (nat_lit 8)), ((nat_lit 116), (nat_lit 0), (nat_lit 8)), ((nat_lit 117), (nat_lit 0), (nat_lit 8)), ((nat_lit 118), (nat_lit 0), (nat_lit 2)), ((nat_lit 119), (nat_lit 0), (nat_lit 5)), ((nat_lit 120), (nat_lit 0), (nat_lit 5)), ((nat_lit 121), (nat_lit 0), (nat_lit 8)), ((nat_lit 122), (nat_lit 0), (nat_lit 8)), ((nat_lit 123), (nat_lit 0), (nat_lit 8)), ((nat_lit 124), (nat_lit 0), (nat_lit 2)), ((nat_lit 125), (nat_lit 0), (nat_lit 5)), ((nat_lit 126), (nat_lit 0), (nat_lit 5)), ((nat_lit 127), (nat_lit 0), (nat_lit 8)), ((nat_lit 128), (nat_lit 0), (nat_lit 8)), ((nat_lit 129), (nat_lit 0), (nat_lit 8)), ((nat_lit 130), (nat_lit 0), (nat_lit 2)), ((nat_lit 131), (nat_lit 0), (nat_lit 5)), ((nat_lit 132), (nat_lit 0), (nat_lit 5)), ((nat_lit 133), (nat_lit 0), (nat_lit 8)), ((nat_lit 134), (nat_lit 0), (nat_lit 8)), ((nat_lit 135), (nat_lit 0), (nat_lit 8)), ((nat_lit 136), (nat_lit 0), (nat_lit 2)), ((nat_lit 137), (nat_lit 0), (nat_lit 5)), ((nat_lit 138), (nat_lit 0), (nat_lit 5)), ((nat_lit 139), (nat_lit 0), (nat_lit 8)), ((nat_lit 140), (nat_lit 0), (nat_lit 8)), ((nat_lit 141), (nat_lit 0), (nat_lit 8)), ((nat_lit 142), (nat_lit 0), (nat_lit 2)), ((nat_lit 143), (nat_lit 0), (nat_lit 5)), ((nat_lit 144), (nat_lit 0), (nat_lit 5)), ((nat_lit 145), (nat_lit 0), (nat_lit 8)), ((nat_lit 146), (nat_lit 0), (nat_lit 8)), ((nat_lit 147), (nat_lit 0), (nat_lit 8)), ((nat_lit 148), (nat_lit 0), (nat_lit 2)), ((nat_lit 149), (nat_lit 0), (nat_lit 5)), ((nat_lit 150), (nat_lit 0), (nat_lit 5)), ((nat_lit 151), (nat_lit 0), (nat_lit 8)), ((nat_lit 152), (nat_lit 0), (nat_lit 8)), ((nat_lit 153), (nat_lit 0), (nat_lit 8)), ((nat_lit 154), (nat_lit 0), (nat_lit 2)), ((nat_lit 155), (nat_lit 0), (nat_lit 5)), ((nat_lit 156), (nat_lit 0), (nat_lit 5)), ((nat_lit 157), (nat_lit 0), (nat_lit 8)), ((nat_lit 158), (nat_lit 0), (nat_lit 8)), ((nat_lit 159), (nat_lit 0), (nat_lit 8)), ((nat_lit 160), (nat_lit 0), (nat_lit 2)), ((nat_lit 161), (nat_lit 0), (nat_lit 5)), ((nat_lit 162), (nat_lit 0), (nat_lit 5)), ((nat_lit 163), (nat_lit 0), (nat_lit 8)), ((nat_lit 164), (nat_lit 0), (nat_lit 8)), ((nat_lit 165), (nat_lit 0), (nat_lit 8)), ((nat_lit 166), (nat_lit 0), (nat_lit 2)), ((nat_lit 167), (nat_lit 0), (nat_lit 5)), ((nat_lit 168), (nat_lit 0), (nat_lit 5)), ((nat_lit 169), (nat_lit 0), (nat_lit 8)), ((nat_lit 170), (nat_lit 0), (nat_lit 8)), ((nat_lit 171), (nat_lit 0), (nat_lit 8)), ((nat_lit 172), (nat_lit 0), (nat_lit 2)), ((nat_lit 173), (nat_lit 0), (nat_lit 5)), ((nat_lit 174), (nat_lit 0), (nat_lit 5)), ((nat_lit 175), (nat_lit 0), (nat_lit 8)), ((nat_lit 176), (nat_lit 0), (nat_lit 8)), ((nat_lit 177), (nat_lit 0), (nat_lit 8))]
set_option maxRecDepth 100000 in
theorem btX11_close : bTab oX11_close tX11_close := ⟨ofX11_close, by decide +kernel⟩
def ct_279 : aCt := (mX11_close, [ag_0, ag_1, ag_535], ([], [((0, 3), 2)]), [pon_724, pon_725], mdn_726, [], (nat_lit 3))
set_option maxRecDepth 100000 in
theorem S_279 : aSpec wd ct_279 := bChk_ok wx_ok btX11_close (nds := []) (fk := []) (rk := (1, [])) (sp := 0) (fuel := 3000) (by decide +kernel) (lk_d S_268 ml_11_341 (lk_d S_273 ml_11_356 (lk_d S_272 ml_11_347 (lk_d S_275 ml_11_347 (lk_d S_89 ml_11_210 (lk_d S_94 ml_11_230 lk_n)))))) odX11_close
def pon_727 : aPo := (some (.inl [((.ofNat (nat_lit 0)), (.ofNat (nat_lit 0)), (nat_lit 1))]), [], [sl_567], [])
def ct_280 : aCt := (mX11_hasRefused, [ag_0, ag_153], ([], []), [pon_727], mdn_25, [], (nat_lit 0))
set_option maxRecDepth 100000 in
theorem S_280 : aSpec wd ct_280 := bChk_ok wx_ok btX11_hasRefused (nds := []) (fk := []) (rk := (1, [])) (sp := 0) (fuel := 3000) (by decide +kernel) lk_n odX11_hasRefused
def ct_281 : aCt := (mX2_copyFrom, [ag_289, ag_700], ([], []), [pon_49], mdn_290, [], (nat_lit 1))
set_option maxRecDepth 100000 in
theorem S_281 : aSpec wd ct_281 := bChk_ok wx_ok btX2_copyFrom (nds := []) (fk := []) (rk := (1, [])) (sp := 0) (fuel := 3000) (by decide +kernel) lk_n odX2_copyFrom
def mdn_728 : List (Nat × Nat × Nat) := [((nat_lit 0), (nat_lit 2), (nat_lit 3)), ((nat_lit 0), (nat_lit 12), (nat_lit 14)), ((nat_lit 86), (nat_lit 0), (nat_lit 2)), ((nat_lit 87), (nat_lit 0), (nat_lit 5)), ((nat_lit 88), (nat_lit 0), (nat_lit 5)), ((nat_lit 89), (nat_lit 0), (nat_lit 8)), ((nat_lit 90), (nat_lit 0), (nat_lit 8)), ((nat_lit 91), (nat_lit 0), (nat_lit 8))]
set_option maxRecDepth 100000 in
theorem btX11_undo : bTab oX11_undo tX11_undo := ⟨ofX11_undo, by decide +kernel⟩
def ct_282 : aCt := (mX11_undo, [ag_0], ([], []), [pon_727, pon_711], mdn_728, [], (nat_lit 2))
set_option maxRecDepth 100000 in
theorem S_282 : aSpec wd ct_282 := bChk_ok wx_ok btX11_undo (nds := []) (fk := []) (rk := (1, [])) (sp := 0) (fuel := 3000) (by decide +kernel) (lk_d S_273 ml_11_356 (lk_d S_280 ml_11_347 (lk_d S_281 ml_11_359 lk_n))) odX11_undo
def ag_729 : aAg := .inr (.inl [(nat_lit 178), (nat_lit 184), (nat_lit 190)])
def mdn_730 : List (Nat × Nat × Nat) := [((nat_lit 178), (nat_lit 0), (nat_lit 2)), ((nat_lit 179), (nat_lit 0), (nat_lit 5)), ((nat_lit 180), (nat_lit 0), (nat_lit 5)), ((nat_lit 181), (nat_lit 0), (nat_lit 8)), ((nat_lit 182), (nat_lit 0), (nat_lit 8)), ((nat_lit 183), (nat_lit 0), (nat_lit 8)), ((nat_lit 184), (nat_lit 0), (nat_lit 2)), ((nat_lit 185), (nat_lit 0), (nat_lit 5)), ((nat_lit 186), (nat_lit 0), (nat_lit 5)), ((nat_lit 187), (nat_lit 0), (nat_lit 8)), ((nat_lit 188), (nat_lit 0), (nat_lit 8)), ((nat_lit 189), (nat_lit 0), (nat_lit 8)), ((nat_lit 190), (nat_lit 0), (nat_lit 2)), ((nat_lit 191), (nat_lit 0), (nat_lit 5)), ((nat_lit 192), (nat_lit 0), (nat_lit 5)), ((nat_lit 193), (nat_lit 0), (nat_lit 8)), ((nat_lit 194), (nat_lit 0), (nat_lit 8)), ((nat_lit 195), (nat_lit 0), (nat_lit 8))]
def ct_283 : aCt := (mX2_copyFrom, [ag_729, ag_289], ([], []), [pon_49], mdn_730, [], (nat_lit 1))
set_option maxRecDepth 100000 in
theorem S_283 : aSpec wd ct_283 := bChk_ok wx_ok btX2_copyFrom (nds := []) (fk := []) (rk := (1, [])) (sp := 0) (fuel := 3000) (by decide +kernel) lk_n odX2_copyFrom
def sl_731 : (Nat × Nat) × aI := (((nat_lit 0), (nat_lit 15)), [((.ofNat (nat_lit 1)), (.ofNat (nat_lit 3)), (nat_lit 1))])
def pon_732 : aPo := (some (.inl aTop), [], [sl_301, sl_731, sl_341], [])
def sl_733 : (Nat × Nat) × aI := (((nat_lit 0), (nat_lit 2)), [((.ofNat (nat_lit 1)), (.ofNat (nat_lit 1)), (nat_lit 1)), ((.ofNat (nat_lit 3)), (.ofNat (nat_lit 3)), (nat_lit 1))])
def pon_734 : aPo := (some (.inl [((.negSucc (nat_lit 0)), (.negSucc (nat_lit 0)), (nat_lit 1))]), [], [sl_733], [])
def mdn_735 : List (Nat × Nat × Nat) := [((nat_lit 0), (nat_lit 2), (nat_lit 3)), ((nat_lit 0), (nat_lit 15), (nat_lit 16)), ((nat_lit 178), (nat_lit 0), (nat_lit 2)), ((nat_lit 179), (nat_lit 0), (nat_lit 5)), ((nat_lit 180), (nat_lit 0), (nat_lit 5)), ((nat_lit 181), (nat_lit 0), (nat_lit 8)), ((nat_lit 182), (nat_lit 0), (nat_lit 8)), ((nat_lit 183), (nat_lit 0), (nat_lit 8)), ((nat_lit 184), (nat_lit 0), (nat_lit 2)), ((nat_lit 185), (nat_lit 0), (nat_lit 5)), ((nat_lit 186), (nat_lit 0), (nat_lit 5)), ((nat_lit 187), (nat_lit 0), (nat_lit 8)), ((nat_lit 188), (nat_lit 0), (nat_lit 8)), ((nat_lit 189), (nat_lit 0), (nat_lit 8)), ((nat_lit 190), (nat_lit 0), (nat_lit 2)), ((nat_lit 191), (nat_lit 0), (nat_lit 5)), ((nat_lit 192), (nat_lit 0), (nat_lit 5)), ((nat_lit 193), (nat_lit 0), (nat_lit 8)), ((nat_lit 194), (nat_lit 0), (nat_lit 8)), ((nat_lit 195), (nat_lit 0), (nat_lit 8))]
set_option maxRecDepth 100000 in
theorem btX11_image : bTab oX11_image tX11_image := ⟨ofX11_image, by decide +kernel⟩
def ct_284 : aCt := (mX11_image, [ag_0], ([], [((0, 3), 2)]), [pon_732, pon_734], mdn_735, [], (nat_lit 2))
set_option maxRecDepth 100000 in
theorem S_284 : aSpec wd ct_284 := bChk_ok wx_ok btX11_image (nds := []) (fk := []) (rk := (1, [])) (sp := 0) (fuel := 3000) (by decide +kernel) (lk_d S_91 ml_11_222 (lk_d S_277 ml_11_98 (lk_d S_63 ml_11_98 (lk_d S_283 ml_11_359 (lk_d S_57 ml_11_112 lk_n))))) odX11_image
def ct_285 : aCt := (mX2_copyFrom, [ag_289, ag_729], ([], []), [pon_49], mdn_290, [], (nat_lit 1))
set_option maxRecDepth 100000 in
theorem S_285 : aSpec wd ct_285 := bChk_ok wx_ok btX2_copyFrom (nds := []) (fk := []) (rk := (1, [])) (sp := 0) (fuel := 3000) (by decide +kernel) lk_n odX2_copyFrom
def pon_736 : aPo := (some (.inl [((.ofNat (nat_lit 0)), (.ofNat (nat_lit 0)), (nat_lit 1))]), [none, some aTop], [sl_332], [])
def pon_737 : aPo := (some (.inl [((.ofNat (nat_lit 1)), (.ofNat (nat_lit 1)), (nat_lit 1))]), [none, some [((.ofNat (nat_lit 0)), (.ofNat (nat_lit 2)), (nat_lit 1))]], [sl_301, sl_731], [])
def mdn_738 : List (Nat × Nat × Nat) := [((nat_lit 0), (nat_lit 2), (nat_lit 3)), ((nat_lit 0), (nat_lit 13), (nat_lit 14)), ((nat_lit 86), (nat_lit 0), (nat_lit 2)), ((nat_lit 87), (nat_lit 0), (nat_lit 5)), ((nat_lit 88), (nat_lit 0), (nat_lit 5)), ((nat_lit 89), (nat_lit 0), (nat_lit 8)), ((nat_lit 90), (nat_lit 0), (nat_lit 8)), ((nat_lit 91), (nat_lit 0), (nat_lit 8))]
set_option maxRecDepth 100000 in
theorem btX11_back : bTab oX11_back tX11_back := ⟨ofX11_back, by decide +kernel⟩
def ct_286 : aCt := (mX11_back, [ag_0, ag_1], ([], []), [pon_736, pon_737], mdn_738, [], (nat_lit 2))
set_option maxRecDepth 100000 in
theorem S_286 : aSpec wd ct_286 := bChk_ok wx_ok btX11_back (nds := []) (fk := []) (rk := (1, [])) (sp := 0) (fuel := 3000) (by decide +kernel) (lk_d S_273 ml_11_356 (lk_d S_275 ml_11_347 (lk_d S_285 ml_11_359 lk_n))) odX11_back
def pon_739 : aPo := (some (.inl aTop), [none, some [((.ofNat (nat_lit 0)), (.ofNat (nat_lit 12)), (nat_lit 1))]], [], [])
def pon_740 : aPo := (some (.inl [((.negSucc (nat_lit 0)), (.negSucc (nat_lit 0)), (nat_lit 1))]), [none, some [((.negSucc (nat_lit 2147483647)), (.negSucc (nat_lit 0)), (nat_lit 1)), ((.ofNat (nat_lit 13)), (.ofNat (nat_lit 2147483647)), (nat_lit 1))]], [], [])
set_option maxRecDepth 100000 in
theorem btX11_size : bTab oX11_size tX11_size := ⟨ofX11_size, by decide +kernel⟩
def ct_287 : aCt := (mX11_size, [ag_0, ag_1], ([], [((0, 3), 2)]), [pon_739, pon_740], [], [], (nat_lit 0))
set_option maxRecDepth 100000 in
theorem S_287 : aSpec wd ct_287 := bChk_ok wx_ok btX11_size (nds := []) (fk := []) (rk := (1, [])) (sp := 0) (fuel := 3000) (by decide +kernel) lk_n odX11_size
set_option maxRecDepth 100000 in
theorem btX11_trouble : bTab oX11_trouble tX11_trouble := ⟨ofX11_trouble, by decide +kernel⟩
def ct_288 : aCt := (mX11_trouble, [ag_0], ([], []), [pon_264], [], [], (nat_lit 0))
set_option maxRecDepth 100000 in
theorem S_288 : aSpec wd ct_288 := bChk_ok wx_ok btX11_trouble (nds := []) (fk := []) (rk := (1, [])) (sp := 0) (fuel := 3000) (by decide +kernel) lk_n odX11_trouble
def ct_289 : aCt := (mX11_feed, [ag_0, ag_1, ag_1, ag_1, ag_1, ag_1], ([], []), [pon_18, pon_20], mdn_21, [], (nat_lit 1))
set_option maxRecDepth 100000 in
theorem S_289 : aSpec wd ct_289 := bChk_ok wx_ok btX11_feed (nds := []) (fk := []) (rk := (1, [])) (sp := 0) (fuel := 3000) (by decide +kernel) (lk_d S_0 ml_11_94 (lk_d S_1 ml_11_94 (lk_d S_2 ml_11_94 (lk_d S_3 ml_11_94 (lk_d S_4 ml_11_94 lk_n))))) odX11_feed
def sl_741 : (Nat × Nat) × aI := (((nat_lit 2), (nat_lit 5)), [((.ofNat (nat_lit 0)), (.ofNat (nat_lit 0)), (nat_lit 1))])
def sl_742 : (Nat × Nat) × aI := (((nat_lit 2), (nat_lit 7)), [((.ofNat (nat_lit 0)), (.ofNat (nat_lit 0)), (nat_lit 1))])
def sl_743 : (Nat × Nat) × aI := (((nat_lit 2), (nat_lit 8)), [((.ofNat (nat_lit 0)), (.ofNat (nat_lit 0)), (nat_lit 1))])
def pon_744 : aPo := (none, [], [sl_382, sl_741, sl_314, sl_742, sl_743], [])
def mdn_745 : List (Nat × Nat × Nat) := [((nat_lit 2), (nat_lit 0), (nat_lit 9))]
def ct_290 : aCt := (mX4_clear, [ag_357], ([], []), [pon_744], mdn_745, [], (nat_lit 0))
set_option maxRecDepth 100000 in
theorem S_290 : aSpec wd ct_290 := bChk_ok wx_ok btX4_clear (nds := []) (fk := []) (rk := (1, [])) (sp := 0) (fuel := 3000) (by decide +kernel) lk_n odX4_clear
end Pk1
section Pk2
def ct_291 : aCt := (mX5_songOfToken, [ag_34], ([], [((82, 6), 2)]), [pon_130, pon_52], [], [], (nat_lit 0))
set_option maxRecDepth 100000 in
theorem S_291 : aSpec wd ct_291 := bChk_ok wx_ok btX5_songOfToken (nds := [((nat_lit 31), [lcn_40, lcn_131, lcn_132, lcn_60], [], [], [((82, 6), 2)], (1000, [(2, -1)]))]) (fk := []) (rk := (1001, [])) (sp := 2147483648) (fuel := 3000) (by decide +kernel) lk_n odX5_songOfToken
def sl_746 : (Nat × Nat) × aI := (((nat_lit 2), (nat_lit 4)), [((.ofNat (nat_lit 0)), (.ofNat (nat_lit 6)), (nat_lit 1))])
def sl_747 : (Nat × Nat) × aI := (((nat_lit 2), (nat_lit 4)), [((.ofNat (nat_lit 1)), (.ofNat (nat_lit 6)), (nat_lit 1))])
def pon_748 : aPo := (some (.inl [((.ofNat (nat_lit 1)), (.ofNat (nat_lit 1)), (nat_lit 1))]), [], [sl_747], [])
def ct_292 : aCt := (mX4_hasSong, [ag_357, ag_136, ag_137], ([sl_746], []), [pon_37, pon_748], [], [], (nat_lit 0))
set_option maxRecDepth 100000 in
theorem S_292 : aSpec wd ct_292 := bChk_ok wx_ok btX4_hasSong (nds := [((nat_lit 2), [lcn_378, lcn_142, lcn_143, lcn_144], [], [sl_746], [], (6, [(2, -1)]))]) (fk := []) (rk := (7, [])) (sp := 4) (fuel := 3000) (by decide +kernel) lk_n odX4_hasSong
def pon_749 : aPo := (some (.inl [((.ofNat (nat_lit 0)), (.ofNat (nat_lit 0)), (nat_lit 1))]), [], [sl_746, sl_145], [])
def pon_750 : aPo := (some (.inl [((.ofNat (nat_lit 1)), (.ofNat (nat_lit 1)), (nat_lit 1))]), [], [sl_341, sl_61, sl_54], [])
def mdn_751 : List (Nat × Nat × Nat) := [((nat_lit 2), (nat_lit 4), (nat_lit 5)), ((nat_lit 3), (nat_lit 0), (nat_lit 7)), ((nat_lit 4), (nat_lit 0), (nat_lit 7)), ((nat_lit 82), (nat_lit 2), (nat_lit 5)), ((nat_lit 82), (nat_lit 10), (nat_lit 13)), ((nat_lit 84), (nat_lit 0), (nat_lit 20)), ((nat_lit 85), (nat_lit 0), (nat_lit 20))]
def ct_293 : aCt := (mX5_readIsland, [ag_34], ([sl_746, sl_54], [((82, 6), 2)]), [pon_749, pon_750], mdn_751, [], (nat_lit 3))
set_option maxRecDepth 100000 in
theorem S_293 : aSpec wd ct_293 := bChk_ok wx_ok btX5_readIsland (nds := []) (fk := []) (rk := (1, [])) (sp := 0) (fuel := 3000) (by decide +kernel) (lk_d S_291 ml_5_161 (lk_d S_10 ml_5_70 (lk_d S_12 ml_5_76 (lk_d S_18 ml_5_76 (lk_d S_15 ml_5_76 (lk_d S_16 ml_5_158 (lk_d S_292 ml_5_164 lk_n))))))) odX5_readIsland
def mdn_752 : List (Nat × Nat × Nat) := [((nat_lit 2), (nat_lit 0), (nat_lit 4)), ((nat_lit 82), (nat_lit 2), (nat_lit 6)), ((nat_lit 82), (nat_lit 11), (nat_lit 13))]
def ct_294 : aCt := (mX5_readHead, [ag_34], ([sl_54], [((82, 6), 2)]), [pon_163, pon_187], mdn_752, [], (nat_lit 3))
set_option maxRecDepth 100000 in
theorem S_294 : aSpec wd ct_294 := bChk_ok wx_ok btX5_readHead (nds := []) (fk := []) (rk := (1, [])) (sp := 0) (fuel := 3000) (by decide +kernel) (lk_d S_26 ml_5_142 (lk_d S_27 ml_5_142 (lk_d S_28 ml_5_142 (lk_d S_25 ml_5_142 (lk_d S_23 ml_5_138 lk_n))))) odX5_readHead
def ag_753 : aAg := .inr (.inl [(nat_lit 26), (nat_lit 27), (nat_lit 28), (nat_lit 29), (nat_lit 30), (nat_lit 31), (nat_lit 32), (nat_lit 33)])
def sl_754 : (Nat × Nat) × aI := (((nat_lit 2), (nat_lit 7)), [((.ofNat (nat_lit 0)), (.ofNat (nat_lit 7)), (nat_lit 1))])
def pon_755 : aPo := (some (.inl [((.ofNat (nat_lit 0)), (.ofNat (nat_lit 0)), (nat_lit 1))]), [], [sl_754, sl_212], [])
def pon_756 : aPo := (some (.inl [((.ofNat (nat_lit 1)), (.ofNat (nat_lit 1)), (nat_lit 1))]), [], [sl_338, sl_207, sl_61, sl_54], [])
def mdn_757 : List (Nat × Nat × Nat) := [((nat_lit 2), (nat_lit 7), (nat_lit 8)), ((nat_lit 26), (nat_lit 0), (nat_lit 4)), ((nat_lit 27), (nat_lit 0), (nat_lit 4)), ((nat_lit 28), (nat_lit 0), (nat_lit 4)), ((nat_lit 29), (nat_lit 0), (nat_lit 4)), ((nat_lit 30), (nat_lit 0), (nat_lit 4)), ((nat_lit 31), (nat_lit 0), (nat_lit 4)), ((nat_lit 32), (nat_lit 0), (nat_lit 4)), ((nat_lit 33), (nat_lit 0), (nat_lit 4)), ((nat_lit 82), (nat_lit 2), (nat_lit 6)), ((nat_lit 82), (nat_lit 10), (nat_lit 13)), ((nat_lit 84), (nat_lit 0), (nat_lit 20)), ((nat_lit 85), (nat_lit 0), (nat_lit 20))]
def ct_295 : aCt := (mX5_readBox, [ag_34, ag_753], ([sl_754, sl_54], [((82, 6), 2)]), [pon_755, pon_756], mdn_757, [], (nat_lit 3))
set_option maxRecDepth 100000 in
theorem S_295 : aSpec wd ct_295 := bChk_ok wx_ok btX5_readBox (nds := []) (fk := []) (rk := (1, [])) (sp := 0) (fuel := 3000) (by decide +kernel) (lk_d S_32 ml_5_173 (lk_d S_33 ml_5_142 (lk_d S_34 ml_5_142 (lk_d S_30 ml_5_158 (lk_d S_23 ml_5_138 lk_n))))) odX5_readBox
def ag_758 : aAg := .inr (.inl [(nat_lit 25)])
def pon_759 : aPo := (some (.inl [((.ofNat (nat_lit 0)), (.ofNat (nat_lit 0)), (nat_lit 1))]), [], [sl_322, sl_212], [])
def pon_760 : aPo := (some (.inl [((.ofNat (nat_lit 1)), (.ofNat (nat_lit 1)), (nat_lit 1))]), [], [sl_324, sl_219, sl_61, sl_54], [])
def mdn_761 : List (Nat × Nat × Nat) := [((nat_lit 2), (nat_lit 6), (nat_lit 7)), ((nat_lit 25), (nat_lit 0), (nat_lit 4)), ((nat_lit 82), (nat_lit 2), (nat_lit 6)), ((nat_lit 82), (nat_lit 10), (nat_lit 13)), ((nat_lit 84), (nat_lit 0), (nat_lit 20)), ((nat_lit 85), (nat_lit 0), (nat_lit 20))]
def ct_296 : aCt := (mX5_readWhale, [ag_34, ag_758], ([sl_322, sl_54], [((82, 6), 2)]), [pon_759, pon_760], mdn_761, [], (nat_lit 3))
set_option maxRecDepth 100000 in
theorem S_296 : aSpec wd ct_296 := bChk_ok wx_ok btX5_readWhale (nds := []) (fk := []) (rk := (1, [])) (sp := 0) (fuel := 3000) (by decide +kernel) (lk_d S_10 ml_5_70 (lk_d S_37 ml_5_195 (lk_d S_32 ml_5_173 (lk_d S_12 ml_5_76 (lk_d S_38 ml_5_142 (lk_d S_39 ml_5_142 (lk_d S_36 ml_5_158 (lk_d S_23 ml_5_138 lk_n)))))))) odX5_readWhale
def ag_762 : aAg := .inr (.inl [(nat_lit 24)])
def pon_763 : aPo := (some (.inl [((.ofNat (nat_lit 0)), (.ofNat (nat_lit 0)), (nat_lit 1))]), [], [sl_320, sl_212], [])
def pon_764 : aPo := (some (.inl [((.ofNat (nat_lit 1)), (.ofNat (nat_lit 1)), (nat_lit 1))]), [], [sl_322, sl_219, sl_61, sl_54], [])
def mdn_765 : List (Nat × Nat × Nat) := [((nat_lit 2), (nat_lit 6), (nat_lit 7)), ((nat_lit 24), (nat_lit 0), (nat_lit 4)), ((nat_lit 82), (nat_lit 2), (nat_lit 6)), ((nat_lit 82), (nat_lit 10), (nat_lit 13)), ((nat_lit 84), (nat_lit 0), (nat_lit 20)), ((nat_lit 85), (nat_lit 0), (nat_lit 20))]
def ct_297 : aCt := (mX5_readWhale, [ag_34, ag_762], ([sl_320, sl_54], [((82, 6), 2)]), [pon_763, pon_764], mdn_765, [], (nat_lit 3))
set_option maxRecDepth 100000 in
theorem S_297 : aSpec wd ct_297 := bChk_ok wx_ok btX5_readWhale (nds := []) (fk := []) (rk := (1, [])) (sp := 0) (fuel := 3000) (by decide +kernel) (lk_d S_10 ml_5_70 (lk_d S_37 ml_5_195 (lk_d S_32 ml_5_173 (lk_d S_12 ml_5_76 (lk_d S_38 ml_5_142 (lk_d S_39 ml_5_142 (lk_d S_36 ml_5_158 (lk_d S_23 ml_5_138 lk_n)))))))) odX5_readWhale
def ag_766 : aAg := .inr (.inl [(nat_lit 23)])
def pon_767 : aPo := (some (.inl [((.ofNat (nat_lit 0)), (.ofNat (nat_lit 0)), (nat_lit 1))]), [], [sl_318, sl_212], [])
def pon_768 : aPo := (some (.inl [((.ofNat (nat_lit 1)), (.ofNat (nat_lit 1)), (nat_lit 1))]), [], [sl_320, sl_219, sl_61, sl_54], [])
def mdn_769 : List (Nat × Nat × Nat) := [((nat_lit 2), (nat_lit 6), (nat_lit 7)), ((nat_lit 23), (nat_lit 0), (nat_lit 4)), ((nat_lit 82), (nat_lit 2), (nat_lit 6)), ((nat_lit 82), (nat_lit 10), (nat_lit 13)), ((nat_lit 84), (nat_lit 0), (nat_lit 20)), ((nat_lit 85), (nat_lit 0), (nat_lit 20))]
def ct_298 : aCt := (mX5_readWhale, [ag_34, ag_766], ([sl_318, sl_54], [((82, 6), 2)]), [pon_767, pon_768], mdn_769, [], (nat_lit 3))
set_option maxRecDepth 100000 in
theorem S_298 : aSpec wd ct_298 := bChk_ok wx_ok btX5_readWhale (nds := []) (fk := []) (rk := (1, [])) (sp := 0) (fuel := 3000) (by decide +kernel) (lk_d S_10 ml_5_70 (lk_d S_37 ml_5_195 (lk_d S_32 ml_5_173 (lk_d S_12 ml_5_76 (lk_d S_38 ml_5_142 (lk_d S_39 ml_5_142 (lk_d S_36 ml_5_158 (lk_d S_23 ml_5_138 lk_n)))))))) odX5_readWhale
def ag_770 : aAg := .inr (.inl [(nat_lit 22)])
def pon_771 : aPo := (some (.inl [((.ofNat (nat_lit 0)), (.ofNat (nat_lit 0)), (nat_lit 1))]), [], [sl_316, sl_212], [])
def pon_772 : aPo := (some (.inl [((.ofNat (nat_lit 1)), (.ofNat (nat_lit 1)), (nat_lit 1))]), [], [sl_318, sl_219, sl_61, sl_54], [])
def mdn_773 : List (Nat × Nat × Nat) := [((nat_lit 2), (nat_lit 6), (nat_lit 7)), ((nat_lit 22), (nat_lit 0), (nat_lit 4)), ((nat_lit 82), (nat_lit 2), (nat_lit 6)), ((nat_lit 82), (nat_lit 10), (nat_lit 13)), ((nat_lit 84), (nat_lit 0), (nat_lit 20)), ((nat_lit 85), (nat_lit 0), (nat_lit 20))]
def ct_299 : aCt := (mX5_readWhale, [ag_34, ag_770], ([sl_316, sl_54], [((82, 6), 2)]), [pon_771, pon_772], mdn_773, [], (nat_lit 3))
set_option maxRecDepth 100000 in
theorem S_299 : aSpec wd ct_299 := bChk_ok wx_ok btX5_readWhale (nds := []) (fk := []) (rk := (1, [])) (sp := 0) (fuel := 3000) (by decide +kernel) (lk_d S_10 ml_5_70 (lk_d S_37 ml_5_195 (lk_d S_32 ml_5_173 (lk_d S_12 ml_5_76 (lk_d S_38 ml_5_142 (lk_d S_39 ml_5_142 (lk_d S_36 ml_5_158 (lk_d S_23 ml_5_138 lk_n)))))))) odX5_readWhale
def ag_774 : aAg := .inr (.inl [(nat_lit 21)])
def pon_775 : aPo := (some (.inl [((.ofNat (nat_lit 0)), (.ofNat (nat_lit 0)), (nat_lit 1))]), [], [sl_314, sl_212], [])
def pon_776 : aPo := (some (.inl [((.ofNat (nat_lit 1)), (.ofNat (nat_lit 1)), (nat_lit 1))]), [], [sl_316, sl_219, sl_61, sl_54], [])
def mdn_777 : List (Nat × Nat × Nat) := [((nat_lit 2), (nat_lit 6), (nat_lit 7)), ((nat_lit 21), (nat_lit 0), (nat_lit 4)), ((nat_lit 82), (nat_lit 2), (nat_lit 6)), ((nat_lit 82), (nat_lit 10), (nat_lit 13)), ((nat_lit 84), (nat_lit 0), (nat_lit 20)), ((nat_lit 85), (nat_lit 0), (nat_lit 20))]
def ct_300 : aCt := (mX5_readWhale, [ag_34, ag_774], ([sl_314, sl_54], [((82, 6), 2)]), [pon_775, pon_776], mdn_777, [], (nat_lit 3))
set_option maxRecDepth 100000 in
theorem S_300 : aSpec wd ct_300 := bChk_ok wx_ok btX5_readWhale (nds := []) (fk := []) (rk := (1, [])) (sp := 0) (fuel := 3000) (by decide +kernel) (lk_d S_10 ml_5_70 (lk_d S_37 ml_5_195 (lk_d S_32 ml_5_173 (lk_d S_12 ml_5_76 (lk_d S_38 ml_5_142 (lk_d S_39 ml_5_142 (lk_d S_36 ml_5_158 (lk_d S_23 ml_5_138 lk_n)))))))) odX5_readWhale
def sl_778 : (Nat × Nat) × aI := (((nat_lit 2), (nat_lit 5)), [((.ofNat (nat_lit 0)), (.ofNat (nat_lit 11)), (nat_lit 1))])
def sl_779 : (Nat × Nat) × aI := (((nat_lit 2), (nat_lit 5)), [((.ofNat (nat_lit 1)), (.ofNat (nat_lit 11)), (nat_lit 1))])
def pon_780 : aPo := (some (.inl [((.ofNat (nat_lit 0)), (.ofNat (nat_lit 10)), (nat_lit 1))]), [], [sl_779], [])
def ct_301 : aCt := (mX4_wayBetween, [ag_357, ag_125, ag_125], ([sl_778], []), [pon_780, pon_52], [], [], (nat_lit 0))
set_option maxRecDepth 100000 in
theorem S_301 : aSpec wd ct_301 := bChk_ok wx_ok btX4_wayBetween (nds := [((nat_lit 2), [lcn_378, lcn_249, lcn_250, lcn_251], [], [sl_778], [], (11, [(2, -1)]))]) (fk := []) (rk := (12, [])) (sp := 4) (fuel := 3000) (by decide +kernel) lk_n odX4_wayBetween
def pon_781 : aPo := (some (.inl [((.ofNat (nat_lit 0)), (.ofNat (nat_lit 0)), (nat_lit 1))]), [], [sl_778, sl_212], [])
def pon_782 : aPo := (some (.inl [((.ofNat (nat_lit 1)), (.ofNat (nat_lit 1)), (nat_lit 1))]), [], [sl_376, sl_253, sl_61, sl_54], [])
def mdn_783 : List (Nat × Nat × Nat) := [((nat_lit 2), (nat_lit 5), (nat_lit 6)), ((nat_lit 9), (nat_lit 0), (nat_lit 4)), ((nat_lit 10), (nat_lit 0), (nat_lit 4)), ((nat_lit 11), (nat_lit 0), (nat_lit 4)), ((nat_lit 12), (nat_lit 0), (nat_lit 4)), ((nat_lit 13), (nat_lit 0), (nat_lit 4)), ((nat_lit 14), (nat_lit 0), (nat_lit 4)), ((nat_lit 15), (nat_lit 0), (nat_lit 4)), ((nat_lit 16), (nat_lit 0), (nat_lit 4)), ((nat_lit 17), (nat_lit 0), (nat_lit 4)), ((nat_lit 18), (nat_lit 0), (nat_lit 4)), ((nat_lit 19), (nat_lit 0), (nat_lit 4)), ((nat_lit 20), (nat_lit 0), (nat_lit 4)), ((nat_lit 82), (nat_lit 2), (nat_lit 6)), ((nat_lit 82), (nat_lit 11), (nat_lit 13))]
def ct_302 : aCt := (mX5_readWay, [ag_34, ag_518], ([sl_778, sl_54], [((82, 6), 2)]), [pon_781, pon_782], mdn_783, [], (nat_lit 3))
set_option maxRecDepth 100000 in
theorem S_302 : aSpec wd ct_302 := bChk_ok wx_ok btX5_readWay (nds := []) (fk := []) (rk := (1, [])) (sp := 0) (fuel := 3000) (by decide +kernel) (lk_d S_32 ml_5_173 (lk_d S_15 ml_5_76 (lk_d S_33 ml_5_142 (lk_d S_46 ml_5_142 (lk_d S_301 ml_5_184 (lk_d S_23 ml_5_138 lk_n)))))) odX5_readWay
def sl_784 : (Nat × Nat) × aI := (((nat_lit 2), (nat_lit 8)), [((.ofNat (nat_lit 0)), (.ofNat (nat_lit 7)), (nat_lit 1))])
def ct_303 : aCt := (mX4_lastSpoutOf, [ag_357, ag_217], ([sl_784], []), [pon_264, pon_52], [], [], (nat_lit 0))
set_option maxRecDepth 100000 in
theorem S_303 : aSpec wd ct_303 := bChk_ok wx_ok btX4_lastSpoutOf (nds := [((nat_lit 7), [lcn_378, lcn_265, lcn_266], [], [sl_784], [], (1, [(1, 1)]))]) (fk := []) (rk := (8, [])) (sp := 128) (fuel := 3000) (by decide +kernel) lk_n odX4_lastSpoutOf
def ag_785 : aAg := .inr (.inl [(nat_lit 34), (nat_lit 35), (nat_lit 36), (nat_lit 37), (nat_lit 38), (nat_lit 39), (nat_lit 40), (nat_lit 41)])
def pon_786 : aPo := (some (.inl [((.ofNat (nat_lit 0)), (.ofNat (nat_lit 0)), (nat_lit 1))]), [], [sl_784, sl_273], [])
def pon_787 : aPo := (some (.inl [((.ofNat (nat_lit 1)), (.ofNat (nat_lit 1)), (nat_lit 1))]), [], [sl_632, sl_269, sl_61, sl_54], [])
def mdn_788 : List (Nat × Nat × Nat) := [((nat_lit 2), (nat_lit 8), (nat_lit 9)), ((nat_lit 34), (nat_lit 0), (nat_lit 3)), ((nat_lit 35), (nat_lit 0), (nat_lit 3)), ((nat_lit 36), (nat_lit 0), (nat_lit 3)), ((nat_lit 37), (nat_lit 0), (nat_lit 3)), ((nat_lit 38), (nat_lit 0), (nat_lit 3)), ((nat_lit 39), (nat_lit 0), (nat_lit 3)), ((nat_lit 40), (nat_lit 0), (nat_lit 3)), ((nat_lit 41), (nat_lit 0), (nat_lit 3)), ((nat_lit 82), (nat_lit 2), (nat_lit 6)), ((nat_lit 82), (nat_lit 11), (nat_lit 13))]
def ct_304 : aCt := (mX5_readSpout, [ag_34, ag_785], ([sl_784, sl_54], [((82, 6), 2)]), [pon_786, pon_787], mdn_788, [], (nat_lit 3))
set_option maxRecDepth 100000 in
theorem S_304 : aSpec wd ct_304 := bChk_ok wx_ok btX5_readSpout (nds := []) (fk := []) (rk := (1, [])) (sp := 0) (fuel := 3000) (by decide +kernel) (lk_d S_48 ml_5_173 (lk_d S_32 ml_5_173 (lk_d S_50 ml_5_142 (lk_d S_303 ml_5_240 (lk_d S_23 ml_5_138 (lk_d S_51 ml_5_142 lk_n)))))) odX5_readSpout
def mdn_789 : List (Nat × Nat × Nat) := [((nat_lit 2), (nat_lit 0), (nat_lit 9)), ((nat_lit 3), (nat_lit 0), (nat_lit 7)), ((nat_lit 4), (nat_lit 0), (nat_lit 7)), ((nat_lit 9), (nat_lit 0), (nat_lit 4)), ((nat_lit 10), (nat_lit 0), (nat_lit 4)), ((nat_lit 11), (nat_lit 0), (nat_lit 4)), ((nat_lit 12), (nat_lit 0), (nat_lit 4)), ((nat_lit 13), (nat_lit 0), (nat_lit 4)), ((nat_lit 14), (nat_lit 0), (nat_lit 4)), ((nat_lit 15), (nat_lit 0), (nat_lit 4)), ((nat_lit 16), (nat_lit 0), (nat_lit 4)), ((nat_lit 17), (nat_lit 0), (nat_lit 4)), ((nat_lit 18), (nat_lit 0), (nat_lit 4)), ((nat_lit 19), (nat_lit 0), (nat_lit 4)), ((nat_lit 20), (nat_lit 0), (nat_lit 4)), ((nat_lit 21), (nat_lit 0), (nat_lit 4)), ((nat_lit 22), (nat_lit 0), (nat_lit 4)), ((nat_lit 23), (nat_lit 0), (nat_lit 4)), ((nat_lit 24), (nat_lit 0), (nat_lit 4)), ((nat_lit 25), (nat_lit 0), (nat_lit 4)), ((nat_lit 26), (nat_lit 0), (nat_lit 4)), ((nat_lit 27), (nat_lit 0), (nat_lit 4)), ((nat_lit 28), (nat_lit 0), (nat_lit 4)), ((nat_lit 29), (nat_lit 0), (nat_lit 4)), ((nat_lit 30), (nat_lit 0), (nat_lit 4)), ((nat_lit 31), (nat_lit 0), (nat_lit 4)), ((nat_lit 32), (nat_lit 0), (nat_lit 4)), ((nat_lit 33), (nat_lit 0), (nat_lit 4)), ((nat_lit 34), (nat_lit 0), (nat_lit 3)), ((nat_lit 35), (nat_lit 0), (nat_lit 3)), ((nat_lit 36), (nat_lit 0), (nat_lit 3)), ((nat_lit 37), (nat_lit 0), (nat_lit 3)), ((nat_lit 38), (nat_lit 0), (nat_lit 3)), ((nat_lit 39), (nat_lit 0), (nat_lit 3)), ((nat_lit 40), (nat_lit 0), (nat_lit 3)), ((nat_lit 41), (nat_lit 0), (nat_lit 3)), ((nat_lit 82), (nat_lit 2), (nat_lit 6)), ((nat_lit 82), (nat_lit 10), (nat_lit 13)), ((nat_lit 84), (nat_lit 0), (nat_lit 20)), ((nat_lit 85), (nat_lit 0), (nat_lit 20))]
def ct_305 : aCt := (mX5_readLine, [ag_34], ([sl_54], [((82, 6), 2)]), [pon_279, pon_157], mdn_789, [], (nat_lit 4))
set_option maxRecDepth 100000 in
theorem S_305 : aSpec wd ct_305 := bChk_ok wx_ok btX5_readLine (nds := []) (fk := [172]) (rk := (1, [])) (sp := 0) (fuel := 3000) (by decide +kernel) (lk_d S_293 ml_5_90 (lk_d S_294 ml_5_87 (lk_d S_10 ml_5_70 (lk_d S_11 ml_5_80 (lk_d S_296 ml_5_111 (lk_d S_297 ml_5_111 (lk_d S_298 ml_5_111 (lk_d S_299 ml_5_111 (lk_d S_300 ml_5_111 (lk_d S_21 ml_5_76 (lk_d S_22 ml_5_76 (lk_d S_15 ml_5_76 (lk_d S_12 ml_5_76 (lk_d S_295 ml_5_122 (lk_d S_304 ml_5_133 (lk_d S_302 ml_5_100 lk_n)))))))))))))))) odX5_readLine
def pon_790 : aPo := (some (.inl [((.ofNat (nat_lit 0)), (.ofNat (nat_lit 0)), (nat_lit 1))]), [], [sl_278], [((82, 6), 2)])
def pon_791 : aPo := (some (.inl [((.ofNat (nat_lit 1)), (.ofNat (nat_lit 1)), (nat_lit 1))]), [], [sl_341, sl_54], [((82, 6), 2)])
def mdn_792 : List (Nat × Nat × Nat) := [((nat_lit 2), (nat_lit 0), (nat_lit 9)), ((nat_lit 3), (nat_lit 0), (nat_lit 7)), ((nat_lit 4), (nat_lit 0), (nat_lit 7)), ((nat_lit 9), (nat_lit 0), (nat_lit 4)), ((nat_lit 10), (nat_lit 0), (nat_lit 4)), ((nat_lit 11), (nat_lit 0), (nat_lit 4)), ((nat_lit 12), (nat_lit 0), (nat_lit 4)), ((nat_lit 13), (nat_lit 0), (nat_lit 4)), ((nat_lit 14), (nat_lit 0), (nat_lit 4)), ((nat_lit 15), (nat_lit 0), (nat_lit 4)), ((nat_lit 16), (nat_lit 0), (nat_lit 4)), ((nat_lit 17), (nat_lit 0), (nat_lit 4)), ((nat_lit 18), (nat_lit 0), (nat_lit 4)), ((nat_lit 19), (nat_lit 0), (nat_lit 4)), ((nat_lit 20), (nat_lit 0), (nat_lit 4)), ((nat_lit 21), (nat_lit 0), (nat_lit 4)), ((nat_lit 22), (nat_lit 0), (nat_lit 4)), ((nat_lit 23), (nat_lit 0), (nat_lit 4)), ((nat_lit 24), (nat_lit 0), (nat_lit 4)), ((nat_lit 25), (nat_lit 0), (nat_lit 4)), ((nat_lit 26), (nat_lit 0), (nat_lit 4)), ((nat_lit 27), (nat_lit 0), (nat_lit 4)), ((nat_lit 28), (nat_lit 0), (nat_lit 4)), ((nat_lit 29), (nat_lit 0), (nat_lit 4)), ((nat_lit 30), (nat_lit 0), (nat_lit 4)), ((nat_lit 31), (nat_lit 0), (nat_lit 4)), ((nat_lit 32), (nat_lit 0), (nat_lit 4)), ((nat_lit 33), (nat_lit 0), (nat_lit 4)), ((nat_lit 34), (nat_lit 0), (nat_lit 3)), ((nat_lit 35), (nat_lit 0), (nat_lit 3)), ((nat_lit 36), (nat_lit 0), (nat_lit 3)), ((nat_lit 37), (nat_lit 0), (nat_lit 3)), ((nat_lit 38), (nat_lit 0), (nat_lit 3)), ((nat_lit 39), (nat_lit 0), (nat_lit 3)), ((nat_lit 40), (nat_lit 0), (nat_lit 3)), ((nat_lit 41), (nat_lit 0), (nat_lit 3)), ((nat_lit 82), (nat_lit 1), (nat_lit 6)), ((nat_lit 82), (nat_lit 10), (nat_lit 13)), ((nat_lit 84), (nat_lit 0), (nat_lit 20)), ((nat_lit 85), (nat_lit 0), (nat_lit 20))]
def lcn_793 : Nat × aAg := ((nat_lit 2), .inr (.inl [(nat_lit 2)]))
def ct_306 : aCt := (mX5_readPost, [ag_34, ag_281, ag_357], ([], []), [pon_790, pon_791], mdn_792, mdn_285, (nat_lit 5))
set_option maxRecDepth 100000 in
theorem S_306 : aSpec wd ct_306 := bChk_ok wx_ok btX5_readPost (nds := [((nat_lit 47), [lcn_40, lcn_286, lcn_793, lcn_288], [], [sl_54], [((82, 6), 2)], (1023, [(1, -1)]))]) (fk := []) (rk := (1024, [])) (sp := 140737488355328) (fuel := 3000) (by decide +kernel) (lk_d S_305 ml_5_66 (lk_d S_290 ml_5_55 (lk_d S_10 ml_5_70 (lk_d S_22 ml_5_76 (lk_d S_12 ml_5_76 lk_n))))) odX5_readPost
def lcn_794 : Nat × aAg := ((nat_lit 1), .inr (.inl [(nat_lit 2)]))
def ct_307 : aCt := (mX2_begin, [ag_289, ag_357], ([], []), [pon_49], mdn_290, [], (nat_lit 0))
set_option maxRecDepth 100000 in
theorem S_307 : aSpec wd ct_307 := bChk_ok wx_ok btX2_begin (nds := [((nat_lit 12), [lcn_291, lcn_794, lcn_293], [], [sl_294, sl_295], [], (14, [(0, -1)])), ((nat_lit 50), [lcn_291, lcn_794, lcn_296], [], [sl_294, sl_295], [], (8, [(0, -1)]))]) (fk := []) (rk := (15, [])) (sp := 1125899906846720) (fuel := 3000) (by decide +kernel) lk_n odX2_begin
def pon_795 : aPo := (none, [], [sl_297], [((0, 3), 2), ((0, 4), 42), ((92, 0), 2), ((94, 0), 2), ((96, 0), 2)])
def ct_308 : aCt := (mX11_takeDraft, [ag_0], ([], [((0, 3), 42), ((0, 4), 2), ((92, 0), 42), ((94, 0), 42), ((96, 0), 42)]), [pon_795], mdn_299, mdn_300, (nat_lit 1))
set_option maxRecDepth 100000 in
theorem S_308 : aSpec wd ct_308 := bChk_ok wx_ok btX11_takeDraft (nds := []) (fk := []) (rk := (1, [])) (sp := 0) (fuel := 3000) (by decide +kernel) (lk_d S_307 ml_11_391 lk_n) odX11_takeDraft
def pon_796 : aPo := (some (.inl aTop), [none, some [((.ofNat (nat_lit 0)), (.ofNat (nat_lit 1000)), (nat_lit 1))]], [sl_305, sl_301, sl_297, sl_341, sl_54], [((0, 3), 2), ((0, 4), 42), ((82, 6), 2), ((92, 0), 2), ((94, 0), 2), ((96, 0), 2)])
def pon_797 : aPo := (some (.inl [((.negSucc (nat_lit 0)), (.negSucc (nat_lit 0)), (nat_lit 1))]), [none, some [((.ofNat (nat_lit 0)), (.ofNat (nat_lit 1000)), (nat_lit 1))]], [sl_305, sl_303, sl_278], [((0, 3), 42), ((0, 4), 2), ((82, 6), 2), ((92, 0), 42), ((94, 0), 42), ((96, 0), 42)])
def pon_798 : aPo := (some (.inl [((.negSucc (nat_lit 0)), (.negSucc (nat_lit 0)), (nat_lit 1))]), [none, some [((.negSucc (nat_lit 2147483647)), (.negSucc (nat_lit 0)), (nat_lit 1)), ((.ofNat (nat_lit 1)), (.ofNat (nat_lit 2147483647)), (nat_lit 1))]], [sl_23], [((0, 3), 42), ((0, 4), 2), ((92, 0), 42), ((94, 0), 42), ((96, 0), 42)])
def mdn_799 : List (Nat × Nat × Nat) := [((nat_lit 0), (nat_lit 1), (nat_lit 3)), ((nat_lit 0), (nat_lit 13), (nat_lit 14)), ((nat_lit 0), (nat_lit 15), (nat_lit 16)), ((nat_lit 2), (nat_lit 0), (nat_lit 9)), ((nat_lit 3), (nat_lit 0), (nat_lit 7)), ((nat_lit 4), (nat_lit 0), (nat_lit 7)), ((nat_lit 9), (nat_lit 0), (nat_lit 4)), ((nat_lit 10), (nat_lit 0), (nat_lit 4)), ((nat_lit 11), (nat_lit 0), (nat_lit 4)), ((nat_lit 12), (nat_lit 0), (nat_lit 4)), ((nat_lit 13), (nat_lit 0), (nat_lit 4)), ((nat_lit 14), (nat_lit 0), (nat_lit 4)), ((nat_lit 15), (nat_lit 0), (nat_lit 4)), ((nat_lit 16), (nat_lit 0), (nat_lit 4)), ((nat_lit 17), (nat_lit 0), (nat_lit 4)), ((nat_lit 18), (nat_lit 0), (nat_lit 4)), ((nat_lit 19), (nat_lit 0), (nat_lit 4)), ((nat_lit 20), (nat_lit 0), (nat_lit 4)), ((nat_lit 21), (nat_lit 0), (nat_lit 4)), ((nat_lit 22), (nat_lit 0), (nat_lit 4)), ((nat_lit 23), (nat_lit 0), (nat_lit 4)), ((nat_lit 24), (nat_lit 0), (nat_lit 4)), ((nat_lit 25), (nat_lit 0), (nat_lit 4)), ((nat_lit 26), (nat_lit 0), (nat_lit 4)), ((nat_lit 27), (nat_lit 0), (nat_lit 4)), ((nat_lit 28), (nat_lit 0), (nat_lit 4)), ((nat_lit 29), (nat_lit 0), (nat_lit 4)), ((nat_lit 30), (nat_lit 0), (nat_lit 4)), ((nat_lit 31), (nat_lit 0), (nat_lit 4)), ((nat_lit 32), (nat_lit 0), (nat_lit 4)), ((nat_lit 33), (nat_lit 0), (nat_lit 4)), ((nat_lit 34), (nat_lit 0), (nat_lit 3)), ((nat_lit 35), (nat_lit 0), (nat_lit 3)), ((nat_lit 36), (nat_lit 0), (nat_lit 3)), ((nat_lit 37), (nat_lit 0), (nat_lit 3)), ((nat_lit 38), (nat_lit 0), (nat_lit 3)), ((nat_lit 39), (nat_lit 0), (nat_lit 3)), ((nat_lit 40), (nat_lit 0), (nat_lit 3)), ((nat_lit 41), (nat_lit 0), (nat_lit 3)), ((nat_lit 82), (nat_lit 1), (nat_lit 6)), ((nat_lit 82), (nat_lit 10), (nat_lit 13)), ((nat_lit 84), (nat_lit 0), (nat_lit 20)), ((nat_lit 85), (nat_lit 0), (nat_lit 20)), ((nat_lit 86), (nat_lit 0), (nat_lit 2)), ((nat_lit 87), (nat_lit 0), (nat_lit 5)), ((nat_lit 88), (nat_lit 0), (nat_lit 5)), ((nat_lit 89), (nat_lit 0), (nat_lit 8)), ((nat_lit 90), (nat_lit 0), (nat_lit 8)), ((nat_lit 91), (nat_lit 0), (nat_lit 8))]
def ct_309 : aCt := (mX11_post, [ag_0, ag_1], ([], [((0, 3), 42), ((0, 4), 2), ((92, 0), 42), ((94, 0), 42), ((96, 0), 42)]), [pon_796, pon_797, pon_798], mdn_799, mdn_310, (nat_lit 6))
set_option maxRecDepth 100000 in
theorem S_309 : aSpec wd ct_309 := bChk_ok wx_ok btX11_post (nds := []) (fk := []) (rk := (1, [])) (sp := 0) (fuel := 3000) (by decide +kernel) (lk_d S_308 ml_11_106 (lk_d S_6 ml_11_98 (lk_d S_58 ml_11_98 (lk_d S_306 ml_11_102 (lk_d S_57 ml_11_112 lk_n))))) odX11_post
def ct_310 : aCt := (mX11_fault, [ag_0], ([], []), [pon_130], [], [], (nat_lit 0))
set_option maxRecDepth 100000 in
theorem S_310 : aSpec wd ct_310 := bChk_ok wx_ok btX11_fault (nds := []) (fk := []) (rk := (1, [])) (sp := 0) (fuel := 3000) (by decide +kernel) lk_n odX11_fault
def ct_311 : aCt := (mX11_where, [ag_0], ([], []), [pon_311, pon_313], [], [], (nat_lit 0))
set_option maxRecDepth 100000 in
theorem S_311 : aSpec wd ct_311 := bChk_ok wx_ok btX11_where (nds := []) (fk := []) (rk := (1, [])) (sp := 0) (fuel := 3000) (by decide +kernel) lk_n odX11_where
def pon_800 : aPo := (some (.inl [((.ofNat (nat_lit 0)), (.ofNat (nat_lit 0)), (nat_lit 1))]), [none, some [((.ofNat (nat_lit 0)), (.ofNat (nat_lit 2147483647)), (nat_lit 1))]], [sl_29], [])
def pon_801 : aPo := (some (.inl [((.ofNat (nat_lit 0)), (.ofNat (nat_lit 0)), (nat_lit 1))]), [none, some [((.ofNat (nat_lit 1)), (.ofNat (nat_lit 2147483647)), (nat_lit 1))]], [sl_238], [])
def pon_802 : aPo := (some (.inl [((.ofNat (nat_lit 0)), (.ofNat (nat_lit 0)), (nat_lit 1))]), [none, some [((.ofNat (nat_lit 2)), (.ofNat (nat_lit 2147483647)), (nat_lit 1))]], [sl_233], [])
def pon_803 : aPo := (some (.inl [((.ofNat (nat_lit 0)), (.ofNat (nat_lit 0)), (nat_lit 1))]), [none, some [((.ofNat (nat_lit 3)), (.ofNat (nat_lit 2147483647)), (nat_lit 1))]], [sl_228], [])
def pon_804 : aPo := (some (.inl [((.ofNat (nat_lit 0)), (.ofNat (nat_lit 0)), (nat_lit 1))]), [none, some [((.ofNat (nat_lit 4)), (.ofNat (nat_lit 2147483647)), (nat_lit 1))]], [sl_222], [])
def pon_805 : aPo := (some (.inl [((.ofNat (nat_lit 0)), (.ofNat (nat_lit 0)), (nat_lit 1))]), [none, some [((.ofNat (nat_lit 5)), (.ofNat (nat_lit 2147483647)), (nat_lit 1))]], [sl_224], [])
def pon_806 : aPo := (some (.inl [((.ofNat (nat_lit 1)), (.ofNat (nat_lit 1)), (nat_lit 1))]), [none, some [((.ofNat (nat_lit 0)), (.ofNat (nat_lit 0)), (nat_lit 1))]], [sl_238], [])
def pon_807 : aPo := (some (.inl [((.ofNat (nat_lit 1)), (.ofNat (nat_lit 1)), (nat_lit 1))]), [none, some [((.ofNat (nat_lit 0)), (.ofNat (nat_lit 1)), (nat_lit 1))]], [sl_233], [])
def pon_808 : aPo := (some (.inl [((.ofNat (nat_lit 1)), (.ofNat (nat_lit 1)), (nat_lit 1))]), [none, some [((.ofNat (nat_lit 0)), (.ofNat (nat_lit 2)), (nat_lit 1))]], [sl_228], [])
def pon_809 : aPo := (some (.inl [((.ofNat (nat_lit 1)), (.ofNat (nat_lit 1)), (nat_lit 1))]), [none, some [((.ofNat (nat_lit 0)), (.ofNat (nat_lit 3)), (nat_lit 1))]], [sl_222], [])
def pon_810 : aPo := (some (.inl [((.ofNat (nat_lit 1)), (.ofNat (nat_lit 1)), (nat_lit 1))]), [none, some [((.ofNat (nat_lit 0)), (.ofNat (nat_lit 4)), (nat_lit 1))]], [sl_224], [])
def ct_312 : aCt := (mX11_isWhale, [ag_0, ag_1], ([], [((0, 3), 42)]), [pon_800, pon_801, pon_802, pon_803, pon_804, pon_805, pon_326, pon_806, pon_807, pon_808, pon_809, pon_810], [], [], (nat_lit 0))
set_option maxRecDepth 100000 in
theorem S_312 : aSpec wd ct_312 := bChk_ok wx_ok btX11_isWhale (nds := []) (fk := [12]) (rk := (1, [])) (sp := 0) (fuel := 3000) (by decide +kernel) lk_n odX11_isWhale
def sl_811 : (Nat × Nat) × aI := (((nat_lit 42), (nat_lit 6)), [((.ofNat (nat_lit 1)), (.ofNat (nat_lit 5)), (nat_lit 1))])
def pon_812 : aPo := (some (.inl aTop), [none, some [((.ofNat (nat_lit 0)), (.ofNat (nat_lit 4)), (nat_lit 1))], some [((.ofNat (nat_lit 0)), (.ofNat (nat_lit 4)), (nat_lit 1))]], [sl_301, sl_811], [])
def ct_313 : aCt := (mX11_whale, [ag_0, ag_1, ag_1], ([], [((0, 3), 42)]), [pon_812, pon_336], mdn_25, [], (nat_lit 1))
set_option maxRecDepth 100000 in
theorem S_313 : aSpec wd ct_313 := bChk_ok wx_ok btX11_whale (nds := []) (fk := []) (rk := (1, [])) (sp := 0) (fuel := 3000) (by decide +kernel) (lk_d S_63 ml_11_98 (lk_d S_312 ml_11_121 (lk_d S_57 ml_11_112 lk_n))) odX11_whale
def pon_813 : aPo := (some (.inl [((.ofNat (nat_lit 1)), (.ofNat (nat_lit 1)), (nat_lit 1))]), [none, some [((.ofNat (nat_lit 0)), (.ofNat (nat_lit 7)), (nat_lit 1))]], [sl_214], [])
def ct_314 : aCt := (mX11_isBox, [ag_0, ag_1], ([], [((0, 3), 42)]), [pon_337, pon_813], [], [], (nat_lit 0))
set_option maxRecDepth 100000 in
theorem S_314 : aSpec wd ct_314 := bChk_ok wx_ok btX11_isBox (nds := []) (fk := []) (rk := (1, [])) (sp := 0) (fuel := 3000) (by decide +kernel) lk_n odX11_isBox
def pon_814 : aPo := (some (.inl aTop), [none, some [((.ofNat (nat_lit 0)), (.ofNat (nat_lit 7)), (nat_lit 1))], some [((.ofNat (nat_lit 0)), (.ofNat (nat_lit 5)), (nat_lit 1))]], [sl_301, sl_214], [])
def ct_315 : aCt := (mX11_box, [ag_0, ag_1, ag_1], ([], [((0, 3), 42)]), [pon_814, pon_333], mdn_25, [], (nat_lit 1))
set_option maxRecDepth 100000 in
theorem S_315 : aSpec wd ct_315 := bChk_ok wx_ok btX11_box (nds := []) (fk := []) (rk := (1, [])) (sp := 0) (fuel := 3000) (by decide +kernel) (lk_d S_63 ml_11_98 (lk_d S_314 ml_11_147 (lk_d S_57 ml_11_112 lk_n))) odX11_box
def pon_815 : aPo := (some (.inl [((.ofNat (nat_lit 1)), (.ofNat (nat_lit 1)), (nat_lit 1))]), [none, some [((.ofNat (nat_lit 0)), (.ofNat (nat_lit 6)), (nat_lit 1))]], [sl_147], [])
def ct_316 : aCt := (mX11_isIsland, [ag_0, ag_1], ([], [((0, 3), 42)]), [pon_337, pon_815], [], [], (nat_lit 0))
set_option maxRecDepth 100000 in
theorem S_316 : aSpec wd ct_316 := bChk_ok wx_ok btX11_isIsland (nds := []) (fk := []) (rk := (1, [])) (sp := 0) (fuel := 3000) (by decide +kernel) lk_n odX11_isIsland
def pon_816 : aPo := (some (.inl aTop), [none, some [((.ofNat (nat_lit 0)), (.ofNat (nat_lit 6)), (nat_lit 1))]], [sl_301, sl_147], [])
def ct_317 : aCt := (mX11_length, [ag_0, ag_1], ([], [((0, 3), 42)]), [pon_816, pon_333], mdn_25, [], (nat_lit 1))
set_option maxRecDepth 100000 in
theorem S_317 : aSpec wd ct_317 := bChk_ok wx_ok btX11_length (nds := []) (fk := []) (rk := (1, [])) (sp := 0) (fuel := 3000) (by decide +kernel) (lk_d S_63 ml_11_98 (lk_d S_316 ml_11_174 (lk_d S_57 ml_11_112 lk_n))) odX11_length
def ct_318 : aCt := (mX7_fallIn, [ag_344, ag_345], ([], [((92, 0), 42)]), [pon_346, pon_37], [], [], (nat_lit 0))
set_option maxRecDepth 100000 in
theorem S_318 : aSpec wd ct_318 := bChk_ok wx_ok btX7_fallIn (nds := []) (fk := []) (rk := (1, [])) (sp := 0) (fuel := 3000) (by decide +kernel) lk_n odX7_fallIn
def sl_817 : (Nat × Nat) × aI := (((nat_lit 42), (nat_lit 0)), [((.ofNat (nat_lit 1)), (.ofNat (nat_lit 4)), (nat_lit 1))])
def ct_319 : aCt := (mX7_raised, [ag_344, ag_1, ag_137, ag_217], ([], [((92, 0), 42)]), [pon_130], [], [], (nat_lit 1))
set_option maxRecDepth 100000 in
theorem S_319 : aSpec wd ct_319 := bChk_ok wx_ok btX7_raised (nds := [((nat_lit 22), [lcn_349, lcn_271, lcn_143, lcn_350, lcn_351, lcn_352], [], [sl_817], [((92, 0), 42)], (1000, [(4, -1)]))]) (fk := []) (rk := (1001, [])) (sp := 4194304) (fuel := 3000) (by decide +kernel) (lk_d S_70 ml_7_40 lk_n) odX7_raised
def ct_320 : aCt := (mX7_raised, [ag_344, ag_1, ag_137, ag_354], ([], [((92, 0), 42)]), [pon_130], [], [], (nat_lit 1))
set_option maxRecDepth 100000 in
theorem S_320 : aSpec wd ct_320 := bChk_ok wx_ok btX7_raised (nds := [((nat_lit 22), [lcn_349, lcn_271, lcn_143, lcn_355, lcn_351, lcn_352], [], [sl_817], [((92, 0), 42)], (1000, [(4, -1)]))]) (fk := []) (rk := (1001, [])) (sp := 4194304) (fuel := 3000) (by decide +kernel) (lk_d S_70 ml_7_40 lk_n) odX7_raised
def ct_321 : aCt := (mX7_songIn, [ag_344, ag_125, ag_345], ([], [((92, 0), 42)]), [pon_130], [], [], (nat_lit 2))
set_option maxRecDepth 100000 in
theorem S_321 : aSpec wd ct_321 := bChk_ok wx_ok btX7_songIn (nds := []) (fk := []) (rk := (1, [])) (sp := 0) (fuel := 3000) (by decide +kernel) (lk_d S_318 ml_7_50 (lk_d S_319 ml_7_54 (lk_d S_320 ml_7_54 lk_n))) odX7_songIn
def pon_818 : aPo := (some (.inl aTop), [none, some [((.ofNat (nat_lit 0)), (.ofNat (nat_lit 6)), (nat_lit 1))], some [((.ofNat (nat_lit 0)), (.ofNat (nat_lit 999)), (nat_lit 1))]], [sl_301, sl_147], [])
def ct_322 : aCt := (mX11_note, [ag_0, ag_1, ag_1], ([], [((0, 3), 42), ((92, 0), 42)]), [pon_818, pon_333], mdn_25, [], (nat_lit 3))
set_option maxRecDepth 100000 in
theorem S_322 : aSpec wd ct_322 := bChk_ok wx_ok btX11_note (nds := []) (fk := []) (rk := (1, [])) (sp := 0) (fuel := 3000) (by decide +kernel) (lk_d S_63 ml_11_98 (lk_d S_321 ml_11_183 (lk_d S_316 ml_11_174 (lk_d S_57 ml_11_112 (lk_d S_74 ml_11_187 lk_n))))) odX11_note
def ct_323 : aCt := (mX4_boxLength, [ag_26, ag_190], ([], []), [pon_358], [], [], (nat_lit 0))
set_option maxRecDepth 100000 in
theorem S_323 : aSpec wd ct_323 := bChk_ok wx_ok btX4_boxLength (nds := []) (fk := []) (rk := (1, [])) (sp := 0) (fuel := 3000) (by decide +kernel) lk_n odX4_boxLength
def pon_819 : aPo := (some (.inl [((.ofNat (nat_lit 1)), (.ofNat (nat_lit 1)), (nat_lit 1))]), [none, some [((.ofNat (nat_lit 0)), (.ofNat (nat_lit 7)), (nat_lit 1))], some [((.ofNat (nat_lit 0)), (.ofNat (nat_lit 999)), (nat_lit 1))]], [sl_214], [])
def ct_324 : aCt := (mX11_isNoteOfBox, [ag_0, ag_1, ag_1], ([], [((0, 3), 42)]), [pon_37, pon_819], [], [], (nat_lit 1))
set_option maxRecDepth 100000 in
theorem S_324 : aSpec wd ct_324 := bChk_ok wx_ok btX11_isNoteOfBox (nds := []) (fk := []) (rk := (1, [])) (sp := 0) (fuel := 3000) (by decide +kernel) (lk_d S_323 ml_11_198 (lk_d S_314 ml_11_147 lk_n)) odX11_isNoteOfBox
def pon_820 : aPo := (some (.inl aTop), [none, some [((.ofNat (nat_lit 0)), (.ofNat (nat_lit 7)), (nat_lit 1))], some [((.ofNat (nat_lit 0)), (.ofNat (nat_lit 999)), (nat_lit 1))]], [sl_301, sl_214], [])
def ct_325 : aCt := (mX11_sung, [ag_0, ag_1, ag_1], ([], [((0, 3), 42)]), [pon_820, pon_333], mdn_25, [], (nat_lit 2))
set_option maxRecDepth 100000 in
theorem S_325 : aSpec wd ct_325 := bChk_ok wx_ok btX11_sung (nds := []) (fk := []) (rk := (1, [])) (sp := 0) (fuel := 3000) (by decide +kernel) (lk_d S_63 ml_11_98 (lk_d S_323 ml_11_198 (lk_d S_57 ml_11_112 (lk_d S_74 ml_11_187 (lk_d S_324 ml_11_191 lk_n))))) odX11_sung
def ct_326 : aCt := (mX7_raised, [ag_344, ag_1, ag_137, ag_170], ([], [((92, 0), 42)]), [pon_130], [], [], (nat_lit 0))
set_option maxRecDepth 100000 in
theorem S_326 : aSpec wd ct_326 := bChk_ok wx_ok btX7_raised (nds := []) (fk := []) (rk := (1, [])) (sp := 0) (fuel := 3000) (by decide +kernel) lk_n odX7_raised
def ct_327 : aCt := (mX7_raised, [ag_344, ag_1, ag_137, ag_361], ([], [((92, 0), 42)]), [pon_130], [], [], (nat_lit 1))
set_option maxRecDepth 100000 in
theorem S_327 : aSpec wd ct_327 := bChk_ok wx_ok btX7_raised (nds := [((nat_lit 22), [lcn_349, lcn_271, lcn_143, lcn_362, lcn_351, lcn_352], [], [sl_817], [((92, 0), 42)], (1000, [(4, -1)]))]) (fk := []) (rk := (1001, [])) (sp := 4194304) (fuel := 3000) (by decide +kernel) (lk_d S_70 ml_7_40 lk_n) odX7_raised
def ct_328 : aCt := (mX7_hearerOf, [ag_344, ag_1, ag_137, ag_345], ([], [((92, 0), 42)]), [pon_365, pon_52], mdn_366, [], (nat_lit 2))
set_option maxRecDepth 100000 in
theorem S_328 : aSpec wd ct_328 := bChk_ok wx_ok btX7_hearerOf (nds := [((nat_lit 32), [lcn_349, lcn_271, lcn_143, lcn_367, lcn_351, lcn_368, lcn_369], [], [sl_370], [((92, 0), 42)], (7, [(5, -1)]))]) (fk := []) (rk := (8, [])) (sp := 4294967296) (fuel := 3000) (by decide +kernel) (lk_d S_318 ml_7_50 (lk_d S_326 ml_7_54 (lk_d S_327 ml_7_54 (lk_d S_82 ml_7_60 lk_n)))) odX7_hearerOf
def ct_329 : aCt := (mX11_hearerIn, [ag_0, ag_190, ag_345], ([], [((0, 3), 42), ((92, 0), 42)]), [pon_365, pon_52], mdn_366, [], (nat_lit 3))
set_option maxRecDepth 100000 in
theorem S_329 : aSpec wd ct_329 := bChk_ok wx_ok btX11_hearerIn (nds := []) (fk := []) (rk := (1, [])) (sp := 0) (fuel := 3000) (by decide +kernel) (lk_d S_323 ml_11_198 (lk_d S_328 ml_11_277 lk_n)) odX11_hearerIn
def pon_821 : aPo := (some (.inl aTop), [none, some [((.ofNat (nat_lit 0)), (.ofNat (nat_lit 7)), (nat_lit 1))]], [sl_301, sl_214], [])
def ct_330 : aCt := (mX11_heard, [ag_0, ag_1], ([], [((0, 3), 42), ((92, 0), 42)]), [pon_821, pon_333], mdn_372, [], (nat_lit 4))
set_option maxRecDepth 100000 in
theorem S_330 : aSpec wd ct_330 := bChk_ok wx_ok btX11_heard (nds := []) (fk := []) (rk := (1, [])) (sp := 0) (fuel := 3000) (by decide +kernel) (lk_d S_63 ml_11_98 (lk_d S_329 ml_11_201 (lk_d S_314 ml_11_147 (lk_d S_57 ml_11_112 lk_n)))) odX11_heard
def ct_331 : aCt := (mX11_isIsland, [ag_0, ag_1], ([sl_147], [((0, 3), 42)]), [pon_373, pon_374], [], [], (nat_lit 0))
set_option maxRecDepth 100000 in
theorem S_331 : aSpec wd ct_331 := bChk_ok wx_ok btX11_isIsland (nds := []) (fk := []) (rk := (1, [])) (sp := 0) (fuel := 3000) (by decide +kernel) lk_n odX11_isIsland
def pon_822 : aPo := (some (.inl [((.ofNat (nat_lit 1)), (.ofNat (nat_lit 1)), (nat_lit 1))]), [none, some [((.ofNat (nat_lit 0)), (.ofNat (nat_lit 6)), (nat_lit 1))], some [((.ofNat (nat_lit 0)), (.ofNat (nat_lit 6)), (nat_lit 1))]], [sl_147], [])
def ct_332 : aCt := (mX11_areTwoIslands, [ag_0, ag_1, ag_1], ([], [((0, 3), 42)]), [pon_37, pon_822], [], [], (nat_lit 1))
set_option maxRecDepth 100000 in
theorem S_332 : aSpec wd ct_332 := bChk_ok wx_ok btX11_areTwoIslands (nds := []) (fk := []) (rk := (1, [])) (sp := 0) (fuel := 3000) (by decide +kernel) (lk_d S_331 ml_11_174 (lk_d S_316 ml_11_174 lk_n)) odX11_areTwoIslands
def pon_823 : aPo := (some (.inl [((.ofNat (nat_lit 0)), (.ofNat (nat_lit 11)), (nat_lit 1))]), [], [sl_258], [])
def ct_333 : aCt := (mX4_wayBetween, [ag_26, ag_125, ag_125], ([], []), [pon_823, pon_52], [], [], (nat_lit 0))
set_option maxRecDepth 100000 in
theorem S_333 : aSpec wd ct_333 := bChk_ok wx_ok btX4_wayBetween (nds := [((nat_lit 2), [lcn_141, lcn_249, lcn_250, lcn_379], [], [], [], (12, [(2, -1)]))]) (fk := []) (rk := (13, [])) (sp := 4) (fuel := 3000) (by decide +kernel) lk_n odX4_wayBetween
def pon_824 : aPo := (some (.inl aTop), [none, some [((.ofNat (nat_lit 0)), (.ofNat (nat_lit 6)), (nat_lit 1))], some [((.ofNat (nat_lit 0)), (.ofNat (nat_lit 6)), (nat_lit 1))]], [sl_301, sl_147], [])
def ct_334 : aCt := (mX11_way, [ag_0, ag_1, ag_1], ([], [((0, 3), 42)]), [pon_824, pon_333], mdn_25, [], (nat_lit 2))
set_option maxRecDepth 100000 in
theorem S_334 : aSpec wd ct_334 := bChk_ok wx_ok btX11_way (nds := []) (fk := []) (rk := (1, [])) (sp := 0) (fuel := 3000) (by decide +kernel) (lk_d S_63 ml_11_98 (lk_d S_89 ml_11_210 (lk_d S_333 ml_11_207 (lk_d S_57 ml_11_112 (lk_d S_332 ml_11_204 lk_n))))) odX11_way
def pon_825 : aPo := (some (.inl [((.ofNat (nat_lit 0)), (.ofNat (nat_lit 0)), (nat_lit 1))]), [], [sl_27], [])
def pon_826 : aPo := (some (.inl [((.ofNat (nat_lit 1)), (.ofNat (nat_lit 1)), (nat_lit 1))]), [], [sl_147], [])
def ct_335 : aCt := (mX11_hasPost, [ag_0], ([], [((0, 3), 42)]), [pon_825, pon_826], [], [], (nat_lit 0))
set_option maxRecDepth 100000 in
theorem S_335 : aSpec wd ct_335 := bChk_ok wx_ok btX11_hasPost (nds := []) (fk := []) (rk := (1, [])) (sp := 0) (fuel := 3000) (by decide +kernel) lk_n odX11_hasPost
def pon_827 : aPo := (some (.inl aTop), [none, some [((.ofNat (nat_lit 0)), (.ofNat (nat_lit 99999)), (nat_lit 1))]], [sl_301, sl_147], [])
def ct_336 : aCt := (mX11_season, [ag_0, ag_1], ([], [((0, 3), 42)]), [pon_827, pon_390], mdn_25, [], (nat_lit 1))
set_option maxRecDepth 100000 in
theorem S_336 : aSpec wd ct_336 := bChk_ok wx_ok btX11_season (nds := []) (fk := []) (rk := (1, [])) (sp := 0) (fuel := 3000) (by decide +kernel) (lk_d S_335 ml_11_222 (lk_d S_6 ml_11_98 (lk_d S_63 ml_11_98 (lk_d S_92 ml_11_227 (lk_d S_57 ml_11_112 lk_n))))) odX11_season
def pon_828 : aPo := (some (.inl [((.ofNat (nat_lit 1)), (.ofNat (nat_lit 1)), (nat_lit 1))]), [none, some [((.ofNat (nat_lit 0)), (.ofNat (nat_lit 11)), (nat_lit 1))]], [sl_258], [])
def ct_337 : aCt := (mX11_isWay, [ag_0, ag_1], ([], [((0, 3), 42)]), [pon_337, pon_828], [], [], (nat_lit 0))
set_option maxRecDepth 100000 in
theorem S_337 : aSpec wd ct_337 := bChk_ok wx_ok btX11_isWay (nds := []) (fk := []) (rk := (1, [])) (sp := 0) (fuel := 3000) (by decide +kernel) lk_n odX11_isWay
def pon_829 : aPo := (some (.inl aTop), [none, some [((.ofNat (nat_lit 0)), (.ofNat (nat_lit 4)), (nat_lit 1))], some [((.ofNat (nat_lit 0)), (.ofNat (nat_lit 11)), (nat_lit 1))], some [((.ofNat (nat_lit 0)), (.ofNat (nat_lit 9999)), (nat_lit 1))]], [sl_301, sl_258, sl_811], [])
def ct_338 : aCt := (mX11_sets, [ag_0, ag_1, ag_1, ag_1], ([], [((0, 3), 42)]), [pon_829, pon_401], mdn_25, [], (nat_lit 1))
set_option maxRecDepth 100000 in
theorem S_338 : aSpec wd ct_338 := bChk_ok wx_ok btX11_sets (nds := []) (fk := []) (rk := (1, [])) (sp := 0) (fuel := 3000) (by decide +kernel) (lk_d S_6 ml_11_98 (lk_d S_63 ml_11_98 (lk_d S_89 ml_11_210 (lk_d S_312 ml_11_121 (lk_d S_337 ml_11_230 (lk_d S_95 ml_11_227 (lk_d S_57 ml_11_112 (lk_d S_96 ml_11_236 lk_n)))))))) odX11_sets
def ct_339 : aCt := (mX11_sentPart, [ag_0, ag_190, ag_402], ([], [((0, 3), 42)]), [pon_403, pon_404, pon_405], [], [], (nat_lit 0))
set_option maxRecDepth 100000 in
theorem S_339 : aSpec wd ct_339 := bChk_ok wx_ok btX11_sentPart (nds := []) (fk := []) (rk := (1, [])) (sp := 0) (fuel := 3000) (by decide +kernel) lk_n odX11_sentPart
def pon_830 : aPo := (some (.inl aTop), [], [sl_301, sl_147], [])
def ct_340 : aCt := (mX11_sent, [ag_0, ag_1], ([], [((0, 3), 42)]), [pon_830, pon_333], mdn_25, [], (nat_lit 1))
set_option maxRecDepth 100000 in
theorem S_340 : aSpec wd ct_340 := bChk_ok wx_ok btX11_sent (nds := [((nat_lit 26), [lcn_407, lcn_397, lcn_132, lcn_408], [], [sl_147], [((0, 3), 42)], (8, [(2, -1)]))]) (fk := []) (rk := (9, [])) (sp := 67108864) (fuel := 3000) (by decide +kernel) (lk_d S_335 ml_11_222 (lk_d S_63 ml_11_98 (lk_d S_98 ml_11_242 (lk_d S_339 ml_11_245 (lk_d S_57 ml_11_112 lk_n))))) odX11_sent
def ct_341 : aCt := (mX7_apartness, [ag_344, ag_125, ag_125], ([], [((92, 0), 42)]), [pon_364, pon_52], [], [], (nat_lit 2))
set_option maxRecDepth 100000 in
theorem S_341 : aSpec wd ct_341 := bChk_ok wx_ok btX7_apartness (nds := []) (fk := []) (rk := (1, [])) (sp := 0) (fuel := 3000) (by decide +kernel) (lk_d S_82 ml_7_60 lk_n) odX7_apartness
def ct_342 : aCt := (mX11_apart, [ag_0, ag_1, ag_1], ([], [((0, 3), 42), ((92, 0), 42)]), [pon_824, pon_333], mdn_25, [], (nat_lit 3))
set_option maxRecDepth 100000 in
theorem S_342 : aSpec wd ct_342 := bChk_ok wx_ok btX11_apart (nds := []) (fk := []) (rk := (1, [])) (sp := 0) (fuel := 3000) (by decide +kernel) (lk_d S_63 ml_11_98 (lk_d S_341 ml_11_248 (lk_d S_331 ml_11_174 (lk_d S_316 ml_11_174 (lk_d S_57 ml_11_112 lk_n))))) odX11_apart
def ct_343 : aCt := (mX7_apartness, [ag_344, ag_409, ag_410], ([], [((92, 0), 42)]), [pon_364, pon_52], [], [], (nat_lit 2))
set_option maxRecDepth 100000 in
theorem S_343 : aSpec wd ct_343 := bChk_ok wx_ok btX7_apartness (nds := []) (fk := []) (rk := (1, [])) (sp := 0) (fuel := 3000) (by decide +kernel) (lk_d S_82 ml_7_60 lk_n) odX7_apartness
def ct_344 : aCt := (mX7_bearable, [ag_344], ([sl_147], [((92, 0), 42)]), [pon_130], [], [], (nat_lit 3))
set_option maxRecDepth 100000 in
theorem S_344 : aSpec wd ct_344 := bChk_ok wx_ok btX7_bearable (nds := [((nat_lit 5), [lcn_349, lcn_271, lcn_411], [], [sl_147], [((92, 0), 42)], (63, [(1, -8)])), ((nat_lit 18), [lcn_349, lcn_271, lcn_250, lcn_144], [], [sl_147], [((92, 0), 42)], (62, [(1, -8), (2, -1)]))]) (fk := []) (rk := (64, [])) (sp := 262176) (fuel := 3000) (by decide +kernel) (lk_d S_343 ml_7_67 lk_n) odX7_bearable
def pon_831 : aPo := (some (.inl [((.negSucc (nat_lit 0)), (.negSucc (nat_lit 0)), (nat_lit 1))]), [], [sl_332, sl_27], [])
def ct_345 : aCt := (mX11_bear, [ag_0], ([], [((0, 3), 42), ((92, 0), 42)]), [pon_830, pon_831], mdn_25, [], (nat_lit 4))
set_option maxRecDepth 100000 in
theorem S_345 : aSpec wd ct_345 := bChk_ok wx_ok btX11_bear (nds := []) (fk := []) (rk := (1, [])) (sp := 0) (fuel := 3000) (by decide +kernel) (lk_d S_344 ml_11_251 (lk_d S_335 ml_11_222 (lk_d S_63 ml_11_98 (lk_d S_57 ml_11_112 lk_n)))) odX11_bear
def ct_346 : aCt := (mX7_mixedPairs, [ag_344], ([sl_147], [((92, 0), 42)]), [pon_130], [], [], (nat_lit 3))
set_option maxRecDepth 100000 in
theorem S_346 : aSpec wd ct_346 := bChk_ok wx_ok btX7_mixedPairs (nds := [((nat_lit 4), [lcn_349, lcn_271, lcn_411], [], [sl_147], [((92, 0), 42)], (63, [(1, -8)])), ((nat_lit 17), [lcn_349, lcn_271, lcn_250, lcn_144], [], [sl_147], [((92, 0), 42)], (62, [(1, -8), (2, -1)]))]) (fk := []) (rk := (64, [])) (sp := 131088) (fuel := 3000) (by decide +kernel) (lk_d S_343 ml_7_67 lk_n) odX7_mixedPairs
def ct_347 : aCt := (mX11_mixed, [ag_0], ([], [((0, 3), 42), ((92, 0), 42)]), [pon_830, pon_831], mdn_25, [], (nat_lit 4))
set_option maxRecDepth 100000 in
theorem S_347 : aSpec wd ct_347 := bChk_ok wx_ok btX11_mixed (nds := []) (fk := []) (rk := (1, [])) (sp := 0) (fuel := 3000) (by decide +kernel) (lk_d S_346 ml_11_255 (lk_d S_335 ml_11_222 (lk_d S_63 ml_11_98 (lk_d S_57 ml_11_112 lk_n)))) odX11_mixed
def pon_832 : aPo := (some (.inl [((.ofNat (nat_lit 2)), (.ofNat (nat_lit 2)), (nat_lit 1))]), [none, some aTop, none], [sl_147], [])
def pon_833 : aPo := (some (.inl [((.ofNat (nat_lit 0)), (.ofNat (nat_lit 0)), (nat_lit 1))]), [none, some [((.ofNat (nat_lit 2)), (.ofNat (nat_lit 5)), (nat_lit 1))], some [((.ofNat (nat_lit 1)), (.ofNat (nat_lit 5)), (nat_lit 1))]], [sl_147], [])
def pon_834 : aPo := (some (.inl [((.ofNat (nat_lit 1)), (.ofNat (nat_lit 1)), (nat_lit 1))]), [], [sl_27], [])
def ct_348 : aCt := (mX11_refusalOfNewSong, [ag_0, ag_1, ag_1], ([], [((0, 3), 42)]), [pon_832, pon_833, pon_834], [], [], (nat_lit 1))
set_option maxRecDepth 100000 in
theorem S_348 : aSpec wd ct_348 := bChk_ok wx_ok btX11_refusalOfNewSong (nds := []) (fk := []) (rk := (1, [])) (sp := 0) (fuel := 3000) (by decide +kernel) (lk_d S_335 ml_11_222 lk_n) odX11_refusalOfNewSong
def ct_349 : aCt := (mX7_songIn, [ag_344, ag_170, ag_345], ([], [((92, 0), 42)]), [pon_130], [], [], (nat_lit 2))
set_option maxRecDepth 100000 in
theorem S_349 : aSpec wd ct_349 := bChk_ok wx_ok btX7_songIn (nds := []) (fk := []) (rk := (1, [])) (sp := 0) (fuel := 3000) (by decide +kernel) (lk_d S_318 ml_7_50 (lk_d S_319 ml_7_54 (lk_d S_320 ml_7_54 lk_n))) odX7_songIn
def ct_350 : aCt := (mX7_songIn, [ag_344, ag_53, ag_345], ([], [((92, 0), 42)]), [pon_130], [], [], (nat_lit 2))
set_option maxRecDepth 100000 in
theorem S_350 : aSpec wd ct_350 := bChk_ok wx_ok btX7_songIn (nds := []) (fk := []) (rk := (1, [])) (sp := 0) (fuel := 3000) (by decide +kernel) (lk_d S_318 ml_7_50 (lk_d S_319 ml_7_54 (lk_d S_320 ml_7_54 lk_n))) odX7_songIn
def ct_351 : aCt := (mX7_songIn, [ag_344, ag_22, ag_345], ([], [((92, 0), 42)]), [pon_130], [], [], (nat_lit 2))
set_option maxRecDepth 100000 in
theorem S_351 : aSpec wd ct_351 := bChk_ok wx_ok btX7_songIn (nds := []) (fk := []) (rk := (1, [])) (sp := 0) (fuel := 3000) (by decide +kernel) (lk_d S_318 ml_7_50 (lk_d S_319 ml_7_54 (lk_d S_320 ml_7_54 lk_n))) odX7_songIn
def ct_352 : aCt := (mX7_songIn, [ag_344, ag_122, ag_345], ([], [((92, 0), 42)]), [pon_130], [], [], (nat_lit 2))
set_option maxRecDepth 100000 in
theorem S_352 : aSpec wd ct_352 := bChk_ok wx_ok btX7_songIn (nds := []) (fk := []) (rk := (1, [])) (sp := 0) (fuel := 3000) (by decide +kernel) (lk_d S_318 ml_7_50 (lk_d S_319 ml_7_54 (lk_d S_320 ml_7_54 lk_n))) odX7_songIn
def ct_353 : aCt := (mX7_songIn, [ag_344, ag_159, ag_345], ([], [((92, 0), 42)]), [pon_130], [], [], (nat_lit 2))
set_option maxRecDepth 100000 in
theorem S_353 : aSpec wd ct_353 := bChk_ok wx_ok btX7_songIn (nds := []) (fk := []) (rk := (1, [])) (sp := 0) (fuel := 3000) (by decide +kernel) (lk_d S_318 ml_7_50 (lk_d S_319 ml_7_54 (lk_d S_320 ml_7_54 lk_n))) odX7_songIn
def ct_354 : aCt := (mX7_songIn, [ag_344, ag_150, ag_345], ([], [((92, 0), 42)]), [pon_130], [], [], (nat_lit 2))
set_option maxRecDepth 100000 in
theorem S_354 : aSpec wd ct_354 := bChk_ok wx_ok btX7_songIn (nds := []) (fk := []) (rk := (1, [])) (sp := 0) (fuel := 3000) (by decide +kernel) (lk_d S_318 ml_7_50 (lk_d S_319 ml_7_54 (lk_d S_320 ml_7_54 lk_n))) odX7_songIn
def ct_355 : aCt := (mX7_songIn, [ag_344, ag_153, ag_345], ([], [((92, 0), 42)]), [pon_130], [], [], (nat_lit 2))
set_option maxRecDepth 100000 in
theorem S_355 : aSpec wd ct_355 := bChk_ok wx_ok btX7_songIn (nds := []) (fk := []) (rk := (1, [])) (sp := 0) (fuel := 3000) (by decide +kernel) (lk_d S_318 ml_7_50 (lk_d S_319 ml_7_54 (lk_d S_320 ml_7_54 lk_n))) odX7_songIn
def sl_835 : (Nat × Nat) × aI := (((nat_lit 42), (nat_lit 4)), [((.ofNat (nat_lit 2)), (.ofNat (nat_lit 7)), (nat_lit 1))])
def sl_836 : (Nat × Nat) × aI := (((nat_lit 42), (nat_lit 4)), [((.ofNat (nat_lit 3)), (.ofNat (nat_lit 7)), (nat_lit 1))])
def sl_837 : (Nat × Nat) × aI := (((nat_lit 42), (nat_lit 4)), [((.ofNat (nat_lit 4)), (.ofNat (nat_lit 7)), (nat_lit 1))])
def sl_838 : (Nat × Nat) × aI := (((nat_lit 42), (nat_lit 4)), [((.ofNat (nat_lit 5)), (.ofNat (nat_lit 7)), (nat_lit 1))])
def sl_839 : (Nat × Nat) × aI := (((nat_lit 42), (nat_lit 4)), [((.ofNat (nat_lit 6)), (.ofNat (nat_lit 7)), (nat_lit 1))])
def sl_840 : (Nat × Nat) × aI := (((nat_lit 42), (nat_lit 4)), [((.ofNat (nat_lit 7)), (.ofNat (nat_lit 7)), (nat_lit 1))])
def ct_356 : aCt := (mX7_keepSongsOf, [ag_344, ag_416, ag_345], ([sl_147], [((92, 0), 42)]), [pon_417], mdn_418, [], (nat_lit 3))
set_option maxRecDepth 100000 in
theorem S_356 : aSpec wd ct_356 := bChk_ok wx_ok btX7_keepSongsOf (nds := [((nat_lit 5), [lcn_349, lcn_419, lcn_420, lcn_101, lcn_421], [], [sl_147], [((92, 0), 42)], (7, [])), ((nat_lit 5), [lcn_349, lcn_419, lcn_420, lcn_422, lcn_423], [], [sl_147], [((92, 0), 42)], (6, [])), ((nat_lit 5), [lcn_349, lcn_419, lcn_420, lcn_424, lcn_425], [], [sl_835], [((92, 0), 42)], (5, [])), ((nat_lit 5), [lcn_349, lcn_419, lcn_420, lcn_427, lcn_428], [], [sl_836], [((92, 0), 42)], (4, [])), ((nat_lit 5), [lcn_349, lcn_419, lcn_420, lcn_430, lcn_431], [], [sl_837], [((92, 0), 42)], (3, [])), ((nat_lit 5), [lcn_349, lcn_419, lcn_420, lcn_433, lcn_434], [], [sl_838], [((92, 0), 42)], (2, [])), ((nat_lit 5), [lcn_349, lcn_419, lcn_420, lcn_144, lcn_436], [], [sl_839], [((92, 0), 42)], (1, [])), ((nat_lit 5), [lcn_349, lcn_419, lcn_420, lcn_438, lcn_439], [], [sl_840], [((92, 0), 42)], (0, []))]) (fk := []) (rk := (8, [])) (sp := 32) (fuel := 3000) (by decide +kernel) (lk_d S_349 ml_7_81 (lk_d S_350 ml_7_81 (lk_d S_351 ml_7_81 (lk_d S_352 ml_7_81 (lk_d S_353 ml_7_81 (lk_d S_354 ml_7_81 (lk_d S_355 ml_7_81 lk_n))))))) odX7_keepSongsOf
def ct_357 : aCt := (mX7_isOfNotes, [ag_344, ag_441, ag_416], ([], [((92, 0), 42)]), [pon_37, pon_38], [], [], (nat_lit 1))
set_option maxRecDepth 100000 in
theorem S_357 : aSpec wd ct_357 := bChk_ok wx_ok btX7_isOfNotes (nds := [((nat_lit 2), [lcn_349, lcn_442, lcn_443, lcn_433], [], [], [((92, 0), 42)], (5, [(2, -1)]))]) (fk := []) (rk := (6, [])) (sp := 4) (fuel := 3000) (by decide +kernel) (lk_d S_117 ml_7_40 lk_n) odX7_isOfNotes
def ct_358 : aCt := (mX7_findNew, [ag_344, ag_416, ag_452, ag_345, ag_53], ([sl_147], [((92, 0), 42)]), [pon_453, pon_38], mdn_454, [], (nat_lit 4))
set_option maxRecDepth 100000 in
theorem S_358 : aSpec wd ct_358 := bChk_ok wx_ok btX7_findNew (nds := [((nat_lit 24), [lcn_349, lcn_419, lcn_455, lcn_367, lcn_423, lcn_456, lcn_457, lcn_458, lcn_459], [], [sl_147], [((92, 0), 42)], (9224, [(3, -1025), (5, -1)])), ((nat_lit 24), [lcn_349, lcn_419, lcn_455, lcn_367, lcn_423, lcn_460, lcn_461, lcn_458, lcn_459], [], [sl_147], [((92, 0), 42)], (8199, [(3, -1025), (5, -1)])), ((nat_lit 24), [lcn_349, lcn_419, lcn_455, lcn_367, lcn_423, lcn_462, lcn_463, lcn_458, lcn_459], [], [sl_147], [((92, 0), 42)], (7174, [(3, -1025), (5, -1)])), ((nat_lit 24), [lcn_349, lcn_419, lcn_455, lcn_367, lcn_423, lcn_464, lcn_465, lcn_458, lcn_459], [], [sl_147], [((92, 0), 42)], (6149, [(3, -1025), (5, -1)])), ((nat_lit 24), [lcn_349, lcn_419, lcn_455, lcn_367, lcn_423, lcn_466, lcn_467, lcn_458, lcn_459], [], [sl_147], [((92, 0), 42)], (5124, [(3, -1025), (5, -1)])), ((nat_lit 24), [lcn_349, lcn_419, lcn_455, lcn_367, lcn_423, lcn_468, lcn_469, lcn_458, lcn_459], [], [sl_147], [((92, 0), 42)], (4099, [(3, -1025), (5, -1)])), ((nat_lit 24), [lcn_349, lcn_419, lcn_455, lcn_367, lcn_423, lcn_470, lcn_471, lcn_458, lcn_459], [], [sl_147], [((92, 0), 42)], (3074, [(3, -1025), (5, -1)])), ((nat_lit 24), [lcn_349, lcn_419, lcn_455, lcn_367, lcn_423, lcn_472, lcn_473, lcn_458, lcn_459], [], [sl_147], [((92, 0), 42)], (2049, [(3, -1025), (5, -1)]))]) (fk := [6]) (rk := (2050, [])) (sp := 16777216) (fuel := 3000) (by decide +kernel) (lk_d S_120 ml_7_77 (lk_d S_122 ml_7_77 (lk_d S_124 ml_7_77 (lk_d S_126 ml_7_77 (lk_d S_128 ml_7_77 (lk_d S_130 ml_7_77 (lk_d S_132 ml_7_77 (lk_d S_134 ml_7_77 (lk_d S_357 ml_7_73 (lk_d S_121 ml_7_77 (lk_d S_123 ml_7_77 (lk_d S_125 ml_7_77 (lk_d S_127 ml_7_77 (lk_d S_129 ml_7_77 (lk_d S_131 ml_7_77 (lk_d S_133 ml_7_77 (lk_d S_135 ml_7_77 (lk_d S_356 ml_7_70 lk_n)))))))))))))))))) odX7_findNew
end Pk2
