section Pk0
def ag_769 : aAg := .inr (.inl [(nat_lit 24)])
def pon_770 : aPo := (some (.inl [((.ofNat (nat_lit 0)), (.ofNat (nat_lit 0)), (nat_lit 1))]), [], [sl_323, sl_213], [])
def pon_771 : aPo := (some (.inl [((.ofNat (nat_lit 1)), (.ofNat (nat_lit 1)), (nat_lit 1))]), [], [sl_325, sl_219, sl_61, sl_54], [])
def mdn_772 : List (Nat × Nat × Nat) := [((nat_lit 2), (nat_lit 6), (nat_lit 7)), ((nat_lit 24), (nat_lit 0), (nat_lit 4)), ((nat_lit 82), (nat_lit 2), (nat_lit 6)), ((nat_lit 82), (nat_lit 10), (nat_lit 13)), ((nat_lit 84), (nat_lit 0), (nat_lit 20)), ((nat_lit 85), (nat_lit 0), (nat_lit 20))]
def ct_312 : aCt := (mX5_readWhale, [ag_34, ag_769], ([sl_323, sl_54], [((82, 6), 2)]), [pon_770, pon_771], mdn_772, [], (nat_lit 3))
set_option maxRecDepth 100000 in
theorem S_312 : aSpec wd ct_312 := bChk_ok wx_ok btX5_readWhale (nds := []) (fk := []) (rk := (1, [])) (sp := 0) (fuel := 3000) (by decide +kernel) (lk_d S_10 ml_5_70 (lk_d S_39 ml_5_195 (lk_d S_33 ml_5_173 (lk_d S_12 ml_5_76 (lk_d S_40 ml_5_142 (lk_d S_41 ml_5_142 (lk_d S_43 ml_5_158 (lk_d S_23 ml_5_138 lk_n)))))))) odX5_readWhale
def ag_773 : aAg := .inr (.inl [(nat_lit 23)])
def pon_774 : aPo := (some (.inl [((.ofNat (nat_lit 0)), (.ofNat (nat_lit 0)), (nat_lit 1))]), [], [sl_321, sl_213], [])
def pon_775 : aPo := (some (.inl [((.ofNat (nat_lit 1)), (.ofNat (nat_lit 1)), (nat_lit 1))]), [], [sl_323, sl_219, sl_61, sl_54], [])
def mdn_776 : List (Nat × Nat × Nat) := [((nat_lit 2), (nat_lit 6), (nat_lit 7)), ((nat_lit 23), (nat_lit 0), (nat_lit 4)), ((nat_lit 82), (nat_lit 2), (nat_lit 6)), ((nat_lit 82), (nat_lit 10), (nat_lit 13)), ((nat_lit 84), (nat_lit 0), (nat_lit 20)), ((nat_lit 85), (nat_lit 0), (nat_lit 20))]
def ct_313 : aCt := (mX5_readWhale, [ag_34, ag_773], ([sl_321, sl_54], [((82, 6), 2)]), [pon_774, pon_775], mdn_776, [], (nat_lit 3))
set_option maxRecDepth 100000 in
theorem S_313 : aSpec wd ct_313 := bChk_ok wx_ok btX5_readWhale (nds := []) (fk := []) (rk := (1, [])) (sp := 0) (fuel := 3000) (by decide +kernel) (lk_d S_10 ml_5_70 (lk_d S_39 ml_5_195 (lk_d S_33 ml_5_173 (lk_d S_12 ml_5_76 (lk_d S_40 ml_5_142 (lk_d S_41 ml_5_142 (lk_d S_45 ml_5_158 (lk_d S_23 ml_5_138 lk_n)))))))) odX5_readWhale
def ag_777 : aAg := .inr (.inl [(nat_lit 22)])
def pon_778 : aPo := (some (.inl [((.ofNat (nat_lit 0)), (.ofNat (nat_lit 0)), (nat_lit 1))]), [], [sl_319, sl_213], [])
def pon_779 : aPo := (some (.inl [((.ofNat (nat_lit 1)), (.ofNat (nat_lit 1)), (nat_lit 1))]), [], [sl_321, sl_219, sl_61, sl_54], [])
def mdn_780 : List (Nat × Nat × Nat) := [((nat_lit 2), (nat_lit 6), (nat_lit 7)), ((nat_lit 22), (nat_lit 0), (nat_lit 4)), ((nat_lit 82), (nat_lit 2), (nat_lit 6)), ((nat_lit 82), (nat_lit 10), (nat_lit 13)), ((nat_lit 84), (nat_lit 0), (nat_lit 20)), ((nat_lit 85), (nat_lit 0), (nat_lit 20))]
def ct_314 : aCt := (mX5_readWhale, [ag_34, ag_777], ([sl_319, sl_54], [((82, 6), 2)]), [pon_778, pon_779], mdn_780, [], (nat_lit 3))
set_option maxRecDepth 100000 in
theorem S_314 : aSpec wd ct_314 := bChk_ok wx_ok btX5_readWhale (nds := []) (fk := []) (rk := (1, [])) (sp := 0) (fuel := 3000) (by decide +kernel) (lk_d S_10 ml_5_70 (lk_d S_39 ml_5_195 (lk_d S_33 ml_5_173 (lk_d S_12 ml_5_76 (lk_d S_40 ml_5_142 (lk_d S_41 ml_5_142 (lk_d S_47 ml_5_158 (lk_d S_23 ml_5_138 lk_n)))))))) odX5_readWhale
def ag_781 : aAg := .inr (.inl [(nat_lit 21)])
def pon_782 : aPo := (some (.inl [((.ofNat (nat_lit 0)), (.ofNat (nat_lit 0)), (nat_lit 1))]), [], [sl_317, sl_213], [])
def pon_783 : aPo := (some (.inl [((.ofNat (nat_lit 1)), (.ofNat (nat_lit 1)), (nat_lit 1))]), [], [sl_319, sl_219, sl_61, sl_54], [])
def mdn_784 : List (Nat × Nat × Nat) := [((nat_lit 2), (nat_lit 6), (nat_lit 7)), ((nat_lit 21), (nat_lit 0), (nat_lit 4)), ((nat_lit 82), (nat_lit 2), (nat_lit 6)), ((nat_lit 82), (nat_lit 10), (nat_lit 13)), ((nat_lit 84), (nat_lit 0), (nat_lit 20)), ((nat_lit 85), (nat_lit 0), (nat_lit 20))]
def ct_315 : aCt := (mX5_readWhale, [ag_34, ag_781], ([sl_317, sl_54], [((82, 6), 2)]), [pon_782, pon_783], mdn_784, [], (nat_lit 3))
set_option maxRecDepth 100000 in
theorem S_315 : aSpec wd ct_315 := bChk_ok wx_ok btX5_readWhale (nds := []) (fk := []) (rk := (1, [])) (sp := 0) (fuel := 3000) (by decide +kernel) (lk_d S_10 ml_5_70 (lk_d S_39 ml_5_195 (lk_d S_33 ml_5_173 (lk_d S_12 ml_5_76 (lk_d S_40 ml_5_142 (lk_d S_41 ml_5_142 (lk_d S_49 ml_5_158 (lk_d S_23 ml_5_138 lk_n)))))))) odX5_readWhale
def sl_785 : (Nat × Nat) × aI := (((nat_lit 2), (nat_lit 5)), [((.ofNat (nat_lit 0)), (.ofNat (nat_lit 11)), (nat_lit 1))])
def sl_786 : (Nat × Nat) × aI := (((nat_lit 2), (nat_lit 5)), [((.ofNat (nat_lit 1)), (.ofNat (nat_lit 11)), (nat_lit 1))])
def pon_787 : aPo := (some (.inl [((.ofNat (nat_lit 0)), (.ofNat (nat_lit 10)), (nat_lit 1))]), [], [sl_786], [])
def ct_316 : aCt := (mX4_wayBetween, [ag_360, ag_125, ag_125], ([sl_785], []), [pon_787, pon_52], [], [], (nat_lit 0))
set_option maxRecDepth 100000 in
theorem S_316 : aSpec wd ct_316 := bChk_ok wx_ok btX4_wayBetween (nds := [((nat_lit 2), [lcn_381, lcn_250, lcn_251, lcn_252], [], [sl_785], [], (11, [(2, -1)]))]) (fk := []) (rk := (12, [])) (sp := 4) (fuel := 3000) (by decide +kernel) lk_n odX4_wayBetween
def pon_788 : aPo := (some (.inl [((.ofNat (nat_lit 0)), (.ofNat (nat_lit 0)), (nat_lit 1))]), [], [sl_785, sl_213], [])
def pon_789 : aPo := (some (.inl [((.ofNat (nat_lit 1)), (.ofNat (nat_lit 1)), (nat_lit 1))]), [], [sl_379, sl_254, sl_61, sl_54], [])
def mdn_790 : List (Nat × Nat × Nat) := [((nat_lit 2), (nat_lit 5), (nat_lit 6)), ((nat_lit 9), (nat_lit 0), (nat_lit 4)), ((nat_lit 10), (nat_lit 0), (nat_lit 4)), ((nat_lit 11), (nat_lit 0), (nat_lit 4)), ((nat_lit 12), (nat_lit 0), (nat_lit 4)), ((nat_lit 13), (nat_lit 0), (nat_lit 4)), ((nat_lit 14), (nat_lit 0), (nat_lit 4)), ((nat_lit 15), (nat_lit 0), (nat_lit 4)), ((nat_lit 16), (nat_lit 0), (nat_lit 4)), ((nat_lit 17), (nat_lit 0), (nat_lit 4)), ((nat_lit 18), (nat_lit 0), (nat_lit 4)), ((nat_lit 19), (nat_lit 0), (nat_lit 4)), ((nat_lit 20), (nat_lit 0), (nat_lit 4)), ((nat_lit 82), (nat_lit 2), (nat_lit 6)), ((nat_lit 82), (nat_lit 11), (nat_lit 13))]
def ct_317 : aCt := (mX5_readWay, [ag_34, ag_521], ([sl_785, sl_54], [((82, 6), 2)]), [pon_788, pon_789], mdn_790, [], (nat_lit 3))
set_option maxRecDepth 100000 in
theorem S_317 : aSpec wd ct_317 := bChk_ok wx_ok btX5_readWay (nds := []) (fk := []) (rk := (1, [])) (sp := 0) (fuel := 3000) (by decide +kernel) (lk_d S_34 ml_5_173 (lk_d S_51 ml_5_173 (lk_d S_15 ml_5_76 (lk_d S_35 ml_5_142 (lk_d S_53 ml_5_142 (lk_d S_316 ml_5_184 (lk_d S_23 ml_5_138 lk_n))))))) odX5_readWay
def sl_791 : (Nat × Nat) × aI := (((nat_lit 2), (nat_lit 8)), [((.ofNat (nat_lit 0)), (.ofNat (nat_lit 7)), (nat_lit 1))])
def ct_318 : aCt := (mX4_lastSpoutOf, [ag_360, ag_265], ([sl_791], []), [pon_267, pon_52], [], [], (nat_lit 0))
set_option maxRecDepth 100000 in
theorem S_318 : aSpec wd ct_318 := bChk_ok wx_ok btX4_lastSpoutOf (nds := [((nat_lit 7), [lcn_381, lcn_268, lcn_269], [], [sl_791], [], (1, [(1, 1)]))]) (fk := []) (rk := (8, [])) (sp := 128) (fuel := 3000) (by decide +kernel) lk_n odX4_lastSpoutOf
def ag_792 : aAg := .inr (.inl [(nat_lit 34), (nat_lit 35), (nat_lit 36), (nat_lit 37), (nat_lit 38), (nat_lit 39), (nat_lit 40), (nat_lit 41)])
def pon_793 : aPo := (some (.inl [((.ofNat (nat_lit 0)), (.ofNat (nat_lit 0)), (nat_lit 1))]), [], [sl_791, sl_276], [])
def pon_794 : aPo := (some (.inl [((.ofNat (nat_lit 1)), (.ofNat (nat_lit 1)), (nat_lit 1))]), [], [sl_640, sl_272, sl_61, sl_54], [])
def mdn_795 : List (Nat × Nat × Nat) := [((nat_lit 2), (nat_lit 8), (nat_lit 9)), ((nat_lit 34), (nat_lit 0), (nat_lit 3)), ((nat_lit 35), (nat_lit 0), (nat_lit 3)), ((nat_lit 36), (nat_lit 0), (nat_lit 3)), ((nat_lit 37), (nat_lit 0), (nat_lit 3)), ((nat_lit 38), (nat_lit 0), (nat_lit 3)), ((nat_lit 39), (nat_lit 0), (nat_lit 3)), ((nat_lit 40), (nat_lit 0), (nat_lit 3)), ((nat_lit 41), (nat_lit 0), (nat_lit 3)), ((nat_lit 82), (nat_lit 2), (nat_lit 6)), ((nat_lit 82), (nat_lit 11), (nat_lit 13))]
def ct_319 : aCt := (mX5_readSpout, [ag_34, ag_792], ([sl_791, sl_54], [((82, 6), 2)]), [pon_793, pon_794], mdn_795, [], (nat_lit 3))
set_option maxRecDepth 100000 in
theorem S_319 : aSpec wd ct_319 := bChk_ok wx_ok btX5_readSpout (nds := []) (fk := []) (rk := (1, [])) (sp := 0) (fuel := 3000) (by decide +kernel) (lk_d S_56 ml_5_173 (lk_d S_55 ml_5_173 (lk_d S_58 ml_5_142 (lk_d S_318 ml_5_240 (lk_d S_23 ml_5_138 (lk_d S_59 ml_5_142 lk_n)))))) odX5_readSpout
def mdn_796 : List (Nat × Nat × Nat) := [((nat_lit 2), (nat_lit 0), (nat_lit 9)), ((nat_lit 3), (nat_lit 0), (nat_lit 7)), ((nat_lit 4), (nat_lit 0), (nat_lit 7)), ((nat_lit 9), (nat_lit 0), (nat_lit 4)), ((nat_lit 10), (nat_lit 0), (nat_lit 4)), ((nat_lit 11), (nat_lit 0), (nat_lit 4)), ((nat_lit 12), (nat_lit 0), (nat_lit 4)), ((nat_lit 13), (nat_lit 0), (nat_lit 4)), ((nat_lit 14), (nat_lit 0), (nat_lit 4)), ((nat_lit 15), (nat_lit 0), (nat_lit 4)), ((nat_lit 16), (nat_lit 0), (nat_lit 4)), ((nat_lit 17), (nat_lit 0), (nat_lit 4)), ((nat_lit 18), (nat_lit 0), (nat_lit 4)), ((nat_lit 19), (nat_lit 0), (nat_lit 4)), ((nat_lit 20), (nat_lit 0), (nat_lit 4)), ((nat_lit 21), (nat_lit 0), (nat_lit 4)), ((nat_lit 22), (nat_lit 0), (nat_lit 4)), ((nat_lit 23), (nat_lit 0), (nat_lit 4)), ((nat_lit 24), (nat_lit 0), (nat_lit 4)), ((nat_lit 25), (nat_lit 0), (nat_lit 4)), ((nat_lit 26), (nat_lit 0), (nat_lit 4)), ((nat_lit 27), (nat_lit 0), (nat_lit 4)), ((nat_lit 28), (nat_lit 0), (nat_lit 4)), ((nat_lit 29), (nat_lit 0), (nat_lit 4)), ((nat_lit 30), (nat_lit 0), (nat_lit 4)), ((nat_lit 31), (nat_lit 0), (nat_lit 4)), ((nat_lit 32), (nat_lit 0), (nat_lit 4)), ((nat_lit 33), (nat_lit 0), (nat_lit 4)), ((nat_lit 34), (nat_lit 0), (nat_lit 3)), ((nat_lit 35), (nat_lit 0), (nat_lit 3)), ((nat_lit 36), (nat_lit 0), (nat_lit 3)), ((nat_lit 37), (nat_lit 0), (nat_lit 3)), ((nat_lit 38), (nat_lit 0), (nat_lit 3)), ((nat_lit 39), (nat_lit 0), (nat_lit 3)), ((nat_lit 40), (nat_lit 0), (nat_lit 3)), ((nat_lit 41), (nat_lit 0), (nat_lit 3)), ((nat_lit 82), (nat_lit 2), (nat_lit 6)), ((nat_lit 82), (nat_lit 10), (nat_lit 13)), ((nat_lit 84), (nat_lit 0), (nat_lit 20)), ((nat_lit 85), (nat_lit 0), (nat_lit 20))]
def ct_320 : aCt := (mX5_readLine, [ag_34], ([sl_54], [((82, 6), 2)]), [pon_282, pon_157], mdn_796, [], (nat_lit 4))
set_option maxRecDepth 100000 in
theorem S_320 : aSpec wd ct_320 := bChk_ok wx_ok btX5_readLine (nds := []) (fk := [172]) (rk := (1, [])) (sp := 0) (fuel := 3000) (by decide +kernel) (lk_d S_308 ml_5_90 (lk_d S_309 ml_5_87 (lk_d S_10 ml_5_70 (lk_d S_11 ml_5_80 (lk_d S_311 ml_5_111 (lk_d S_312 ml_5_111 (lk_d S_313 ml_5_111 (lk_d S_314 ml_5_111 (lk_d S_315 ml_5_111 (lk_d S_21 ml_5_76 (lk_d S_22 ml_5_76 (lk_d S_15 ml_5_76 (lk_d S_12 ml_5_76 (lk_d S_310 ml_5_122 (lk_d S_319 ml_5_133 (lk_d S_317 ml_5_100 lk_n)))))))))))))))) odX5_readLine
def pon_797 : aPo := (some (.inl [((.ofNat (nat_lit 0)), (.ofNat (nat_lit 0)), (nat_lit 1))]), [], [sl_281], [((82, 6), 2)])
def pon_798 : aPo := (some (.inl [((.ofNat (nat_lit 1)), (.ofNat (nat_lit 1)), (nat_lit 1))]), [], [sl_344, sl_54], [((82, 6), 2)])
def mdn_799 : List (Nat × Nat × Nat) := [((nat_lit 2), (nat_lit 0), (nat_lit 9)), ((nat_lit 3), (nat_lit 0), (nat_lit 7)), ((nat_lit 4), (nat_lit 0), (nat_lit 7)), ((nat_lit 9), (nat_lit 0), (nat_lit 4)), ((nat_lit 10), (nat_lit 0), (nat_lit 4)), ((nat_lit 11), (nat_lit 0), (nat_lit 4)), ((nat_lit 12), (nat_lit 0), (nat_lit 4)), ((nat_lit 13), (nat_lit 0), (nat_lit 4)), ((nat_lit 14), (nat_lit 0), (nat_lit 4)), ((nat_lit 15), (nat_lit 0), (nat_lit 4)), ((nat_lit 16), (nat_lit 0), (nat_lit 4)), ((nat_lit 17), (nat_lit 0), (nat_lit 4)), ((nat_lit 18), (nat_lit 0), (nat_lit 4)), ((nat_lit 19), (nat_lit 0), (nat_lit 4)), ((nat_lit 20), (nat_lit 0), (nat_lit 4)), ((nat_lit 21), (nat_lit 0), (nat_lit 4)), ((nat_lit 22), (nat_lit 0), (nat_lit 4)), ((nat_lit 23), (nat_lit 0), (nat_lit 4)), ((nat_lit 24), (nat_lit 0), (nat_lit 4)), ((nat_lit 25), (nat_lit 0), (nat_lit 4)), ((nat_lit 26), (nat_lit 0), (nat_lit 4)), ((nat_lit 27), (nat_lit 0), (nat_lit 4)), ((nat_lit 28), (nat_lit 0), (nat_lit 4)), ((nat_lit 29), (nat_lit 0), (nat_lit 4)), ((nat_lit 30), (nat_lit 0), (nat_lit 4)), ((nat_lit 31), (nat_lit 0), (nat_lit 4)), ((nat_lit 32), (nat_lit 0), (nat_lit 4)), ((nat_lit 33), (nat_lit 0), (nat_lit 4)), ((nat_lit 34), (nat_lit 0), (nat_lit 3)), ((nat_lit 35), (nat_lit 0), (nat_lit 3)), ((nat_lit 36), (nat_lit 0), (nat_lit 3)), ((nat_lit 37), (nat_lit 0), (nat_lit 3)), ((nat_lit 38), (nat_lit 0), (nat_lit 3)), ((nat_lit 39), (nat_lit 0), (nat_lit 3)), ((nat_lit 40), (nat_lit 0), (nat_lit 3)), ((nat_lit 41), (nat_lit 0), (nat_lit 3)), ((nat_lit 82), (nat_lit 1), (nat_lit 6)), ((nat_lit 82), (nat_lit 10), (nat_lit 13)), ((nat_lit 84), (nat_lit 0), (nat_lit 20)), ((nat_lit 85), (nat_lit 0), (nat_lit 20))]
def lcn_800 : Nat × aAg := ((nat_lit 2), .inr (.inl [(nat_lit 2)]))
def ct_321 : aCt := (mX5_readPost, [ag_34, ag_284, ag_360], ([], []), [pon_797, pon_798], mdn_799, mdn_288, (nat_lit 5))
set_option maxRecDepth 100000 in
theorem S_321 : aSpec wd ct_321 := bChk_ok wx_ok btX5_readPost (nds := [((nat_lit 47), [lcn_40, lcn_289, lcn_800, lcn_291], [], [sl_54], [((82, 6), 2)], (1023, [(1, -1)]))]) (fk := []) (rk := (1024, [])) (sp := 140737488355328) (fuel := 3000) (by decide +kernel) (lk_d S_320 ml_5_66 (lk_d S_305 ml_5_55 (lk_d S_10 ml_5_70 (lk_d S_22 ml_5_76 (lk_d S_12 ml_5_76 lk_n))))) odX5_readPost
def lcn_801 : Nat × aAg := ((nat_lit 1), .inr (.inl [(nat_lit 2)]))
def ct_322 : aCt := (mX2_begin, [ag_292, ag_360], ([], []), [pon_49], mdn_293, [], (nat_lit 0))
set_option maxRecDepth 100000 in
theorem S_322 : aSpec wd ct_322 := bChk_ok wx_ok btX2_begin (nds := [((nat_lit 12), [lcn_294, lcn_801, lcn_296], [], [sl_297, sl_298], [], (14, [(0, -1)])), ((nat_lit 50), [lcn_294, lcn_801, lcn_299], [], [sl_297, sl_298], [], (8, [(0, -1)]))]) (fk := []) (rk := (15, [])) (sp := 1125899906846720) (fuel := 3000) (by decide +kernel) lk_n odX2_begin
def pon_802 : aPo := (none, [], [sl_300], [((0, 3), 2), ((0, 4), 42), ((92, 0), 2), ((94, 0), 2), ((96, 0), 2)])
def ct_323 : aCt := (mX11_takeDraft, [ag_0], ([], [((0, 3), 42), ((0, 4), 2), ((92, 0), 42), ((94, 0), 42), ((96, 0), 42)]), [pon_802], mdn_302, mdn_303, (nat_lit 1))
set_option maxRecDepth 100000 in
theorem S_323 : aSpec wd ct_323 := bChk_ok wx_ok btX11_takeDraft (nds := []) (fk := []) (rk := (1, [])) (sp := 0) (fuel := 3000) (by decide +kernel) (lk_d S_322 ml_11_391 lk_n) odX11_takeDraft
def pon_803 : aPo := (some (.inl aTop), [none, some [((.ofNat (nat_lit 0)), (.ofNat (nat_lit 1000)), (nat_lit 1))]], [sl_308, sl_304, sl_300, sl_344, sl_54], [((0, 3), 2), ((0, 4), 42), ((82, 6), 2), ((92, 0), 2), ((94, 0), 2), ((96, 0), 2)])
def pon_804 : aPo := (some (.inl [((.negSucc (nat_lit 0)), (.negSucc (nat_lit 0)), (nat_lit 1))]), [none, some [((.ofNat (nat_lit 0)), (.ofNat (nat_lit 1000)), (nat_lit 1))]], [sl_308, sl_306, sl_281], [((0, 3), 42), ((0, 4), 2), ((82, 6), 2), ((92, 0), 42), ((94, 0), 42), ((96, 0), 42)])
def pon_805 : aPo := (some (.inl [((.negSucc (nat_lit 0)), (.negSucc (nat_lit 0)), (nat_lit 1))]), [none, some [((.negSucc (nat_lit 2147483647)), (.negSucc (nat_lit 0)), (nat_lit 1)), ((.ofNat (nat_lit 1)), (.ofNat (nat_lit 2147483647)), (nat_lit 1))]], [sl_23], [((0, 3), 42), ((0, 4), 2), ((92, 0), 42), ((94, 0), 42), ((96, 0), 42)])
def mdn_806 : List (Nat × Nat × Nat) := [((nat_lit 0), (nat_lit 1), (nat_lit 3)), ((nat_lit 0), (nat_lit 13), (nat_lit 14)), ((nat_lit 0), (nat_lit 15), (nat_lit 16)), ((nat_lit 2), (nat_lit 0), (nat_lit 9)), ((nat_lit 3), (nat_lit 0), (nat_lit 7)), ((nat_lit 4), (nat_lit 0), (nat_lit 7)), ((nat_lit 9), (nat_lit 0), (nat_lit 4)), ((nat_lit 10), (nat_lit 0), (nat_lit 4)), ((nat_lit 11), (nat_lit 0), (nat_lit 4)), ((nat_lit 12), (nat_lit 0), (nat_lit 4)), ((nat_lit 13), (nat_lit 0), (nat_lit 4)), ((nat_lit 14), (nat_lit 0), (nat_lit 4)), ((nat_lit 15), (nat_lit 0), (nat_lit 4)), ((nat_lit 16), (nat_lit 0), (nat_lit 4)), ((nat_lit 17), (nat_lit 0), (nat_lit 4)), ((nat_lit 18), (nat_lit 0), (nat_lit 4)), ((nat_lit 19), (nat_lit 0), (nat_lit 4)), ((nat_lit 20), (nat_lit 0), (nat_lit 4)), ((nat_lit 21), (nat_lit 0), (nat_lit 4)), ((nat_lit 22), (nat_lit 0), (nat_lit 4)), ((nat_lit 23), (nat_lit 0), (nat_lit 4)), ((nat_lit 24), (nat_lit 0), (nat_lit 4)), ((nat_lit 25), (nat_lit 0), (nat_lit 4)), ((nat_lit 26), (nat_lit 0), (nat_lit 4)), ((nat_lit 27), (nat_lit 0), (nat_lit 4)), ((nat_lit 28), (nat_lit 0), (nat_lit 4)), ((nat_lit 29), (nat_lit 0), (nat_lit 4)), ((nat_lit 30), (nat_lit 0), (nat_lit 4)), ((nat_lit 31), (nat_lit 0), (nat_lit 4)), ((nat_lit 32), (nat_lit 0), (nat_lit 4)), ((nat_lit 33), (nat_lit 0), (nat_lit 4)), ((nat_lit 34), (nat_lit 0), (nat_lit 3)), ((nat_lit 35), (nat_lit 0), (nat_lit 3)), ((nat_lit 36), (nat_lit 0), (nat_lit 3)), ((nat_lit 37), (nat_lit 0), (nat_lit 3)), ((nat_lit 38), (nat_lit 0), (nat_lit 3)), ((nat_lit 39), (nat_lit 0), (nat_lit 3)), ((nat_lit 40), (nat_lit 0), (nat_lit 3)), ((nat_lit 41), (nat_lit 0), (nat_lit 3)), ((nat_lit 82), (nat_lit 1), (nat_lit 6)), ((nat_lit 82), (nat_lit 10), (nat_lit 13)), ((nat_lit 84), (nat_lit 0), (nat_lit 20)), ((nat_lit 85), (nat_lit 0), (nat_lit 20)), ((nat_lit 86), (nat_lit 0), (nat_lit 2)), ((nat_lit 87), (nat_lit 0), (nat_lit 5)), ((nat_lit 88), (nat_lit 0), (nat_lit 5)), ((nat_lit 89), (nat_lit 0), (nat_lit 8)), ((nat_lit 90), (nat_lit 0), (nat_lit 8)), ((nat_lit 91), (nat_lit 0), (nat_lit 8))]
def ct_324 : aCt := (mX11_post, [ag_0, ag_1], ([], [((0, 3), 42), ((0, 4), 2), ((92, 0), 42), ((94, 0), 42), ((96, 0), 42)]), [pon_803, pon_804, pon_805], mdn_806, mdn_313, (nat_lit 6))
set_option maxRecDepth 100000 in
theorem S_324 : aSpec wd ct_324 := bChk_ok wx_ok btX11_post (nds := []) (fk := []) (rk := (1, [])) (sp := 0) (fuel := 3000) (by decide +kernel) (lk_d S_323 ml_11_106 (lk_d S_6 ml_11_98 (lk_d S_66 ml_11_98 (lk_d S_321 ml_11_102 (lk_d S_65 ml_11_112 lk_n))))) odX11_post
def ct_325 : aCt := (mX11_fault, [ag_0], ([], []), [pon_130], [], [], (nat_lit 0))
set_option maxRecDepth 100000 in
theorem S_325 : aSpec wd ct_325 := bChk_ok wx_ok btX11_fault (nds := []) (fk := []) (rk := (1, [])) (sp := 0) (fuel := 3000) (by decide +kernel) lk_n odX11_fault
def ct_326 : aCt := (mX11_where, [ag_0], ([], []), [pon_314, pon_316], [], [], (nat_lit 0))
set_option maxRecDepth 100000 in
theorem S_326 : aSpec wd ct_326 := bChk_ok wx_ok btX11_where (nds := []) (fk := []) (rk := (1, [])) (sp := 0) (fuel := 3000) (by decide +kernel) lk_n odX11_where
def pon_807 : aPo := (some (.inl [((.ofNat (nat_lit 0)), (.ofNat (nat_lit 0)), (nat_lit 1))]), [none, some [((.ofNat (nat_lit 0)), (.ofNat (nat_lit 2147483647)), (nat_lit 1))]], [sl_29], [])
def pon_808 : aPo := (some (.inl [((.ofNat (nat_lit 0)), (.ofNat (nat_lit 0)), (nat_lit 1))]), [none, some [((.ofNat (nat_lit 1)), (.ofNat (nat_lit 2147483647)), (nat_lit 1))]], [sl_238], [])
def pon_809 : aPo := (some (.inl [((.ofNat (nat_lit 0)), (.ofNat (nat_lit 0)), (nat_lit 1))]), [none, some [((.ofNat (nat_lit 2)), (.ofNat (nat_lit 2147483647)), (nat_lit 1))]], [sl_233], [])
def pon_810 : aPo := (some (.inl [((.ofNat (nat_lit 0)), (.ofNat (nat_lit 0)), (nat_lit 1))]), [none, some [((.ofNat (nat_lit 3)), (.ofNat (nat_lit 2147483647)), (nat_lit 1))]], [sl_228], [])
def pon_811 : aPo := (some (.inl [((.ofNat (nat_lit 0)), (.ofNat (nat_lit 0)), (nat_lit 1))]), [none, some [((.ofNat (nat_lit 4)), (.ofNat (nat_lit 2147483647)), (nat_lit 1))]], [sl_222], [])
def pon_812 : aPo := (some (.inl [((.ofNat (nat_lit 0)), (.ofNat (nat_lit 0)), (nat_lit 1))]), [none, some [((.ofNat (nat_lit 5)), (.ofNat (nat_lit 2147483647)), (nat_lit 1))]], [sl_224], [])
def pon_813 : aPo := (some (.inl [((.ofNat (nat_lit 1)), (.ofNat (nat_lit 1)), (nat_lit 1))]), [none, some [((.ofNat (nat_lit 0)), (.ofNat (nat_lit 0)), (nat_lit 1))]], [sl_238], [])
def pon_814 : aPo := (some (.inl [((.ofNat (nat_lit 1)), (.ofNat (nat_lit 1)), (nat_lit 1))]), [none, some [((.ofNat (nat_lit 0)), (.ofNat (nat_lit 1)), (nat_lit 1))]], [sl_233], [])
def pon_815 : aPo := (some (.inl [((.ofNat (nat_lit 1)), (.ofNat (nat_lit 1)), (nat_lit 1))]), [none, some [((.ofNat (nat_lit 0)), (.ofNat (nat_lit 2)), (nat_lit 1))]], [sl_228], [])
def pon_816 : aPo := (some (.inl [((.ofNat (nat_lit 1)), (.ofNat (nat_lit 1)), (nat_lit 1))]), [none, some [((.ofNat (nat_lit 0)), (.ofNat (nat_lit 3)), (nat_lit 1))]], [sl_222], [])
def pon_817 : aPo := (some (.inl [((.ofNat (nat_lit 1)), (.ofNat (nat_lit 1)), (nat_lit 1))]), [none, some [((.ofNat (nat_lit 0)), (.ofNat (nat_lit 4)), (nat_lit 1))]], [sl_224], [])
def ct_327 : aCt := (mX11_isWhale, [ag_0, ag_1], ([], [((0, 3), 42)]), [pon_807, pon_808, pon_809, pon_810, pon_811, pon_812, pon_329, pon_813, pon_814, pon_815, pon_816, pon_817], [], [], (nat_lit 0))
set_option maxRecDepth 100000 in
theorem S_327 : aSpec wd ct_327 := bChk_ok wx_ok btX11_isWhale (nds := []) (fk := [12]) (rk := (1, [])) (sp := 0) (fuel := 3000) (by decide +kernel) lk_n odX11_isWhale
def sl_818 : (Nat × Nat) × aI := (((nat_lit 42), (nat_lit 6)), [((.ofNat (nat_lit 1)), (.ofNat (nat_lit 5)), (nat_lit 1))])
def pon_819 : aPo := (some (.inl aTop), [none, some [((.ofNat (nat_lit 0)), (.ofNat (nat_lit 4)), (nat_lit 1))], some [((.ofNat (nat_lit 0)), (.ofNat (nat_lit 4)), (nat_lit 1))]], [sl_304, sl_818], [])
def ct_328 : aCt := (mX11_whale, [ag_0, ag_1, ag_1], ([], [((0, 3), 42)]), [pon_819, pon_339], mdn_25, [], (nat_lit 1))
set_option maxRecDepth 100000 in
theorem S_328 : aSpec wd ct_328 := bChk_ok wx_ok btX11_whale (nds := []) (fk := []) (rk := (1, [])) (sp := 0) (fuel := 3000) (by decide +kernel) (lk_d S_71 ml_11_98 (lk_d S_327 ml_11_121 (lk_d S_65 ml_11_112 lk_n))) odX11_whale
def pon_820 : aPo := (some (.inl [((.ofNat (nat_lit 1)), (.ofNat (nat_lit 1)), (nat_lit 1))]), [none, some [((.ofNat (nat_lit 0)), (.ofNat (nat_lit 7)), (nat_lit 1))]], [sl_215], [])
def ct_329 : aCt := (mX11_isBox, [ag_0, ag_1], ([], [((0, 3), 42)]), [pon_340, pon_820], [], [], (nat_lit 0))
set_option maxRecDepth 100000 in
theorem S_329 : aSpec wd ct_329 := bChk_ok wx_ok btX11_isBox (nds := []) (fk := []) (rk := (1, [])) (sp := 0) (fuel := 3000) (by decide +kernel) lk_n odX11_isBox
def pon_821 : aPo := (some (.inl aTop), [none, some [((.ofNat (nat_lit 0)), (.ofNat (nat_lit 7)), (nat_lit 1))], some [((.ofNat (nat_lit 0)), (.ofNat (nat_lit 5)), (nat_lit 1))]], [sl_304, sl_215], [])
def ct_330 : aCt := (mX11_box, [ag_0, ag_1, ag_1], ([], [((0, 3), 42)]), [pon_821, pon_336], mdn_25, [], (nat_lit 1))
set_option maxRecDepth 100000 in
theorem S_330 : aSpec wd ct_330 := bChk_ok wx_ok btX11_box (nds := []) (fk := []) (rk := (1, [])) (sp := 0) (fuel := 3000) (by decide +kernel) (lk_d S_71 ml_11_98 (lk_d S_329 ml_11_147 (lk_d S_65 ml_11_112 lk_n))) odX11_box
def pon_822 : aPo := (some (.inl [((.ofNat (nat_lit 1)), (.ofNat (nat_lit 1)), (nat_lit 1))]), [none, some [((.ofNat (nat_lit 0)), (.ofNat (nat_lit 6)), (nat_lit 1))]], [sl_147], [])
def ct_331 : aCt := (mX11_isIsland, [ag_0, ag_1], ([], [((0, 3), 42)]), [pon_340, pon_822], [], [], (nat_lit 0))
set_option maxRecDepth 100000 in
theorem S_331 : aSpec wd ct_331 := bChk_ok wx_ok btX11_isIsland (nds := []) (fk := []) (rk := (1, [])) (sp := 0) (fuel := 3000) (by decide +kernel) lk_n odX11_isIsland
def pon_823 : aPo := (some (.inl aTop), [none, some [((.ofNat (nat_lit 0)), (.ofNat (nat_lit 6)), (nat_lit 1))]], [sl_304, sl_147], [])
def ct_332 : aCt := (mX11_length, [ag_0, ag_1], ([], [((0, 3), 42)]), [pon_823, pon_336], mdn_25, [], (nat_lit 1))
set_option maxRecDepth 100000 in
theorem S_332 : aSpec wd ct_332 := bChk_ok wx_ok btX11_length (nds := []) (fk := []) (rk := (1, [])) (sp := 0) (fuel := 3000) (by decide +kernel) (lk_d S_71 ml_11_98 (lk_d S_331 ml_11_174 (lk_d S_65 ml_11_112 lk_n))) odX11_length
def ct_333 : aCt := (mX7_fallIn, [ag_347, ag_348], ([], [((92, 0), 42)]), [pon_349, pon_37], [], [], (nat_lit 0))
set_option maxRecDepth 100000 in
theorem S_333 : aSpec wd ct_333 := bChk_ok wx_ok btX7_fallIn (nds := []) (fk := []) (rk := (1, [])) (sp := 0) (fuel := 3000) (by decide +kernel) lk_n odX7_fallIn
def sl_824 : (Nat × Nat) × aI := (((nat_lit 42), (nat_lit 0)), [((.ofNat (nat_lit 1)), (.ofNat (nat_lit 4)), (nat_lit 1))])
def ct_334 : aCt := (mX7_raised, [ag_347, ag_1, ag_137, ag_265], ([], [((92, 0), 42)]), [pon_130], [], [], (nat_lit 1))
set_option maxRecDepth 100000 in
theorem S_334 : aSpec wd ct_334 := bChk_ok wx_ok btX7_raised (nds := [((nat_lit 22), [lcn_352, lcn_274, lcn_143, lcn_353, lcn_354, lcn_355], [], [sl_824], [((92, 0), 42)], (1000, [(4, -1)]))]) (fk := []) (rk := (1001, [])) (sp := 4194304) (fuel := 3000) (by decide +kernel) (lk_d S_78 ml_7_40 lk_n) odX7_raised
def ct_335 : aCt := (mX7_raised, [ag_347, ag_1, ag_137, ag_357], ([], [((92, 0), 42)]), [pon_130], [], [], (nat_lit 1))
set_option maxRecDepth 100000 in
theorem S_335 : aSpec wd ct_335 := bChk_ok wx_ok btX7_raised (nds := [((nat_lit 22), [lcn_352, lcn_274, lcn_143, lcn_358, lcn_354, lcn_355], [], [sl_824], [((92, 0), 42)], (1000, [(4, -1)]))]) (fk := []) (rk := (1001, [])) (sp := 4194304) (fuel := 3000) (by decide +kernel) (lk_d S_78 ml_7_40 lk_n) odX7_raised
def ct_336 : aCt := (mX7_songIn, [ag_347, ag_125, ag_348], ([], [((92, 0), 42)]), [pon_130], [], [], (nat_lit 2))
set_option maxRecDepth 100000 in
theorem S_336 : aSpec wd ct_336 := bChk_ok wx_ok btX7_songIn (nds := []) (fk := []) (rk := (1, [])) (sp := 0) (fuel := 3000) (by decide +kernel) (lk_d S_333 ml_7_50 (lk_d S_334 ml_7_54 (lk_d S_335 ml_7_54 lk_n))) odX7_songIn
def pon_825 : aPo := (some (.inl aTop), [none, some [((.ofNat (nat_lit 0)), (.ofNat (nat_lit 6)), (nat_lit 1))], some [((.ofNat (nat_lit 0)), (.ofNat (nat_lit 999)), (nat_lit 1))]], [sl_304, sl_147], [])
def ct_337 : aCt := (mX11_note, [ag_0, ag_1, ag_1], ([], [((0, 3), 42), ((92, 0), 42)]), [pon_825, pon_336], mdn_25, [], (nat_lit 3))
set_option maxRecDepth 100000 in
theorem S_337 : aSpec wd ct_337 := bChk_ok wx_ok btX11_note (nds := []) (fk := []) (rk := (1, [])) (sp := 0) (fuel := 3000) (by decide +kernel) (lk_d S_71 ml_11_98 (lk_d S_336 ml_11_183 (lk_d S_331 ml_11_174 (lk_d S_65 ml_11_112 (lk_d S_82 ml_11_187 lk_n))))) odX11_note
def ct_338 : aCt := (mX4_boxLength, [ag_26, ag_190], ([], []), [pon_361], [], [], (nat_lit 0))
set_option maxRecDepth 100000 in
theorem S_338 : aSpec wd ct_338 := bChk_ok wx_ok btX4_boxLength (nds := []) (fk := []) (rk := (1, [])) (sp := 0) (fuel := 3000) (by decide +kernel) lk_n odX4_boxLength
def pon_826 : aPo := (some (.inl [((.ofNat (nat_lit 1)), (.ofNat (nat_lit 1)), (nat_lit 1))]), [none, some [((.ofNat (nat_lit 0)), (.ofNat (nat_lit 7)), (nat_lit 1))], some [((.ofNat (nat_lit 0)), (.ofNat (nat_lit 999)), (nat_lit 1))]], [sl_215], [])
def ct_339 : aCt := (mX11_isNoteOfBox, [ag_0, ag_1, ag_1], ([], [((0, 3), 42)]), [pon_37, pon_826], [], [], (nat_lit 1))
set_option maxRecDepth 100000 in
theorem S_339 : aSpec wd ct_339 := bChk_ok wx_ok btX11_isNoteOfBox (nds := []) (fk := []) (rk := (1, [])) (sp := 0) (fuel := 3000) (by decide +kernel) (lk_d S_338 ml_11_198 (lk_d S_329 ml_11_147 lk_n)) odX11_isNoteOfBox
def pon_827 : aPo := (some (.inl aTop), [none, some [((.ofNat (nat_lit 0)), (.ofNat (nat_lit 7)), (nat_lit 1))], some [((.ofNat (nat_lit 0)), (.ofNat (nat_lit 999)), (nat_lit 1))]], [sl_304, sl_215], [])
def ct_340 : aCt := (mX11_sung, [ag_0, ag_1, ag_1], ([], [((0, 3), 42)]), [pon_827, pon_336], mdn_25, [], (nat_lit 2))
set_option maxRecDepth 100000 in
theorem S_340 : aSpec wd ct_340 := bChk_ok wx_ok btX11_sung (nds := []) (fk := []) (rk := (1, [])) (sp := 0) (fuel := 3000) (by decide +kernel) (lk_d S_71 ml_11_98 (lk_d S_338 ml_11_198 (lk_d S_65 ml_11_112 (lk_d S_82 ml_11_187 (lk_d S_339 ml_11_191 lk_n))))) odX11_sung
def ct_341 : aCt := (mX7_raised, [ag_347, ag_1, ag_137, ag_170], ([], [((92, 0), 42)]), [pon_130], [], [], (nat_lit 0))
set_option maxRecDepth 100000 in
theorem S_341 : aSpec wd ct_341 := bChk_ok wx_ok btX7_raised (nds := []) (fk := []) (rk := (1, [])) (sp := 0) (fuel := 3000) (by decide +kernel) lk_n odX7_raised
def ct_342 : aCt := (mX7_raised, [ag_347, ag_1, ag_137, ag_364], ([], [((92, 0), 42)]), [pon_130], [], [], (nat_lit 1))
set_option maxRecDepth 100000 in
theorem S_342 : aSpec wd ct_342 := bChk_ok wx_ok btX7_raised (nds := [((nat_lit 22), [lcn_352, lcn_274, lcn_143, lcn_365, lcn_354, lcn_355], [], [sl_824], [((92, 0), 42)], (1000, [(4, -1)]))]) (fk := []) (rk := (1001, [])) (sp := 4194304) (fuel := 3000) (by decide +kernel) (lk_d S_78 ml_7_40 lk_n) odX7_raised
def ct_343 : aCt := (mX7_hearerOf, [ag_347, ag_1, ag_137, ag_348], ([], [((92, 0), 42)]), [pon_368, pon_52], mdn_369, [], (nat_lit 2))
set_option maxRecDepth 100000 in
theorem S_343 : aSpec wd ct_343 := bChk_ok wx_ok btX7_hearerOf (nds := [((nat_lit 32), [lcn_352, lcn_274, lcn_143, lcn_370, lcn_354, lcn_371, lcn_372], [], [sl_373], [((92, 0), 42)], (7, [(5, -1)]))]) (fk := []) (rk := (8, [])) (sp := 4294967296) (fuel := 3000) (by decide +kernel) (lk_d S_333 ml_7_50 (lk_d S_341 ml_7_54 (lk_d S_342 ml_7_54 (lk_d S_90 ml_7_60 lk_n)))) odX7_hearerOf
def ct_344 : aCt := (mX11_hearerIn, [ag_0, ag_190, ag_348], ([], [((0, 3), 42), ((92, 0), 42)]), [pon_368, pon_52], mdn_369, [], (nat_lit 3))
set_option maxRecDepth 100000 in
theorem S_344 : aSpec wd ct_344 := bChk_ok wx_ok btX11_hearerIn (nds := []) (fk := []) (rk := (1, [])) (sp := 0) (fuel := 3000) (by decide +kernel) (lk_d S_338 ml_11_198 (lk_d S_343 ml_11_277 lk_n)) odX11_hearerIn
def pon_828 : aPo := (some (.inl aTop), [none, some [((.ofNat (nat_lit 0)), (.ofNat (nat_lit 7)), (nat_lit 1))]], [sl_304, sl_215], [])
def ct_345 : aCt := (mX11_heard, [ag_0, ag_1], ([], [((0, 3), 42), ((92, 0), 42)]), [pon_828, pon_336], mdn_375, [], (nat_lit 4))
set_option maxRecDepth 100000 in
theorem S_345 : aSpec wd ct_345 := bChk_ok wx_ok btX11_heard (nds := []) (fk := []) (rk := (1, [])) (sp := 0) (fuel := 3000) (by decide +kernel) (lk_d S_71 ml_11_98 (lk_d S_344 ml_11_201 (lk_d S_329 ml_11_147 (lk_d S_65 ml_11_112 lk_n)))) odX11_heard
def ct_346 : aCt := (mX11_isIsland, [ag_0, ag_1], ([sl_147], [((0, 3), 42)]), [pon_376, pon_377], [], [], (nat_lit 0))
set_option maxRecDepth 100000 in
theorem S_346 : aSpec wd ct_346 := bChk_ok wx_ok btX11_isIsland (nds := []) (fk := []) (rk := (1, [])) (sp := 0) (fuel := 3000) (by decide +kernel) lk_n odX11_isIsland
def pon_829 : aPo := (some (.inl [((.ofNat (nat_lit 1)), (.ofNat (nat_lit 1)), (nat_lit 1))]), [none, some [((.ofNat (nat_lit 0)), (.ofNat (nat_lit 6)), (nat_lit 1))], some [((.ofNat (nat_lit 0)), (.ofNat (nat_lit 6)), (nat_lit 1))]], [sl_147], [])
def ct_347 : aCt := (mX11_areTwoIslands, [ag_0, ag_1, ag_1], ([], [((0, 3), 42)]), [pon_37, pon_829], [], [], (nat_lit 1))
set_option maxRecDepth 100000 in
theorem S_347 : aSpec wd ct_347 := bChk_ok wx_ok btX11_areTwoIslands (nds := []) (fk := []) (rk := (1, [])) (sp := 0) (fuel := 3000) (by decide +kernel) (lk_d S_346 ml_11_174 (lk_d S_331 ml_11_174 lk_n)) odX11_areTwoIslands
def pon_830 : aPo := (some (.inl [((.ofNat (nat_lit 0)), (.ofNat (nat_lit 11)), (nat_lit 1))]), [], [sl_259], [])
def ct_348 : aCt := (mX4_wayBetween, [ag_26, ag_125, ag_125], ([], []), [pon_830, pon_52], [], [], (nat_lit 0))
set_option maxRecDepth 100000 in
theorem S_348 : aSpec wd ct_348 := bChk_ok wx_ok btX4_wayBetween (nds := [((nat_lit 2), [lcn_141, lcn_250, lcn_251, lcn_382], [], [], [], (12, [(2, -1)]))]) (fk := []) (rk := (13, [])) (sp := 4) (fuel := 3000) (by decide +kernel) lk_n odX4_wayBetween
def pon_831 : aPo := (some (.inl aTop), [none, some [((.ofNat (nat_lit 0)), (.ofNat (nat_lit 6)), (nat_lit 1))], some [((.ofNat (nat_lit 0)), (.ofNat (nat_lit 6)), (nat_lit 1))]], [sl_304, sl_147], [])
def ct_349 : aCt := (mX11_way, [ag_0, ag_1, ag_1], ([], [((0, 3), 42)]), [pon_831, pon_336], mdn_25, [], (nat_lit 2))
set_option maxRecDepth 100000 in
theorem S_349 : aSpec wd ct_349 := bChk_ok wx_ok btX11_way (nds := []) (fk := []) (rk := (1, [])) (sp := 0) (fuel := 3000) (by decide +kernel) (lk_d S_71 ml_11_98 (lk_d S_97 ml_11_210 (lk_d S_348 ml_11_207 (lk_d S_65 ml_11_112 (lk_d S_347 ml_11_204 lk_n))))) odX11_way
def pon_832 : aPo := (some (.inl [((.ofNat (nat_lit 0)), (.ofNat (nat_lit 0)), (nat_lit 1))]), [], [sl_27], [])
def pon_833 : aPo := (some (.inl [((.ofNat (nat_lit 1)), (.ofNat (nat_lit 1)), (nat_lit 1))]), [], [sl_147], [])
def ct_350 : aCt := (mX11_hasPost, [ag_0], ([], [((0, 3), 42)]), [pon_832, pon_833], [], [], (nat_lit 0))
set_option maxRecDepth 100000 in
theorem S_350 : aSpec wd ct_350 := bChk_ok wx_ok btX11_hasPost (nds := []) (fk := []) (rk := (1, [])) (sp := 0) (fuel := 3000) (by decide +kernel) lk_n odX11_hasPost
def pon_834 : aPo := (some (.inl aTop), [none, some [((.ofNat (nat_lit 0)), (.ofNat (nat_lit 99999)), (nat_lit 1))]], [sl_304, sl_147], [])
def ct_351 : aCt := (mX11_season, [ag_0, ag_1], ([], [((0, 3), 42)]), [pon_834, pon_393], mdn_25, [], (nat_lit 1))
set_option maxRecDepth 100000 in
theorem S_351 : aSpec wd ct_351 := bChk_ok wx_ok btX11_season (nds := []) (fk := []) (rk := (1, [])) (sp := 0) (fuel := 3000) (by decide +kernel) (lk_d S_350 ml_11_222 (lk_d S_6 ml_11_98 (lk_d S_71 ml_11_98 (lk_d S_100 ml_11_227 (lk_d S_65 ml_11_112 lk_n))))) odX11_season
def pon_835 : aPo := (some (.inl [((.ofNat (nat_lit 1)), (.ofNat (nat_lit 1)), (nat_lit 1))]), [none, some [((.ofNat (nat_lit 0)), (.ofNat (nat_lit 11)), (nat_lit 1))]], [sl_259], [])
def ct_352 : aCt := (mX11_isWay, [ag_0, ag_1], ([], [((0, 3), 42)]), [pon_340, pon_835], [], [], (nat_lit 0))
set_option maxRecDepth 100000 in
theorem S_352 : aSpec wd ct_352 := bChk_ok wx_ok btX11_isWay (nds := []) (fk := []) (rk := (1, [])) (sp := 0) (fuel := 3000) (by decide +kernel) lk_n odX11_isWay
def pon_836 : aPo := (some (.inl aTop), [none, some [((.ofNat (nat_lit 0)), (.ofNat (nat_lit 4)), (nat_lit 1))], some [((.ofNat (nat_lit 0)), (.ofNat (nat_lit 11)), (nat_lit 1))], some [((.ofNat (nat_lit 0)), (.ofNat (nat_lit 9999)), (nat_lit 1))]], [sl_304, sl_259, sl_818], [])
def ct_353 : aCt := (mX11_sets, [ag_0, ag_1, ag_1, ag_1], ([], [((0, 3), 42)]), [pon_836, pon_404], mdn_25, [], (nat_lit 1))
set_option maxRecDepth 100000 in
theorem S_353 : aSpec wd ct_353 := bChk_ok wx_ok btX11_sets (nds := []) (fk := []) (rk := (1, [])) (sp := 0) (fuel := 3000) (by decide +kernel) (lk_d S_6 ml_11_98 (lk_d S_71 ml_11_98 (lk_d S_97 ml_11_210 (lk_d S_327 ml_11_121 (lk_d S_352 ml_11_230 (lk_d S_103 ml_11_227 (lk_d S_65 ml_11_112 (lk_d S_104 ml_11_236 lk_n)))))))) odX11_sets
def ct_354 : aCt := (mX11_sentPart, [ag_0, ag_190, ag_405], ([], [((0, 3), 42)]), [pon_406, pon_407, pon_408], [], [], (nat_lit 0))
set_option maxRecDepth 100000 in
theorem S_354 : aSpec wd ct_354 := bChk_ok wx_ok btX11_sentPart (nds := []) (fk := []) (rk := (1, [])) (sp := 0) (fuel := 3000) (by decide +kernel) lk_n odX11_sentPart
def pon_837 : aPo := (some (.inl aTop), [], [sl_304, sl_147], [])
def ct_355 : aCt := (mX11_sent, [ag_0, ag_1], ([], [((0, 3), 42)]), [pon_837, pon_336], mdn_25, [], (nat_lit 1))
set_option maxRecDepth 100000 in
theorem S_355 : aSpec wd ct_355 := bChk_ok wx_ok btX11_sent (nds := [((nat_lit 26), [lcn_410, lcn_400, lcn_132, lcn_411], [], [sl_147], [((0, 3), 42)], (8, [(2, -1)]))]) (fk := []) (rk := (9, [])) (sp := 67108864) (fuel := 3000) (by decide +kernel) (lk_d S_350 ml_11_222 (lk_d S_71 ml_11_98 (lk_d S_106 ml_11_242 (lk_d S_354 ml_11_245 (lk_d S_65 ml_11_112 lk_n))))) odX11_sent
def ct_356 : aCt := (mX7_apartness, [ag_347, ag_125, ag_125], ([], [((92, 0), 42)]), [pon_367, pon_52], [], [], (nat_lit 2))
set_option maxRecDepth 100000 in
theorem S_356 : aSpec wd ct_356 := bChk_ok wx_ok btX7_apartness (nds := []) (fk := []) (rk := (1, [])) (sp := 0) (fuel := 3000) (by decide +kernel) (lk_d S_90 ml_7_60 lk_n) odX7_apartness
def ct_357 : aCt := (mX11_apart, [ag_0, ag_1, ag_1], ([], [((0, 3), 42), ((92, 0), 42)]), [pon_831, pon_336], mdn_25, [], (nat_lit 3))
set_option maxRecDepth 100000 in
theorem S_357 : aSpec wd ct_357 := bChk_ok wx_ok btX11_apart (nds := []) (fk := []) (rk := (1, [])) (sp := 0) (fuel := 3000) (by decide +kernel) (lk_d S_71 ml_11_98 (lk_d S_356 ml_11_248 (lk_d S_346 ml_11_174 (lk_d S_331 ml_11_174 (lk_d S_65 ml_11_112 lk_n))))) odX11_apart
def ct_358 : aCt := (mX7_apartness, [ag_347, ag_412, ag_413], ([], [((92, 0), 42)]), [pon_367, pon_52], [], [], (nat_lit 2))
set_option maxRecDepth 100000 in
theorem S_358 : aSpec wd ct_358 := bChk_ok wx_ok btX7_apartness (nds := []) (fk := []) (rk := (1, [])) (sp := 0) (fuel := 3000) (by decide +kernel) (lk_d S_90 ml_7_60 lk_n) odX7_apartness
def ct_359 : aCt := (mX7_bearable, [ag_347], ([sl_147], [((92, 0), 42)]), [pon_130], [], [], (nat_lit 3))
set_option maxRecDepth 100000 in
theorem S_359 : aSpec wd ct_359 := bChk_ok wx_ok btX7_bearable (nds := [((nat_lit 5), [lcn_352, lcn_274, lcn_414], [], [sl_147], [((92, 0), 42)], (63, [(1, -8)])), ((nat_lit 18), [lcn_352, lcn_274, lcn_251, lcn_144], [], [sl_147], [((92, 0), 42)], (62, [(1, -8), (2, -1)]))]) (fk := []) (rk := (64, [])) (sp := 262176) (fuel := 3000) (by decide +kernel) (lk_d S_358 ml_7_67 lk_n) odX7_bearable
def pon_838 : aPo := (some (.inl [((.negSucc (nat_lit 0)), (.negSucc (nat_lit 0)), (nat_lit 1))]), [], [sl_335, sl_27], [])
def ct_360 : aCt := (mX11_bear, [ag_0], ([], [((0, 3), 42), ((92, 0), 42)]), [pon_837, pon_838], mdn_25, [], (nat_lit 4))
set_option maxRecDepth 100000 in
theorem S_360 : aSpec wd ct_360 := bChk_ok wx_ok btX11_bear (nds := []) (fk := []) (rk := (1, [])) (sp := 0) (fuel := 3000) (by decide +kernel) (lk_d S_359 ml_11_251 (lk_d S_350 ml_11_222 (lk_d S_71 ml_11_98 (lk_d S_65 ml_11_112 lk_n)))) odX11_bear
def ct_361 : aCt := (mX7_mixedPairs, [ag_347], ([sl_147], [((92, 0), 42)]), [pon_130], [], [], (nat_lit 3))
set_option maxRecDepth 100000 in
theorem S_361 : aSpec wd ct_361 := bChk_ok wx_ok btX7_mixedPairs (nds := [((nat_lit 4), [lcn_352, lcn_274, lcn_414], [], [sl_147], [((92, 0), 42)], (63, [(1, -8)])), ((nat_lit 17), [lcn_352, lcn_274, lcn_251, lcn_144], [], [sl_147], [((92, 0), 42)], (62, [(1, -8), (2, -1)]))]) (fk := []) (rk := (64, [])) (sp := 131088) (fuel := 3000) (by decide +kernel) (lk_d S_358 ml_7_67 lk_n) odX7_mixedPairs
def ct_362 : aCt := (mX11_mixed, [ag_0], ([], [((0, 3), 42), ((92, 0), 42)]), [pon_837, pon_838], mdn_25, [], (nat_lit 4))
set_option maxRecDepth 100000 in
theorem S_362 : aSpec wd ct_362 := bChk_ok wx_ok btX11_mixed (nds := []) (fk := []) (rk := (1, [])) (sp := 0) (fuel := 3000) (by decide +kernel) (lk_d S_361 ml_11_255 (lk_d S_350 ml_11_222 (lk_d S_71 ml_11_98 (lk_d S_65 ml_11_112 lk_n)))) odX11_mixed
def pon_839 : aPo := (some (.inl [((.ofNat (nat_lit 2)), (.ofNat (nat_lit 2)), (nat_lit 1))]), [none, some aTop, none], [sl_147], [])
def pon_840 : aPo := (some (.inl [((.ofNat (nat_lit 0)), (.ofNat (nat_lit 0)), (nat_lit 1))]), [none, some [((.ofNat (nat_lit 2)), (.ofNat (nat_lit 5)), (nat_lit 1))], some [((.ofNat (nat_lit 1)), (.ofNat (nat_lit 5)), (nat_lit 1))]], [sl_147], [])
def pon_841 : aPo := (some (.inl [((.ofNat (nat_lit 1)), (.ofNat (nat_lit 1)), (nat_lit 1))]), [], [sl_27], [])
def ct_363 : aCt := (mX11_refusalOfNewSong, [ag_0, ag_1, ag_1], ([], [((0, 3), 42)]), [pon_839, pon_840, pon_841], [], [], (nat_lit 1))
set_option maxRecDepth 100000 in
theorem S_363 : aSpec wd ct_363 := bChk_ok wx_ok btX11_refusalOfNewSong (nds := []) (fk := []) (rk := (1, [])) (sp := 0) (fuel := 3000) (by decide +kernel) (lk_d S_350 ml_11_222 lk_n) odX11_refusalOfNewSong
def ct_364 : aCt := (mX7_songIn, [ag_347, ag_170, ag_348], ([], [((92, 0), 42)]), [pon_130], [], [], (nat_lit 2))
set_option maxRecDepth 100000 in
theorem S_364 : aSpec wd ct_364 := bChk_ok wx_ok btX7_songIn (nds := []) (fk := []) (rk := (1, [])) (sp := 0) (fuel := 3000) (by decide +kernel) (lk_d S_333 ml_7_50 (lk_d S_334 ml_7_54 (lk_d S_335 ml_7_54 lk_n))) odX7_songIn
def ct_365 : aCt := (mX7_songIn, [ag_347, ag_53, ag_348], ([], [((92, 0), 42)]), [pon_130], [], [], (nat_lit 2))
set_option maxRecDepth 100000 in
theorem S_365 : aSpec wd ct_365 := bChk_ok wx_ok btX7_songIn (nds := []) (fk := []) (rk := (1, [])) (sp := 0) (fuel := 3000) (by decide +kernel) (lk_d S_333 ml_7_50 (lk_d S_334 ml_7_54 (lk_d S_335 ml_7_54 lk_n))) odX7_songIn
def ct_366 : aCt := (mX7_songIn, [ag_347, ag_22, ag_348], ([], [((92, 0), 42)]), [pon_130], [], [], (nat_lit 2))
set_option maxRecDepth 100000 in
theorem S_366 : aSpec wd ct_366 := bChk_ok wx_ok btX7_songIn (nds := []) (fk := []) (rk := (1, [])) (sp := 0) (fuel := 3000) (by decide +kernel) (lk_d S_333 ml_7_50 (lk_d S_334 ml_7_54 (lk_d S_335 ml_7_54 lk_n))) odX7_songIn
def ct_367 : aCt := (mX7_songIn, [ag_347, ag_122, ag_348], ([], [((92, 0), 42)]), [pon_130], [], [], (nat_lit 2))
set_option maxRecDepth 100000 in
theorem S_367 : aSpec wd ct_367 := bChk_ok wx_ok btX7_songIn (nds := []) (fk := []) (rk := (1, [])) (sp := 0) (fuel := 3000) (by decide +kernel) (lk_d S_333 ml_7_50 (lk_d S_334 ml_7_54 (lk_d S_335 ml_7_54 lk_n))) odX7_songIn
def ct_368 : aCt := (mX7_songIn, [ag_347, ag_159, ag_348], ([], [((92, 0), 42)]), [pon_130], [], [], (nat_lit 2))
set_option maxRecDepth 100000 in
theorem S_368 : aSpec wd ct_368 := bChk_ok wx_ok btX7_songIn (nds := []) (fk := []) (rk := (1, [])) (sp := 0) (fuel := 3000) (by decide +kernel) (lk_d S_333 ml_7_50 (lk_d S_334 ml_7_54 (lk_d S_335 ml_7_54 lk_n))) odX7_songIn
def ct_369 : aCt := (mX7_songIn, [ag_347, ag_150, ag_348], ([], [((92, 0), 42)]), [pon_130], [], [], (nat_lit 2))
set_option maxRecDepth 100000 in
theorem S_369 : aSpec wd ct_369 := bChk_ok wx_ok btX7_songIn (nds := []) (fk := []) (rk := (1, [])) (sp := 0) (fuel := 3000) (by decide +kernel) (lk_d S_333 ml_7_50 (lk_d S_334 ml_7_54 (lk_d S_335 ml_7_54 lk_n))) odX7_songIn
def ct_370 : aCt := (mX7_songIn, [ag_347, ag_153, ag_348], ([], [((92, 0), 42)]), [pon_130], [], [], (nat_lit 2))
set_option maxRecDepth 100000 in
theorem S_370 : aSpec wd ct_370 := bChk_ok wx_ok btX7_songIn (nds := []) (fk := []) (rk := (1, [])) (sp := 0) (fuel := 3000) (by decide +kernel) (lk_d S_333 ml_7_50 (lk_d S_334 ml_7_54 (lk_d S_335 ml_7_54 lk_n))) odX7_songIn
def sl_842 : (Nat × Nat) × aI := (((nat_lit 42), (nat_lit 4)), [((.ofNat (nat_lit 2)), (.ofNat (nat_lit 7)), (nat_lit 1))])
def sl_843 : (Nat × Nat) × aI := (((nat_lit 42), (nat_lit 4)), [((.ofNat (nat_lit 3)), (.ofNat (nat_lit 7)), (nat_lit 1))])
def sl_844 : (Nat × Nat) × aI := (((nat_lit 42), (nat_lit 4)), [((.ofNat (nat_lit 4)), (.ofNat (nat_lit 7)), (nat_lit 1))])
def sl_845 : (Nat × Nat) × aI := (((nat_lit 42), (nat_lit 4)), [((.ofNat (nat_lit 5)), (.ofNat (nat_lit 7)), (nat_lit 1))])
def sl_846 : (Nat × Nat) × aI := (((nat_lit 42), (nat_lit 4)), [((.ofNat (nat_lit 6)), (.ofNat (nat_lit 7)), (nat_lit 1))])
def sl_847 : (Nat × Nat) × aI := (((nat_lit 42), (nat_lit 4)), [((.ofNat (nat_lit 7)), (.ofNat (nat_lit 7)), (nat_lit 1))])
def ct_371 : aCt := (mX7_keepSongsOf, [ag_347, ag_419, ag_348], ([sl_147], [((92, 0), 42)]), [pon_420], mdn_421, [], (nat_lit 3))
set_option maxRecDepth 100000 in
theorem S_371 : aSpec wd ct_371 := bChk_ok wx_ok btX7_keepSongsOf (nds := [((nat_lit 5), [lcn_352, lcn_422, lcn_423, lcn_101, lcn_424], [], [sl_147], [((92, 0), 42)], (7, [])), ((nat_lit 5), [lcn_352, lcn_422, lcn_423, lcn_425, lcn_426], [], [sl_147], [((92, 0), 42)], (6, [])), ((nat_lit 5), [lcn_352, lcn_422, lcn_423, lcn_427, lcn_428], [], [sl_842], [((92, 0), 42)], (5, [])), ((nat_lit 5), [lcn_352, lcn_422, lcn_423, lcn_430, lcn_431], [], [sl_843], [((92, 0), 42)], (4, [])), ((nat_lit 5), [lcn_352, lcn_422, lcn_423, lcn_433, lcn_434], [], [sl_844], [((92, 0), 42)], (3, [])), ((nat_lit 5), [lcn_352, lcn_422, lcn_423, lcn_436, lcn_437], [], [sl_845], [((92, 0), 42)], (2, [])), ((nat_lit 5), [lcn_352, lcn_422, lcn_423, lcn_144, lcn_439], [], [sl_846], [((92, 0), 42)], (1, [])), ((nat_lit 5), [lcn_352, lcn_422, lcn_423, lcn_441, lcn_442], [], [sl_847], [((92, 0), 42)], (0, []))]) (fk := []) (rk := (8, [])) (sp := 32) (fuel := 3000) (by decide +kernel) (lk_d S_364 ml_7_81 (lk_d S_365 ml_7_81 (lk_d S_366 ml_7_81 (lk_d S_367 ml_7_81 (lk_d S_368 ml_7_81 (lk_d S_369 ml_7_81 (lk_d S_370 ml_7_81 lk_n))))))) odX7_keepSongsOf
def ct_372 : aCt := (mX7_isOfNotes, [ag_347, ag_444, ag_419], ([], [((92, 0), 42)]), [pon_37, pon_38], [], [], (nat_lit 1))
set_option maxRecDepth 100000 in
theorem S_372 : aSpec wd ct_372 := bChk_ok wx_ok btX7_isOfNotes (nds := [((nat_lit 2), [lcn_352, lcn_445, lcn_446, lcn_436], [], [], [((92, 0), 42)], (5, [(2, -1)]))]) (fk := []) (rk := (6, [])) (sp := 4) (fuel := 3000) (by decide +kernel) (lk_d S_125 ml_7_40 lk_n) odX7_isOfNotes
def ct_373 : aCt := (mX7_findNew, [ag_347, ag_419, ag_455, ag_348, ag_53], ([sl_147], [((92, 0), 42)]), [pon_456, pon_38], mdn_457, [], (nat_lit 4))
set_option maxRecDepth 100000 in
theorem S_373 : aSpec wd ct_373 := bChk_ok wx_ok btX7_findNew (nds := [((nat_lit 24), [lcn_352, lcn_422, lcn_458, lcn_370, lcn_426, lcn_459, lcn_460, lcn_461, lcn_462], [], [sl_147], [((92, 0), 42)], (9224, [(3, -1025), (5, -1)])), ((nat_lit 24), [lcn_352, lcn_422, lcn_458, lcn_370, lcn_426, lcn_463, lcn_464, lcn_461, lcn_462], [], [sl_147], [((92, 0), 42)], (8199, [(3, -1025), (5, -1)])), ((nat_lit 24), [lcn_352, lcn_422, lcn_458, lcn_370, lcn_426, lcn_465, lcn_466, lcn_461, lcn_462], [], [sl_147], [((92, 0), 42)], (7174, [(3, -1025), (5, -1)])), ((nat_lit 24), [lcn_352, lcn_422, lcn_458, lcn_370, lcn_426, lcn_467, lcn_468, lcn_461, lcn_462], [], [sl_147], [((92, 0), 42)], (6149, [(3, -1025), (5, -1)])), ((nat_lit 24), [lcn_352, lcn_422, lcn_458, lcn_370, lcn_426, lcn_469, lcn_470, lcn_461, lcn_462], [], [sl_147], [((92, 0), 42)], (5124, [(3, -1025), (5, -1)])), ((nat_lit 24), [lcn_352, lcn_422, lcn_458, lcn_370, lcn_426, lcn_471, lcn_472, lcn_461, lcn_462], [], [sl_147], [((92, 0), 42)], (4099, [(3, -1025), (5, -1)])), ((nat_lit 24), [lcn_352, lcn_422, lcn_458, lcn_370, lcn_426, lcn_473, lcn_474, lcn_461, lcn_462], [], [sl_147], [((92, 0), 42)], (3074, [(3, -1025), (5, -1)])), ((nat_lit 24), [lcn_352, lcn_422, lcn_458, lcn_370, lcn_426, lcn_475, lcn_476, lcn_461, lcn_462], [], [sl_147], [((92, 0), 42)], (2049, [(3, -1025), (5, -1)]))]) (fk := [6]) (rk := (2050, [])) (sp := 16777216) (fuel := 3000) (by decide +kernel) (lk_d S_128 ml_7_77 (lk_d S_130 ml_7_77 (lk_d S_132 ml_7_77 (lk_d S_134 ml_7_77 (lk_d S_136 ml_7_77 (lk_d S_138 ml_7_77 (lk_d S_140 ml_7_77 (lk_d S_142 ml_7_77 (lk_d S_372 ml_7_73 (lk_d S_129 ml_7_77 (lk_d S_131 ml_7_77 (lk_d S_133 ml_7_77 (lk_d S_135 ml_7_77 (lk_d S_137 ml_7_77 (lk_d S_139 ml_7_77 (lk_d S_141 ml_7_77 (lk_d S_143 ml_7_77 (lk_d S_371 ml_7_70 lk_n)))))))))))))))))) odX7_findNew
end Pk0
section Pk1
def pon_848 : aPo := (some (.inl aTop), [none, some [((.ofNat (nat_lit 2)), (.ofNat (nat_lit 5)), (nat_lit 1))], some [((.ofNat (nat_lit 1)), (.ofNat (nat_lit 5)), (nat_lit 1))]], [sl_304, sl_147], [])
def ct_374 : aCt := (mX11_fresh, [ag_0, ag_1, ag_1], ([], [((0, 3), 42), ((92, 0), 42)]), [pon_848, pon_393], mdn_478, [], (nat_lit 5))
set_option maxRecDepth 100000 in
theorem S_374 : aSpec wd ct_374 := bChk_ok wx_ok btX11_fresh (nds := []) (fk := []) (rk := (1, [])) (sp := 0) (fuel := 3000) (by decide +kernel) (lk_d S_71 ml_11_98 (lk_d S_6 ml_11_98 (lk_d S_373 ml_11_261 (lk_d S_65 ml_11_112 (lk_d S_363 ml_11_258 lk_n))))) odX11_fresh
def ct_375 : aCt := (mX7_findNew, [ag_347, ag_419, ag_455, ag_348, ag_496], ([sl_147], [((92, 0), 42)]), [pon_497], mdn_498, [], (nat_lit 4))
set_option maxRecDepth 100000 in
theorem S_375 : aSpec wd ct_375 := bChk_ok wx_ok btX7_findNew (nds := [((nat_lit 24), [lcn_352, lcn_422, lcn_458, lcn_370, lcn_499, lcn_459, lcn_500, lcn_461, lcn_462], [], [sl_147], [((92, 0), 42)], (1057799, [(3, -1025), (5, -1)])), ((nat_lit 24), [lcn_352, lcn_422, lcn_458, lcn_370, lcn_499, lcn_463, lcn_501, lcn_461, lcn_462], [], [sl_147], [((92, 0), 42)], (1056774, [(3, -1025), (5, -1)])), ((nat_lit 24), [lcn_352, lcn_422, lcn_458, lcn_370, lcn_499, lcn_465, lcn_502, lcn_461, lcn_462], [], [sl_147], [((92, 0), 42)], (1056774, [(3, -1025), (5, -1)])), ((nat_lit 24), [lcn_352, lcn_422, lcn_458, lcn_370, lcn_499, lcn_467, lcn_503, lcn_461, lcn_462], [], [sl_147], [((92, 0), 42)], (1056774, [(3, -1025), (5, -1)])), ((nat_lit 24), [lcn_352, lcn_422, lcn_458, lcn_370, lcn_499, lcn_469, lcn_504, lcn_461, lcn_462], [], [sl_147], [((92, 0), 42)], (1056774, [(3, -1025), (5, -1)])), ((nat_lit 24), [lcn_352, lcn_422, lcn_458, lcn_370, lcn_499, lcn_471, lcn_505, lcn_461, lcn_462], [], [sl_147], [((92, 0), 42)], (1056774, [(3, -1025), (5, -1)])), ((nat_lit 24), [lcn_352, lcn_422, lcn_458, lcn_370, lcn_499, lcn_473, lcn_506, lcn_461, lcn_462], [], [sl_147], [((92, 0), 42)], (1056774, [(3, -1025), (5, -1)])), ((nat_lit 24), [lcn_352, lcn_422, lcn_458, lcn_370, lcn_499, lcn_475, lcn_507, lcn_461, lcn_462], [], [sl_147], [((92, 0), 42)], (1050624, [(3, -1025), (5, -1)]))]) (fk := [6]) (rk := (1055750, [])) (sp := 16777216) (fuel := 3000) (by decide +kernel) (lk_d S_128 ml_7_77 (lk_d S_130 ml_7_77 (lk_d S_132 ml_7_77 (lk_d S_134 ml_7_77 (lk_d S_136 ml_7_77 (lk_d S_138 ml_7_77 (lk_d S_140 ml_7_77 (lk_d S_142 ml_7_77 (lk_d S_372 ml_7_73 (lk_d S_146 ml_7_77 (lk_d S_147 ml_7_77 (lk_d S_148 ml_7_77 (lk_d S_149 ml_7_77 (lk_d S_150 ml_7_77 (lk_d S_151 ml_7_77 (lk_d S_152 ml_7_77 (lk_d S_153 ml_7_77 (lk_d S_371 ml_7_70 lk_n)))))))))))))))))) odX7_findNew
def ct_376 : aCt := (mX11_byTurns, [ag_0, ag_1, ag_1], ([], [((0, 3), 42), ((92, 0), 42)]), [pon_848, pon_393], mdn_508, [], (nat_lit 5))
set_option maxRecDepth 100000 in
theorem S_376 : aSpec wd ct_376 := bChk_ok wx_ok btX11_byTurns (nds := []) (fk := []) (rk := (1, [])) (sp := 0) (fuel := 3000) (by decide +kernel) (lk_d S_71 ml_11_98 (lk_d S_6 ml_11_98 (lk_d S_375 ml_11_261 (lk_d S_65 ml_11_112 (lk_d S_363 ml_11_258 lk_n))))) odX11_byTurns
def ct_377 : aCt := (mX11_near, [ag_0, ag_1], ([], [((0, 3), 42), ((92, 0), 42)]), [pon_828, pon_336], mdn_375, [], (nat_lit 4))
set_option maxRecDepth 100000 in
theorem S_377 : aSpec wd ct_377 := bChk_ok wx_ok btX11_near (nds := []) (fk := []) (rk := (1, [])) (sp := 0) (fuel := 3000) (by decide +kernel) (lk_d S_71 ml_11_98 (lk_d S_344 ml_11_201 (lk_d S_329 ml_11_147 (lk_d S_65 ml_11_112 lk_n)))) odX11_near
def ct_378 : aCt := (mX11_asNear, [ag_0, ag_1], ([], [((0, 3), 42), ((92, 0), 42)]), [pon_828, pon_336], mdn_375, [], (nat_lit 4))
set_option maxRecDepth 100000 in
theorem S_378 : aSpec wd ct_378 := bChk_ok wx_ok btX11_asNear (nds := []) (fk := []) (rk := (1, [])) (sp := 0) (fuel := 3000) (by decide +kernel) (lk_d S_71 ml_11_98 (lk_d S_344 ml_11_201 (lk_d S_329 ml_11_147 (lk_d S_65 ml_11_112 lk_n)))) odX11_asNear
def ct_379 : aCt := (mX7_fallIn, [ag_347, ag_511], ([], [((92, 0), 42)]), [pon_349, pon_37], [], [], (nat_lit 0))
set_option maxRecDepth 100000 in
theorem S_379 : aSpec wd ct_379 := bChk_ok wx_ok btX7_fallIn (nds := []) (fk := []) (rk := (1, [])) (sp := 0) (fuel := 3000) (by decide +kernel) lk_n odX7_fallIn
def ct_380 : aCt := (mX7_hearerOf, [ag_347, ag_1, ag_137, ag_511], ([], [((92, 0), 42)]), [pon_368, pon_52], mdn_369, [], (nat_lit 2))
set_option maxRecDepth 100000 in
theorem S_380 : aSpec wd ct_380 := bChk_ok wx_ok btX7_hearerOf (nds := [((nat_lit 32), [lcn_352, lcn_274, lcn_143, lcn_512, lcn_354, lcn_371, lcn_372], [], [sl_373], [((92, 0), 42)], (7, [(5, -1)]))]) (fk := []) (rk := (8, [])) (sp := 4294967296) (fuel := 3000) (by decide +kernel) (lk_d S_379 ml_7_50 (lk_d S_341 ml_7_54 (lk_d S_342 ml_7_54 (lk_d S_90 ml_7_60 lk_n)))) odX7_hearerOf
def ct_381 : aCt := (mX11_hearerIn, [ag_0, ag_190, ag_511], ([], [((0, 3), 42), ((92, 0), 42)]), [pon_368, pon_52], mdn_369, [], (nat_lit 3))
set_option maxRecDepth 100000 in
theorem S_381 : aSpec wd ct_381 := bChk_ok wx_ok btX11_hearerIn (nds := []) (fk := []) (rk := (1, [])) (sp := 0) (fuel := 3000) (by decide +kernel) (lk_d S_338 ml_11_198 (lk_d S_380 ml_11_277 lk_n)) odX11_hearerIn
def pon_849 : aPo := (some (.inl aTop), [none, some [((.ofNat (nat_lit 0)), (.ofNat (nat_lit 7)), (nat_lit 1))], some [((.ofNat (nat_lit 0)), (.ofNat (nat_lit 99)), (nat_lit 1))]], [sl_304, sl_215], [])
def ct_382 : aCt := (mX11_heardIn, [ag_0, ag_1, ag_1], ([], [((0, 3), 42), ((92, 0), 42)]), [pon_849, pon_393], mdn_375, [], (nat_lit 4))
set_option maxRecDepth 100000 in
theorem S_382 : aSpec wd ct_382 := bChk_ok wx_ok btX11_heardIn (nds := []) (fk := []) (rk := (1, [])) (sp := 0) (fuel := 3000) (by decide +kernel) (lk_d S_6 ml_11_98 (lk_d S_71 ml_11_98 (lk_d S_381 ml_11_201 (lk_d S_329 ml_11_147 (lk_d S_158 ml_11_227 (lk_d S_65 ml_11_112 lk_n)))))) odX11_heardIn
def ct_383 : aCt := (mX7_hearerOf, [ag_347, ag_1, ag_137, ag_511], ([sl_147], [((92, 0), 42)]), [pon_368, pon_52], mdn_369, [], (nat_lit 2))
set_option maxRecDepth 100000 in
theorem S_383 : aSpec wd ct_383 := bChk_ok wx_ok btX7_hearerOf (nds := [((nat_lit 32), [lcn_352, lcn_274, lcn_143, lcn_512, lcn_354, lcn_371, lcn_372], [], [sl_147, sl_373], [((92, 0), 42)], (7, [(5, -1)]))]) (fk := []) (rk := (8, [])) (sp := 4294967296) (fuel := 3000) (by decide +kernel) (lk_d S_379 ml_7_50 (lk_d S_341 ml_7_54 (lk_d S_342 ml_7_54 (lk_d S_90 ml_7_60 lk_n)))) odX7_hearerOf
def ct_384 : aCt := (mX11_strange, [ag_0, ag_1], ([], [((0, 3), 42), ((92, 0), 42)]), [pon_837, pon_336], mdn_375, [], (nat_lit 3))
set_option maxRecDepth 100000 in
theorem S_384 : aSpec wd ct_384 := bChk_ok wx_ok btX11_strange (nds := [((nat_lit 16), [lcn_410, lcn_250, lcn_514], [], [sl_147], [((0, 3), 42), ((92, 0), 42)], (100, [(1, -1)]))]) (fk := []) (rk := (101, [])) (sp := 65536) (fuel := 3000) (by decide +kernel) (lk_d S_71 ml_11_98 (lk_d S_331 ml_11_174 (lk_d S_65 ml_11_112 (lk_d S_383 ml_11_277 lk_n)))) odX11_strange
def ct_385 : aCt := (mX6_goes, [ag_397, ag_170, ag_257, ag_125, ag_125], ([], []), [pon_37, pon_38], mdn_517, [], (nat_lit 1))
set_option maxRecDepth 100000 in
theorem S_385 : aSpec wd ct_385 := bChk_ok wx_ok btX6_goes (nds := []) (fk := []) (rk := (1, [])) (sp := 0) (fuel := 3000) (by decide +kernel) (lk_d S_166 ml_6_80 lk_n) odX6_goes
def ct_386 : aCt := (mX6_goes, [ag_397, ag_523, ag_257, ag_125, ag_125], ([], []), [pon_37, pon_524], mdn_517, [], (nat_lit 1))
set_option maxRecDepth 100000 in
theorem S_386 : aSpec wd ct_386 := bChk_ok wx_ok btX6_goes (nds := []) (fk := []) (rk := (1, [])) (sp := 0) (fuel := 3000) (by decide +kernel) (lk_d S_168 ml_6_80 (lk_d S_169 ml_6_80 lk_n)) odX6_goes
def ct_387 : aCt := (mX6_findFirstDays, [ag_397, ag_364, ag_125, ag_348], ([sl_147], [((94, 0), 42)]), [pon_49], mdn_517, [], (nat_lit 2))
set_option maxRecDepth 100000 in
theorem S_387 : aSpec wd ct_387 := bChk_ok wx_ok btX6_findFirstDays (nds := [((nat_lit 39), [lcn_399, lcn_525, lcn_251, lcn_370, lcn_526, lcn_527, lcn_372], [], [sl_147], [((94, 0), 42)], (111, [(5, -14)])), ((nat_lit 57), [lcn_399, lcn_525, lcn_251, lcn_370, lcn_526, lcn_527, lcn_528, lcn_529], [], [sl_147], [((94, 0), 42)], (110, [(5, -14), (6, -1)]))]) (fk := []) (rk := (112, [])) (sp := 144115737831669760) (fuel := 3000) (by decide +kernel) (lk_d S_165 ml_6_38 (lk_d S_97 ml_6_64 (lk_d S_385 ml_6_70 (lk_d S_386 ml_6_70 lk_n)))) odX6_findFirstDays
def ct_388 : aCt := (mX6_firstDayAt, [ag_397, ag_364, ag_125, ag_125, ag_348], ([sl_147], [((94, 0), 42)]), [pon_130, pon_52], mdn_517, [], (nat_lit 3))
set_option maxRecDepth 100000 in
theorem S_388 : aSpec wd ct_388 := bChk_ok wx_ok btX6_firstDayAt (nds := []) (fk := []) (rk := (1, [])) (sp := 0) (fuel := 3000) (by decide +kernel) (lk_d S_387 ml_6_84 lk_n) odX6_firstDayAt
def pon_850 : aPo := (some (.inl aTop), [none, some [((.ofNat (nat_lit 0)), (.ofNat (nat_lit 4)), (nat_lit 1))], some [((.ofNat (nat_lit 0)), (.ofNat (nat_lit 6)), (nat_lit 1))], some [((.ofNat (nat_lit 0)), (.ofNat (nat_lit 6)), (nat_lit 1))], some [((.ofNat (nat_lit 0)), (.ofNat (nat_lit 9999)), (nat_lit 1))]], [sl_304, sl_147, sl_818], [])
def ct_389 : aCt := (mX11_arrival, [ag_0, ag_1, ag_1, ag_1, ag_1], ([], [((0, 3), 42), ((94, 0), 42)]), [pon_850, pon_531], mdn_532, [], (nat_lit 4))
set_option maxRecDepth 100000 in
theorem S_389 : aSpec wd ct_389 := bChk_ok wx_ok btX11_arrival (nds := []) (fk := []) (rk := (1, [])) (sp := 0) (fuel := 3000) (by decide +kernel) (lk_d S_6 ml_11_98 (lk_d S_71 ml_11_98 (lk_d S_388 ml_11_280 (lk_d S_346 ml_11_174 (lk_d S_327 ml_11_121 (lk_d S_331 ml_11_174 (lk_d S_103 ml_11_227 (lk_d S_65 ml_11_112 lk_n)))))))) odX11_arrival
def ct_390 : aCt := (mX6_findFirstDays, [ag_397, ag_364, ag_125, ag_1], ([], [((94, 0), 42)]), [pon_49], mdn_517, [], (nat_lit 2))
set_option maxRecDepth 100000 in
theorem S_390 : aSpec wd ct_390 := bChk_ok wx_ok btX6_findFirstDays (nds := [((nat_lit 39), [lcn_399, lcn_525, lcn_251, lcn_520, lcn_448, lcn_527, lcn_372], [], [], [((94, 0), 42)], (111, [(5, -14)])), ((nat_lit 57), [lcn_399, lcn_525, lcn_251, lcn_520, lcn_526, lcn_527, lcn_528, lcn_529], [], [], [((94, 0), 42)], (110, [(5, -14), (6, -1)]))]) (fk := []) (rk := (112, [])) (sp := 144115737831669760) (fuel := 3000) (by decide +kernel) (lk_d S_165 ml_6_38 (lk_d S_97 ml_6_64 (lk_d S_385 ml_6_70 (lk_d S_386 ml_6_70 lk_n)))) odX6_findFirstDays
def ct_391 : aCt := (mX6_firstDayAt, [ag_397, ag_364, ag_125, ag_125, ag_1], ([], [((94, 0), 42)]), [pon_130, pon_52], mdn_517, [], (nat_lit 3))
set_option maxRecDepth 100000 in
theorem S_391 : aSpec wd ct_391 := bChk_ok wx_ok btX6_firstDayAt (nds := []) (fk := []) (rk := (1, [])) (sp := 0) (fuel := 3000) (by decide +kernel) (lk_d S_390 ml_6_84 lk_n) odX6_firstDayAt
def ct_392 : aCt := (mX6_dayOfBringing, [ag_397, ag_265, ag_190], ([sl_224], [((92, 0), 42), ((94, 0), 42)]), [pon_534, pon_52], mdn_535, [], (nat_lit 4))
set_option maxRecDepth 100000 in
theorem S_392 : aSpec wd ct_392 := bChk_ok wx_ok btX6_dayOfBringing (nds := []) (fk := []) (rk := (1, [])) (sp := 0) (fuel := 3000) (by decide +kernel) (lk_d S_106 ml_6_96 (lk_d S_338 ml_6_115 (lk_d S_391 ml_6_136 (lk_d S_343 ml_6_122 lk_n)))) odX6_dayOfBringing
def ct_393 : aCt := (mX6_dayOfBringing, [ag_397, ag_364, ag_190], ([sl_222], [((92, 0), 42), ((94, 0), 42)]), [pon_534, pon_52], mdn_535, [], (nat_lit 4))
set_option maxRecDepth 100000 in
theorem S_393 : aSpec wd ct_393 := bChk_ok wx_ok btX6_dayOfBringing (nds := []) (fk := []) (rk := (1, [])) (sp := 0) (fuel := 3000) (by decide +kernel) (lk_d S_106 ml_6_96 (lk_d S_338 ml_6_115 (lk_d S_391 ml_6_136 (lk_d S_343 ml_6_122 lk_n)))) odX6_dayOfBringing
def ct_394 : aCt := (mX6_dayOfBringing, [ag_397, ag_405, ag_190], ([sl_228], [((92, 0), 42), ((94, 0), 42)]), [pon_534, pon_52], mdn_535, [], (nat_lit 4))
set_option maxRecDepth 100000 in
theorem S_394 : aSpec wd ct_394 := bChk_ok wx_ok btX6_dayOfBringing (nds := []) (fk := []) (rk := (1, [])) (sp := 0) (fuel := 3000) (by decide +kernel) (lk_d S_106 ml_6_96 (lk_d S_338 ml_6_115 (lk_d S_391 ml_6_136 (lk_d S_343 ml_6_122 lk_n)))) odX6_dayOfBringing
def ct_395 : aCt := (mX6_dayOfBringing, [ag_397, ag_536, ag_190], ([sl_233], [((92, 0), 42), ((94, 0), 42)]), [pon_534, pon_52], mdn_535, [], (nat_lit 4))
set_option maxRecDepth 100000 in
theorem S_395 : aSpec wd ct_395 := bChk_ok wx_ok btX6_dayOfBringing (nds := []) (fk := []) (rk := (1, [])) (sp := 0) (fuel := 3000) (by decide +kernel) (lk_d S_106 ml_6_96 (lk_d S_338 ml_6_115 (lk_d S_391 ml_6_136 (lk_d S_343 ml_6_122 lk_n)))) odX6_dayOfBringing
def ct_396 : aCt := (mX6_dayOfBringing, [ag_397, ag_170, ag_190], ([sl_238], [((92, 0), 42), ((94, 0), 42)]), [pon_534, pon_52], mdn_535, [], (nat_lit 4))
set_option maxRecDepth 100000 in
theorem S_396 : aSpec wd ct_396 := bChk_ok wx_ok btX6_dayOfBringing (nds := []) (fk := []) (rk := (1, [])) (sp := 0) (fuel := 3000) (by decide +kernel) (lk_d S_106 ml_6_96 (lk_d S_338 ml_6_115 (lk_d S_391 ml_6_136 (lk_d S_343 ml_6_122 lk_n)))) odX6_dayOfBringing
def pon_851 : aPo := (some (.inl aTop), [none, some [((.ofNat (nat_lit 0)), (.ofNat (nat_lit 4)), (nat_lit 1))], some [((.ofNat (nat_lit 0)), (.ofNat (nat_lit 7)), (nat_lit 1))]], [sl_304, sl_818, sl_215], [])
def ct_397 : aCt := (mX11_brings, [ag_0, ag_1, ag_1], ([], [((0, 3), 42), ((92, 0), 42), ((94, 0), 42)]), [pon_851, pon_339], mdn_538, [], (nat_lit 5))
set_option maxRecDepth 100000 in
theorem S_397 : aSpec wd ct_397 := bChk_ok wx_ok btX11_brings (nds := []) (fk := []) (rk := (1, [])) (sp := 0) (fuel := 3000) (by decide +kernel) (lk_d S_71 ml_11_98 (lk_d S_396 ml_11_283 (lk_d S_395 ml_11_283 (lk_d S_394 ml_11_283 (lk_d S_393 ml_11_283 (lk_d S_392 ml_11_283 (lk_d S_327 ml_11_121 (lk_d S_329 ml_11_147 (lk_d S_65 ml_11_112 lk_n))))))))) odX11_brings
def pon_852 : aPo := (some (.inl [((.negSucc (nat_lit 1)), (.negSucc (nat_lit 1)), (nat_lit 1)), ((.ofNat (nat_lit 0)), (.ofNat (nat_lit 4)), (nat_lit 1))]), [], [sl_818], [])
def pon_853 : aPo := (some (.inl [((.negSucc (nat_lit 1)), (.negSucc (nat_lit 1)), (nat_lit 1))]), [], [sl_29], [])
def ct_398 : aCt := (mX6_soonestBringer, [ag_397, ag_190], ([], [((92, 0), 42), ((94, 0), 42)]), [pon_852, pon_853], mdn_535, [], (nat_lit 5))
set_option maxRecDepth 100000 in
theorem S_398 : aSpec wd ct_398 := bChk_ok wx_ok btX6_soonestBringer (nds := [((nat_lit 8), [lcn_399, lcn_541, lcn_542, lcn_101, lcn_424], [], [], [((92, 0), 42), ((94, 0), 42)], (8, [])), ((nat_lit 8), [lcn_399, lcn_541, lcn_543, lcn_544, lcn_545, lcn_546], [], [sl_224], [((92, 0), 42), ((94, 0), 42)], (5, [(3, -1)])), ((nat_lit 8), [lcn_399, lcn_541, lcn_547, lcn_544, lcn_548, lcn_546], [], [sl_222], [((92, 0), 42), ((94, 0), 42)], (4, [(3, -1)])), ((nat_lit 8), [lcn_399, lcn_541, lcn_549, lcn_544, lcn_550, lcn_546], [], [sl_228], [((92, 0), 42), ((94, 0), 42)], (3, [(3, -1)])), ((nat_lit 8), [lcn_399, lcn_541, lcn_551, lcn_544, lcn_552, lcn_546], [], [sl_233], [((92, 0), 42), ((94, 0), 42)], (4, [(1, -2), (3, -1)])), ((nat_lit 8), [lcn_399, lcn_541, lcn_553, lcn_544, lcn_426, lcn_546], [], [sl_238], [((92, 0), 42), ((94, 0), 42)], (0, []))]) (fk := [17]) (rk := (9, [])) (sp := 256) (fuel := 3000) (by decide +kernel) (lk_d S_396 ml_6_155 (lk_d S_395 ml_6_155 (lk_d S_394 ml_6_155 (lk_d S_393 ml_6_155 (lk_d S_392 ml_6_155 lk_n))))) odX6_soonestBringer
def ct_399 : aCt := (mX11_soonest, [ag_0, ag_1], ([], [((0, 3), 42), ((92, 0), 42), ((94, 0), 42)]), [pon_828, pon_336], mdn_538, [], (nat_lit 6))
set_option maxRecDepth 100000 in
theorem S_399 : aSpec wd ct_399 := bChk_ok wx_ok btX11_soonest (nds := []) (fk := []) (rk := (1, [])) (sp := 0) (fuel := 3000) (by decide +kernel) (lk_d S_71 ml_11_98 (lk_d S_398 ml_11_286 (lk_d S_329 ml_11_147 (lk_d S_65 ml_11_112 lk_n)))) odX11_soonest
def ct_400 : aCt := (mX6_surestBringer, [ag_397, ag_190, ag_554], ([], [((92, 0), 42), ((94, 0), 42)]), [pon_852, pon_853], mdn_535, [], (nat_lit 5))
set_option maxRecDepth 100000 in
theorem S_400 : aSpec wd ct_400 := bChk_ok wx_ok btX6_surestBringer (nds := [((nat_lit 6), [lcn_399, lcn_541, lcn_542, lcn_555, lcn_424], [], [], [((92, 0), 42), ((94, 0), 42)], (8, [])), ((nat_lit 6), [lcn_399, lcn_541, lcn_542, lcn_556, lcn_545, lcn_527], [], [sl_224], [((92, 0), 42), ((94, 0), 42)], (5, [(2, -1)])), ((nat_lit 6), [lcn_399, lcn_541, lcn_542, lcn_557, lcn_548, lcn_527], [], [sl_222], [((92, 0), 42), ((94, 0), 42)], (4, [(2, -1)])), ((nat_lit 6), [lcn_399, lcn_541, lcn_542, lcn_558, lcn_550, lcn_527], [], [sl_228], [((92, 0), 42), ((94, 0), 42)], (3, [(2, -1)])), ((nat_lit 6), [lcn_399, lcn_541, lcn_542, lcn_559, lcn_552, lcn_527], [], [sl_233], [((92, 0), 42), ((94, 0), 42)], (4, [(1, -2), (2, -1)])), ((nat_lit 6), [lcn_399, lcn_541, lcn_542, lcn_560, lcn_426, lcn_473], [], [sl_238], [((92, 0), 42), ((94, 0), 42)], (0, []))]) (fk := [15]) (rk := (9, [])) (sp := 64) (fuel := 3000) (by decide +kernel) (lk_d S_396 ml_6_155 (lk_d S_395 ml_6_155 (lk_d S_394 ml_6_155 (lk_d S_393 ml_6_155 (lk_d S_392 ml_6_155 lk_n))))) odX6_surestBringer
def ct_401 : aCt := (mX11_surest, [ag_0, ag_1], ([], [((0, 3), 42), ((92, 0), 42), ((94, 0), 42)]), [pon_828, pon_336], mdn_538, [], (nat_lit 6))
set_option maxRecDepth 100000 in
theorem S_401 : aSpec wd ct_401 := bChk_ok wx_ok btX11_surest (nds := []) (fk := []) (rk := (1, [])) (sp := 0) (fuel := 3000) (by decide +kernel) (lk_d S_71 ml_11_98 (lk_d S_400 ml_11_289 (lk_d S_329 ml_11_147 (lk_d S_65 ml_11_112 lk_n)))) odX11_surest
def pon_854 : aPo := (some (.inl [((.ofNat (nat_lit 0)), (.ofNat (nat_lit 31)), (nat_lit 1))]), [], [sl_818], [])
def pon_855 : aPo := (some (.inl [((.ofNat (nat_lit 0)), (.ofNat (nat_lit 0)), (nat_lit 1))]), [], [sl_29], [])
def ct_402 : aCt := (mX6_bringersBy, [ag_397, ag_190, ag_561], ([], [((92, 0), 42), ((94, 0), 42)]), [pon_854, pon_855], mdn_535, [], (nat_lit 5))
set_option maxRecDepth 100000 in
theorem S_402 : aSpec wd ct_402 := bChk_ok wx_ok btX6_bringersBy (nds := [((nat_lit 5), [lcn_399, lcn_541, lcn_564, lcn_101, lcn_424], [], [], [((92, 0), 42), ((94, 0), 42)], (5, [])), ((nat_lit 5), [lcn_399, lcn_541, lcn_564, lcn_565, lcn_545, lcn_546], [], [sl_224], [((92, 0), 42), ((94, 0), 42)], (5, [(3, -1)])), ((nat_lit 5), [lcn_399, lcn_541, lcn_564, lcn_566, lcn_548, lcn_546], [], [sl_222], [((92, 0), 42), ((94, 0), 42)], (4, [(3, -1)])), ((nat_lit 5), [lcn_399, lcn_541, lcn_564, lcn_441, lcn_550, lcn_546], [], [sl_228], [((92, 0), 42), ((94, 0), 42)], (3, [(3, -1)])), ((nat_lit 5), [lcn_399, lcn_541, lcn_564, lcn_430, lcn_552, lcn_546], [], [sl_233], [((92, 0), 42), ((94, 0), 42)], (2, [(3, -1)])), ((nat_lit 5), [lcn_399, lcn_541, lcn_564, lcn_425, lcn_426, lcn_546], [], [sl_238], [((92, 0), 42), ((94, 0), 42)], (0, []))]) (fk := [14]) (rk := (6, [])) (sp := 32) (fuel := 3000) (by decide +kernel) (lk_d S_396 ml_6_155 (lk_d S_395 ml_6_155 (lk_d S_394 ml_6_155 (lk_d S_393 ml_6_155 (lk_d S_392 ml_6_155 lk_n))))) odX6_bringersBy
def pon_856 : aPo := (some (.inl aTop), [none, some [((.ofNat (nat_lit 0)), (.ofNat (nat_lit 7)), (nat_lit 1))], some [((.ofNat (nat_lit 0)), (.ofNat (nat_lit 99999)), (nat_lit 1))]], [sl_304, sl_215], [])
def ct_403 : aCt := (mX11_by, [ag_0, ag_1, ag_1], ([], [((0, 3), 42), ((92, 0), 42), ((94, 0), 42)]), [pon_856, pon_393], mdn_538, [], (nat_lit 6))
set_option maxRecDepth 100000 in
theorem S_403 : aSpec wd ct_403 := bChk_ok wx_ok btX11_by (nds := []) (fk := []) (rk := (1, [])) (sp := 0) (fuel := 3000) (by decide +kernel) (lk_d S_6 ml_11_98 (lk_d S_71 ml_11_98 (lk_d S_402 ml_11_292 (lk_d S_329 ml_11_147 (lk_d S_100 ml_11_227 (lk_d S_65 ml_11_112 lk_n)))))) odX11_by
def ct_404 : aCt := (mX6_surestBringer, [ag_397, ag_190, ag_265], ([sl_818], [((92, 0), 42), ((94, 0), 42)]), [pon_570], mdn_535, [], (nat_lit 5))
set_option maxRecDepth 100000 in
theorem S_404 : aSpec wd ct_404 := bChk_ok wx_ok btX6_surestBringer (nds := [((nat_lit 6), [lcn_399, lcn_541, lcn_571, lcn_555, lcn_424], [], [sl_818], [((92, 0), 42), ((94, 0), 42)], (8, [])), ((nat_lit 6), [lcn_399, lcn_541, lcn_571, lcn_556, lcn_545, lcn_527], [], [sl_224], [((92, 0), 42), ((94, 0), 42)], (5, [(3, -1)])), ((nat_lit 6), [lcn_399, lcn_541, lcn_571, lcn_557, lcn_548, lcn_527], [], [sl_222], [((92, 0), 42), ((94, 0), 42)], (4, [(3, -1)])), ((nat_lit 6), [lcn_399, lcn_541, lcn_571, lcn_558, lcn_550, lcn_527], [], [sl_228], [((92, 0), 42), ((94, 0), 42)], (3, [(3, -1)])), ((nat_lit 6), [lcn_399, lcn_541, lcn_571, lcn_559, lcn_552, lcn_527], [], [sl_233], [((92, 0), 42), ((94, 0), 42)], (4, [(2, -2), (3, -1)])), ((nat_lit 6), [lcn_399, lcn_541, lcn_571, lcn_560, lcn_426, lcn_473], [], [sl_238], [((92, 0), 42), ((94, 0), 42)], (0, []))]) (fk := [15]) (rk := (9, [])) (sp := 64) (fuel := 3000) (by decide +kernel) (lk_d S_396 ml_6_155 (lk_d S_395 ml_6_155 (lk_d S_394 ml_6_155 (lk_d S_393 ml_6_155 (lk_d S_392 ml_6_155 lk_n))))) odX6_surestBringer
def ct_405 : aCt := (mX11_registered, [ag_0, ag_1, ag_536], ([], [((0, 3), 42), ((92, 0), 42), ((94, 0), 42)]), [pon_579], mdn_538, [], (nat_lit 6))
set_option maxRecDepth 100000 in
theorem S_405 : aSpec wd ct_405 := bChk_ok wx_ok btX11_registered (nds := []) (fk := []) (rk := (1, [])) (sp := 0) (fuel := 3000) (by decide +kernel) (lk_d S_188 ml_11_98 (lk_d S_71 ml_11_98 (lk_d S_400 ml_11_289 (lk_d S_404 ml_11_289 (lk_d S_329 ml_11_147 (lk_d S_190 ml_11_295 (lk_d S_65 ml_11_112 (lk_d S_191 ml_11_295 lk_n)))))))) odX11_registered
def sl_857 : (Nat × Nat) × aI := (((nat_lit 42), (nat_lit 7)), [((.ofNat (nat_lit 2)), (.ofNat (nat_lit 8)), (nat_lit 1))])
def ct_406 : aCt := (mX11_solveMatch, [ag_0], ([sl_147], [((0, 3), 42), ((92, 0), 42), ((94, 0), 42)]), [pon_49], mdn_614, [], (nat_lit 5))
set_option maxRecDepth 100000 in
theorem S_406 : aSpec wd ct_406 := bChk_ok wx_ok btX11_solveMatch (nds := [((nat_lit 2), [lcn_410, lcn_175], [], [sl_147], [((0, 3), 42), ((92, 0), 42), ((94, 0), 42)], (63, [])), ((nat_lit 15), [lcn_410, lcn_175, lcn_592], [], [sl_147, sl_215], [((0, 3), 42), ((92, 0), 42), ((94, 0), 42)], (62, [])), ((nat_lit 15), [lcn_410, lcn_541, lcn_296], [], [sl_147, sl_224, sl_215], [((0, 3), 42), ((92, 0), 42), ((94, 0), 42)], (61, [(0, -7), (1, -1)])), ((nat_lit 15), [lcn_410, lcn_541, lcn_571], [], [sl_147, sl_222, sl_215], [((0, 3), 42), ((92, 0), 42), ((94, 0), 42)], (52, [(0, -6), (1, -1)])), ((nat_lit 15), [lcn_410, lcn_541, lcn_615], [], [sl_147, sl_228, sl_215], [((0, 3), 42), ((92, 0), 42), ((94, 0), 42)], (43, [(0, -5), (1, -1)])), ((nat_lit 15), [lcn_410, lcn_541, lcn_616], [], [sl_147, sl_233, sl_215], [((0, 3), 42), ((92, 0), 42), ((94, 0), 42)], (34, [(0, -4), (1, -1)])), ((nat_lit 15), [lcn_410, lcn_541, lcn_617], [], [sl_147, sl_238, sl_215], [((0, 3), 42), ((92, 0), 42), ((94, 0), 42)], (25, [(0, -3), (1, -1)])), ((nat_lit 2), [lcn_410, lcn_595, lcn_592], [], [sl_147, sl_29, sl_215], [((0, 3), 42), ((92, 0), 42), ((94, 0), 42)], (17, [(0, -2)])), ((nat_lit 2), [lcn_410, lcn_595, lcn_447], [], [sl_147, sl_238, sl_215], [((0, 3), 42), ((92, 0), 42), ((94, 0), 42)], (26, [(0, -3)])), ((nat_lit 15), [lcn_410, lcn_618, lcn_592], [], [sl_147, sl_29, sl_857], [((0, 3), 42), ((92, 0), 42), ((94, 0), 42)], (16, [(0, -2)])), ((nat_lit 2), [lcn_410, lcn_595, lcn_600], [], [sl_147, sl_233, sl_215], [((0, 3), 42), ((92, 0), 42), ((94, 0), 42)], (35, [(0, -4)])), ((nat_lit 2), [lcn_410, lcn_595, lcn_176], [], [sl_147, sl_228, sl_215], [((0, 3), 42), ((92, 0), 42), ((94, 0), 42)], (44, [(0, -5)])), ((nat_lit 2), [lcn_410, lcn_595, lcn_168], [], [sl_147, sl_222, sl_215], [((0, 3), 42), ((92, 0), 42), ((94, 0), 42)], (53, [(0, -6)])), ((nat_lit 2), [lcn_410, lcn_595, lcn_610], [], [sl_147, sl_224, sl_215], [((0, 3), 42), ((92, 0), 42), ((94, 0), 42)], (62, [(0, -7)]))]) (fk := [23]) (rk := (64, [])) (sp := 32772) (fuel := 3000) (by decide +kernel) (lk_d S_195 ml_11_404 (lk_d S_396 ml_11_283 (lk_d S_198 ml_11_404 (lk_d S_202 ml_11_404 (lk_d S_206 ml_11_404 (lk_d S_210 ml_11_404 (lk_d S_214 ml_11_404 (lk_d S_218 ml_11_404 (lk_d S_395 ml_11_283 (lk_d S_394 ml_11_283 (lk_d S_393 ml_11_283 (lk_d S_392 ml_11_283 lk_n)))))))))))) odX11_solveMatch
def ct_407 : aCt := (mX11_match, [ag_0], ([], [((0, 3), 42), ((92, 0), 42), ((94, 0), 42)]), [pon_837, pon_838], mdn_620, [], (nat_lit 6))
set_option maxRecDepth 100000 in
theorem S_407 : aSpec wd ct_407 := bChk_ok wx_ok btX11_match (nds := []) (fk := []) (rk := (1, [])) (sp := 0) (fuel := 3000) (by decide +kernel) (lk_d S_406 ml_11_298 (lk_d S_350 ml_11_222 (lk_d S_71 ml_11_98 (lk_d S_65 ml_11_112 lk_n)))) odX11_match
def ct_408 : aCt := (mX11_matchDays, [ag_0], ([], [((0, 3), 42), ((92, 0), 42), ((94, 0), 42)]), [pon_837, pon_838], mdn_620, [], (nat_lit 6))
set_option maxRecDepth 100000 in
theorem S_408 : aSpec wd ct_408 := bChk_ok wx_ok btX11_matchDays (nds := []) (fk := []) (rk := (1, [])) (sp := 0) (fuel := 3000) (by decide +kernel) (lk_d S_406 ml_11_298 (lk_d S_350 ml_11_222 (lk_d S_71 ml_11_98 (lk_d S_65 ml_11_112 lk_n)))) odX11_matchDays
end Pk1
section Pk2
def ct_409 : aCt := (mX11_solveMatch, [ag_0], ([sl_215], [((0, 3), 42), ((92, 0), 42), ((94, 0), 42)]), [pon_49], mdn_614, [], (nat_lit 5))
set_option maxRecDepth 100000 in
theorem S_409 : aSpec wd ct_409 := bChk_ok wx_ok btX11_solveMatch (nds := [((nat_lit 2), [lcn_410, lcn_175], [], [sl_215], [((0, 3), 42), ((92, 0), 42), ((94, 0), 42)], (63, [])), ((nat_lit 15), [lcn_410, lcn_175, lcn_592], [], [sl_215], [((0, 3), 42), ((92, 0), 42), ((94, 0), 42)], (62, [])), ((nat_lit 15), [lcn_410, lcn_541, lcn_296], [], [sl_224, sl_215], [((0, 3), 42), ((92, 0), 42), ((94, 0), 42)], (61, [(0, -7), (1, -1)])), ((nat_lit 15), [lcn_410, lcn_541, lcn_571], [], [sl_222, sl_215], [((0, 3), 42), ((92, 0), 42), ((94, 0), 42)], (52, [(0, -6), (1, -1)])), ((nat_lit 15), [lcn_410, lcn_541, lcn_615], [], [sl_228, sl_215], [((0, 3), 42), ((92, 0), 42), ((94, 0), 42)], (43, [(0, -5), (1, -1)])), ((nat_lit 15), [lcn_410, lcn_541, lcn_616], [], [sl_233, sl_215], [((0, 3), 42), ((92, 0), 42), ((94, 0), 42)], (34, [(0, -4), (1, -1)])), ((nat_lit 15), [lcn_410, lcn_541, lcn_617], [], [sl_238, sl_215], [((0, 3), 42), ((92, 0), 42), ((94, 0), 42)], (25, [(0, -3), (1, -1)])), ((nat_lit 2), [lcn_410, lcn_595, lcn_592], [], [sl_29, sl_215], [((0, 3), 42), ((92, 0), 42), ((94, 0), 42)], (17, [(0, -2)])), ((nat_lit 2), [lcn_410, lcn_595, lcn_447], [], [sl_238, sl_215], [((0, 3), 42), ((92, 0), 42), ((94, 0), 42)], (26, [(0, -3)])), ((nat_lit 15), [lcn_410, lcn_618, lcn_592], [], [sl_29, sl_857], [((0, 3), 42), ((92, 0), 42), ((94, 0), 42)], (16, [(0, -2)])), ((nat_lit 2), [lcn_410, lcn_595, lcn_600], [], [sl_233, sl_215], [((0, 3), 42), ((92, 0), 42), ((94, 0), 42)], (35, [(0, -4)])), ((nat_lit 2), [lcn_410, lcn_595, lcn_176], [], [sl_228, sl_215], [((0, 3), 42), ((92, 0), 42), ((94, 0), 42)], (44, [(0, -5)])), ((nat_lit 2), [lcn_410, lcn_595, lcn_168], [], [sl_222, sl_215], [((0, 3), 42), ((92, 0), 42), ((94, 0), 42)], (53, [(0, -6)])), ((nat_lit 2), [lcn_410, lcn_595, lcn_610], [], [sl_224, sl_215], [((0, 3), 42), ((92, 0), 42), ((94, 0), 42)], (62, [(0, -7)]))]) (fk := [23]) (rk := (64, [])) (sp := 32772) (fuel := 3000) (by decide +kernel) (lk_d S_396 ml_11_283 (lk_d S_198 ml_11_404 (lk_d S_202 ml_11_404 (lk_d S_206 ml_11_404 (lk_d S_210 ml_11_404 (lk_d S_214 ml_11_404 (lk_d S_218 ml_11_404 (lk_d S_395 ml_11_283 (lk_d S_394 ml_11_283 (lk_d S_393 ml_11_283 (lk_d S_392 ml_11_283 lk_n))))))))))) odX11_solveMatch
def ct_410 : aCt := (mX11_matchOf, [ag_0, ag_1], ([], [((0, 3), 42), ((92, 0), 42), ((94, 0), 42)]), [pon_828, pon_336], mdn_620, [], (nat_lit 6))
set_option maxRecDepth 100000 in
theorem S_410 : aSpec wd ct_410 := bChk_ok wx_ok btX11_matchOf (nds := []) (fk := []) (rk := (1, [])) (sp := 0) (fuel := 3000) (by decide +kernel) (lk_d S_409 ml_11_298 (lk_d S_71 ml_11_98 (lk_d S_329 ml_11_147 (lk_d S_65 ml_11_112 lk_n)))) odX11_matchOf
def ct_411 : aCt := (mX11_isBox, [ag_0, ag_1], ([sl_215], [((0, 3), 42)]), [pon_376, pon_621], [], [], (nat_lit 0))
set_option maxRecDepth 100000 in
theorem S_411 : aSpec wd ct_411 := bChk_ok wx_ok btX11_isBox (nds := []) (fk := []) (rk := (1, [])) (sp := 0) (fuel := 3000) (by decide +kernel) lk_n odX11_isBox
def ct_412 : aCt := (mX11_isWhale, [ag_0, ag_1], ([sl_224], [((0, 3), 42)]), [pon_622, pon_623], [], [], (nat_lit 0))
set_option maxRecDepth 100000 in
theorem S_412 : aSpec wd ct_412 := bChk_ok wx_ok btX11_isWhale (nds := []) (fk := [12]) (rk := (1, [])) (sp := 0) (fuel := 3000) (by decide +kernel) lk_n odX11_isWhale
def ct_413 : aCt := (mX6_dayOfMeeting, [ag_397, ag_190, ag_265, ag_190, ag_265], ([sl_224], [((92, 0), 42), ((94, 0), 42)]), [pon_624, pon_52], mdn_535, [], (nat_lit 5))
set_option maxRecDepth 100000 in
theorem S_413 : aSpec wd ct_413 := bChk_ok wx_ok btX6_dayOfMeeting (nds := []) (fk := []) (rk := (1, [])) (sp := 0) (fuel := 3000) (by decide +kernel) (lk_d S_392 ml_6_155 lk_n) odX6_dayOfMeeting
def ct_414 : aCt := (mX11_isWhale, [ag_0, ag_1], ([sl_222], [((0, 3), 42)]), [pon_625, pon_626], [], [], (nat_lit 0))
set_option maxRecDepth 100000 in
theorem S_414 : aSpec wd ct_414 := bChk_ok wx_ok btX11_isWhale (nds := []) (fk := [12]) (rk := (1, [])) (sp := 0) (fuel := 3000) (by decide +kernel) lk_n odX11_isWhale
def ct_415 : aCt := (mX6_dayOfMeeting, [ag_397, ag_190, ag_364, ag_190, ag_364], ([sl_222], [((92, 0), 42), ((94, 0), 42)]), [pon_624, pon_52], mdn_535, [], (nat_lit 5))
set_option maxRecDepth 100000 in
theorem S_415 : aSpec wd ct_415 := bChk_ok wx_ok btX6_dayOfMeeting (nds := []) (fk := []) (rk := (1, [])) (sp := 0) (fuel := 3000) (by decide +kernel) (lk_d S_393 ml_6_155 lk_n) odX6_dayOfMeeting
def ct_416 : aCt := (mX11_isWhale, [ag_0, ag_1], ([sl_228], [((0, 3), 42)]), [pon_627, pon_628], [], [], (nat_lit 0))
set_option maxRecDepth 100000 in
theorem S_416 : aSpec wd ct_416 := bChk_ok wx_ok btX11_isWhale (nds := []) (fk := [12]) (rk := (1, [])) (sp := 0) (fuel := 3000) (by decide +kernel) lk_n odX11_isWhale
def ct_417 : aCt := (mX6_dayOfMeeting, [ag_397, ag_190, ag_405, ag_190, ag_405], ([sl_228], [((92, 0), 42), ((94, 0), 42)]), [pon_624, pon_52], mdn_535, [], (nat_lit 5))
set_option maxRecDepth 100000 in
theorem S_417 : aSpec wd ct_417 := bChk_ok wx_ok btX6_dayOfMeeting (nds := []) (fk := []) (rk := (1, [])) (sp := 0) (fuel := 3000) (by decide +kernel) (lk_d S_394 ml_6_155 lk_n) odX6_dayOfMeeting
def ct_418 : aCt := (mX11_isWhale, [ag_0, ag_1], ([sl_233], [((0, 3), 42)]), [pon_629, pon_630], [], [], (nat_lit 0))
set_option maxRecDepth 100000 in
theorem S_418 : aSpec wd ct_418 := bChk_ok wx_ok btX11_isWhale (nds := []) (fk := [12]) (rk := (1, [])) (sp := 0) (fuel := 3000) (by decide +kernel) lk_n odX11_isWhale
def ct_419 : aCt := (mX6_dayOfMeeting, [ag_397, ag_190, ag_536, ag_190, ag_536], ([sl_233], [((92, 0), 42), ((94, 0), 42)]), [pon_624, pon_52], mdn_535, [], (nat_lit 5))
set_option maxRecDepth 100000 in
theorem S_419 : aSpec wd ct_419 := bChk_ok wx_ok btX6_dayOfMeeting (nds := []) (fk := []) (rk := (1, [])) (sp := 0) (fuel := 3000) (by decide +kernel) (lk_d S_395 ml_6_155 lk_n) odX6_dayOfMeeting
def ct_420 : aCt := (mX11_isWhale, [ag_0, ag_1], ([sl_238], [((0, 3), 42)]), [pon_376, pon_631], [], [], (nat_lit 0))
set_option maxRecDepth 100000 in
theorem S_420 : aSpec wd ct_420 := bChk_ok wx_ok btX11_isWhale (nds := []) (fk := [12]) (rk := (1, [])) (sp := 0) (fuel := 3000) (by decide +kernel) lk_n odX11_isWhale
def sl_858 : (Nat × Nat) × aI := (((nat_lit 42), (nat_lit 6)), [((.ofNat (nat_lit 2)), (.ofNat (nat_lit 5)), (nat_lit 1))])
def pon_859 : aPo := (some (.inl aTop), [none, some [((.ofNat (nat_lit 0)), (.ofNat (nat_lit 7)), (nat_lit 1))], some [((.ofNat (nat_lit 0)), (.ofNat (nat_lit 4)), (nat_lit 1))], some [((.ofNat (nat_lit 0)), (.ofNat (nat_lit 7)), (nat_lit 1))], some [((.ofNat (nat_lit 0)), (.ofNat (nat_lit 4)), (nat_lit 1))]], [sl_304, sl_858, sl_215], [])
def ct_421 : aCt := (mX11_meet, [ag_0, ag_1, ag_1, ag_1, ag_1], ([], [((0, 3), 42), ((92, 0), 42), ((94, 0), 42)]), [pon_859, pon_336], mdn_538, [], (nat_lit 6))
set_option maxRecDepth 100000 in
theorem S_421 : aSpec wd ct_421 := bChk_ok wx_ok btX11_meet (nds := []) (fk := []) (rk := (1, [])) (sp := 0) (fuel := 3000) (by decide +kernel) (lk_d S_71 ml_11_98 (lk_d S_419 ml_11_310 (lk_d S_417 ml_11_310 (lk_d S_415 ml_11_310 (lk_d S_413 ml_11_310 (lk_d S_412 ml_11_121 (lk_d S_414 ml_11_121 (lk_d S_416 ml_11_121 (lk_d S_418 ml_11_121 (lk_d S_420 ml_11_121 (lk_d S_411 ml_11_147 (lk_d S_329 ml_11_147 (lk_d S_327 ml_11_121 (lk_d S_65 ml_11_112 lk_n)))))))))))))) odX11_meet
def ct_422 : aCt := (mX6_goes, [ag_397, ag_636, ag_257, ag_125, ag_125], ([], []), [pon_37, pon_637], mdn_517, [], (nat_lit 1))
set_option maxRecDepth 100000 in
theorem S_422 : aSpec wd ct_422 := bChk_ok wx_ok btX6_goes (nds := []) (fk := []) (rk := (1, [])) (sp := 0) (fuel := 3000) (by decide +kernel) (lk_d S_168 ml_6_80 (lk_d S_235 ml_6_80 lk_n)) odX6_goes
def ct_423 : aCt := (mX6_findFirstDays, [ag_397, ag_638, ag_125, ag_1], ([sl_147], [((94, 0), 42)]), [pon_49], mdn_517, [], (nat_lit 2))
set_option maxRecDepth 100000 in
theorem S_423 : aSpec wd ct_423 := bChk_ok wx_ok btX6_findFirstDays (nds := [((nat_lit 39), [lcn_399, lcn_639, lcn_251, lcn_520, lcn_526, lcn_527, lcn_372], [], [sl_147], [((94, 0), 42)], (111, [(5, -14)])), ((nat_lit 57), [lcn_399, lcn_639, lcn_251, lcn_520, lcn_526, lcn_527, lcn_528, lcn_529], [], [sl_147], [((94, 0), 42)], (110, [(5, -14), (6, -1)]))]) (fk := []) (rk := (112, [])) (sp := 144115737831669760) (fuel := 3000) (by decide +kernel) (lk_d S_165 ml_6_38 (lk_d S_97 ml_6_64 (lk_d S_385 ml_6_70 (lk_d S_422 ml_6_70 lk_n)))) odX6_findFirstDays
def pon_860 : aPo := (some (.inl [((.ofNat (nat_lit 0)), (.ofNat (nat_lit 0)), (nat_lit 1))]), [], [sl_278], [])
def ct_424 : aCt := (mX6_isFitting, [ag_397, ag_265], ([sl_147, sl_818], [((94, 0), 42)]), [pon_860, pon_38], mdn_517, [], (nat_lit 3))
set_option maxRecDepth 100000 in
theorem S_424 : aSpec wd ct_424 := bChk_ok wx_ok btX6_isFitting (nds := [((nat_lit 18), [lcn_399, lcn_268, lcn_251, lcn_520, lcn_596], [], [sl_147, sl_818], [((94, 0), 42)], (8, [(3, -1)]))]) (fk := []) (rk := (9, [])) (sp := 262144) (fuel := 3000) (by decide +kernel) (lk_d S_423 ml_6_84 lk_n) odX6_isFitting
def ct_425 : aCt := (mX6_fittingWhales, [ag_397], ([sl_147], [((94, 0), 42)]), [pon_642], mdn_517, [], (nat_lit 4))
set_option maxRecDepth 100000 in
theorem S_425 : aSpec wd ct_425 := bChk_ok wx_ok btX6_fittingWhales (nds := [((nat_lit 4), [lcn_399, lcn_643, lcn_296], [], [sl_147], [((94, 0), 42)], (5, [(1, -1)]))]) (fk := []) (rk := (6, [])) (sp := 16) (fuel := 3000) (by decide +kernel) (lk_d S_424 ml_6_164 lk_n) odX6_fittingWhales
def ct_426 : aCt := (mX11_fits, [ag_0], ([], [((0, 3), 42), ((94, 0), 42)]), [pon_837, pon_838], mdn_532, [], (nat_lit 5))
set_option maxRecDepth 100000 in
theorem S_426 : aSpec wd ct_426 := bChk_ok wx_ok btX11_fits (nds := []) (fk := []) (rk := (1, [])) (sp := 0) (fuel := 3000) (by decide +kernel) (lk_d S_425 ml_11_313 (lk_d S_350 ml_11_222 (lk_d S_71 ml_11_98 (lk_d S_65 ml_11_112 lk_n)))) odX11_fits
def ct_427 : aCt := (mX4_lastSpoutOf, [ag_26, ag_265], ([], []), [pon_420, pon_52], [], [], (nat_lit 0))
set_option maxRecDepth 100000 in
theorem S_427 : aSpec wd ct_427 := bChk_ok wx_ok btX4_lastSpoutOf (nds := [((nat_lit 7), [lcn_141, lcn_268, lcn_644], [], [], [], (1, [(1, 1)]))]) (fk := []) (rk := (9, [])) (sp := 128) (fuel := 3000) (by decide +kernel) lk_n odX4_lastSpoutOf
def ct_428 : aCt := (mX6_findFirstDays, [ag_397, ag_364, ag_125, ag_170], ([], [((94, 0), 42)]), [pon_49], mdn_517, [], (nat_lit 2))
set_option maxRecDepth 100000 in
theorem S_428 : aSpec wd ct_428 := bChk_ok wx_ok btX6_findFirstDays (nds := [((nat_lit 39), [lcn_399, lcn_525, lcn_251, lcn_101, lcn_448, lcn_527, lcn_372], [], [], [((94, 0), 42)], (111, [(4, -14)])), ((nat_lit 57), [lcn_399, lcn_525, lcn_251, lcn_101, lcn_526, lcn_527, lcn_528, lcn_529], [], [], [((94, 0), 42)], (110, [(4, -14), (5, -1)]))]) (fk := []) (rk := (112, [])) (sp := 144115737831669760) (fuel := 3000) (by decide +kernel) (lk_d S_165 ml_6_38 (lk_d S_97 ml_6_64 (lk_d S_385 ml_6_70 (lk_d S_386 ml_6_70 lk_n)))) odX6_findFirstDays
def ct_429 : aCt := (mX6_islandsReached, [ag_397, ag_265, ag_561], ([sl_224], [((94, 0), 42)]), [pon_645], mdn_517, [], (nat_lit 3))
set_option maxRecDepth 100000 in
theorem S_429 : aSpec wd ct_429 := bChk_ok wx_ok btX6_islandsReached (nds := [((nat_lit 90), [lcn_399, lcn_268, lcn_564, lcn_646, lcn_449, lcn_647, lcn_372], [], [sl_224], [((94, 0), 42)], (7, [(5, -1)]))]) (fk := []) (rk := (8, [])) (sp := 1237940039285380274899124224) (fuel := 3000) (by decide +kernel) (lk_d S_427 ml_6_185 (lk_d S_428 ml_6_84 (lk_d S_390 ml_6_84 lk_n))) odX6_islandsReached
def ct_430 : aCt := (mX4_lastSpoutOf, [ag_26, ag_364], ([], []), [pon_420, pon_52], [], [], (nat_lit 0))
set_option maxRecDepth 100000 in
theorem S_430 : aSpec wd ct_430 := bChk_ok wx_ok btX4_lastSpoutOf (nds := [((nat_lit 7), [lcn_141, lcn_525, lcn_644], [], [], [], (1, [(1, 1)]))]) (fk := []) (rk := (9, [])) (sp := 128) (fuel := 3000) (by decide +kernel) lk_n odX4_lastSpoutOf
def ct_431 : aCt := (mX6_islandsReached, [ag_397, ag_364, ag_561], ([sl_222], [((94, 0), 42)]), [pon_645], mdn_517, [], (nat_lit 3))
set_option maxRecDepth 100000 in
theorem S_431 : aSpec wd ct_431 := bChk_ok wx_ok btX6_islandsReached (nds := [((nat_lit 90), [lcn_399, lcn_525, lcn_564, lcn_646, lcn_449, lcn_647, lcn_372], [], [sl_222], [((94, 0), 42)], (7, [(5, -1)]))]) (fk := []) (rk := (8, [])) (sp := 1237940039285380274899124224) (fuel := 3000) (by decide +kernel) (lk_d S_430 ml_6_185 (lk_d S_428 ml_6_84 (lk_d S_390 ml_6_84 lk_n))) odX6_islandsReached
def ct_432 : aCt := (mX4_lastSpoutOf, [ag_26, ag_405], ([], []), [pon_420, pon_52], [], [], (nat_lit 0))
set_option maxRecDepth 100000 in
theorem S_432 : aSpec wd ct_432 := bChk_ok wx_ok btX4_lastSpoutOf (nds := [((nat_lit 7), [lcn_141, lcn_400, lcn_644], [], [], [], (1, [(1, 1)]))]) (fk := []) (rk := (9, [])) (sp := 128) (fuel := 3000) (by decide +kernel) lk_n odX4_lastSpoutOf
def ct_433 : aCt := (mX6_islandsReached, [ag_397, ag_405, ag_561], ([sl_228], [((94, 0), 42)]), [pon_645], mdn_517, [], (nat_lit 3))
set_option maxRecDepth 100000 in
theorem S_433 : aSpec wd ct_433 := bChk_ok wx_ok btX6_islandsReached (nds := [((nat_lit 90), [lcn_399, lcn_400, lcn_564, lcn_646, lcn_449, lcn_647, lcn_372], [], [sl_228], [((94, 0), 42)], (7, [(5, -1)]))]) (fk := []) (rk := (8, [])) (sp := 1237940039285380274899124224) (fuel := 3000) (by decide +kernel) (lk_d S_432 ml_6_185 (lk_d S_428 ml_6_84 (lk_d S_390 ml_6_84 lk_n))) odX6_islandsReached
def ct_434 : aCt := (mX4_lastSpoutOf, [ag_26, ag_536], ([], []), [pon_420, pon_52], [], [], (nat_lit 0))
set_option maxRecDepth 100000 in
theorem S_434 : aSpec wd ct_434 := bChk_ok wx_ok btX4_lastSpoutOf (nds := [((nat_lit 7), [lcn_141, lcn_648, lcn_644], [], [], [], (1, [(1, 1)]))]) (fk := []) (rk := (9, [])) (sp := 128) (fuel := 3000) (by decide +kernel) lk_n odX4_lastSpoutOf
def ct_435 : aCt := (mX6_islandsReached, [ag_397, ag_536, ag_561], ([sl_233], [((94, 0), 42)]), [pon_645], mdn_517, [], (nat_lit 3))
set_option maxRecDepth 100000 in
theorem S_435 : aSpec wd ct_435 := bChk_ok wx_ok btX6_islandsReached (nds := [((nat_lit 90), [lcn_399, lcn_648, lcn_564, lcn_646, lcn_449, lcn_647, lcn_372], [], [sl_233], [((94, 0), 42)], (7, [(5, -1)]))]) (fk := []) (rk := (8, [])) (sp := 1237940039285380274899124224) (fuel := 3000) (by decide +kernel) (lk_d S_434 ml_6_185 (lk_d S_428 ml_6_84 (lk_d S_390 ml_6_84 lk_n))) odX6_islandsReached
def ct_436 : aCt := (mX4_lastSpoutOf, [ag_26, ag_170], ([], []), [pon_420, pon_52], [], [], (nat_lit 0))
set_option maxRecDepth 100000 in
theorem S_436 : aSpec wd ct_436 := bChk_ok wx_ok btX4_lastSpoutOf (nds := [((nat_lit 7), [lcn_141, lcn_175, lcn_644], [], [], [], (1, [(0, 1)]))]) (fk := []) (rk := (9, [])) (sp := 128) (fuel := 3000) (by decide +kernel) lk_n odX4_lastSpoutOf
def sl_861 : (Nat × Nat) × aI := (((nat_lit 61), (nat_lit 0)), [((.ofNat (nat_lit 0)), (.ofNat (nat_lit 3)), (nat_lit 1))])
def ct_437 : aCt := (mX6_islandsReached, [ag_397, ag_170, ag_561], ([sl_238], [((94, 0), 42)]), [pon_645], mdn_517, [], (nat_lit 3))
set_option maxRecDepth 100000 in
theorem S_437 : aSpec wd ct_437 := bChk_ok wx_ok btX6_islandsReached (nds := [((nat_lit 90), [lcn_399, lcn_175, lcn_564, lcn_646, lcn_449, lcn_647, lcn_372], [], [sl_238, sl_861], [((94, 0), 42)], (7, [(4, -1)]))]) (fk := []) (rk := (8, [])) (sp := 1237940039285380274899124224) (fuel := 3000) (by decide +kernel) (lk_d S_436 ml_6_185 (lk_d S_428 ml_6_84 (lk_d S_390 ml_6_84 lk_n))) odX6_islandsReached
def pon_862 : aPo := (some (.inl aTop), [none, some [((.ofNat (nat_lit 0)), (.ofNat (nat_lit 4)), (nat_lit 1))], some [((.ofNat (nat_lit 0)), (.ofNat (nat_lit 99999)), (nat_lit 1))]], [sl_304, sl_818], [])
def ct_438 : aCt := (mX11_reach, [ag_0, ag_1, ag_1], ([], [((0, 3), 42), ((94, 0), 42)]), [pon_862, pon_651], mdn_532, [], (nat_lit 4))
set_option maxRecDepth 100000 in
theorem S_438 : aSpec wd ct_438 := bChk_ok wx_ok btX11_reach (nds := []) (fk := []) (rk := (1, [])) (sp := 0) (fuel := 3000) (by decide +kernel) (lk_d S_6 ml_11_98 (lk_d S_71 ml_11_98 (lk_d S_437 ml_11_316 (lk_d S_435 ml_11_316 (lk_d S_433 ml_11_316 (lk_d S_431 ml_11_316 (lk_d S_429 ml_11_316 (lk_d S_327 ml_11_121 (lk_d S_100 ml_11_227 (lk_d S_65 ml_11_112 lk_n)))))))))) odX11_reach
def ct_439 : aCt := (mX6_findFirstDays, [ag_397, ag_638, ag_125, ag_170], ([sl_147], [((94, 0), 42)]), [pon_49], mdn_517, [], (nat_lit 2))
set_option maxRecDepth 100000 in
theorem S_439 : aSpec wd ct_439 := bChk_ok wx_ok btX6_findFirstDays (nds := [((nat_lit 39), [lcn_399, lcn_639, lcn_251, lcn_101, lcn_526, lcn_527, lcn_372], [], [sl_147], [((94, 0), 42)], (111, [(4, -14)])), ((nat_lit 57), [lcn_399, lcn_639, lcn_251, lcn_101, lcn_526, lcn_527, lcn_528, lcn_529], [], [sl_147], [((94, 0), 42)], (110, [(4, -14), (5, -1)]))]) (fk := []) (rk := (112, [])) (sp := 144115737831669760) (fuel := 3000) (by decide +kernel) (lk_d S_165 ml_6_38 (lk_d S_97 ml_6_64 (lk_d S_385 ml_6_70 (lk_d S_422 ml_6_70 lk_n)))) odX6_findFirstDays
def ct_440 : aCt := (mX6_islandsReached, [ag_397, ag_265, ag_561], ([sl_147, sl_818], [((94, 0), 42)]), [pon_645], mdn_517, [], (nat_lit 3))
set_option maxRecDepth 100000 in
theorem S_440 : aSpec wd ct_440 := bChk_ok wx_ok btX6_islandsReached (nds := [((nat_lit 90), [lcn_399, lcn_268, lcn_564, lcn_646, lcn_449, lcn_647, lcn_372], [], [sl_147, sl_818], [((94, 0), 42)], (7, [(5, -1)]))]) (fk := []) (rk := (8, [])) (sp := 1237940039285380274899124224) (fuel := 3000) (by decide +kernel) (lk_d S_427 ml_6_185 (lk_d S_439 ml_6_84 (lk_d S_423 ml_6_84 lk_n))) odX6_islandsReached
def ct_441 : aCt := (mX6_whalesReaching, [ag_397, ag_125, ag_561], ([sl_147], [((94, 0), 42)]), [pon_130], mdn_517, [], (nat_lit 4))
set_option maxRecDepth 100000 in
theorem S_441 : aSpec wd ct_441 := bChk_ok wx_ok btX6_whalesReaching (nds := [((nat_lit 5), [lcn_399, lcn_250, lcn_564, lcn_520, lcn_450], [], [sl_147], [((94, 0), 42)], (5, [(3, -1)]))]) (fk := []) (rk := (6, [])) (sp := 32) (fuel := 3000) (by decide +kernel) (lk_d S_440 ml_6_203 lk_n) odX6_whalesReaching
def ct_442 : aCt := (mX6_bestPier, [ag_397, ag_561], ([sl_147], [((94, 0), 42)]), [pon_368], mdn_517, [], (nat_lit 5))
set_option maxRecDepth 100000 in
theorem S_442 : aSpec wd ct_442 := bChk_ok wx_ok btX6_bestPier (nds := [((nat_lit 17), [lcn_399, lcn_652, lcn_653, lcn_654, lcn_354, lcn_655], [], [sl_147], [((94, 0), 42)], (7, [(4, -1)]))]) (fk := []) (rk := (8, [])) (sp := 131072) (fuel := 3000) (by decide +kernel) (lk_d S_425 ml_6_188 (lk_d S_253 ml_6_192 (lk_d S_441 ml_6_197 lk_n))) odX6_bestPier
def ct_443 : aCt := (mX11_pier, [ag_0, ag_1], ([], [((0, 3), 42), ((94, 0), 42)]), [pon_834, pon_393], mdn_532, [], (nat_lit 6))
set_option maxRecDepth 100000 in
theorem S_443 : aSpec wd ct_443 := bChk_ok wx_ok btX11_pier (nds := []) (fk := []) (rk := (1, [])) (sp := 0) (fuel := 3000) (by decide +kernel) (lk_d S_350 ml_11_222 (lk_d S_6 ml_11_98 (lk_d S_71 ml_11_98 (lk_d S_442 ml_11_319 (lk_d S_100 ml_11_227 (lk_d S_65 ml_11_112 lk_n)))))) odX11_pier
def ct_444 : aCt := (mX3_waysOutOf, [ag_656, ag_657], ([], [((96, 0), 42)]), [pon_658], [], [], (nat_lit 0))
set_option maxRecDepth 100000 in
theorem S_444 : aSpec wd ct_444 := bChk_ok wx_ok btX3_waysOutOf (nds := [((nat_lit 4), [lcn_659, lcn_660, lcn_661, lcn_382], [], [], [((96, 0), 42)], (12, [(2, -1)]))]) (fk := []) (rk := (13, [])) (sp := 16) (fuel := 3000) (by decide +kernel) lk_n odX3_waysOutOf
def ct_445 : aCt := (mX3_fewestToWatch, [ag_656, ag_125, ag_125, ag_1], ([sl_147], [((96, 0), 42)]), [pon_663], [], [], (nat_lit 1))
set_option maxRecDepth 100000 in
theorem S_445 : aSpec wd ct_445 := bChk_ok wx_ok btX3_fewestToWatch (nds := [((nat_lit 11), [lcn_659, lcn_250, lcn_251, lcn_520, lcn_664, lcn_665, lcn_666], [], [sl_147], [((96, 0), 42)], (128, [(5, -1)]))]) (fk := []) (rk := (129, [])) (sp := 2048) (fuel := 3000) (by decide +kernel) (lk_d S_444 ml_3_31 (lk_d S_260 ml_3_35 lk_n)) odX3_fewestToWatch
def ct_446 : aCt := (mX11_watch, [ag_0, ag_1, ag_1], ([], [((0, 3), 42), ((96, 0), 42)]), [pon_831, pon_336], mdn_25, [], (nat_lit 2))
set_option maxRecDepth 100000 in
theorem S_446 : aSpec wd ct_446 := bChk_ok wx_ok btX11_watch (nds := []) (fk := []) (rk := (1, [])) (sp := 0) (fuel := 3000) (by decide +kernel) (lk_d S_71 ml_11_98 (lk_d S_65 ml_11_112 (lk_d S_445 ml_11_325 (lk_d S_347 ml_11_204 lk_n)))) odX11_watch
def ct_447 : aCt := (mX3_findShortest, [ag_656, ag_1], ([sl_147], [((96, 0), 42)]), [pon_49], mdn_669, [], (nat_lit 1))
set_option maxRecDepth 100000 in
theorem S_447 : aSpec wd ct_447 := bChk_ok wx_ok btX3_findShortest (nds := [((nat_lit 11), [lcn_659, lcn_274, lcn_673], [], [sl_147], [((96, 0), 42)], (596, [(1, -1)])), ((nat_lit 128), [lcn_659, lcn_274, lcn_414], [], [sl_147], [((96, 0), 42)], (583, [(1, -73)])), ((nat_lit 141), [lcn_659, lcn_274, lcn_251, lcn_441], [], [sl_147], [((96, 0), 42)], (582, [(1, -73), (2, -9)])), ((nat_lit 155), [lcn_659, lcn_274, lcn_251, lcn_144, lcn_448], [], [sl_147], [((96, 0), 42)], (581, [(1, -73), (2, -9), (3, -1)]))]) (fk := []) (rk := (597, [])) (sp := 45674714100022899442696306450542532841204353024) (fuel := 3000) (by decide +kernel) (lk_d S_263 ml_3_67 lk_n) odX3_findShortest
def ct_448 : aCt := (mX3_findRests, [ag_656], ([sl_147], [((96, 0), 42)]), [pon_49], mdn_675, [], (nat_lit 1))
set_option maxRecDepth 100000 in
theorem S_448 : aSpec wd ct_448 := bChk_ok wx_ok btX3_findRests (nds := [((nat_lit 14), [lcn_659, lcn_676, lcn_677], [], [sl_147], [((96, 0), 42)], (72, [(1, 73)])), ((nat_lit 20), [lcn_659, lcn_676, lcn_678, lcn_441], [], [sl_147], [((96, 0), 42)], (71, [(1, 73), (2, -9)])), ((nat_lit 47), [lcn_659, lcn_676, lcn_678, lcn_144, lcn_679, lcn_655], [], [sl_147], [((96, 0), 42)], (70, [(1, 73), (2, -9), (4, -1)]))]) (fk := []) (rk := (9344, [])) (sp := 140737489420288) (fuel := 3000) (by decide +kernel) (lk_d S_265 ml_3_81 lk_n) odX3_findRests
def ct_449 : aCt := (mX3_nextOf, [ag_656, ag_657, ag_125], ([sl_842], [((96, 0), 42)]), [pon_267], [], [], (nat_lit 1))
set_option maxRecDepth 100000 in
theorem S_449 : aSpec wd ct_449 := bChk_ok wx_ok btX3_nextOf (nds := [((nat_lit 2), [lcn_659, lcn_660, lcn_251, lcn_441], [], [sl_842], [((96, 0), 42)], (7, [(2, -1)]))]) (fk := []) (rk := (8, [])) (sp := 4) (fuel := 3000) (by decide +kernel) (lk_d S_267 ml_3_81 lk_n) odX3_nextOf
def ct_450 : aCt := (mX3_findRound, [ag_656, ag_125, ag_1], ([sl_147], [((96, 0), 42)]), [pon_680, pon_52], mdn_681, [], (nat_lit 2))
set_option maxRecDepth 100000 in
theorem S_450 : aSpec wd ct_450 := bChk_ok wx_ok btX3_findRound (nds := [((nat_lit 47), [lcn_659, lcn_250, lcn_132, lcn_682, lcn_683, lcn_684], [], [sl_147], [((96, 0), 42)], (7, [(4, -1)]))]) (fk := []) (rk := (7, [])) (sp := 140737488355328) (fuel := 3000) (by decide +kernel) (lk_d S_448 ml_3_59 (lk_d S_449 ml_3_63 (lk_d S_447 ml_3_55 lk_n))) odX3_findRound
def ct_451 : aCt := (mX11_round, [ag_0, ag_1], ([], [((0, 3), 42), ((96, 0), 42)]), [pon_823, pon_336], mdn_685, [], (nat_lit 3))
set_option maxRecDepth 100000 in
theorem S_451 : aSpec wd ct_451 := bChk_ok wx_ok btX11_round (nds := []) (fk := []) (rk := (1, [])) (sp := 0) (fuel := 3000) (by decide +kernel) (lk_d S_71 ml_11_98 (lk_d S_331 ml_11_174 (lk_d S_65 ml_11_112 (lk_d S_450 ml_11_328 lk_n)))) odX11_round
def ct_452 : aCt := (mX11_roundAt, [ag_0, ag_1, ag_1], ([], [((0, 3), 42), ((96, 0), 42)]), [pon_831, pon_687], mdn_685, [], (nat_lit 3))
set_option maxRecDepth 100000 in
theorem S_452 : aSpec wd ct_452 := bChk_ok wx_ok btX11_roundAt (nds := []) (fk := []) (rk := (1, [])) (sp := 0) (fuel := 3000) (by decide +kernel) (lk_d S_188 ml_11_98 (lk_d S_71 ml_11_98 (lk_d S_346 ml_11_174 (lk_d S_331 ml_11_174 (lk_d S_65 ml_11_112 (lk_d S_450 ml_11_328 lk_n)))))) odX11_roundAt
def ct_453 : aCt := (mX7_slipped, [ag_347, ag_1, ag_137], ([], [((92, 0), 42)]), [pon_130], mdn_694, [], (nat_lit 1))
set_option maxRecDepth 100000 in
theorem S_453 : aSpec wd ct_453 := bChk_ok wx_ok btX7_slipped (nds := []) (fk := []) (rk := (1, [])) (sp := 0) (fuel := 3000) (by decide +kernel) (lk_d S_274 ml_7_85 (lk_d S_275 ml_7_92 lk_n)) odX7_slipped
def ct_454 : aCt := (mX7_fallIn, [ag_347, ag_697], ([], [((92, 0), 42)]), [pon_349, pon_37], [], [], (nat_lit 0))
set_option maxRecDepth 100000 in
theorem S_454 : aSpec wd ct_454 := bChk_ok wx_ok btX7_fallIn (nds := []) (fk := []) (rk := (1, [])) (sp := 0) (fuel := 3000) (by decide +kernel) lk_n odX7_fallIn
def ct_455 : aCt := (mX7_hearerOf, [ag_347, ag_1, ag_137, ag_697], ([sl_147], [((92, 0), 42)]), [pon_368, pon_52], mdn_369, [], (nat_lit 2))
set_option maxRecDepth 100000 in
theorem S_455 : aSpec wd ct_455 := bChk_ok wx_ok btX7_hearerOf (nds := [((nat_lit 32), [lcn_352, lcn_274, lcn_143, lcn_698, lcn_354, lcn_371, lcn_372], [], [sl_147, sl_373], [((92, 0), 42)], (7, [(5, -1)]))]) (fk := []) (rk := (8, [])) (sp := 4294967296) (fuel := 3000) (by decide +kernel) (lk_d S_454 ml_7_50 (lk_d S_341 ml_7_54 (lk_d S_342 ml_7_54 (lk_d S_90 ml_7_60 lk_n)))) odX7_hearerOf
def ct_456 : aCt := (mX11_heardWithSlips, [ag_0, ag_697], ([sl_147], [((0, 3), 42), ((92, 0), 42)]), [pon_130], mdn_699, [], (nat_lit 3))
set_option maxRecDepth 100000 in
theorem S_456 : aSpec wd ct_456 := bChk_ok wx_ok btX11_heardWithSlips (nds := [((nat_lit 4), [lcn_410, lcn_700, lcn_132, lcn_411], [], [sl_147], [((0, 3), 42), ((92, 0), 42)], (8, [(2, -1)]))]) (fk := []) (rk := (9, [])) (sp := 16) (fuel := 3000) (by decide +kernel) (lk_d S_338 ml_11_198 (lk_d S_453 ml_11_399 (lk_d S_455 ml_11_277 lk_n))) odX11_heardWithSlips
def ct_457 : aCt := (mX11_decade, [ag_0, ag_1, ag_1], ([], [((0, 3), 42), ((92, 0), 42)]), [pon_837, pon_393], mdn_701, [], (nat_lit 4))
set_option maxRecDepth 100000 in
theorem S_457 : aSpec wd ct_457 := bChk_ok wx_ok btX11_decade (nds := [((nat_lit 51), [lcn_410, lcn_702, lcn_703, lcn_520, lcn_704], [], [sl_147], [((0, 3), 42), ((92, 0), 42)], (63, [(3, -1)]))]) (fk := []) (rk := (64, [])) (sp := 2251799813685248) (fuel := 3000) (by decide +kernel) (lk_d S_350 ml_11_222 (lk_d S_6 ml_11_98 (lk_d S_71 ml_11_98 (lk_d S_456 ml_11_338 (lk_d S_272 ml_11_227 (lk_d S_273 ml_11_227 (lk_d S_65 ml_11_112 lk_n))))))) odX11_decade
def pon_863 : aPo := (some (.inl aTop), [none, some [((.ofNat (nat_lit 0)), (.ofNat (nat_lit 4)), (nat_lit 1))], some [((.ofNat (nat_lit 0)), (.ofNat (nat_lit 7)), (nat_lit 1))]], [sl_304, sl_818, sl_215, sl_533], [])
def ct_458 : aCt := (mX11_send, [ag_0, ag_1, ag_1], ([], [((0, 3), 42), ((92, 0), 42), ((94, 0), 42)]), [pon_863, pon_712], mdn_713, [], (nat_lit 5))
set_option maxRecDepth 100000 in
theorem S_458 : aSpec wd ct_458 := bChk_ok wx_ok btX11_send (nds := []) (fk := []) (rk := (1, [])) (sp := 0) (fuel := 3000) (by decide +kernel) (lk_d S_283 ml_11_341 (lk_d S_281 ml_11_98 (lk_d S_71 ml_11_98 (lk_d S_396 ml_11_283 (lk_d S_395 ml_11_283 (lk_d S_394 ml_11_283 (lk_d S_393 ml_11_283 (lk_d S_392 ml_11_283 (lk_d S_327 ml_11_121 (lk_d S_329 ml_11_147 (lk_d S_65 ml_11_112 lk_n))))))))))) odX11_send
def pon_864 : aPo := (some (.inl [((.ofNat (nat_lit 1)), (.ofNat (nat_lit 1)), (nat_lit 1))]), [none, some [((.ofNat (nat_lit 0)), (.ofNat (nat_lit 7)), (nat_lit 1))], some [((.ofNat (nat_lit 0)), (.ofNat (nat_lit 999)), (nat_lit 1))], some [((.ofNat (nat_lit 0)), (.ofNat (nat_lit 3)), (nat_lit 1))]], [sl_304, sl_215], [])
def ct_459 : aCt := (mX11_tune, [ag_0, ag_1, ag_1, ag_1], ([], [((0, 3), 42)]), [pon_722, pon_864], mdn_724, [], (nat_lit 3))
set_option maxRecDepth 100000 in
theorem S_459 : aSpec wd ct_459 := bChk_ok wx_ok btX11_tune (nds := []) (fk := []) (rk := (1, [])) (sp := 0) (fuel := 3000) (by decide +kernel) (lk_d S_283 ml_11_341 (lk_d S_288 ml_11_356 (lk_d S_287 ml_11_347 (lk_d S_289 ml_11_347 (lk_d S_290 ml_11_347 (lk_d S_338 ml_11_198 (lk_d S_106 ml_11_242 (lk_d S_285 ml_11_227 (lk_d S_286 ml_11_353 (lk_d S_339 ml_11_191 lk_n)))))))))) odX11_tune
def pon_865 : aPo := (some (.inl aTop), [none, some [((.ofNat (nat_lit 1)), (.ofNat (nat_lit 99)), (nat_lit 1))]], [sl_304, sl_147], [])
def ct_460 : aCt := (mX11_years, [ag_0, ag_1], ([], [((0, 3), 42)]), [pon_865, pon_729], mdn_730, [], (nat_lit 3))
set_option maxRecDepth 100000 in
theorem S_460 : aSpec wd ct_460 := bChk_ok wx_ok btX11_years (nds := []) (fk := [38]) (rk := (1, [])) (sp := 0) (fuel := 3000) (by decide +kernel) (lk_d S_350 ml_11_222 (lk_d S_283 ml_11_341 (lk_d S_6 ml_11_98 (lk_d S_292 ml_11_98 (lk_d S_71 ml_11_98 (lk_d S_65 ml_11_112 lk_n)))))) odX11_years
end Pk2
