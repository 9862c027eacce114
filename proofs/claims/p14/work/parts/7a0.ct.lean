section Pk0
def ag_0 : aAg := .inr (.inl [(nat_lit 0)])
def ag_1 : aAg := .inl aTop
def sl_2 : (Nat × Nat) × aI := (((nat_lit 0), (nat_lit 1)), [((.ofNat (nat_lit 0)), (.ofNat (nat_lit 980)), (nat_lit 1))])
def sl_3 : (Nat × Nat) × aI := (((nat_lit 0), (nat_lit 1)), [((.ofNat (nat_lit 4)), (.ofNat (nat_lit 984)), (nat_lit 1))])
def pon_4 : aPo := (none, [], [sl_3], [])
def mdn_5 : List (Nat × Nat × Nat) := [((nat_lit 0), (nat_lit 1), (nat_lit 2)), ((nat_lit 1), (nat_lit 0), (nat_lit 984))]
set_option maxRecDepth 100000 in
theorem btX11_appendBytes : bTab oX11_appendBytes tX11_appendBytes := ⟨ofX11_appendBytes, by decide +kernel⟩
def ct_0 : aCt := (mX11_appendBytes, [ag_0, ag_1], ([sl_2], []), [pon_4], mdn_5, [], (nat_lit 0))
set_option maxRecDepth 100000 in
theorem S_0 : aSpec wd ct_0 := bChk_ok wx_ok btX11_appendBytes (nds := []) (fk := []) (rk := (1, [])) (sp := 0) (fuel := 3000) (by decide +kernel) lk_n odX11_appendBytes
def sl_6 : (Nat × Nat) × aI := (((nat_lit 0), (nat_lit 1)), [((.ofNat (nat_lit 8)), (.ofNat (nat_lit 988)), (nat_lit 1))])
def pon_7 : aPo := (none, [], [sl_6], [])
def mdn_8 : List (Nat × Nat × Nat) := [((nat_lit 0), (nat_lit 1), (nat_lit 2)), ((nat_lit 1), (nat_lit 4), (nat_lit 988))]
def ct_1 : aCt := (mX11_appendBytes, [ag_0, ag_1], ([sl_3], []), [pon_7], mdn_8, [], (nat_lit 0))
set_option maxRecDepth 100000 in
theorem S_1 : aSpec wd ct_1 := bChk_ok wx_ok btX11_appendBytes (nds := []) (fk := []) (rk := (1, [])) (sp := 0) (fuel := 3000) (by decide +kernel) lk_n odX11_appendBytes
def sl_9 : (Nat × Nat) × aI := (((nat_lit 0), (nat_lit 1)), [((.ofNat (nat_lit 12)), (.ofNat (nat_lit 992)), (nat_lit 1))])
def pon_10 : aPo := (none, [], [sl_9], [])
def mdn_11 : List (Nat × Nat × Nat) := [((nat_lit 0), (nat_lit 1), (nat_lit 2)), ((nat_lit 1), (nat_lit 8), (nat_lit 992))]
def ct_2 : aCt := (mX11_appendBytes, [ag_0, ag_1], ([sl_6], []), [pon_10], mdn_11, [], (nat_lit 0))
set_option maxRecDepth 100000 in
theorem S_2 : aSpec wd ct_2 := bChk_ok wx_ok btX11_appendBytes (nds := []) (fk := []) (rk := (1, [])) (sp := 0) (fuel := 3000) (by decide +kernel) lk_n odX11_appendBytes
def sl_12 : (Nat × Nat) × aI := (((nat_lit 0), (nat_lit 1)), [((.ofNat (nat_lit 16)), (.ofNat (nat_lit 996)), (nat_lit 1))])
def pon_13 : aPo := (none, [], [sl_12], [])
def mdn_14 : List (Nat × Nat × Nat) := [((nat_lit 0), (nat_lit 1), (nat_lit 2)), ((nat_lit 1), (nat_lit 12), (nat_lit 996))]
def ct_3 : aCt := (mX11_appendBytes, [ag_0, ag_1], ([sl_9], []), [pon_13], mdn_14, [], (nat_lit 0))
set_option maxRecDepth 100000 in
theorem S_3 : aSpec wd ct_3 := bChk_ok wx_ok btX11_appendBytes (nds := []) (fk := []) (rk := (1, [])) (sp := 0) (fuel := 3000) (by decide +kernel) lk_n odX11_appendBytes
def sl_15 : (Nat × Nat) × aI := (((nat_lit 0), (nat_lit 1)), [((.ofNat (nat_lit 20)), (.ofNat (nat_lit 1000)), (nat_lit 1))])
def pon_16 : aPo := (none, [], [sl_15], [])
def mdn_17 : List (Nat × Nat × Nat) := [((nat_lit 0), (nat_lit 1), (nat_lit 2)), ((nat_lit 1), (nat_lit 16), (nat_lit 1000))]
def ct_4 : aCt := (mX11_appendBytes, [ag_0, ag_1], ([sl_12], []), [pon_16], mdn_17, [], (nat_lit 0))
set_option maxRecDepth 100000 in
theorem S_4 : aSpec wd ct_4 := bChk_ok wx_ok btX11_appendBytes (nds := []) (fk := []) (rk := (1, [])) (sp := 0) (fuel := 3000) (by decide +kernel) lk_n odX11_appendBytes
def pon_18 : aPo := (some (.inl [((.ofNat (nat_lit 20)), (.ofNat (nat_lit 1000)), (nat_lit 1))]), [], [sl_15], [])
def sl_19 : (Nat × Nat) × aI := (((nat_lit 0), (nat_lit 1)), [((.ofNat (nat_lit 981)), (.ofNat (nat_lit 1000)), (nat_lit 1))])
def pon_20 : aPo := (some (.inl [((.negSucc (nat_lit 0)), (.negSucc (nat_lit 0)), (nat_lit 1))]), [], [sl_19], [])
def mdn_21 : List (Nat × Nat × Nat) := [((nat_lit 0), (nat_lit 1), (nat_lit 2)), ((nat_lit 1), (nat_lit 0), (nat_lit 1000))]
set_option maxRecDepth 100000 in
theorem btX11_feed : bTab oX11_feed tX11_feed := ⟨ofX11_feed, by decide +kernel⟩
def ct_5 : aCt := (mX11_feed, [ag_0, ag_1, ag_1, ag_1, ag_1, ag_1], ([], []), [pon_18, pon_20], mdn_21, [], (nat_lit 1))
set_option maxRecDepth 100000 in
theorem S_5 : aSpec wd ct_5 := bChk_ok wx_ok btX11_feed (nds := []) (fk := []) (rk := (1, [])) (sp := 0) (fuel := 3000) (by decide +kernel) (lk_d S_0 ml_11_94 (lk_d S_1 ml_11_94 (lk_d S_2 ml_11_94 (lk_d S_3 ml_11_94 (lk_d S_4 ml_11_94 lk_n))))) odX11_feed
def ag_22 : aAg := .inl [((.ofNat (nat_lit 2)), (.ofNat (nat_lit 2)), (nat_lit 1))]
def sl_23 : (Nat × Nat) × aI := (((nat_lit 0), (nat_lit 2)), [((.ofNat (nat_lit 2)), (.ofNat (nat_lit 2)), (nat_lit 1))])
def pon_24 : aPo := (some (.inl [((.negSucc (nat_lit 0)), (.negSucc (nat_lit 0)), (nat_lit 1))]), [], [sl_23], [])
def mdn_25 : List (Nat × Nat × Nat) := [((nat_lit 0), (nat_lit 2), (nat_lit 3))]
set_option maxRecDepth 100000 in
theorem btX11_refused : bTab oX11_refused tX11_refused := ⟨ofX11_refused, by decide +kernel⟩
def ct_6 : aCt := (mX11_refused, [ag_0, ag_22], ([], []), [pon_24], mdn_25, [], (nat_lit 0))
set_option maxRecDepth 100000 in
theorem S_6 : aSpec wd ct_6 := bChk_ok wx_ok btX11_refused (nds := []) (fk := []) (rk := (1, [])) (sp := 0) (fuel := 3000) (by decide +kernel) lk_n odX11_refused
def ag_26 : aAg := .inr (.inl [(nat_lit 42)])
def sl_27 : (Nat × Nat) × aI := (((nat_lit 42), (nat_lit 4)), [((.ofNat (nat_lit 0)), (.ofNat (nat_lit 0)), (nat_lit 1))])
def sl_28 : (Nat × Nat) × aI := (((nat_lit 42), (nat_lit 5)), [((.ofNat (nat_lit 0)), (.ofNat (nat_lit 0)), (nat_lit 1))])
def sl_29 : (Nat × Nat) × aI := (((nat_lit 42), (nat_lit 6)), [((.ofNat (nat_lit 0)), (.ofNat (nat_lit 0)), (nat_lit 1))])
def sl_30 : (Nat × Nat) × aI := (((nat_lit 42), (nat_lit 7)), [((.ofNat (nat_lit 0)), (.ofNat (nat_lit 0)), (nat_lit 1))])
def sl_31 : (Nat × Nat) × aI := (((nat_lit 42), (nat_lit 8)), [((.ofNat (nat_lit 0)), (.ofNat (nat_lit 0)), (nat_lit 1))])
def pon_32 : aPo := (none, [], [sl_27, sl_28, sl_29, sl_30, sl_31], [])
def mdn_33 : List (Nat × Nat × Nat) := [((nat_lit 42), (nat_lit 0), (nat_lit 9))]
set_option maxRecDepth 100000 in
theorem btX4_clear : bTab oX4_clear tX4_clear := ⟨ofX4_clear, by decide +kernel⟩
def ct_7 : aCt := (mX4_clear, [ag_26], ([], []), [pon_32], mdn_33, [], (nat_lit 0))
set_option maxRecDepth 100000 in
theorem S_7 : aSpec wd ct_7 := bChk_ok wx_ok btX4_clear (nds := []) (fk := []) (rk := (1, [])) (sp := 0) (fuel := 3000) (by decide +kernel) lk_n odX4_clear
def ag_34 : aAg := .inr (.inl [(nat_lit 82)])
def ag_35 : aAg := .inl [((.ofNat (nat_lit 97)), (.ofNat (nat_lit 97)), (nat_lit 1))]
def ag_36 : aAg := .inl [((.ofNat (nat_lit 122)), (.ofNat (nat_lit 122)), (nat_lit 1))]
def pon_37 : aPo := (some (.inl [((.ofNat (nat_lit 0)), (.ofNat (nat_lit 0)), (nat_lit 1))]), [], [], [])
def pon_38 : aPo := (some (.inl [((.ofNat (nat_lit 1)), (.ofNat (nat_lit 1)), (nat_lit 1))]), [], [], [])
def mdn_39 : List (Nat × Nat × Nat) := [((nat_lit 82), (nat_lit 2), (nat_lit 3))]
def lcn_40 : Nat × aAg := ((nat_lit 0), .inr (.inl [(nat_lit 82)]))
def lcn_41 : Nat × aAg := ((nat_lit 1), .inl [((.ofNat (nat_lit 97)), (.ofNat (nat_lit 97)), (nat_lit 1))])
def lcn_42 : Nat × aAg := ((nat_lit 2), .inl [((.ofNat (nat_lit 122)), (.ofNat (nat_lit 122)), (nat_lit 1))])
def sl_43 : (Nat × Nat) × aI := (((nat_lit 82), (nat_lit 1)), [((.ofNat (nat_lit 1)), (.ofNat (nat_lit 1000)), (nat_lit 1))])
def sl_44 : (Nat × Nat) × aI := (((nat_lit 82), (nat_lit 2)), [((.ofNat (nat_lit 1)), (.ofNat (nat_lit 1000)), (nat_lit 1))])
set_option maxRecDepth 100000 in
theorem btX5_passAll : bTab oX5_passAll tX5_passAll := ⟨ofX5_passAll, by decide +kernel⟩
def ct_8 : aCt := (mX5_passAll, [ag_34, ag_35, ag_36], ([], []), [pon_37, pon_38], mdn_39, [], (nat_lit 0))
set_option maxRecDepth 100000 in
theorem S_8 : aSpec wd ct_8 := bChk_ok wx_ok btX5_passAll (nds := [((nat_lit 0), [lcn_40, lcn_41, lcn_42], [], [sl_43, sl_44], [], (1000, [(1, -1)]))]) (fk := []) (rk := (1000, [])) (sp := 1) (fuel := 3000) (by decide +kernel) lk_n odX5_passAll
def ag_45 : aAg := .inl [((.ofNat (nat_lit 48)), (.ofNat (nat_lit 48)), (nat_lit 1))]
def ag_46 : aAg := .inl [((.ofNat (nat_lit 57)), (.ofNat (nat_lit 57)), (nat_lit 1))]
def lcn_47 : Nat × aAg := ((nat_lit 1), .inl [((.ofNat (nat_lit 48)), (.ofNat (nat_lit 48)), (nat_lit 1))])
def lcn_48 : Nat × aAg := ((nat_lit 2), .inl [((.ofNat (nat_lit 57)), (.ofNat (nat_lit 57)), (nat_lit 1))])
def ct_9 : aCt := (mX5_passAll, [ag_34, ag_45, ag_46], ([], []), [pon_37, pon_38], mdn_39, [], (nat_lit 0))
set_option maxRecDepth 100000 in
theorem S_9 : aSpec wd ct_9 := bChk_ok wx_ok btX5_passAll (nds := [((nat_lit 0), [lcn_40, lcn_47, lcn_48], [], [sl_43, sl_44], [], (1000, [(1, -1)]))]) (fk := []) (rk := (1000, [])) (sp := 1) (fuel := 3000) (by decide +kernel) lk_n odX5_passAll
def pon_49 : aPo := (none, [], [], [])
def mdn_50 : List (Nat × Nat × Nat) := [((nat_lit 82), (nat_lit 2), (nat_lit 5))]
set_option maxRecDepth 100000 in
theorem btX5_nextToken : bTab oX5_nextToken tX5_nextToken := ⟨ofX5_nextToken, by decide +kernel⟩
def ct_10 : aCt := (mX5_nextToken, [ag_34], ([], []), [pon_49], mdn_50, [], (nat_lit 1))
set_option maxRecDepth 100000 in
theorem S_10 : aSpec wd ct_10 := bChk_ok wx_ok btX5_nextToken (nds := [((nat_lit 0), [lcn_40], [], [sl_43, sl_44], [], (1000, [(1, -1)]))]) (fk := []) (rk := (1000, [])) (sp := 1) (fuel := 3000) (by decide +kernel) (lk_d S_8 ml_5_278 (lk_d S_9 ml_5_278 lk_n)) odX5_nextToken
def pon_51 : aPo := (some (.inl [((.ofNat (nat_lit 2)), (.ofNat (nat_lit 5)), (nat_lit 1))]), [], [], [])
def pon_52 : aPo := (some (.inl [((.negSucc (nat_lit 1)), (.negSucc (nat_lit 1)), (nat_lit 1))]), [], [], [])
set_option maxRecDepth 100000 in
theorem btX5_sortOfLine : bTab oX5_sortOfLine tX5_sortOfLine := ⟨ofX5_sortOfLine, by decide +kernel⟩
def ct_11 : aCt := (mX5_sortOfLine, [ag_34], ([], []), [pon_51, pon_52, pon_37, pon_38], [], [], (nat_lit 1))
set_option maxRecDepth 100000 in
theorem S_11 : aSpec wd ct_11 := bChk_ok wx_ok btX5_sortOfLine (nds := []) (fk := []) (rk := (1, [])) (sp := 0) (fuel := 3000) (by decide +kernel) (lk_d S_X5_isToken_0 ml_5_245 lk_n) odX5_sortOfLine
def ag_53 : aAg := .inl [((.ofNat (nat_lit 1)), (.ofNat (nat_lit 1)), (nat_lit 1))]
def sl_54 : (Nat × Nat) × aI := (((nat_lit 82), (nat_lit 11)), [((.ofNat (nat_lit 0)), (.ofNat (nat_lit 0)), (nat_lit 1))])
def sl_55 : (Nat × Nat) × aI := (((nat_lit 82), (nat_lit 11)), [((.ofNat (nat_lit 1)), (.ofNat (nat_lit 1)), (nat_lit 1))])
def pon_56 : aPo := (some (.inl [((.ofNat (nat_lit 0)), (.ofNat (nat_lit 0)), (nat_lit 1))]), [], [sl_55], [])
def mdn_57 : List (Nat × Nat × Nat) := [((nat_lit 82), (nat_lit 11), (nat_lit 13))]
set_option maxRecDepth 100000 in
theorem btX5_faulty : bTab oX5_faulty tX5_faulty := ⟨ofX5_faulty, by decide +kernel⟩
def ct_12 : aCt := (mX5_faulty, [ag_34, ag_53], ([sl_54], []), [pon_56], mdn_57, [], (nat_lit 0))
set_option maxRecDepth 100000 in
theorem S_12 : aSpec wd ct_12 := bChk_ok wx_ok btX5_faulty (nds := []) (fk := []) (rk := (1, [])) (sp := 0) (fuel := 3000) (by decide +kernel) lk_n odX5_faulty
def pon_58 : aPo := (some (.inr ()), [], [], [])
def lcn_59 : Nat × aAg := ((nat_lit 1), .inr (.inr false))
def lcn_60 : Nat × aAg := ((nat_lit 3), .inl [((.ofNat (nat_lit 0)), (.ofNat (nat_lit 1000)), (nat_lit 1))])
set_option maxRecDepth 100000 in
theorem btX5_letters : bTab oX5_letters tX5_letters := ⟨ofX5_letters, by decide +kernel⟩
def ct_13 : aCt := (mX5_letters, [ag_34], ([], []), [pon_58], [], [], (nat_lit 0))
set_option maxRecDepth 100000 in
theorem S_13 : aSpec wd ct_13 := bChk_ok wx_ok btX5_letters (nds := [((nat_lit 7), [lcn_40, lcn_59, lcn_60], [], [], [], (1000, [(0, -1)]))]) (fk := []) (rk := (1001, [])) (sp := 128) (fuel := 3000) (by decide +kernel) lk_n odX5_letters
def sl_61 : (Nat × Nat) × aI := (((nat_lit 82), (nat_lit 10)), [((.ofNat (nat_lit 1)), (.ofNat (nat_lit 20)), (nat_lit 1))])
def pon_62 : aPo := (some (.inl [((.ofNat (nat_lit 0)), (.ofNat (nat_lit 0)), (nat_lit 1))]), [], [sl_61], [])
def sl_63 : (Nat × Nat) × aI := (((nat_lit 82), (nat_lit 10)), [((.ofNat (nat_lit 2)), (.ofNat (nat_lit 20)), (nat_lit 1))])
def pon_64 : aPo := (some (.inl [((.ofNat (nat_lit 1)), (.ofNat (nat_lit 1)), (nat_lit 1))]), [], [sl_63], [])
def sl_65 : (Nat × Nat) × aI := (((nat_lit 82), (nat_lit 10)), [((.ofNat (nat_lit 11)), (.ofNat (nat_lit 20)), (nat_lit 1))])
def pon_66 : aPo := (some (.inl [((.ofNat (nat_lit 10)), (.ofNat (nat_lit 10)), (nat_lit 1))]), [], [sl_65], [])
def sl_67 : (Nat × Nat) × aI := (((nat_lit 82), (nat_lit 10)), [((.ofNat (nat_lit 12)), (.ofNat (nat_lit 20)), (nat_lit 1))])
def pon_68 : aPo := (some (.inl [((.ofNat (nat_lit 11)), (.ofNat (nat_lit 11)), (nat_lit 1))]), [], [sl_67], [])
def sl_69 : (Nat × Nat) × aI := (((nat_lit 82), (nat_lit 10)), [((.ofNat (nat_lit 13)), (.ofNat (nat_lit 20)), (nat_lit 1))])
def pon_70 : aPo := (some (.inl [((.ofNat (nat_lit 12)), (.ofNat (nat_lit 12)), (nat_lit 1))]), [], [sl_69], [])
def sl_71 : (Nat × Nat) × aI := (((nat_lit 82), (nat_lit 10)), [((.ofNat (nat_lit 14)), (.ofNat (nat_lit 20)), (nat_lit 1))])
def pon_72 : aPo := (some (.inl [((.ofNat (nat_lit 13)), (.ofNat (nat_lit 13)), (nat_lit 1))]), [], [sl_71], [])
def sl_73 : (Nat × Nat) × aI := (((nat_lit 82), (nat_lit 10)), [((.ofNat (nat_lit 15)), (.ofNat (nat_lit 20)), (nat_lit 1))])
def pon_74 : aPo := (some (.inl [((.ofNat (nat_lit 14)), (.ofNat (nat_lit 14)), (nat_lit 1))]), [], [sl_73], [])
def sl_75 : (Nat × Nat) × aI := (((nat_lit 82), (nat_lit 10)), [((.ofNat (nat_lit 16)), (.ofNat (nat_lit 20)), (nat_lit 1))])
def pon_76 : aPo := (some (.inl [((.ofNat (nat_lit 15)), (.ofNat (nat_lit 15)), (nat_lit 1))]), [], [sl_75], [])
def sl_77 : (Nat × Nat) × aI := (((nat_lit 82), (nat_lit 10)), [((.ofNat (nat_lit 17)), (.ofNat (nat_lit 20)), (nat_lit 1))])
def pon_78 : aPo := (some (.inl [((.ofNat (nat_lit 16)), (.ofNat (nat_lit 16)), (nat_lit 1))]), [], [sl_77], [])
def sl_79 : (Nat × Nat) × aI := (((nat_lit 82), (nat_lit 10)), [((.ofNat (nat_lit 18)), (.ofNat (nat_lit 20)), (nat_lit 1))])
def pon_80 : aPo := (some (.inl [((.ofNat (nat_lit 17)), (.ofNat (nat_lit 17)), (nat_lit 1))]), [], [sl_79], [])
def sl_81 : (Nat × Nat) × aI := (((nat_lit 82), (nat_lit 10)), [((.ofNat (nat_lit 19)), (.ofNat (nat_lit 20)), (nat_lit 1))])
def pon_82 : aPo := (some (.inl [((.ofNat (nat_lit 18)), (.ofNat (nat_lit 18)), (nat_lit 1))]), [], [sl_81], [])
def sl_83 : (Nat × Nat) × aI := (((nat_lit 82), (nat_lit 10)), [((.ofNat (nat_lit 20)), (.ofNat (nat_lit 20)), (nat_lit 1))])
def pon_84 : aPo := (some (.inl [((.ofNat (nat_lit 19)), (.ofNat (nat_lit 19)), (nat_lit 1))]), [], [sl_83], [])
def sl_85 : (Nat × Nat) × aI := (((nat_lit 82), (nat_lit 10)), [((.ofNat (nat_lit 3)), (.ofNat (nat_lit 20)), (nat_lit 1))])
def pon_86 : aPo := (some (.inl [((.ofNat (nat_lit 2)), (.ofNat (nat_lit 2)), (nat_lit 1))]), [], [sl_85], [])
def sl_87 : (Nat × Nat) × aI := (((nat_lit 82), (nat_lit 10)), [((.ofNat (nat_lit 4)), (.ofNat (nat_lit 20)), (nat_lit 1))])
def pon_88 : aPo := (some (.inl [((.ofNat (nat_lit 3)), (.ofNat (nat_lit 3)), (nat_lit 1))]), [], [sl_87], [])
def sl_89 : (Nat × Nat) × aI := (((nat_lit 82), (nat_lit 10)), [((.ofNat (nat_lit 5)), (.ofNat (nat_lit 20)), (nat_lit 1))])
def pon_90 : aPo := (some (.inl [((.ofNat (nat_lit 4)), (.ofNat (nat_lit 4)), (nat_lit 1))]), [], [sl_89], [])
def sl_91 : (Nat × Nat) × aI := (((nat_lit 82), (nat_lit 10)), [((.ofNat (nat_lit 6)), (.ofNat (nat_lit 20)), (nat_lit 1))])
def pon_92 : aPo := (some (.inl [((.ofNat (nat_lit 5)), (.ofNat (nat_lit 5)), (nat_lit 1))]), [], [sl_91], [])
def sl_93 : (Nat × Nat) × aI := (((nat_lit 82), (nat_lit 10)), [((.ofNat (nat_lit 7)), (.ofNat (nat_lit 20)), (nat_lit 1))])
def pon_94 : aPo := (some (.inl [((.ofNat (nat_lit 6)), (.ofNat (nat_lit 6)), (nat_lit 1))]), [], [sl_93], [])
def sl_95 : (Nat × Nat) × aI := (((nat_lit 82), (nat_lit 10)), [((.ofNat (nat_lit 8)), (.ofNat (nat_lit 20)), (nat_lit 1))])
def pon_96 : aPo := (some (.inl [((.ofNat (nat_lit 7)), (.ofNat (nat_lit 7)), (nat_lit 1))]), [], [sl_95], [])
def sl_97 : (Nat × Nat) × aI := (((nat_lit 82), (nat_lit 10)), [((.ofNat (nat_lit 9)), (.ofNat (nat_lit 20)), (nat_lit 1))])
def pon_98 : aPo := (some (.inl [((.ofNat (nat_lit 8)), (.ofNat (nat_lit 8)), (nat_lit 1))]), [], [sl_97], [])
def sl_99 : (Nat × Nat) × aI := (((nat_lit 82), (nat_lit 10)), [((.ofNat (nat_lit 10)), (.ofNat (nat_lit 20)), (nat_lit 1))])
def pon_100 : aPo := (some (.inl [((.ofNat (nat_lit 9)), (.ofNat (nat_lit 9)), (nat_lit 1))]), [], [sl_99], [])
def lcn_101 : Nat × aAg := ((nat_lit 3), .inl [((.ofNat (nat_lit 0)), (.ofNat (nat_lit 0)), (nat_lit 1))])
def lcn_102 : Nat × aAg := ((nat_lit 3), .inl [((.ofNat (nat_lit 1)), (.ofNat (nat_lit 1)), (nat_lit 1))])
def lcn_103 : Nat × aAg := ((nat_lit 3), .inl [((.ofNat (nat_lit 2)), (.ofNat (nat_lit 2)), (nat_lit 1))])
def lcn_104 : Nat × aAg := ((nat_lit 3), .inl [((.ofNat (nat_lit 3)), (.ofNat (nat_lit 3)), (nat_lit 1))])
def lcn_105 : Nat × aAg := ((nat_lit 3), .inl [((.ofNat (nat_lit 4)), (.ofNat (nat_lit 4)), (nat_lit 1))])
def lcn_106 : Nat × aAg := ((nat_lit 3), .inl [((.ofNat (nat_lit 5)), (.ofNat (nat_lit 5)), (nat_lit 1))])
def lcn_107 : Nat × aAg := ((nat_lit 3), .inl [((.ofNat (nat_lit 6)), (.ofNat (nat_lit 6)), (nat_lit 1))])
def lcn_108 : Nat × aAg := ((nat_lit 3), .inl [((.ofNat (nat_lit 7)), (.ofNat (nat_lit 7)), (nat_lit 1))])
def lcn_109 : Nat × aAg := ((nat_lit 3), .inl [((.ofNat (nat_lit 8)), (.ofNat (nat_lit 8)), (nat_lit 1))])
def lcn_110 : Nat × aAg := ((nat_lit 3), .inl [((.ofNat (nat_lit 9)), (.ofNat (nat_lit 9)), (nat_lit 1))])
def lcn_111 : Nat × aAg := ((nat_lit 3), .inl [((.ofNat (nat_lit 10)), (.ofNat (nat_lit 10)), (nat_lit 1))])
def lcn_112 : Nat × aAg := ((nat_lit 3), .inl [((.ofNat (nat_lit 11)), (.ofNat (nat_lit 11)), (nat_lit 1))])
def lcn_113 : Nat × aAg := ((nat_lit 3), .inl [((.ofNat (nat_lit 12)), (.ofNat (nat_lit 12)), (nat_lit 1))])
def lcn_114 : Nat × aAg := ((nat_lit 3), .inl [((.ofNat (nat_lit 13)), (.ofNat (nat_lit 13)), (nat_lit 1))])
def lcn_115 : Nat × aAg := ((nat_lit 3), .inl [((.ofNat (nat_lit 14)), (.ofNat (nat_lit 14)), (nat_lit 1))])
def lcn_116 : Nat × aAg := ((nat_lit 3), .inl [((.ofNat (nat_lit 15)), (.ofNat (nat_lit 15)), (nat_lit 1))])
def lcn_117 : Nat × aAg := ((nat_lit 3), .inl [((.ofNat (nat_lit 16)), (.ofNat (nat_lit 16)), (nat_lit 1))])
def lcn_118 : Nat × aAg := ((nat_lit 3), .inl [((.ofNat (nat_lit 17)), (.ofNat (nat_lit 17)), (nat_lit 1))])
def lcn_119 : Nat × aAg := ((nat_lit 3), .inl [((.ofNat (nat_lit 18)), (.ofNat (nat_lit 18)), (nat_lit 1))])
def lcn_120 : Nat × aAg := ((nat_lit 3), .inl [((.ofNat (nat_lit 19)), (.ofNat (nat_lit 19)), (nat_lit 1))])
def lcn_121 : Nat × aAg := ((nat_lit 3), .inl [((.ofNat (nat_lit 20)), (.ofNat (nat_lit 20)), (nat_lit 1))])
set_option maxRecDepth 100000 in
theorem btX5_nameOfToken : bTab oX5_nameOfToken tX5_nameOfToken := ⟨ofX5_nameOfToken, by decide +kernel⟩
def ct_14 : aCt := (mX5_nameOfToken, [ag_34], ([], []), [pon_52, pon_62, pon_64, pon_66, pon_68, pon_70, pon_72, pon_74, pon_76, pon_78, pon_80, pon_82, pon_84, pon_86, pon_88, pon_90, pon_92, pon_94, pon_96, pon_98, pon_100], [], [], (nat_lit 1))
set_option maxRecDepth 100000 in
theorem S_14 : aSpec wd ct_14 := bChk_ok wx_ok btX5_nameOfToken (nds := [((nat_lit 7), [lcn_40, lcn_59, lcn_101], [], [], [], (20, [])), ((nat_lit 7), [lcn_40, lcn_59, lcn_102], [], [sl_61], [], (19, [])), ((nat_lit 7), [lcn_40, lcn_59, lcn_103], [], [sl_63], [], (18, [])), ((nat_lit 7), [lcn_40, lcn_59, lcn_104], [], [sl_85], [], (17, [])), ((nat_lit 7), [lcn_40, lcn_59, lcn_105], [], [sl_87], [], (16, [])), ((nat_lit 7), [lcn_40, lcn_59, lcn_106], [], [sl_89], [], (15, [])), ((nat_lit 7), [lcn_40, lcn_59, lcn_107], [], [sl_91], [], (14, [])), ((nat_lit 7), [lcn_40, lcn_59, lcn_108], [], [sl_93], [], (13, [])), ((nat_lit 7), [lcn_40, lcn_59, lcn_109], [], [sl_95], [], (12, [])), ((nat_lit 7), [lcn_40, lcn_59, lcn_110], [], [sl_97], [], (11, [])), ((nat_lit 7), [lcn_40, lcn_59, lcn_111], [], [sl_99], [], (10, [])), ((nat_lit 7), [lcn_40, lcn_59, lcn_112], [], [sl_65], [], (9, [])), ((nat_lit 7), [lcn_40, lcn_59, lcn_113], [], [sl_67], [], (8, [])), ((nat_lit 7), [lcn_40, lcn_59, lcn_114], [], [sl_69], [], (7, [])), ((nat_lit 7), [lcn_40, lcn_59, lcn_115], [], [sl_71], [], (6, [])), ((nat_lit 7), [lcn_40, lcn_59, lcn_116], [], [sl_73], [], (5, [])), ((nat_lit 7), [lcn_40, lcn_59, lcn_117], [], [sl_75], [], (4, [])), ((nat_lit 7), [lcn_40, lcn_59, lcn_118], [], [sl_77], [], (3, [])), ((nat_lit 7), [lcn_40, lcn_59, lcn_119], [], [sl_79], [], (2, [])), ((nat_lit 7), [lcn_40, lcn_59, lcn_120], [], [sl_81], [], (1, [])), ((nat_lit 7), [lcn_40, lcn_59, lcn_121], [], [sl_83], [], (0, []))]) (fk := []) (rk := (21, [])) (sp := 128) (fuel := 3000) (by decide +kernel) (lk_d S_13 ml_5_251 lk_n) odX5_nameOfToken
def ag_122 : aAg := .inl [((.ofNat (nat_lit 3)), (.ofNat (nat_lit 3)), (nat_lit 1))]
def sl_123 : (Nat × Nat) × aI := (((nat_lit 82), (nat_lit 11)), [((.ofNat (nat_lit 3)), (.ofNat (nat_lit 3)), (nat_lit 1))])
def pon_124 : aPo := (some (.inl [((.ofNat (nat_lit 0)), (.ofNat (nat_lit 0)), (nat_lit 1))]), [], [sl_123], [])
def ct_15 : aCt := (mX5_faulty, [ag_34, ag_122], ([sl_54], []), [pon_124], mdn_57, [], (nat_lit 0))
set_option maxRecDepth 100000 in
theorem S_15 : aSpec wd ct_15 := bChk_ok wx_ok btX5_faulty (nds := []) (fk := []) (rk := (1, [])) (sp := 0) (fuel := 3000) (by decide +kernel) lk_n odX5_faulty
def ag_125 : aAg := .inl [((.ofNat (nat_lit 0)), (.ofNat (nat_lit 6)), (nat_lit 1))]
def sl_126 : (Nat × Nat) × aI := (((nat_lit 82), (nat_lit 11)), [((.ofNat (nat_lit 1)), (.ofNat (nat_lit 1)), (nat_lit 1)), ((.ofNat (nat_lit 3)), (.ofNat (nat_lit 3)), (nat_lit 1))])
def pon_127 : aPo := (some (.inl [((.ofNat (nat_lit 0)), (.ofNat (nat_lit 0)), (nat_lit 1))]), [], [sl_126], [])
def pon_128 : aPo := (some (.inl [((.ofNat (nat_lit 1)), (.ofNat (nat_lit 1)), (nat_lit 1))]), [], [sl_61, sl_54], [])
def mdn_129 : List (Nat × Nat × Nat) := [((nat_lit 82), (nat_lit 2), (nat_lit 5)), ((nat_lit 82), (nat_lit 10), (nat_lit 13)), ((nat_lit 84), (nat_lit 0), (nat_lit 20)), ((nat_lit 85), (nat_lit 0), (nat_lit 20))]
set_option maxRecDepth 100000 in
theorem btX5_newName : bTab oX5_newName tX5_newName := ⟨ofX5_newName, by decide +kernel⟩
def ct_16 : aCt := (mX5_newName, [ag_34, ag_53, ag_125], ([sl_54], []), [pon_127, pon_128], mdn_129, [], (nat_lit 2))
set_option maxRecDepth 100000 in
theorem S_16 : aSpec wd ct_16 := bChk_ok wx_ok btX5_newName (nds := []) (fk := [40]) (rk := (1, [])) (sp := 0) (fuel := 3000) (by decide +kernel) (lk_d S_10 ml_5_70 (lk_d S_11 ml_5_80 (lk_d S_14 ml_5_248 (lk_d S_13 ml_5_251 (lk_d S_12 ml_5_76 (lk_d S_15 ml_5_76 lk_n)))))) odX5_newName
def pon_130 : aPo := (some (.inl aTop), [], [], [])
def lcn_131 : Nat × aAg := ((nat_lit 1), .inl [((.ofNat (nat_lit 2)), (.ofNat (nat_lit 6)), (nat_lit 1))])
def lcn_132 : Nat × aAg := ((nat_lit 2), .inl aTop)
set_option maxRecDepth 100000 in
theorem btX5_songOfToken : bTab oX5_songOfToken tX5_songOfToken := ⟨ofX5_songOfToken, by decide +kernel⟩
def ct_17 : aCt := (mX5_songOfToken, [ag_34], ([], [((82, 6), 42)]), [pon_130, pon_52], [], [], (nat_lit 0))
set_option maxRecDepth 100000 in
theorem S_17 : aSpec wd ct_17 := bChk_ok wx_ok btX5_songOfToken (nds := [((nat_lit 31), [lcn_40, lcn_131, lcn_132, lcn_60], [], [], [((82, 6), 42)], (1000, [(2, -1)]))]) (fk := []) (rk := (1001, [])) (sp := 2147483648) (fuel := 3000) (by decide +kernel) lk_n odX5_songOfToken
def ag_133 : aAg := .inl [((.ofNat (nat_lit 7)), (.ofNat (nat_lit 7)), (nat_lit 1))]
def sl_134 : (Nat × Nat) × aI := (((nat_lit 82), (nat_lit 11)), [((.ofNat (nat_lit 7)), (.ofNat (nat_lit 7)), (nat_lit 1))])
def pon_135 : aPo := (some (.inl [((.ofNat (nat_lit 0)), (.ofNat (nat_lit 0)), (nat_lit 1))]), [], [sl_134], [])
def ct_18 : aCt := (mX5_faulty, [ag_34, ag_133], ([sl_54], []), [pon_135], mdn_57, [], (nat_lit 0))
set_option maxRecDepth 100000 in
theorem S_18 : aSpec wd ct_18 := bChk_ok wx_ok btX5_faulty (nds := []) (fk := []) (rk := (1, [])) (sp := 0) (fuel := 3000) (by decide +kernel) lk_n odX5_faulty
def ag_136 : aAg := .inl [((.negSucc (nat_lit 2147483647)), (.negSucc (nat_lit 2)), (nat_lit 1)), ((.negSucc (nat_lit 0)), (.ofNat (nat_lit 2147483647)), (nat_lit 1))]
def ag_137 : aAg := .inl [((.negSucc (nat_lit 999)), (.ofNat (nat_lit 1000)), (nat_lit 1))]
def sl_138 : (Nat × Nat) × aI := (((nat_lit 42), (nat_lit 4)), [((.ofNat (nat_lit 0)), (.ofNat (nat_lit 6)), (nat_lit 1))])
def sl_139 : (Nat × Nat) × aI := (((nat_lit 42), (nat_lit 4)), [((.ofNat (nat_lit 1)), (.ofNat (nat_lit 6)), (nat_lit 1))])
def pon_140 : aPo := (some (.inl [((.ofNat (nat_lit 1)), (.ofNat (nat_lit 1)), (nat_lit 1))]), [], [sl_139], [])
def lcn_141 : Nat × aAg := ((nat_lit 0), .inr (.inl [(nat_lit 42)]))
def lcn_142 : Nat × aAg := ((nat_lit 1), .inl [((.negSucc (nat_lit 2147483647)), (.negSucc (nat_lit 2)), (nat_lit 1)), ((.negSucc (nat_lit 0)), (.ofNat (nat_lit 2147483647)), (nat_lit 1))])
def lcn_143 : Nat × aAg := ((nat_lit 2), .inl [((.negSucc (nat_lit 999)), (.ofNat (nat_lit 1000)), (nat_lit 1))])
def lcn_144 : Nat × aAg := ((nat_lit 3), .inl [((.ofNat (nat_lit 0)), (.ofNat (nat_lit 6)), (nat_lit 1))])
set_option maxRecDepth 100000 in
theorem btX4_hasSong : bTab oX4_hasSong tX4_hasSong := ⟨ofX4_hasSong, by decide +kernel⟩
def ct_19 : aCt := (mX4_hasSong, [ag_26, ag_136, ag_137], ([sl_138], []), [pon_37, pon_140], [], [], (nat_lit 0))
set_option maxRecDepth 100000 in
theorem S_19 : aSpec wd ct_19 := bChk_ok wx_ok btX4_hasSong (nds := [((nat_lit 2), [lcn_141, lcn_142, lcn_143, lcn_144], [], [sl_138], [], (6, [(2, -1)]))]) (fk := []) (rk := (7, [])) (sp := 4) (fuel := 3000) (by decide +kernel) lk_n odX4_hasSong
def sl_145 : (Nat × Nat) × aI := (((nat_lit 82), (nat_lit 11)), [((.ofNat (nat_lit 1)), (.ofNat (nat_lit 1)), (nat_lit 1)), ((.ofNat (nat_lit 3)), (.ofNat (nat_lit 3)), (nat_lit 1)), ((.ofNat (nat_lit 7)), (.ofNat (nat_lit 7)), (nat_lit 1))])
def pon_146 : aPo := (some (.inl [((.ofNat (nat_lit 0)), (.ofNat (nat_lit 0)), (nat_lit 1))]), [], [sl_138, sl_145], [])
def sl_147 : (Nat × Nat) × aI := (((nat_lit 42), (nat_lit 4)), [((.ofNat (nat_lit 1)), (.ofNat (nat_lit 7)), (nat_lit 1))])
def pon_148 : aPo := (some (.inl [((.ofNat (nat_lit 1)), (.ofNat (nat_lit 1)), (nat_lit 1))]), [], [sl_147, sl_61, sl_54], [])
def mdn_149 : List (Nat × Nat × Nat) := [((nat_lit 42), (nat_lit 4), (nat_lit 5)), ((nat_lit 43), (nat_lit 0), (nat_lit 7)), ((nat_lit 44), (nat_lit 0), (nat_lit 7)), ((nat_lit 82), (nat_lit 2), (nat_lit 5)), ((nat_lit 82), (nat_lit 10), (nat_lit 13)), ((nat_lit 84), (nat_lit 0), (nat_lit 20)), ((nat_lit 85), (nat_lit 0), (nat_lit 20))]
set_option maxRecDepth 100000 in
theorem btX5_readIsland : bTab oX5_readIsland tX5_readIsland := ⟨ofX5_readIsland, by decide +kernel⟩
def ct_20 : aCt := (mX5_readIsland, [ag_34], ([sl_138, sl_54], [((82, 6), 42)]), [pon_146, pon_148], mdn_149, [], (nat_lit 3))
set_option maxRecDepth 100000 in
theorem S_20 : aSpec wd ct_20 := bChk_ok wx_ok btX5_readIsland (nds := []) (fk := []) (rk := (1, [])) (sp := 0) (fuel := 3000) (by decide +kernel) (lk_d S_17 ml_5_161 (lk_d S_10 ml_5_70 (lk_d S_12 ml_5_76 (lk_d S_18 ml_5_76 (lk_d S_15 ml_5_76 (lk_d S_16 ml_5_158 (lk_d S_19 ml_5_164 lk_n))))))) odX5_readIsland
def ag_150 : aAg := .inl [((.ofNat (nat_lit 5)), (.ofNat (nat_lit 5)), (nat_lit 1))]
def sl_151 : (Nat × Nat) × aI := (((nat_lit 82), (nat_lit 11)), [((.ofNat (nat_lit 5)), (.ofNat (nat_lit 5)), (nat_lit 1))])
def pon_152 : aPo := (some (.inl [((.ofNat (nat_lit 0)), (.ofNat (nat_lit 0)), (nat_lit 1))]), [], [sl_151], [])
def ct_21 : aCt := (mX5_faulty, [ag_34, ag_150], ([sl_54], []), [pon_152], mdn_57, [], (nat_lit 0))
set_option maxRecDepth 100000 in
theorem S_21 : aSpec wd ct_21 := bChk_ok wx_ok btX5_faulty (nds := []) (fk := []) (rk := (1, [])) (sp := 0) (fuel := 3000) (by decide +kernel) lk_n odX5_faulty
def ag_153 : aAg := .inl [((.ofNat (nat_lit 6)), (.ofNat (nat_lit 6)), (nat_lit 1))]
def sl_154 : (Nat × Nat) × aI := (((nat_lit 82), (nat_lit 11)), [((.ofNat (nat_lit 6)), (.ofNat (nat_lit 6)), (nat_lit 1))])
def pon_155 : aPo := (some (.inl [((.ofNat (nat_lit 0)), (.ofNat (nat_lit 0)), (nat_lit 1))]), [], [sl_154], [])
def ct_22 : aCt := (mX5_faulty, [ag_34, ag_153], ([sl_54], []), [pon_155], mdn_57, [], (nat_lit 0))
set_option maxRecDepth 100000 in
theorem S_22 : aSpec wd ct_22 := bChk_ok wx_ok btX5_faulty (nds := []) (fk := []) (rk := (1, [])) (sp := 0) (fuel := 3000) (by decide +kernel) lk_n odX5_faulty
def ag_156 : aAg := .inr (.inl [(nat_lit 1000010), (nat_lit 1000011), (nat_lit 1000012), (nat_lit 1000013), (nat_lit 1000014), (nat_lit 1000015), (nat_lit 1000016), (nat_lit 1000017), (nat_lit 1000018), (nat_lit 1000019), (nat_lit 1000020), (nat_lit 1000021), (nat_lit 1000022), (nat_lit 1000023), (nat_lit 1000024), (nat_lit 1000025), (nat_lit 1000026), (nat_lit 1000027), (nat_lit 1000028), (nat_lit 1000029), (nat_lit 1000030), (nat_lit 1000031), (nat_lit 1000032)])
def pon_157 : aPo := (some (.inl [((.ofNat (nat_lit 1)), (.ofNat (nat_lit 1)), (nat_lit 1))]), [], [sl_54], [])
def mdn_158 : List (Nat × Nat × Nat) := [((nat_lit 82), (nat_lit 2), (nat_lit 5)), ((nat_lit 82), (nat_lit 11), (nat_lit 13))]
set_option maxRecDepth 100000 in
theorem btX5_word : bTab oX5_word tX5_word := ⟨ofX5_word, by decide +kernel⟩
def ct_23 : aCt := (mX5_word, [ag_34, ag_156], ([sl_54], []), [pon_56, pon_157], mdn_158, [], (nat_lit 2))
set_option maxRecDepth 100000 in
theorem S_23 : aSpec wd ct_23 := bChk_ok wx_ok btX5_word (nds := []) (fk := []) (rk := (1, [])) (sp := 0) (fuel := 3000) (by decide +kernel) (lk_d S_10 ml_5_70 (lk_d S_12 ml_5_76 (lk_d S_X5_isToken_0 ml_5_245 lk_n))) odX5_word
def ag_159 : aAg := .inl [((.ofNat (nat_lit 4)), (.ofNat (nat_lit 4)), (nat_lit 1))]
def sl_160 : (Nat × Nat) × aI := (((nat_lit 82), (nat_lit 11)), [((.ofNat (nat_lit 4)), (.ofNat (nat_lit 4)), (nat_lit 1))])
def pon_161 : aPo := (some (.inl [((.ofNat (nat_lit 0)), (.ofNat (nat_lit 0)), (nat_lit 1))]), [], [sl_160], [])
def ct_24 : aCt := (mX5_faulty, [ag_34, ag_159], ([sl_54], []), [pon_161], mdn_57, [], (nat_lit 0))
set_option maxRecDepth 100000 in
theorem S_24 : aSpec wd ct_24 := bChk_ok wx_ok btX5_faulty (nds := []) (fk := []) (rk := (1, [])) (sp := 0) (fuel := 3000) (by decide +kernel) lk_n odX5_faulty
def sl_162 : (Nat × Nat) × aI := (((nat_lit 82), (nat_lit 11)), [((.ofNat (nat_lit 1)), (.ofNat (nat_lit 1)), (nat_lit 1)), ((.ofNat (nat_lit 4)), (.ofNat (nat_lit 4)), (nat_lit 1))])
def pon_163 : aPo := (some (.inl [((.ofNat (nat_lit 0)), (.ofNat (nat_lit 0)), (nat_lit 1))]), [], [sl_162], [])
def sl_164 : (Nat × Nat) × aI := (((nat_lit 82), (nat_lit 5)), [((.ofNat (nat_lit 2)), (.ofNat (nat_lit 4)), (nat_lit 1))])
def pon_165 : aPo := (some (.inl [((.ofNat (nat_lit 1)), (.ofNat (nat_lit 1)), (nat_lit 1))]), [], [sl_164, sl_54], [])
def mdn_166 : List (Nat × Nat × Nat) := [((nat_lit 82), (nat_lit 2), (nat_lit 6)), ((nat_lit 82), (nat_lit 11), (nat_lit 13))]
def lcn_167 : Nat × aAg := ((nat_lit 1), .inl [((.ofNat (nat_lit 2)), (.ofNat (nat_lit 2)), (nat_lit 1))])
def lcn_168 : Nat × aAg := ((nat_lit 2), .inl [((.ofNat (nat_lit 4)), (.ofNat (nat_lit 4)), (nat_lit 1))])
def sl_169 : (Nat × Nat) × aI := (((nat_lit 82), (nat_lit 3)), [((.ofNat (nat_lit 2)), (.ofNat (nat_lit 2)), (nat_lit 1))])
set_option maxRecDepth 100000 in
theorem btX5_whole : bTab oX5_whole tX5_whole := ⟨ofX5_whole, by decide +kernel⟩
def ct_25 : aCt := (mX5_whole, [ag_34, ag_22, ag_159], ([sl_54], []), [pon_163, pon_165], mdn_166, [], (nat_lit 2))
set_option maxRecDepth 100000 in
theorem S_25 : aSpec wd ct_25 := bChk_ok wx_ok btX5_whole (nds := [((nat_lit 28), [lcn_40, lcn_167, lcn_168, lcn_60], [], [sl_169, sl_54], [], (1000, [(0, -1)]))]) (fk := []) (rk := (1001, [])) (sp := 268435456) (fuel := 3000) (by decide +kernel) (lk_d S_10 ml_5_70 (lk_d S_12 ml_5_76 (lk_d S_24 ml_5_76 lk_n))) odX5_whole
def ag_170 : aAg := .inl [((.ofNat (nat_lit 0)), (.ofNat (nat_lit 0)), (nat_lit 1))]
def sl_171 : (Nat × Nat) × aI := (((nat_lit 82), (nat_lit 5)), [((.negSucc (nat_lit 2147483647)), (.negSucc (nat_lit 0)), (nat_lit 1)), ((.ofNat (nat_lit 2)), (.ofNat (nat_lit 2147483647)), (nat_lit 1))])
def pon_172 : aPo := (some (.inl [((.ofNat (nat_lit 0)), (.ofNat (nat_lit 0)), (nat_lit 1))]), [], [sl_171, sl_162], [])
def sl_173 : (Nat × Nat) × aI := (((nat_lit 82), (nat_lit 5)), [((.ofNat (nat_lit 0)), (.ofNat (nat_lit 3)), (nat_lit 1))])
def pon_174 : aPo := (some (.inl [((.ofNat (nat_lit 1)), (.ofNat (nat_lit 1)), (nat_lit 1))]), [], [sl_173, sl_54], [])
def lcn_175 : Nat × aAg := ((nat_lit 1), .inl [((.ofNat (nat_lit 0)), (.ofNat (nat_lit 0)), (nat_lit 1))])
def lcn_176 : Nat × aAg := ((nat_lit 2), .inl [((.ofNat (nat_lit 3)), (.ofNat (nat_lit 3)), (nat_lit 1))])
def ct_26 : aCt := (mX5_whole, [ag_34, ag_170, ag_122], ([sl_164, sl_54], []), [pon_172, pon_174], mdn_166, [], (nat_lit 2))
set_option maxRecDepth 100000 in
theorem S_26 : aSpec wd ct_26 := bChk_ok wx_ok btX5_whole (nds := [((nat_lit 28), [lcn_40, lcn_175, lcn_176, lcn_60], [], [sl_169, sl_54], [], (1000, [(0, -1)]))]) (fk := []) (rk := (1001, [])) (sp := 268435456) (fuel := 3000) (by decide +kernel) (lk_d S_10 ml_5_70 (lk_d S_12 ml_5_76 (lk_d S_24 ml_5_76 lk_n))) odX5_whole
def ag_177 : aAg := .inl [((.ofNat (nat_lit 50)), (.ofNat (nat_lit 50)), (nat_lit 1))]
def sl_178 : (Nat × Nat) × aI := (((nat_lit 82), (nat_lit 5)), [((.negSucc (nat_lit 2147483647)), (.ofNat (nat_lit 3)), (nat_lit 1)), ((.ofNat (nat_lit 51)), (.ofNat (nat_lit 2147483647)), (nat_lit 1))])
def pon_179 : aPo := (some (.inl [((.ofNat (nat_lit 0)), (.ofNat (nat_lit 0)), (nat_lit 1))]), [], [sl_178, sl_162], [])
def sl_180 : (Nat × Nat) × aI := (((nat_lit 82), (nat_lit 5)), [((.ofNat (nat_lit 0)), (.ofNat (nat_lit 50)), (nat_lit 1))])
def pon_181 : aPo := (some (.inl [((.ofNat (nat_lit 1)), (.ofNat (nat_lit 1)), (nat_lit 1))]), [], [sl_180, sl_54], [])
def lcn_182 : Nat × aAg := ((nat_lit 2), .inl [((.ofNat (nat_lit 50)), (.ofNat (nat_lit 50)), (nat_lit 1))])
def ct_27 : aCt := (mX5_whole, [ag_34, ag_170, ag_177], ([sl_173, sl_54], []), [pon_179, pon_181], mdn_166, [], (nat_lit 2))
set_option maxRecDepth 100000 in
theorem S_27 : aSpec wd ct_27 := bChk_ok wx_ok btX5_whole (nds := [((nat_lit 28), [lcn_40, lcn_175, lcn_182, lcn_60], [], [sl_169, sl_54], [], (1000, [(0, -1)]))]) (fk := []) (rk := (1001, [])) (sp := 268435456) (fuel := 3000) (by decide +kernel) (lk_d S_10 ml_5_70 (lk_d S_12 ml_5_76 (lk_d S_24 ml_5_76 lk_n))) odX5_whole
def ag_183 : aAg := .inl [((.ofNat (nat_lit 100)), (.ofNat (nat_lit 100)), (nat_lit 1))]
def sl_184 : (Nat × Nat) × aI := (((nat_lit 82), (nat_lit 5)), [((.negSucc (nat_lit 2147483647)), (.ofNat (nat_lit 50)), (nat_lit 1)), ((.ofNat (nat_lit 101)), (.ofNat (nat_lit 2147483647)), (nat_lit 1))])
def pon_185 : aPo := (some (.inl [((.ofNat (nat_lit 0)), (.ofNat (nat_lit 0)), (nat_lit 1))]), [], [sl_184, sl_162], [])
def sl_186 : (Nat × Nat) × aI := (((nat_lit 82), (nat_lit 5)), [((.ofNat (nat_lit 0)), (.ofNat (nat_lit 100)), (nat_lit 1))])
def pon_187 : aPo := (some (.inl [((.ofNat (nat_lit 1)), (.ofNat (nat_lit 1)), (nat_lit 1))]), [], [sl_186, sl_54], [])
def lcn_188 : Nat × aAg := ((nat_lit 2), .inl [((.ofNat (nat_lit 100)), (.ofNat (nat_lit 100)), (nat_lit 1))])
def ct_28 : aCt := (mX5_whole, [ag_34, ag_170, ag_183], ([sl_180, sl_54], []), [pon_185, pon_187], mdn_166, [], (nat_lit 2))
set_option maxRecDepth 100000 in
theorem S_28 : aSpec wd ct_28 := bChk_ok wx_ok btX5_whole (nds := [((nat_lit 28), [lcn_40, lcn_175, lcn_188, lcn_60], [], [sl_169, sl_54], [], (1000, [(0, -1)]))]) (fk := []) (rk := (1001, [])) (sp := 268435456) (fuel := 3000) (by decide +kernel) (lk_d S_10 ml_5_70 (lk_d S_12 ml_5_76 (lk_d S_24 ml_5_76 lk_n))) odX5_whole
def mdn_189 : List (Nat × Nat × Nat) := [((nat_lit 42), (nat_lit 0), (nat_lit 4)), ((nat_lit 82), (nat_lit 2), (nat_lit 6)), ((nat_lit 82), (nat_lit 11), (nat_lit 13))]
set_option maxRecDepth 100000 in
theorem btX5_readHead : bTab oX5_readHead tX5_readHead := ⟨ofX5_readHead, by decide +kernel⟩
def ct_29 : aCt := (mX5_readHead, [ag_34], ([sl_54], [((82, 6), 42)]), [pon_163, pon_187], mdn_189, [], (nat_lit 3))
set_option maxRecDepth 100000 in
theorem S_29 : aSpec wd ct_29 := bChk_ok wx_ok btX5_readHead (nds := []) (fk := []) (rk := (1, [])) (sp := 0) (fuel := 3000) (by decide +kernel) (lk_d S_26 ml_5_142 (lk_d S_27 ml_5_142 (lk_d S_28 ml_5_142 (lk_d S_25 ml_5_142 (lk_d S_23 ml_5_138 lk_n))))) odX5_readHead
def ag_190 : aAg := .inl [((.ofNat (nat_lit 0)), (.ofNat (nat_lit 7)), (nat_lit 1))]
def ct_30 : aCt := (mX5_newName, [ag_34, ag_159, ag_190], ([sl_54], []), [pon_127, pon_128], mdn_129, [], (nat_lit 2))
set_option maxRecDepth 100000 in
theorem S_30 : aSpec wd ct_30 := bChk_ok wx_ok btX5_newName (nds := []) (fk := [40]) (rk := (1, [])) (sp := 0) (fuel := 3000) (by decide +kernel) (lk_d S_10 ml_5_70 (lk_d S_11 ml_5_80 (lk_d S_14 ml_5_248 (lk_d S_13 ml_5_251 (lk_d S_12 ml_5_76 (lk_d S_15 ml_5_76 lk_n)))))) odX5_newName
def sl_191 : (Nat × Nat) × aI := (((nat_lit 82), (nat_lit 11)), [((.ofNat (nat_lit 2)), (.ofNat (nat_lit 2)), (nat_lit 1))])
def pon_192 : aPo := (some (.inl [((.ofNat (nat_lit 0)), (.ofNat (nat_lit 0)), (nat_lit 1))]), [], [sl_191], [])
def ct_31 : aCt := (mX5_faulty, [ag_34, ag_22], ([sl_54], []), [pon_192], mdn_57, [], (nat_lit 0))
set_option maxRecDepth 100000 in
theorem S_31 : aSpec wd ct_31 := bChk_ok wx_ok btX5_faulty (nds := []) (fk := []) (rk := (1, [])) (sp := 0) (fuel := 3000) (by decide +kernel) lk_n odX5_faulty
def sl_193 : (Nat × Nat) × aI := (((nat_lit 82), (nat_lit 11)), [((.ofNat (nat_lit 1)), (.ofNat (nat_lit 2)), (nat_lit 1))])
def pon_194 : aPo := (some (.inl [((.ofNat (nat_lit 0)), (.ofNat (nat_lit 0)), (nat_lit 1))]), [], [sl_193], [])
def sl_195 : (Nat × Nat) × aI := (((nat_lit 82), (nat_lit 5)), [((.ofNat (nat_lit 0)), (.ofNat (nat_lit 6)), (nat_lit 1))])
def pon_196 : aPo := (some (.inl [((.ofNat (nat_lit 1)), (.ofNat (nat_lit 1)), (nat_lit 1))]), [], [sl_195, sl_61, sl_54], [])
set_option maxRecDepth 100000 in
theorem btX5_toldName : bTab oX5_toldName tX5_toldName := ⟨ofX5_toldName, by decide +kernel⟩
def ct_32 : aCt := (mX5_toldName, [ag_34, ag_53], ([sl_54], []), [pon_194, pon_196], mdn_166, [], (nat_lit 2))
set_option maxRecDepth 100000 in
theorem S_32 : aSpec wd ct_32 := bChk_ok wx_ok btX5_toldName (nds := []) (fk := []) (rk := (1, [])) (sp := 0) (fuel := 3000) (by decide +kernel) (lk_d S_10 ml_5_70 (lk_d S_11 ml_5_80 (lk_d S_14 ml_5_248 (lk_d S_12 ml_5_76 (lk_d S_31 ml_5_76 lk_n))))) odX5_toldName
def ag_197 : aAg := .inl [((.ofNat (nat_lit 99)), (.ofNat (nat_lit 99)), (nat_lit 1))]
def sl_198 : (Nat × Nat) × aI := (((nat_lit 82), (nat_lit 5)), [((.negSucc (nat_lit 2147483647)), (.ofNat (nat_lit 6)), (nat_lit 1)), ((.ofNat (nat_lit 100)), (.ofNat (nat_lit 2147483647)), (nat_lit 1))])
def pon_199 : aPo := (some (.inl [((.ofNat (nat_lit 0)), (.ofNat (nat_lit 0)), (nat_lit 1))]), [], [sl_198, sl_162], [])
def sl_200 : (Nat × Nat) × aI := (((nat_lit 82), (nat_lit 5)), [((.ofNat (nat_lit 1)), (.ofNat (nat_lit 99)), (nat_lit 1))])
def pon_201 : aPo := (some (.inl [((.ofNat (nat_lit 1)), (.ofNat (nat_lit 1)), (nat_lit 1))]), [], [sl_200, sl_54], [])
def lcn_202 : Nat × aAg := ((nat_lit 1), .inl [((.ofNat (nat_lit 1)), (.ofNat (nat_lit 1)), (nat_lit 1))])
def lcn_203 : Nat × aAg := ((nat_lit 2), .inl [((.ofNat (nat_lit 99)), (.ofNat (nat_lit 99)), (nat_lit 1))])
def ct_33 : aCt := (mX5_whole, [ag_34, ag_53, ag_197], ([sl_195, sl_54], []), [pon_199, pon_201], mdn_166, [], (nat_lit 2))
set_option maxRecDepth 100000 in
theorem S_33 : aSpec wd ct_33 := bChk_ok wx_ok btX5_whole (nds := [((nat_lit 28), [lcn_40, lcn_202, lcn_203, lcn_60], [], [sl_169, sl_54], [], (1000, [(0, -1)]))]) (fk := []) (rk := (1001, [])) (sp := 268435456) (fuel := 3000) (by decide +kernel) (lk_d S_10 ml_5_70 (lk_d S_12 ml_5_76 (lk_d S_24 ml_5_76 lk_n))) odX5_whole
def ag_204 : aAg := .inl [((.ofNat (nat_lit 9999)), (.ofNat (nat_lit 9999)), (nat_lit 1))]
def sl_205 : (Nat × Nat) × aI := (((nat_lit 82), (nat_lit 5)), [((.negSucc (nat_lit 2147483647)), (.negSucc (nat_lit 0)), (nat_lit 1)), ((.ofNat (nat_lit 1)), (.ofNat (nat_lit 99)), (nat_lit 1)), ((.ofNat (nat_lit 10000)), (.ofNat (nat_lit 2147483647)), (nat_lit 1))])
def pon_206 : aPo := (some (.inl [((.ofNat (nat_lit 0)), (.ofNat (nat_lit 0)), (nat_lit 1))]), [], [sl_205, sl_162], [])
def sl_207 : (Nat × Nat) × aI := (((nat_lit 82), (nat_lit 5)), [((.ofNat (nat_lit 0)), (.ofNat (nat_lit 9999)), (nat_lit 1))])
def pon_208 : aPo := (some (.inl [((.ofNat (nat_lit 1)), (.ofNat (nat_lit 1)), (nat_lit 1))]), [], [sl_207, sl_54], [])
def lcn_209 : Nat × aAg := ((nat_lit 2), .inl [((.ofNat (nat_lit 9999)), (.ofNat (nat_lit 9999)), (nat_lit 1))])
def ct_34 : aCt := (mX5_whole, [ag_34, ag_170, ag_204], ([sl_200, sl_54], []), [pon_206, pon_208], mdn_166, [], (nat_lit 2))
set_option maxRecDepth 100000 in
theorem S_34 : aSpec wd ct_34 := bChk_ok wx_ok btX5_whole (nds := [((nat_lit 28), [lcn_40, lcn_175, lcn_209, lcn_60], [], [sl_169, sl_54], [], (1000, [(0, -1)]))]) (fk := []) (rk := (1001, [])) (sp := 268435456) (fuel := 3000) (by decide +kernel) (lk_d S_10 ml_5_70 (lk_d S_12 ml_5_76 (lk_d S_24 ml_5_76 lk_n))) odX5_whole
def ag_210 : aAg := .inr (.inl [(nat_lit 66), (nat_lit 67), (nat_lit 68), (nat_lit 69), (nat_lit 70), (nat_lit 71), (nat_lit 72), (nat_lit 73)])
def sl_211 : (Nat × Nat) × aI := (((nat_lit 42), (nat_lit 7)), [((.ofNat (nat_lit 0)), (.ofNat (nat_lit 7)), (nat_lit 1))])
def sl_212 : (Nat × Nat) × aI := (((nat_lit 82), (nat_lit 11)), [((.ofNat (nat_lit 1)), (.ofNat (nat_lit 4)), (nat_lit 1))])
def pon_213 : aPo := (some (.inl [((.ofNat (nat_lit 0)), (.ofNat (nat_lit 0)), (nat_lit 1))]), [], [sl_211, sl_212], [])
def sl_214 : (Nat × Nat) × aI := (((nat_lit 42), (nat_lit 7)), [((.ofNat (nat_lit 1)), (.ofNat (nat_lit 8)), (nat_lit 1))])
def pon_215 : aPo := (some (.inl [((.ofNat (nat_lit 1)), (.ofNat (nat_lit 1)), (nat_lit 1))]), [], [sl_214, sl_207, sl_61, sl_54], [])
def mdn_216 : List (Nat × Nat × Nat) := [((nat_lit 42), (nat_lit 7), (nat_lit 8)), ((nat_lit 66), (nat_lit 0), (nat_lit 4)), ((nat_lit 67), (nat_lit 0), (nat_lit 4)), ((nat_lit 68), (nat_lit 0), (nat_lit 4)), ((nat_lit 69), (nat_lit 0), (nat_lit 4)), ((nat_lit 70), (nat_lit 0), (nat_lit 4)), ((nat_lit 71), (nat_lit 0), (nat_lit 4)), ((nat_lit 72), (nat_lit 0), (nat_lit 4)), ((nat_lit 73), (nat_lit 0), (nat_lit 4)), ((nat_lit 82), (nat_lit 2), (nat_lit 6)), ((nat_lit 82), (nat_lit 10), (nat_lit 13)), ((nat_lit 84), (nat_lit 0), (nat_lit 20)), ((nat_lit 85), (nat_lit 0), (nat_lit 20))]
set_option maxRecDepth 100000 in
theorem btX5_readBox : bTab oX5_readBox tX5_readBox := ⟨ofX5_readBox, by decide +kernel⟩
def ct_35 : aCt := (mX5_readBox, [ag_34, ag_210], ([sl_211, sl_54], [((82, 6), 42)]), [pon_213, pon_215], mdn_216, [], (nat_lit 3))
set_option maxRecDepth 100000 in
theorem S_35 : aSpec wd ct_35 := bChk_ok wx_ok btX5_readBox (nds := []) (fk := []) (rk := (1, [])) (sp := 0) (fuel := 3000) (by decide +kernel) (lk_d S_32 ml_5_173 (lk_d S_33 ml_5_142 (lk_d S_34 ml_5_142 (lk_d S_30 ml_5_158 (lk_d S_23 ml_5_138 lk_n))))) odX5_readBox
def ag_217 : aAg := .inl [((.ofNat (nat_lit 0)), (.ofNat (nat_lit 4)), (nat_lit 1))]
def ct_36 : aCt := (mX5_newName, [ag_34, ag_122, ag_217], ([sl_54], []), [pon_127, pon_128], mdn_129, [], (nat_lit 2))
set_option maxRecDepth 100000 in
theorem S_36 : aSpec wd ct_36 := bChk_ok wx_ok btX5_newName (nds := []) (fk := [40]) (rk := (1, [])) (sp := 0) (fuel := 3000) (by decide +kernel) (lk_d S_10 ml_5_70 (lk_d S_11 ml_5_80 (lk_d S_14 ml_5_248 (lk_d S_13 ml_5_251 (lk_d S_12 ml_5_76 (lk_d S_15 ml_5_76 lk_n)))))) odX5_newName
def pon_218 : aPo := (some (.inl [((.ofNat (nat_lit 2)), (.ofNat (nat_lit 3)), (nat_lit 1))]), [], [], [])
set_option maxRecDepth 100000 in
theorem btX5_kindOfToken : bTab oX5_kindOfToken tX5_kindOfToken := ⟨ofX5_kindOfToken, by decide +kernel⟩
def ct_37 : aCt := (mX5_kindOfToken, [ag_34], ([], []), [pon_218, pon_52, pon_37, pon_38], [], [], (nat_lit 1))
set_option maxRecDepth 100000 in
theorem S_37 : aSpec wd ct_37 := bChk_ok wx_ok btX5_kindOfToken (nds := []) (fk := []) (rk := (1, [])) (sp := 0) (fuel := 3000) (by decide +kernel) (lk_d S_X5_isToken_0 ml_5_245 lk_n) odX5_kindOfToken
def sl_219 : (Nat × Nat) × aI := (((nat_lit 82), (nat_lit 5)), [((.ofNat (nat_lit 0)), (.ofNat (nat_lit 99)), (nat_lit 1))])
def pon_220 : aPo := (some (.inl [((.ofNat (nat_lit 1)), (.ofNat (nat_lit 1)), (nat_lit 1))]), [], [sl_219, sl_54], [])
def ct_38 : aCt := (mX5_whole, [ag_34, ag_170, ag_197], ([sl_195, sl_54], []), [pon_199, pon_220], mdn_166, [], (nat_lit 2))
set_option maxRecDepth 100000 in
theorem S_38 : aSpec wd ct_38 := bChk_ok wx_ok btX5_whole (nds := [((nat_lit 28), [lcn_40, lcn_175, lcn_203, lcn_60], [], [sl_169, sl_54], [], (1000, [(0, -1)]))]) (fk := []) (rk := (1001, [])) (sp := 268435456) (fuel := 3000) (by decide +kernel) (lk_d S_10 ml_5_70 (lk_d S_12 ml_5_76 (lk_d S_24 ml_5_76 lk_n))) odX5_whole
def ct_39 : aCt := (mX5_whole, [ag_34, ag_170, ag_197], ([sl_219, sl_54], []), [pon_163, pon_220], mdn_166, [], (nat_lit 2))
set_option maxRecDepth 100000 in
theorem S_39 : aSpec wd ct_39 := bChk_ok wx_ok btX5_whole (nds := [((nat_lit 28), [lcn_40, lcn_175, lcn_203, lcn_60], [], [sl_169, sl_54], [], (1000, [(0, -1)]))]) (fk := []) (rk := (1001, [])) (sp := 268435456) (fuel := 3000) (by decide +kernel) (lk_d S_10 ml_5_70 (lk_d S_12 ml_5_76 (lk_d S_24 ml_5_76 lk_n))) odX5_whole
def ag_221 : aAg := .inr (.inl [(nat_lit 65)])
def sl_222 : (Nat × Nat) × aI := (((nat_lit 42), (nat_lit 6)), [((.ofNat (nat_lit 4)), (.ofNat (nat_lit 4)), (nat_lit 1))])
def pon_223 : aPo := (some (.inl [((.ofNat (nat_lit 0)), (.ofNat (nat_lit 0)), (nat_lit 1))]), [], [sl_222, sl_212], [])
def sl_224 : (Nat × Nat) × aI := (((nat_lit 42), (nat_lit 6)), [((.ofNat (nat_lit 5)), (.ofNat (nat_lit 5)), (nat_lit 1))])
def pon_225 : aPo := (some (.inl [((.ofNat (nat_lit 1)), (.ofNat (nat_lit 1)), (nat_lit 1))]), [], [sl_224, sl_219, sl_61, sl_54], [])
def mdn_226 : List (Nat × Nat × Nat) := [((nat_lit 42), (nat_lit 6), (nat_lit 7)), ((nat_lit 65), (nat_lit 0), (nat_lit 4)), ((nat_lit 82), (nat_lit 2), (nat_lit 6)), ((nat_lit 82), (nat_lit 10), (nat_lit 13)), ((nat_lit 84), (nat_lit 0), (nat_lit 20)), ((nat_lit 85), (nat_lit 0), (nat_lit 20))]
set_option maxRecDepth 100000 in
theorem btX5_readWhale : bTab oX5_readWhale tX5_readWhale := ⟨ofX5_readWhale, by decide +kernel⟩
def ct_40 : aCt := (mX5_readWhale, [ag_34, ag_221], ([sl_222, sl_54], [((82, 6), 42)]), [pon_223, pon_225], mdn_226, [], (nat_lit 3))
set_option maxRecDepth 100000 in
theorem S_40 : aSpec wd ct_40 := bChk_ok wx_ok btX5_readWhale (nds := []) (fk := []) (rk := (1, [])) (sp := 0) (fuel := 3000) (by decide +kernel) (lk_d S_10 ml_5_70 (lk_d S_37 ml_5_195 (lk_d S_32 ml_5_173 (lk_d S_12 ml_5_76 (lk_d S_38 ml_5_142 (lk_d S_39 ml_5_142 (lk_d S_36 ml_5_158 (lk_d S_23 ml_5_138 lk_n)))))))) odX5_readWhale
end Pk0
section Pk1
def ag_227 : aAg := .inr (.inl [(nat_lit 64)])
def sl_228 : (Nat × Nat) × aI := (((nat_lit 42), (nat_lit 6)), [((.ofNat (nat_lit 3)), (.ofNat (nat_lit 3)), (nat_lit 1))])
def pon_229 : aPo := (some (.inl [((.ofNat (nat_lit 0)), (.ofNat (nat_lit 0)), (nat_lit 1))]), [], [sl_228, sl_212], [])
def pon_230 : aPo := (some (.inl [((.ofNat (nat_lit 1)), (.ofNat (nat_lit 1)), (nat_lit 1))]), [], [sl_222, sl_219, sl_61, sl_54], [])
def mdn_231 : List (Nat × Nat × Nat) := [((nat_lit 42), (nat_lit 6), (nat_lit 7)), ((nat_lit 64), (nat_lit 0), (nat_lit 4)), ((nat_lit 82), (nat_lit 2), (nat_lit 6)), ((nat_lit 82), (nat_lit 10), (nat_lit 13)), ((nat_lit 84), (nat_lit 0), (nat_lit 20)), ((nat_lit 85), (nat_lit 0), (nat_lit 20))]
def ct_41 : aCt := (mX5_readWhale, [ag_34, ag_227], ([sl_228, sl_54], [((82, 6), 42)]), [pon_229, pon_230], mdn_231, [], (nat_lit 3))
set_option maxRecDepth 100000 in
theorem S_41 : aSpec wd ct_41 := bChk_ok wx_ok btX5_readWhale (nds := []) (fk := []) (rk := (1, [])) (sp := 0) (fuel := 3000) (by decide +kernel) (lk_d S_10 ml_5_70 (lk_d S_37 ml_5_195 (lk_d S_32 ml_5_173 (lk_d S_12 ml_5_76 (lk_d S_38 ml_5_142 (lk_d S_39 ml_5_142 (lk_d S_36 ml_5_158 (lk_d S_23 ml_5_138 lk_n)))))))) odX5_readWhale
def ag_232 : aAg := .inr (.inl [(nat_lit 63)])
def sl_233 : (Nat × Nat) × aI := (((nat_lit 42), (nat_lit 6)), [((.ofNat (nat_lit 2)), (.ofNat (nat_lit 2)), (nat_lit 1))])
def pon_234 : aPo := (some (.inl [((.ofNat (nat_lit 0)), (.ofNat (nat_lit 0)), (nat_lit 1))]), [], [sl_233, sl_212], [])
def pon_235 : aPo := (some (.inl [((.ofNat (nat_lit 1)), (.ofNat (nat_lit 1)), (nat_lit 1))]), [], [sl_228, sl_219, sl_61, sl_54], [])
def mdn_236 : List (Nat × Nat × Nat) := [((nat_lit 42), (nat_lit 6), (nat_lit 7)), ((nat_lit 63), (nat_lit 0), (nat_lit 4)), ((nat_lit 82), (nat_lit 2), (nat_lit 6)), ((nat_lit 82), (nat_lit 10), (nat_lit 13)), ((nat_lit 84), (nat_lit 0), (nat_lit 20)), ((nat_lit 85), (nat_lit 0), (nat_lit 20))]
def ct_42 : aCt := (mX5_readWhale, [ag_34, ag_232], ([sl_233, sl_54], [((82, 6), 42)]), [pon_234, pon_235], mdn_236, [], (nat_lit 3))
set_option maxRecDepth 100000 in
theorem S_42 : aSpec wd ct_42 := bChk_ok wx_ok btX5_readWhale (nds := []) (fk := []) (rk := (1, [])) (sp := 0) (fuel := 3000) (by decide +kernel) (lk_d S_10 ml_5_70 (lk_d S_37 ml_5_195 (lk_d S_32 ml_5_173 (lk_d S_12 ml_5_76 (lk_d S_38 ml_5_142 (lk_d S_39 ml_5_142 (lk_d S_36 ml_5_158 (lk_d S_23 ml_5_138 lk_n)))))))) odX5_readWhale
def ag_237 : aAg := .inr (.inl [(nat_lit 62)])
def sl_238 : (Nat × Nat) × aI := (((nat_lit 42), (nat_lit 6)), [((.ofNat (nat_lit 1)), (.ofNat (nat_lit 1)), (nat_lit 1))])
def pon_239 : aPo := (some (.inl [((.ofNat (nat_lit 0)), (.ofNat (nat_lit 0)), (nat_lit 1))]), [], [sl_238, sl_212], [])
def pon_240 : aPo := (some (.inl [((.ofNat (nat_lit 1)), (.ofNat (nat_lit 1)), (nat_lit 1))]), [], [sl_233, sl_219, sl_61, sl_54], [])
def mdn_241 : List (Nat × Nat × Nat) := [((nat_lit 42), (nat_lit 6), (nat_lit 7)), ((nat_lit 62), (nat_lit 0), (nat_lit 4)), ((nat_lit 82), (nat_lit 2), (nat_lit 6)), ((nat_lit 82), (nat_lit 10), (nat_lit 13)), ((nat_lit 84), (nat_lit 0), (nat_lit 20)), ((nat_lit 85), (nat_lit 0), (nat_lit 20))]
def ct_43 : aCt := (mX5_readWhale, [ag_34, ag_237], ([sl_238, sl_54], [((82, 6), 42)]), [pon_239, pon_240], mdn_241, [], (nat_lit 3))
set_option maxRecDepth 100000 in
theorem S_43 : aSpec wd ct_43 := bChk_ok wx_ok btX5_readWhale (nds := []) (fk := []) (rk := (1, [])) (sp := 0) (fuel := 3000) (by decide +kernel) (lk_d S_10 ml_5_70 (lk_d S_37 ml_5_195 (lk_d S_32 ml_5_173 (lk_d S_12 ml_5_76 (lk_d S_38 ml_5_142 (lk_d S_39 ml_5_142 (lk_d S_36 ml_5_158 (lk_d S_23 ml_5_138 lk_n)))))))) odX5_readWhale
def ag_242 : aAg := .inr (.inl [(nat_lit 61)])
def pon_243 : aPo := (some (.inl [((.ofNat (nat_lit 0)), (.ofNat (nat_lit 0)), (nat_lit 1))]), [], [sl_29, sl_212], [])
def pon_244 : aPo := (some (.inl [((.ofNat (nat_lit 1)), (.ofNat (nat_lit 1)), (nat_lit 1))]), [], [sl_238, sl_219, sl_61, sl_54], [])
def mdn_245 : List (Nat × Nat × Nat) := [((nat_lit 42), (nat_lit 6), (nat_lit 7)), ((nat_lit 61), (nat_lit 0), (nat_lit 4)), ((nat_lit 82), (nat_lit 2), (nat_lit 6)), ((nat_lit 82), (nat_lit 10), (nat_lit 13)), ((nat_lit 84), (nat_lit 0), (nat_lit 20)), ((nat_lit 85), (nat_lit 0), (nat_lit 20))]
def ct_44 : aCt := (mX5_readWhale, [ag_34, ag_242], ([sl_29, sl_54], [((82, 6), 42)]), [pon_243, pon_244], mdn_245, [], (nat_lit 3))
set_option maxRecDepth 100000 in
theorem S_44 : aSpec wd ct_44 := bChk_ok wx_ok btX5_readWhale (nds := []) (fk := []) (rk := (1, [])) (sp := 0) (fuel := 3000) (by decide +kernel) (lk_d S_10 ml_5_70 (lk_d S_37 ml_5_195 (lk_d S_32 ml_5_173 (lk_d S_12 ml_5_76 (lk_d S_38 ml_5_142 (lk_d S_39 ml_5_142 (lk_d S_36 ml_5_158 (lk_d S_23 ml_5_138 lk_n)))))))) odX5_readWhale
def sl_246 : (Nat × Nat) × aI := (((nat_lit 42), (nat_lit 5)), [((.ofNat (nat_lit 0)), (.ofNat (nat_lit 11)), (nat_lit 1))])
def sl_247 : (Nat × Nat) × aI := (((nat_lit 42), (nat_lit 5)), [((.ofNat (nat_lit 1)), (.ofNat (nat_lit 11)), (nat_lit 1))])
def pon_248 : aPo := (some (.inl [((.ofNat (nat_lit 0)), (.ofNat (nat_lit 10)), (nat_lit 1))]), [], [sl_247], [])
def lcn_249 : Nat × aAg := ((nat_lit 1), .inl [((.ofNat (nat_lit 0)), (.ofNat (nat_lit 6)), (nat_lit 1))])
def lcn_250 : Nat × aAg := ((nat_lit 2), .inl [((.ofNat (nat_lit 0)), (.ofNat (nat_lit 6)), (nat_lit 1))])
def lcn_251 : Nat × aAg := ((nat_lit 3), .inl [((.ofNat (nat_lit 0)), (.ofNat (nat_lit 11)), (nat_lit 1))])
set_option maxRecDepth 100000 in
theorem btX4_wayBetween : bTab oX4_wayBetween tX4_wayBetween := ⟨ofX4_wayBetween, by decide +kernel⟩
def ct_45 : aCt := (mX4_wayBetween, [ag_26, ag_125, ag_125], ([sl_246], []), [pon_248, pon_52], [], [], (nat_lit 0))
set_option maxRecDepth 100000 in
theorem S_45 : aSpec wd ct_45 := bChk_ok wx_ok btX4_wayBetween (nds := [((nat_lit 2), [lcn_141, lcn_249, lcn_250, lcn_251], [], [sl_246], [], (11, [(2, -1)]))]) (fk := []) (rk := (12, [])) (sp := 4) (fuel := 3000) (by decide +kernel) lk_n odX4_wayBetween
def ag_252 : aAg := .inl [((.ofNat (nat_lit 15)), (.ofNat (nat_lit 15)), (nat_lit 1))]
def sl_253 : (Nat × Nat) × aI := (((nat_lit 82), (nat_lit 5)), [((.ofNat (nat_lit 1)), (.ofNat (nat_lit 15)), (nat_lit 1))])
def pon_254 : aPo := (some (.inl [((.ofNat (nat_lit 1)), (.ofNat (nat_lit 1)), (nat_lit 1))]), [], [sl_253, sl_54], [])
def lcn_255 : Nat × aAg := ((nat_lit 2), .inl [((.ofNat (nat_lit 15)), (.ofNat (nat_lit 15)), (nat_lit 1))])
def ct_46 : aCt := (mX5_whole, [ag_34, ag_53, ag_252], ([sl_200, sl_54], []), [pon_163, pon_254], mdn_166, [], (nat_lit 2))
set_option maxRecDepth 100000 in
theorem S_46 : aSpec wd ct_46 := bChk_ok wx_ok btX5_whole (nds := [((nat_lit 28), [lcn_40, lcn_202, lcn_255, lcn_60], [], [sl_169, sl_54], [], (1000, [(0, -1)]))]) (fk := []) (rk := (1001, [])) (sp := 268435456) (fuel := 3000) (by decide +kernel) (lk_d S_10 ml_5_70 (lk_d S_12 ml_5_76 (lk_d S_24 ml_5_76 lk_n))) odX5_whole
def ag_256 : aAg := .inr (.inl [(nat_lit 49), (nat_lit 50), (nat_lit 51), (nat_lit 52), (nat_lit 53), (nat_lit 54), (nat_lit 55), (nat_lit 56), (nat_lit 57), (nat_lit 58), (nat_lit 59), (nat_lit 60)])
def pon_257 : aPo := (some (.inl [((.ofNat (nat_lit 0)), (.ofNat (nat_lit 0)), (nat_lit 1))]), [], [sl_246, sl_212], [])
def sl_258 : (Nat × Nat) × aI := (((nat_lit 42), (nat_lit 5)), [((.ofNat (nat_lit 1)), (.ofNat (nat_lit 12)), (nat_lit 1))])
def pon_259 : aPo := (some (.inl [((.ofNat (nat_lit 1)), (.ofNat (nat_lit 1)), (nat_lit 1))]), [], [sl_258, sl_253, sl_61, sl_54], [])
def mdn_260 : List (Nat × Nat × Nat) := [((nat_lit 42), (nat_lit 5), (nat_lit 6)), ((nat_lit 49), (nat_lit 0), (nat_lit 4)), ((nat_lit 50), (nat_lit 0), (nat_lit 4)), ((nat_lit 51), (nat_lit 0), (nat_lit 4)), ((nat_lit 52), (nat_lit 0), (nat_lit 4)), ((nat_lit 53), (nat_lit 0), (nat_lit 4)), ((nat_lit 54), (nat_lit 0), (nat_lit 4)), ((nat_lit 55), (nat_lit 0), (nat_lit 4)), ((nat_lit 56), (nat_lit 0), (nat_lit 4)), ((nat_lit 57), (nat_lit 0), (nat_lit 4)), ((nat_lit 58), (nat_lit 0), (nat_lit 4)), ((nat_lit 59), (nat_lit 0), (nat_lit 4)), ((nat_lit 60), (nat_lit 0), (nat_lit 4)), ((nat_lit 82), (nat_lit 2), (nat_lit 6)), ((nat_lit 82), (nat_lit 11), (nat_lit 13))]
set_option maxRecDepth 100000 in
theorem btX5_readWay : bTab oX5_readWay tX5_readWay := ⟨ofX5_readWay, by decide +kernel⟩
def ct_47 : aCt := (mX5_readWay, [ag_34, ag_256], ([sl_246, sl_54], [((82, 6), 42)]), [pon_257, pon_259], mdn_260, [], (nat_lit 3))
set_option maxRecDepth 100000 in
theorem S_47 : aSpec wd ct_47 := bChk_ok wx_ok btX5_readWay (nds := []) (fk := []) (rk := (1, [])) (sp := 0) (fuel := 3000) (by decide +kernel) (lk_d S_32 ml_5_173 (lk_d S_15 ml_5_76 (lk_d S_33 ml_5_142 (lk_d S_46 ml_5_142 (lk_d S_45 ml_5_184 (lk_d S_23 ml_5_138 lk_n)))))) odX5_readWay
def sl_261 : (Nat × Nat) × aI := (((nat_lit 82), (nat_lit 5)), [((.ofNat (nat_lit 0)), (.ofNat (nat_lit 4)), (nat_lit 1))])
def pon_262 : aPo := (some (.inl [((.ofNat (nat_lit 1)), (.ofNat (nat_lit 1)), (nat_lit 1))]), [], [sl_261, sl_61, sl_54], [])
def ct_48 : aCt := (mX5_toldName, [ag_34, ag_122], ([sl_54], []), [pon_194, pon_262], mdn_166, [], (nat_lit 2))
set_option maxRecDepth 100000 in
theorem S_48 : aSpec wd ct_48 := bChk_ok wx_ok btX5_toldName (nds := []) (fk := []) (rk := (1, [])) (sp := 0) (fuel := 3000) (by decide +kernel) (lk_d S_10 ml_5_70 (lk_d S_11 ml_5_80 (lk_d S_14 ml_5_248 (lk_d S_12 ml_5_76 (lk_d S_31 ml_5_76 lk_n))))) odX5_toldName
def sl_263 : (Nat × Nat) × aI := (((nat_lit 42), (nat_lit 8)), [((.ofNat (nat_lit 0)), (.ofNat (nat_lit 7)), (nat_lit 1))])
def pon_264 : aPo := (some (.inl [((.ofNat (nat_lit 0)), (.ofNat (nat_lit 6)), (nat_lit 1))]), [], [], [])
def lcn_265 : Nat × aAg := ((nat_lit 1), .inl [((.ofNat (nat_lit 0)), (.ofNat (nat_lit 4)), (nat_lit 1))])
def lcn_266 : Nat × aAg := ((nat_lit 2), .inl [((.negSucc (nat_lit 0)), (.ofNat (nat_lit 6)), (nat_lit 1))])
set_option maxRecDepth 100000 in
theorem btX4_lastSpoutOf : bTab oX4_lastSpoutOf tX4_lastSpoutOf := ⟨ofX4_lastSpoutOf, by decide +kernel⟩
def ct_49 : aCt := (mX4_lastSpoutOf, [ag_26, ag_217], ([sl_263], []), [pon_264, pon_52], [], [], (nat_lit 0))
set_option maxRecDepth 100000 in
theorem S_49 : aSpec wd ct_49 := bChk_ok wx_ok btX4_lastSpoutOf (nds := [((nat_lit 7), [lcn_141, lcn_265, lcn_266], [], [sl_263], [], (1, [(1, 1)]))]) (fk := []) (rk := (8, [])) (sp := 128) (fuel := 3000) (by decide +kernel) lk_n odX4_lastSpoutOf
def sl_267 : (Nat × Nat) × aI := (((nat_lit 82), (nat_lit 5)), [((.negSucc (nat_lit 2147483647)), (.ofNat (nat_lit 6)), (nat_lit 1)), ((.ofNat (nat_lit 10000)), (.ofNat (nat_lit 2147483647)), (nat_lit 1))])
def pon_268 : aPo := (some (.inl [((.ofNat (nat_lit 0)), (.ofNat (nat_lit 0)), (nat_lit 1))]), [], [sl_267, sl_162], [])
def ct_50 : aCt := (mX5_whole, [ag_34, ag_170, ag_204], ([sl_195, sl_54], []), [pon_268, pon_208], mdn_166, [], (nat_lit 2))
set_option maxRecDepth 100000 in
theorem S_50 : aSpec wd ct_50 := bChk_ok wx_ok btX5_whole (nds := [((nat_lit 28), [lcn_40, lcn_175, lcn_209, lcn_60], [], [sl_169, sl_54], [], (1000, [(0, -1)]))]) (fk := []) (rk := (1001, [])) (sp := 268435456) (fuel := 3000) (by decide +kernel) (lk_d S_10 ml_5_70 (lk_d S_12 ml_5_76 (lk_d S_24 ml_5_76 lk_n))) odX5_whole
def sl_269 : (Nat × Nat) × aI := (((nat_lit 82), (nat_lit 5)), [((.negSucc (nat_lit 2147483647)), (.ofNat (nat_lit 9999)), (nat_lit 1))])
def pon_270 : aPo := (some (.inl [((.ofNat (nat_lit 1)), (.ofNat (nat_lit 1)), (nat_lit 1))]), [], [sl_269, sl_54], [])
def lcn_271 : Nat × aAg := ((nat_lit 1), .inl aTop)
def ct_51 : aCt := (mX5_whole, [ag_34, ag_1, ag_204], ([sl_195, sl_54], []), [pon_163, pon_270], mdn_166, [], (nat_lit 2))
set_option maxRecDepth 100000 in
theorem S_51 : aSpec wd ct_51 := bChk_ok wx_ok btX5_whole (nds := [((nat_lit 28), [lcn_40, lcn_271, lcn_209, lcn_60], [], [sl_169, sl_54], [], (1000, [(1, -1)]))]) (fk := []) (rk := (1001, [])) (sp := 268435456) (fuel := 3000) (by decide +kernel) (lk_d S_10 ml_5_70 (lk_d S_12 ml_5_76 (lk_d S_24 ml_5_76 lk_n))) odX5_whole
def ag_272 : aAg := .inr (.inl [(nat_lit 74), (nat_lit 75), (nat_lit 76), (nat_lit 77), (nat_lit 78), (nat_lit 79), (nat_lit 80), (nat_lit 81)])
def sl_273 : (Nat × Nat) × aI := (((nat_lit 82), (nat_lit 11)), [((.ofNat (nat_lit 1)), (.ofNat (nat_lit 2)), (nat_lit 1)), ((.ofNat (nat_lit 4)), (.ofNat (nat_lit 4)), (nat_lit 1))])
def pon_274 : aPo := (some (.inl [((.ofNat (nat_lit 0)), (.ofNat (nat_lit 0)), (nat_lit 1))]), [], [sl_263, sl_273], [])
def sl_275 : (Nat × Nat) × aI := (((nat_lit 42), (nat_lit 8)), [((.ofNat (nat_lit 1)), (.ofNat (nat_lit 8)), (nat_lit 1))])
def pon_276 : aPo := (some (.inl [((.ofNat (nat_lit 1)), (.ofNat (nat_lit 1)), (nat_lit 1))]), [], [sl_275, sl_269, sl_61, sl_54], [])
def mdn_277 : List (Nat × Nat × Nat) := [((nat_lit 42), (nat_lit 8), (nat_lit 9)), ((nat_lit 74), (nat_lit 0), (nat_lit 3)), ((nat_lit 75), (nat_lit 0), (nat_lit 3)), ((nat_lit 76), (nat_lit 0), (nat_lit 3)), ((nat_lit 77), (nat_lit 0), (nat_lit 3)), ((nat_lit 78), (nat_lit 0), (nat_lit 3)), ((nat_lit 79), (nat_lit 0), (nat_lit 3)), ((nat_lit 80), (nat_lit 0), (nat_lit 3)), ((nat_lit 81), (nat_lit 0), (nat_lit 3)), ((nat_lit 82), (nat_lit 2), (nat_lit 6)), ((nat_lit 82), (nat_lit 11), (nat_lit 13))]
set_option maxRecDepth 100000 in
theorem btX5_readSpout : bTab oX5_readSpout tX5_readSpout := ⟨ofX5_readSpout, by decide +kernel⟩
def ct_52 : aCt := (mX5_readSpout, [ag_34, ag_272], ([sl_263, sl_54], [((82, 6), 42)]), [pon_274, pon_276], mdn_277, [], (nat_lit 3))
set_option maxRecDepth 100000 in
theorem S_52 : aSpec wd ct_52 := bChk_ok wx_ok btX5_readSpout (nds := []) (fk := []) (rk := (1, [])) (sp := 0) (fuel := 3000) (by decide +kernel) (lk_d S_48 ml_5_173 (lk_d S_32 ml_5_173 (lk_d S_50 ml_5_142 (lk_d S_49 ml_5_240 (lk_d S_23 ml_5_138 (lk_d S_51 ml_5_142 lk_n)))))) odX5_readSpout
def sl_278 : (Nat × Nat) × aI := (((nat_lit 82), (nat_lit 11)), [((.ofNat (nat_lit 1)), (.ofNat (nat_lit 7)), (nat_lit 1))])
def pon_279 : aPo := (some (.inl [((.ofNat (nat_lit 0)), (.ofNat (nat_lit 0)), (nat_lit 1))]), [], [sl_278], [])
def mdn_280 : List (Nat × Nat × Nat) := [((nat_lit 42), (nat_lit 0), (nat_lit 9)), ((nat_lit 43), (nat_lit 0), (nat_lit 7)), ((nat_lit 44), (nat_lit 0), (nat_lit 7)), ((nat_lit 49), (nat_lit 0), (nat_lit 4)), ((nat_lit 50), (nat_lit 0), (nat_lit 4)), ((nat_lit 51), (nat_lit 0), (nat_lit 4)), ((nat_lit 52), (nat_lit 0), (nat_lit 4)), ((nat_lit 53), (nat_lit 0), (nat_lit 4)), ((nat_lit 54), (nat_lit 0), (nat_lit 4)), ((nat_lit 55), (nat_lit 0), (nat_lit 4)), ((nat_lit 56), (nat_lit 0), (nat_lit 4)), ((nat_lit 57), (nat_lit 0), (nat_lit 4)), ((nat_lit 58), (nat_lit 0), (nat_lit 4)), ((nat_lit 59), (nat_lit 0), (nat_lit 4)), ((nat_lit 60), (nat_lit 0), (nat_lit 4)), ((nat_lit 61), (nat_lit 0), (nat_lit 4)), ((nat_lit 62), (nat_lit 0), (nat_lit 4)), ((nat_lit 63), (nat_lit 0), (nat_lit 4)), ((nat_lit 64), (nat_lit 0), (nat_lit 4)), ((nat_lit 65), (nat_lit 0), (nat_lit 4)), ((nat_lit 66), (nat_lit 0), (nat_lit 4)), ((nat_lit 67), (nat_lit 0), (nat_lit 4)), ((nat_lit 68), (nat_lit 0), (nat_lit 4)), ((nat_lit 69), (nat_lit 0), (nat_lit 4)), ((nat_lit 70), (nat_lit 0), (nat_lit 4)), ((nat_lit 71), (nat_lit 0), (nat_lit 4)), ((nat_lit 72), (nat_lit 0), (nat_lit 4)), ((nat_lit 73), (nat_lit 0), (nat_lit 4)), ((nat_lit 74), (nat_lit 0), (nat_lit 3)), ((nat_lit 75), (nat_lit 0), (nat_lit 3)), ((nat_lit 76), (nat_lit 0), (nat_lit 3)), ((nat_lit 77), (nat_lit 0), (nat_lit 3)), ((nat_lit 78), (nat_lit 0), (nat_lit 3)), ((nat_lit 79), (nat_lit 0), (nat_lit 3)), ((nat_lit 80), (nat_lit 0), (nat_lit 3)), ((nat_lit 81), (nat_lit 0), (nat_lit 3)), ((nat_lit 82), (nat_lit 2), (nat_lit 6)), ((nat_lit 82), (nat_lit 10), (nat_lit 13)), ((nat_lit 84), (nat_lit 0), (nat_lit 20)), ((nat_lit 85), (nat_lit 0), (nat_lit 20))]
set_option maxRecDepth 100000 in
theorem btX5_readLine : bTab oX5_readLine tX5_readLine := ⟨ofX5_readLine, by decide +kernel⟩
def ct_53 : aCt := (mX5_readLine, [ag_34], ([sl_54], [((82, 6), 42)]), [pon_279, pon_157], mdn_280, [], (nat_lit 4))
set_option maxRecDepth 100000 in
theorem S_53 : aSpec wd ct_53 := bChk_ok wx_ok btX5_readLine (nds := []) (fk := [172]) (rk := (1, [])) (sp := 0) (fuel := 3000) (by decide +kernel) (lk_d S_20 ml_5_90 (lk_d S_29 ml_5_87 (lk_d S_10 ml_5_70 (lk_d S_11 ml_5_80 (lk_d S_40 ml_5_111 (lk_d S_41 ml_5_111 (lk_d S_42 ml_5_111 (lk_d S_43 ml_5_111 (lk_d S_44 ml_5_111 (lk_d S_21 ml_5_76 (lk_d S_22 ml_5_76 (lk_d S_15 ml_5_76 (lk_d S_12 ml_5_76 (lk_d S_35 ml_5_122 (lk_d S_52 ml_5_133 (lk_d S_47 ml_5_100 lk_n)))))))))))))))) odX5_readLine
def ag_281 : aAg := .inl [((.ofNat (nat_lit 0)), (.ofNat (nat_lit 1000)), (nat_lit 1))]
def pon_282 : aPo := (some (.inl [((.ofNat (nat_lit 0)), (.ofNat (nat_lit 0)), (nat_lit 1))]), [], [sl_278], [((82, 6), 42)])
def pon_283 : aPo := (some (.inl [((.ofNat (nat_lit 1)), (.ofNat (nat_lit 1)), (nat_lit 1))]), [], [sl_147, sl_54], [((82, 6), 42)])
def mdn_284 : List (Nat × Nat × Nat) := [((nat_lit 42), (nat_lit 0), (nat_lit 9)), ((nat_lit 43), (nat_lit 0), (nat_lit 7)), ((nat_lit 44), (nat_lit 0), (nat_lit 7)), ((nat_lit 49), (nat_lit 0), (nat_lit 4)), ((nat_lit 50), (nat_lit 0), (nat_lit 4)), ((nat_lit 51), (nat_lit 0), (nat_lit 4)), ((nat_lit 52), (nat_lit 0), (nat_lit 4)), ((nat_lit 53), (nat_lit 0), (nat_lit 4)), ((nat_lit 54), (nat_lit 0), (nat_lit 4)), ((nat_lit 55), (nat_lit 0), (nat_lit 4)), ((nat_lit 56), (nat_lit 0), (nat_lit 4)), ((nat_lit 57), (nat_lit 0), (nat_lit 4)), ((nat_lit 58), (nat_lit 0), (nat_lit 4)), ((nat_lit 59), (nat_lit 0), (nat_lit 4)), ((nat_lit 60), (nat_lit 0), (nat_lit 4)), ((nat_lit 61), (nat_lit 0), (nat_lit 4)), ((nat_lit 62), (nat_lit 0), (nat_lit 4)), ((nat_lit 63), (nat_lit 0), (nat_lit 4)), ((nat_lit 64), (nat_lit 0), (nat_lit 4)), ((nat_lit 65), (nat_lit 0), (nat_lit 4)), ((nat_lit 66), (nat_lit 0), (nat_lit 4)), ((nat_lit 67), (nat_lit 0), (nat_lit 4)), ((nat_lit 68), (nat_lit 0), (nat_lit 4)), ((nat_lit 69), (nat_lit 0), (nat_lit 4)), ((nat_lit 70), (nat_lit 0), (nat_lit 4)), ((nat_lit 71), (nat_lit 0), (nat_lit 4)), ((nat_lit 72), (nat_lit 0), (nat_lit 4)), ((nat_lit 73), (nat_lit 0), (nat_lit 4)), ((nat_lit 74), (nat_lit 0), (nat_lit 3)), ((nat_lit 75), (nat_lit 0), (nat_lit 3)), ((nat_lit 76), (nat_lit 0), (nat_lit 3)), ((nat_lit 77), (nat_lit 0), (nat_lit 3)), ((nat_lit 78), (nat_lit 0), (nat_lit 3)), ((nat_lit 79), (nat_lit 0), (nat_lit 3)), ((nat_lit 80), (nat_lit 0), (nat_lit 3)), ((nat_lit 81), (nat_lit 0), (nat_lit 3)), ((nat_lit 82), (nat_lit 1), (nat_lit 6)), ((nat_lit 82), (nat_lit 10), (nat_lit 13)), ((nat_lit 84), (nat_lit 0), (nat_lit 20)), ((nat_lit 85), (nat_lit 0), (nat_lit 20))]
def mdn_285 : List (Nat × Nat × Nat) := [((nat_lit 82), (nat_lit 6), (nat_lit 7))]
def lcn_286 : Nat × aAg := ((nat_lit 1), .inl [((.ofNat (nat_lit 0)), (.ofNat (nat_lit 1000)), (nat_lit 1))])
def lcn_287 : Nat × aAg := ((nat_lit 2), .inr (.inl [(nat_lit 42)]))
def lcn_288 : Nat × aAg := ((nat_lit 3), .inl [((.ofNat (nat_lit 0)), (.ofNat (nat_lit 1023)), (nat_lit 1))])
set_option maxRecDepth 100000 in
theorem btX5_readPost : bTab oX5_readPost tX5_readPost := ⟨ofX5_readPost, by decide +kernel⟩
def ct_54 : aCt := (mX5_readPost, [ag_34, ag_281, ag_26], ([], []), [pon_282, pon_283], mdn_284, mdn_285, (nat_lit 5))
set_option maxRecDepth 100000 in
theorem S_54 : aSpec wd ct_54 := bChk_ok wx_ok btX5_readPost (nds := [((nat_lit 47), [lcn_40, lcn_286, lcn_287, lcn_288], [], [sl_54], [((82, 6), 42)], (1023, [(1, -1)]))]) (fk := []) (rk := (1024, [])) (sp := 140737488355328) (fuel := 3000) (by decide +kernel) (lk_d S_53 ml_5_66 (lk_d S_7 ml_5_55 (lk_d S_10 ml_5_70 (lk_d S_22 ml_5_76 (lk_d S_12 ml_5_76 lk_n))))) odX5_readPost
def ag_289 : aAg := .inr (.inl [(nat_lit 86)])
def mdn_290 : List (Nat × Nat × Nat) := [((nat_lit 86), (nat_lit 0), (nat_lit 2)), ((nat_lit 87), (nat_lit 0), (nat_lit 5)), ((nat_lit 88), (nat_lit 0), (nat_lit 5)), ((nat_lit 89), (nat_lit 0), (nat_lit 8)), ((nat_lit 90), (nat_lit 0), (nat_lit 8)), ((nat_lit 91), (nat_lit 0), (nat_lit 8))]
def lcn_291 : Nat × aAg := ((nat_lit 0), .inr (.inl [(nat_lit 86)]))
def lcn_292 : Nat × aAg := ((nat_lit 1), .inr (.inl [(nat_lit 42)]))
def lcn_293 : Nat × aAg := ((nat_lit 2), .inl [((.ofNat (nat_lit 0)), (.ofNat (nat_lit 5)), (nat_lit 1))])
def sl_294 : (Nat × Nat) × aI := (((nat_lit 86), (nat_lit 0)), [((.ofNat (nat_lit 0)), (.ofNat (nat_lit 0)), (nat_lit 1))])
def sl_295 : (Nat × Nat) × aI := (((nat_lit 86), (nat_lit 1)), [((.ofNat (nat_lit 0)), (.ofNat (nat_lit 0)), (nat_lit 1))])
def lcn_296 : Nat × aAg := ((nat_lit 2), .inl [((.ofNat (nat_lit 0)), (.ofNat (nat_lit 8)), (nat_lit 1))])
set_option maxRecDepth 100000 in
theorem btX2_begin : bTab oX2_begin tX2_begin := ⟨ofX2_begin, by decide +kernel⟩
def ct_55 : aCt := (mX2_begin, [ag_289, ag_26], ([], []), [pon_49], mdn_290, [], (nat_lit 0))
set_option maxRecDepth 100000 in
theorem S_55 : aSpec wd ct_55 := bChk_ok wx_ok btX2_begin (nds := [((nat_lit 12), [lcn_291, lcn_292, lcn_293], [], [sl_294, sl_295], [], (14, [(0, -1)])), ((nat_lit 50), [lcn_291, lcn_292, lcn_296], [], [sl_294, sl_295], [], (8, [(0, -1)]))]) (fk := []) (rk := (15, [])) (sp := 1125899906846720) (fuel := 3000) (by decide +kernel) lk_n odX2_begin
def sl_297 : (Nat × Nat) × aI := (((nat_lit 0), (nat_lit 15)), [((.ofNat (nat_lit 0)), (.ofNat (nat_lit 0)), (nat_lit 1))])
def pon_298 : aPo := (none, [], [sl_297], [((0, 3), 42), ((0, 4), 2), ((92, 0), 42), ((94, 0), 42), ((96, 0), 42)])
def mdn_299 : List (Nat × Nat × Nat) := [((nat_lit 0), (nat_lit 13), (nat_lit 14)), ((nat_lit 0), (nat_lit 15), (nat_lit 16)), ((nat_lit 86), (nat_lit 0), (nat_lit 2)), ((nat_lit 87), (nat_lit 0), (nat_lit 5)), ((nat_lit 88), (nat_lit 0), (nat_lit 5)), ((nat_lit 89), (nat_lit 0), (nat_lit 8)), ((nat_lit 90), (nat_lit 0), (nat_lit 8)), ((nat_lit 91), (nat_lit 0), (nat_lit 8))]
def mdn_300 : List (Nat × Nat × Nat) := [((nat_lit 0), (nat_lit 3), (nat_lit 4)), ((nat_lit 0), (nat_lit 4), (nat_lit 5)), ((nat_lit 92), (nat_lit 0), (nat_lit 1)), ((nat_lit 94), (nat_lit 0), (nat_lit 1)), ((nat_lit 96), (nat_lit 0), (nat_lit 1))]
set_option maxRecDepth 100000 in
theorem btX11_takeDraft : bTab oX11_takeDraft tX11_takeDraft := ⟨ofX11_takeDraft, by decide +kernel⟩
def ct_56 : aCt := (mX11_takeDraft, [ag_0], ([], [((0, 3), 2), ((0, 4), 42), ((92, 0), 2), ((94, 0), 2), ((96, 0), 2)]), [pon_298], mdn_299, mdn_300, (nat_lit 1))
set_option maxRecDepth 100000 in
theorem S_56 : aSpec wd ct_56 := bChk_ok wx_ok btX11_takeDraft (nds := []) (fk := []) (rk := (1, [])) (sp := 0) (fuel := 3000) (by decide +kernel) (lk_d S_55 ml_11_391 lk_n) odX11_takeDraft
def sl_301 : (Nat × Nat) × aI := (((nat_lit 0), (nat_lit 2)), [((.ofNat (nat_lit 0)), (.ofNat (nat_lit 0)), (nat_lit 1))])
def pon_302 : aPo := (some (.inl aTop), [], [sl_301], [])
set_option maxRecDepth 100000 in
theorem btX11_granted : bTab oX11_granted tX11_granted := ⟨ofX11_granted, by decide +kernel⟩
def ct_57 : aCt := (mX11_granted, [ag_0, ag_1], ([], []), [pon_302], mdn_25, [], (nat_lit 0))
set_option maxRecDepth 100000 in
theorem S_57 : aSpec wd ct_57 := bChk_ok wx_ok btX11_granted (nds := []) (fk := []) (rk := (1, [])) (sp := 0) (fuel := 3000) (by decide +kernel) lk_n odX11_granted
def sl_303 : (Nat × Nat) × aI := (((nat_lit 0), (nat_lit 2)), [((.ofNat (nat_lit 4)), (.ofNat (nat_lit 4)), (nat_lit 1))])
def pon_304 : aPo := (some (.inl [((.negSucc (nat_lit 0)), (.negSucc (nat_lit 0)), (nat_lit 1))]), [], [sl_303], [])
def ct_58 : aCt := (mX11_refused, [ag_0, ag_159], ([], []), [pon_304], mdn_25, [], (nat_lit 0))
set_option maxRecDepth 100000 in
theorem S_58 : aSpec wd ct_58 := bChk_ok wx_ok btX11_refused (nds := []) (fk := []) (rk := (1, [])) (sp := 0) (fuel := 3000) (by decide +kernel) lk_n odX11_refused
def sl_305 : (Nat × Nat) × aI := (((nat_lit 0), (nat_lit 1)), [((.ofNat (nat_lit 0)), (.ofNat (nat_lit 0)), (nat_lit 1))])
def pon_306 : aPo := (some (.inl aTop), [none, some [((.ofNat (nat_lit 0)), (.ofNat (nat_lit 1000)), (nat_lit 1))]], [sl_305, sl_301, sl_297, sl_147, sl_54], [((0, 3), 42), ((0, 4), 2), ((82, 6), 42), ((92, 0), 42), ((94, 0), 42), ((96, 0), 42)])
def pon_307 : aPo := (some (.inl [((.negSucc (nat_lit 0)), (.negSucc (nat_lit 0)), (nat_lit 1))]), [none, some [((.ofNat (nat_lit 0)), (.ofNat (nat_lit 1000)), (nat_lit 1))]], [sl_305, sl_303, sl_278], [((0, 3), 2), ((0, 4), 42), ((82, 6), 42), ((92, 0), 2), ((94, 0), 2), ((96, 0), 2)])
def pon_308 : aPo := (some (.inl [((.negSucc (nat_lit 0)), (.negSucc (nat_lit 0)), (nat_lit 1))]), [none, some [((.negSucc (nat_lit 2147483647)), (.negSucc (nat_lit 0)), (nat_lit 1)), ((.ofNat (nat_lit 1)), (.ofNat (nat_lit 2147483647)), (nat_lit 1))]], [sl_23], [((0, 3), 2), ((0, 4), 42), ((92, 0), 2), ((94, 0), 2), ((96, 0), 2)])
def mdn_309 : List (Nat × Nat × Nat) := [((nat_lit 0), (nat_lit 1), (nat_lit 3)), ((nat_lit 0), (nat_lit 13), (nat_lit 14)), ((nat_lit 0), (nat_lit 15), (nat_lit 16)), ((nat_lit 42), (nat_lit 0), (nat_lit 9)), ((nat_lit 43), (nat_lit 0), (nat_lit 7)), ((nat_lit 44), (nat_lit 0), (nat_lit 7)), ((nat_lit 49), (nat_lit 0), (nat_lit 4)), ((nat_lit 50), (nat_lit 0), (nat_lit 4)), ((nat_lit 51), (nat_lit 0), (nat_lit 4)), ((nat_lit 52), (nat_lit 0), (nat_lit 4)), ((nat_lit 53), (nat_lit 0), (nat_lit 4)), ((nat_lit 54), (nat_lit 0), (nat_lit 4)), ((nat_lit 55), (nat_lit 0), (nat_lit 4)), ((nat_lit 56), (nat_lit 0), (nat_lit 4)), ((nat_lit 57), (nat_lit 0), (nat_lit 4)), ((nat_lit 58), (nat_lit 0), (nat_lit 4)), ((nat_lit 59), (nat_lit 0), (nat_lit 4)), ((nat_lit 60), (nat_lit 0), (nat_lit 4)), ((nat_lit 61), (nat_lit 0), (nat_lit 4)), ((nat_lit 62), (nat_lit 0), (nat_lit 4)), ((nat_lit 63), (nat_lit 0), (nat_lit 4)), ((nat_lit 64), (nat_lit 0), (nat_lit 4)), ((nat_lit 65), (nat_lit 0), (nat_lit 4)), ((nat_lit 66), (nat_lit 0), (nat_lit 4)), ((nat_lit 67), (nat_lit 0), (nat_lit 4)), ((nat_lit 68), (nat_lit 0), (nat_lit 4)), ((nat_lit 69), (nat_lit 0), (nat_lit 4)), ((nat_lit 70), (nat_lit 0), (nat_lit 4)), ((nat_lit 71), (nat_lit 0), (nat_lit 4)), ((nat_lit 72), (nat_lit 0), (nat_lit 4)), ((nat_lit 73), (nat_lit 0), (nat_lit 4)), ((nat_lit 74), (nat_lit 0), (nat_lit 3)), ((nat_lit 75), (nat_lit 0), (nat_lit 3)), ((nat_lit 76), (nat_lit 0), (nat_lit 3)), ((nat_lit 77), (nat_lit 0), (nat_lit 3)), ((nat_lit 78), (nat_lit 0), (nat_lit 3)), ((nat_lit 79), (nat_lit 0), (nat_lit 3)), ((nat_lit 80), (nat_lit 0), (nat_lit 3)), ((nat_lit 81), (nat_lit 0), (nat_lit 3)), ((nat_lit 82), (nat_lit 1), (nat_lit 6)), ((nat_lit 82), (nat_lit 10), (nat_lit 13)), ((nat_lit 84), (nat_lit 0), (nat_lit 20)), ((nat_lit 85), (nat_lit 0), (nat_lit 20)), ((nat_lit 86), (nat_lit 0), (nat_lit 2)), ((nat_lit 87), (nat_lit 0), (nat_lit 5)), ((nat_lit 88), (nat_lit 0), (nat_lit 5)), ((nat_lit 89), (nat_lit 0), (nat_lit 8)), ((nat_lit 90), (nat_lit 0), (nat_lit 8)), ((nat_lit 91), (nat_lit 0), (nat_lit 8))]
def mdn_310 : List (Nat × Nat × Nat) := [((nat_lit 0), (nat_lit 3), (nat_lit 4)), ((nat_lit 0), (nat_lit 4), (nat_lit 5)), ((nat_lit 82), (nat_lit 6), (nat_lit 7)), ((nat_lit 92), (nat_lit 0), (nat_lit 1)), ((nat_lit 94), (nat_lit 0), (nat_lit 1)), ((nat_lit 96), (nat_lit 0), (nat_lit 1))]
set_option maxRecDepth 100000 in
theorem btX11_post : bTab oX11_post tX11_post := ⟨ofX11_post, by decide +kernel⟩
def ct_59 : aCt := (mX11_post, [ag_0, ag_1], ([], [((0, 3), 2), ((0, 4), 42), ((92, 0), 2), ((94, 0), 2), ((96, 0), 2)]), [pon_306, pon_307, pon_308], mdn_309, mdn_310, (nat_lit 6))
set_option maxRecDepth 100000 in
theorem S_59 : aSpec wd ct_59 := bChk_ok wx_ok btX11_post (nds := []) (fk := []) (rk := (1, [])) (sp := 0) (fuel := 3000) (by decide +kernel) (lk_d S_56 ml_11_106 (lk_d S_6 ml_11_98 (lk_d S_58 ml_11_98 (lk_d S_54 ml_11_102 (lk_d S_57 ml_11_112 lk_n))))) odX11_post
set_option maxRecDepth 100000 in
theorem btX11_fault : bTab oX11_fault tX11_fault := ⟨ofX11_fault, by decide +kernel⟩
def ct_60 : aCt := (mX11_fault, [ag_0], ([], []), [pon_130], [], [], (nat_lit 0))
set_option maxRecDepth 100000 in
theorem S_60 : aSpec wd ct_60 := bChk_ok wx_ok btX11_fault (nds := []) (fk := []) (rk := (1, [])) (sp := 0) (fuel := 3000) (by decide +kernel) lk_n odX11_fault
def pon_311 : aPo := (some (.inl aTop), [], [sl_303], [])
def sl_312 : (Nat × Nat) × aI := (((nat_lit 0), (nat_lit 2)), [((.ofNat (nat_lit 0)), (.ofNat (nat_lit 3)), (nat_lit 1)), ((.ofNat (nat_lit 5)), (.ofNat (nat_lit 6)), (nat_lit 1))])
def pon_313 : aPo := (some (.inl [((.negSucc (nat_lit 0)), (.negSucc (nat_lit 0)), (nat_lit 1))]), [], [sl_312], [])
set_option maxRecDepth 100000 in
theorem btX11_where : bTab oX11_where tX11_where := ⟨ofX11_where, by decide +kernel⟩
def ct_61 : aCt := (mX11_where, [ag_0], ([], []), [pon_311, pon_313], [], [], (nat_lit 0))
set_option maxRecDepth 100000 in
theorem S_61 : aSpec wd ct_61 := bChk_ok wx_ok btX11_where (nds := []) (fk := []) (rk := (1, [])) (sp := 0) (fuel := 3000) (by decide +kernel) lk_n odX11_where
def sl_314 : (Nat × Nat) × aI := (((nat_lit 2), (nat_lit 6)), [((.ofNat (nat_lit 0)), (.ofNat (nat_lit 0)), (nat_lit 1))])
def pon_315 : aPo := (some (.inl [((.ofNat (nat_lit 0)), (.ofNat (nat_lit 0)), (nat_lit 1))]), [none, some [((.ofNat (nat_lit 0)), (.ofNat (nat_lit 2147483647)), (nat_lit 1))]], [sl_314], [])
def sl_316 : (Nat × Nat) × aI := (((nat_lit 2), (nat_lit 6)), [((.ofNat (nat_lit 1)), (.ofNat (nat_lit 1)), (nat_lit 1))])
def pon_317 : aPo := (some (.inl [((.ofNat (nat_lit 0)), (.ofNat (nat_lit 0)), (nat_lit 1))]), [none, some [((.ofNat (nat_lit 1)), (.ofNat (nat_lit 2147483647)), (nat_lit 1))]], [sl_316], [])
def sl_318 : (Nat × Nat) × aI := (((nat_lit 2), (nat_lit 6)), [((.ofNat (nat_lit 2)), (.ofNat (nat_lit 2)), (nat_lit 1))])
def pon_319 : aPo := (some (.inl [((.ofNat (nat_lit 0)), (.ofNat (nat_lit 0)), (nat_lit 1))]), [none, some [((.ofNat (nat_lit 2)), (.ofNat (nat_lit 2147483647)), (nat_lit 1))]], [sl_318], [])
def sl_320 : (Nat × Nat) × aI := (((nat_lit 2), (nat_lit 6)), [((.ofNat (nat_lit 3)), (.ofNat (nat_lit 3)), (nat_lit 1))])
def pon_321 : aPo := (some (.inl [((.ofNat (nat_lit 0)), (.ofNat (nat_lit 0)), (nat_lit 1))]), [none, some [((.ofNat (nat_lit 3)), (.ofNat (nat_lit 2147483647)), (nat_lit 1))]], [sl_320], [])
def sl_322 : (Nat × Nat) × aI := (((nat_lit 2), (nat_lit 6)), [((.ofNat (nat_lit 4)), (.ofNat (nat_lit 4)), (nat_lit 1))])
def pon_323 : aPo := (some (.inl [((.ofNat (nat_lit 0)), (.ofNat (nat_lit 0)), (nat_lit 1))]), [none, some [((.ofNat (nat_lit 4)), (.ofNat (nat_lit 2147483647)), (nat_lit 1))]], [sl_322], [])
def sl_324 : (Nat × Nat) × aI := (((nat_lit 2), (nat_lit 6)), [((.ofNat (nat_lit 5)), (.ofNat (nat_lit 5)), (nat_lit 1))])
def pon_325 : aPo := (some (.inl [((.ofNat (nat_lit 0)), (.ofNat (nat_lit 0)), (nat_lit 1))]), [none, some [((.ofNat (nat_lit 5)), (.ofNat (nat_lit 2147483647)), (nat_lit 1))]], [sl_324], [])
def pon_326 : aPo := (some (.inl [((.ofNat (nat_lit 0)), (.ofNat (nat_lit 0)), (nat_lit 1))]), [none, some [((.negSucc (nat_lit 2147483647)), (.negSucc (nat_lit 0)), (nat_lit 1))]], [], [])
def pon_327 : aPo := (some (.inl [((.ofNat (nat_lit 1)), (.ofNat (nat_lit 1)), (nat_lit 1))]), [none, some [((.ofNat (nat_lit 0)), (.ofNat (nat_lit 0)), (nat_lit 1))]], [sl_316], [])
def pon_328 : aPo := (some (.inl [((.ofNat (nat_lit 1)), (.ofNat (nat_lit 1)), (nat_lit 1))]), [none, some [((.ofNat (nat_lit 0)), (.ofNat (nat_lit 1)), (nat_lit 1))]], [sl_318], [])
def pon_329 : aPo := (some (.inl [((.ofNat (nat_lit 1)), (.ofNat (nat_lit 1)), (nat_lit 1))]), [none, some [((.ofNat (nat_lit 0)), (.ofNat (nat_lit 2)), (nat_lit 1))]], [sl_320], [])
def pon_330 : aPo := (some (.inl [((.ofNat (nat_lit 1)), (.ofNat (nat_lit 1)), (nat_lit 1))]), [none, some [((.ofNat (nat_lit 0)), (.ofNat (nat_lit 3)), (nat_lit 1))]], [sl_322], [])
def pon_331 : aPo := (some (.inl [((.ofNat (nat_lit 1)), (.ofNat (nat_lit 1)), (nat_lit 1))]), [none, some [((.ofNat (nat_lit 0)), (.ofNat (nat_lit 4)), (nat_lit 1))]], [sl_324], [])
set_option maxRecDepth 100000 in
theorem btX11_isWhale : bTab oX11_isWhale tX11_isWhale := ⟨ofX11_isWhale, by decide +kernel⟩
def ct_62 : aCt := (mX11_isWhale, [ag_0, ag_1], ([], [((0, 3), 2)]), [pon_315, pon_317, pon_319, pon_321, pon_323, pon_325, pon_326, pon_327, pon_328, pon_329, pon_330, pon_331], [], [], (nat_lit 0))
set_option maxRecDepth 100000 in
theorem S_62 : aSpec wd ct_62 := bChk_ok wx_ok btX11_isWhale (nds := []) (fk := [12]) (rk := (1, [])) (sp := 0) (fuel := 3000) (by decide +kernel) lk_n odX11_isWhale
def sl_332 : (Nat × Nat) × aI := (((nat_lit 0), (nat_lit 2)), [((.ofNat (nat_lit 1)), (.ofNat (nat_lit 1)), (nat_lit 1))])
def pon_333 : aPo := (some (.inl [((.negSucc (nat_lit 0)), (.negSucc (nat_lit 0)), (nat_lit 1))]), [], [sl_332], [])
def ct_63 : aCt := (mX11_refused, [ag_0, ag_53], ([], []), [pon_333], mdn_25, [], (nat_lit 0))
set_option maxRecDepth 100000 in
theorem S_63 : aSpec wd ct_63 := bChk_ok wx_ok btX11_refused (nds := []) (fk := []) (rk := (1, [])) (sp := 0) (fuel := 3000) (by decide +kernel) lk_n odX11_refused
def sl_334 : (Nat × Nat) × aI := (((nat_lit 2), (nat_lit 6)), [((.ofNat (nat_lit 1)), (.ofNat (nat_lit 5)), (nat_lit 1))])
def pon_335 : aPo := (some (.inl aTop), [none, some [((.ofNat (nat_lit 0)), (.ofNat (nat_lit 4)), (nat_lit 1))], some [((.ofNat (nat_lit 0)), (.ofNat (nat_lit 4)), (nat_lit 1))]], [sl_301, sl_334], [])
def pon_336 : aPo := (some (.inl [((.negSucc (nat_lit 0)), (.negSucc (nat_lit 0)), (nat_lit 1))]), [none, some aTop, none], [sl_332], [])
set_option maxRecDepth 100000 in
theorem btX11_whale : bTab oX11_whale tX11_whale := ⟨ofX11_whale, by decide +kernel⟩
def ct_64 : aCt := (mX11_whale, [ag_0, ag_1, ag_1], ([], [((0, 3), 2)]), [pon_335, pon_336], mdn_25, [], (nat_lit 1))
set_option maxRecDepth 100000 in
theorem S_64 : aSpec wd ct_64 := bChk_ok wx_ok btX11_whale (nds := []) (fk := []) (rk := (1, [])) (sp := 0) (fuel := 3000) (by decide +kernel) (lk_d S_63 ml_11_98 (lk_d S_62 ml_11_121 (lk_d S_57 ml_11_112 lk_n))) odX11_whale
def pon_337 : aPo := (some (.inl [((.ofNat (nat_lit 0)), (.ofNat (nat_lit 0)), (nat_lit 1))]), [none, some aTop], [], [])
def sl_338 : (Nat × Nat) × aI := (((nat_lit 2), (nat_lit 7)), [((.ofNat (nat_lit 1)), (.ofNat (nat_lit 8)), (nat_lit 1))])
def pon_339 : aPo := (some (.inl [((.ofNat (nat_lit 1)), (.ofNat (nat_lit 1)), (nat_lit 1))]), [none, some [((.ofNat (nat_lit 0)), (.ofNat (nat_lit 7)), (nat_lit 1))]], [sl_338], [])
set_option maxRecDepth 100000 in
theorem btX11_isBox : bTab oX11_isBox tX11_isBox := ⟨ofX11_isBox, by decide +kernel⟩
def ct_65 : aCt := (mX11_isBox, [ag_0, ag_1], ([], [((0, 3), 2)]), [pon_337, pon_339], [], [], (nat_lit 0))
set_option maxRecDepth 100000 in
theorem S_65 : aSpec wd ct_65 := bChk_ok wx_ok btX11_isBox (nds := []) (fk := []) (rk := (1, [])) (sp := 0) (fuel := 3000) (by decide +kernel) lk_n odX11_isBox
def pon_340 : aPo := (some (.inl aTop), [none, some [((.ofNat (nat_lit 0)), (.ofNat (nat_lit 7)), (nat_lit 1))], some [((.ofNat (nat_lit 0)), (.ofNat (nat_lit 5)), (nat_lit 1))]], [sl_301, sl_338], [])
set_option maxRecDepth 100000 in
theorem btX11_box : bTab oX11_box tX11_box := ⟨ofX11_box, by decide +kernel⟩
def ct_66 : aCt := (mX11_box, [ag_0, ag_1, ag_1], ([], [((0, 3), 2)]), [pon_340, pon_333], mdn_25, [], (nat_lit 1))
set_option maxRecDepth 100000 in
theorem S_66 : aSpec wd ct_66 := bChk_ok wx_ok btX11_box (nds := []) (fk := []) (rk := (1, [])) (sp := 0) (fuel := 3000) (by decide +kernel) (lk_d S_63 ml_11_98 (lk_d S_65 ml_11_147 (lk_d S_57 ml_11_112 lk_n))) odX11_box
def sl_341 : (Nat × Nat) × aI := (((nat_lit 2), (nat_lit 4)), [((.ofNat (nat_lit 1)), (.ofNat (nat_lit 7)), (nat_lit 1))])
def pon_342 : aPo := (some (.inl [((.ofNat (nat_lit 1)), (.ofNat (nat_lit 1)), (nat_lit 1))]), [none, some [((.ofNat (nat_lit 0)), (.ofNat (nat_lit 6)), (nat_lit 1))]], [sl_341], [])
set_option maxRecDepth 100000 in
theorem btX11_isIsland : bTab oX11_isIsland tX11_isIsland := ⟨ofX11_isIsland, by decide +kernel⟩
def ct_67 : aCt := (mX11_isIsland, [ag_0, ag_1], ([], [((0, 3), 2)]), [pon_337, pon_342], [], [], (nat_lit 0))
set_option maxRecDepth 100000 in
theorem S_67 : aSpec wd ct_67 := bChk_ok wx_ok btX11_isIsland (nds := []) (fk := []) (rk := (1, [])) (sp := 0) (fuel := 3000) (by decide +kernel) lk_n odX11_isIsland
def pon_343 : aPo := (some (.inl aTop), [none, some [((.ofNat (nat_lit 0)), (.ofNat (nat_lit 6)), (nat_lit 1))]], [sl_301, sl_341], [])
set_option maxRecDepth 100000 in
theorem btX11_length : bTab oX11_length tX11_length := ⟨ofX11_length, by decide +kernel⟩
def ct_68 : aCt := (mX11_length, [ag_0, ag_1], ([], [((0, 3), 2)]), [pon_343, pon_333], mdn_25, [], (nat_lit 1))
set_option maxRecDepth 100000 in
theorem S_68 : aSpec wd ct_68 := bChk_ok wx_ok btX11_length (nds := []) (fk := []) (rk := (1, [])) (sp := 0) (fuel := 3000) (by decide +kernel) (lk_d S_63 ml_11_98 (lk_d S_67 ml_11_174 (lk_d S_57 ml_11_112 lk_n))) odX11_length
def ag_344 : aAg := .inr (.inl [(nat_lit 92)])
def ag_345 : aAg := .inl [((.ofNat (nat_lit 0)), (.ofNat (nat_lit 9999)), (nat_lit 1))]
def pon_346 : aPo := (some (.inl [((.ofNat (nat_lit 0)), (.ofNat (nat_lit 3)), (nat_lit 1))]), [], [], [])
set_option maxRecDepth 100000 in
theorem btX7_fallIn : bTab oX7_fallIn tX7_fallIn := ⟨ofX7_fallIn, by decide +kernel⟩
def ct_69 : aCt := (mX7_fallIn, [ag_344, ag_345], ([], [((92, 0), 2)]), [pon_346, pon_37], [], [], (nat_lit 0))
set_option maxRecDepth 100000 in
theorem S_69 : aSpec wd ct_69 := bChk_ok wx_ok btX7_fallIn (nds := []) (fk := []) (rk := (1, [])) (sp := 0) (fuel := 3000) (by decide +kernel) lk_n odX7_fallIn
def ag_347 : aAg := .inl [((.ofNat (nat_lit 1)), (.ofNat (nat_lit 1000)), (nat_lit 1))]
def ag_348 : aAg := .inl [((.ofNat (nat_lit 0)), (.ofNat (nat_lit 999)), (nat_lit 1))]
set_option maxRecDepth 100000 in
theorem btX11_noteAt : bTab oX11_noteAt tX11_noteAt := ⟨ofX11_noteAt, by decide +kernel⟩
def ct_70 : aCt := (mX11_noteAt, [ag_1, ag_347, ag_348], ([], []), [pon_346], [], [], (nat_lit 0))
set_option maxRecDepth 100000 in
theorem S_70 : aSpec wd ct_70 := bChk_ok wx_ok btX11_noteAt (nds := []) (fk := []) (rk := (1, [])) (sp := 0) (fuel := 3000) (by decide +kernel) lk_n odX11_noteAt
def lcn_349 : Nat × aAg := ((nat_lit 0), .inr (.inl [(nat_lit 92)]))
def lcn_350 : Nat × aAg := ((nat_lit 3), .inl [((.ofNat (nat_lit 1)), (.ofNat (nat_lit 4)), (nat_lit 1))])
def lcn_351 : Nat × aAg := ((nat_lit 4), .inl aTop)
def lcn_352 : Nat × aAg := ((nat_lit 5), .inl [((.ofNat (nat_lit 0)), (.ofNat (nat_lit 1000)), (nat_lit 1))])
def sl_353 : (Nat × Nat) × aI := (((nat_lit 2), (nat_lit 0)), [((.ofNat (nat_lit 1)), (.ofNat (nat_lit 4)), (nat_lit 1))])
set_option maxRecDepth 100000 in
theorem btX7_raised : bTab oX7_raised tX7_raised := ⟨ofX7_raised, by decide +kernel⟩
def ct_71 : aCt := (mX7_raised, [ag_344, ag_1, ag_137, ag_217], ([], [((92, 0), 2)]), [pon_130], [], [], (nat_lit 1))
set_option maxRecDepth 100000 in
theorem S_71 : aSpec wd ct_71 := bChk_ok wx_ok btX7_raised (nds := [((nat_lit 22), [lcn_349, lcn_271, lcn_143, lcn_350, lcn_351, lcn_352], [], [sl_353], [((92, 0), 2)], (1000, [(4, -1)]))]) (fk := []) (rk := (1001, [])) (sp := 4194304) (fuel := 3000) (by decide +kernel) (lk_d S_70 ml_7_40 lk_n) odX7_raised
def ag_354 : aAg := .inl [((.negSucc (nat_lit 2)), (.ofNat (nat_lit 4)), (nat_lit 1))]
def lcn_355 : Nat × aAg := ((nat_lit 3), .inl [((.negSucc (nat_lit 2)), (.negSucc (nat_lit 0)), (nat_lit 1)), ((.ofNat (nat_lit 1)), (.ofNat (nat_lit 4)), (nat_lit 1))])
def ct_72 : aCt := (mX7_raised, [ag_344, ag_1, ag_137, ag_354], ([], [((92, 0), 2)]), [pon_130], [], [], (nat_lit 1))
set_option maxRecDepth 100000 in
theorem S_72 : aSpec wd ct_72 := bChk_ok wx_ok btX7_raised (nds := [((nat_lit 22), [lcn_349, lcn_271, lcn_143, lcn_355, lcn_351, lcn_352], [], [sl_353], [((92, 0), 2)], (1000, [(4, -1)]))]) (fk := []) (rk := (1001, [])) (sp := 4194304) (fuel := 3000) (by decide +kernel) (lk_d S_70 ml_7_40 lk_n) odX7_raised
set_option maxRecDepth 100000 in
theorem btX7_songIn : bTab oX7_songIn tX7_songIn := ⟨ofX7_songIn, by decide +kernel⟩
def ct_73 : aCt := (mX7_songIn, [ag_344, ag_125, ag_345], ([], [((92, 0), 2)]), [pon_130], [], [], (nat_lit 2))
set_option maxRecDepth 100000 in
theorem S_73 : aSpec wd ct_73 := bChk_ok wx_ok btX7_songIn (nds := []) (fk := []) (rk := (1, [])) (sp := 0) (fuel := 3000) (by decide +kernel) (lk_d S_69 ml_7_50 (lk_d S_71 ml_7_54 (lk_d S_72 ml_7_54 lk_n))) odX7_songIn
def ct_74 : aCt := (mX11_noteAt, [ag_1, ag_137, ag_348], ([], []), [pon_346], [], [], (nat_lit 0))
set_option maxRecDepth 100000 in
theorem S_74 : aSpec wd ct_74 := bChk_ok wx_ok btX11_noteAt (nds := []) (fk := []) (rk := (1, [])) (sp := 0) (fuel := 3000) (by decide +kernel) lk_n odX11_noteAt
def pon_356 : aPo := (some (.inl aTop), [none, some [((.ofNat (nat_lit 0)), (.ofNat (nat_lit 6)), (nat_lit 1))], some [((.ofNat (nat_lit 0)), (.ofNat (nat_lit 999)), (nat_lit 1))]], [sl_301, sl_341], [])
set_option maxRecDepth 100000 in
theorem btX11_note : bTab oX11_note tX11_note := ⟨ofX11_note, by decide +kernel⟩
def ct_75 : aCt := (mX11_note, [ag_0, ag_1, ag_1], ([], [((0, 3), 2), ((92, 0), 2)]), [pon_356, pon_333], mdn_25, [], (nat_lit 3))
set_option maxRecDepth 100000 in
theorem S_75 : aSpec wd ct_75 := bChk_ok wx_ok btX11_note (nds := []) (fk := []) (rk := (1, [])) (sp := 0) (fuel := 3000) (by decide +kernel) (lk_d S_63 ml_11_98 (lk_d S_73 ml_11_183 (lk_d S_67 ml_11_174 (lk_d S_57 ml_11_112 (lk_d S_74 ml_11_187 lk_n))))) odX11_note
def ag_357 : aAg := .inr (.inl [(nat_lit 2)])
def pon_358 : aPo := (some (.inl [((.negSucc (nat_lit 999)), (.ofNat (nat_lit 1000)), (nat_lit 1))]), [], [], [])
set_option maxRecDepth 100000 in
theorem btX4_boxLength : bTab oX4_boxLength tX4_boxLength := ⟨ofX4_boxLength, by decide +kernel⟩
def ct_76 : aCt := (mX4_boxLength, [ag_357, ag_190], ([], []), [pon_358], [], [], (nat_lit 0))
set_option maxRecDepth 100000 in
theorem S_76 : aSpec wd ct_76 := bChk_ok wx_ok btX4_boxLength (nds := []) (fk := []) (rk := (1, [])) (sp := 0) (fuel := 3000) (by decide +kernel) lk_n odX4_boxLength
def pon_359 : aPo := (some (.inl [((.ofNat (nat_lit 1)), (.ofNat (nat_lit 1)), (nat_lit 1))]), [none, some [((.ofNat (nat_lit 0)), (.ofNat (nat_lit 7)), (nat_lit 1))], some [((.ofNat (nat_lit 0)), (.ofNat (nat_lit 999)), (nat_lit 1))]], [sl_338], [])
set_option maxRecDepth 100000 in
theorem btX11_isNoteOfBox : bTab oX11_isNoteOfBox tX11_isNoteOfBox := ⟨ofX11_isNoteOfBox, by decide +kernel⟩
def ct_77 : aCt := (mX11_isNoteOfBox, [ag_0, ag_1, ag_1], ([], [((0, 3), 2)]), [pon_37, pon_359], [], [], (nat_lit 1))
set_option maxRecDepth 100000 in
theorem S_77 : aSpec wd ct_77 := bChk_ok wx_ok btX11_isNoteOfBox (nds := []) (fk := []) (rk := (1, [])) (sp := 0) (fuel := 3000) (by decide +kernel) (lk_d S_76 ml_11_198 (lk_d S_65 ml_11_147 lk_n)) odX11_isNoteOfBox
def pon_360 : aPo := (some (.inl aTop), [none, some [((.ofNat (nat_lit 0)), (.ofNat (nat_lit 7)), (nat_lit 1))], some [((.ofNat (nat_lit 0)), (.ofNat (nat_lit 999)), (nat_lit 1))]], [sl_301, sl_338], [])
set_option maxRecDepth 100000 in
theorem btX11_sung : bTab oX11_sung tX11_sung := ⟨ofX11_sung, by decide +kernel⟩
def ct_78 : aCt := (mX11_sung, [ag_0, ag_1, ag_1], ([], [((0, 3), 2)]), [pon_360, pon_333], mdn_25, [], (nat_lit 2))
set_option maxRecDepth 100000 in
theorem S_78 : aSpec wd ct_78 := bChk_ok wx_ok btX11_sung (nds := []) (fk := []) (rk := (1, [])) (sp := 0) (fuel := 3000) (by decide +kernel) (lk_d S_63 ml_11_98 (lk_d S_76 ml_11_198 (lk_d S_57 ml_11_112 (lk_d S_74 ml_11_187 (lk_d S_77 ml_11_191 lk_n))))) odX11_sung
def ct_79 : aCt := (mX7_raised, [ag_344, ag_1, ag_137, ag_170], ([], [((92, 0), 2)]), [pon_130], [], [], (nat_lit 0))
set_option maxRecDepth 100000 in
theorem S_79 : aSpec wd ct_79 := bChk_ok wx_ok btX7_raised (nds := []) (fk := []) (rk := (1, [])) (sp := 0) (fuel := 3000) (by decide +kernel) lk_n odX7_raised
def ag_361 : aAg := .inl [((.ofNat (nat_lit 0)), (.ofNat (nat_lit 3)), (nat_lit 1))]
def lcn_362 : Nat × aAg := ((nat_lit 3), .inl [((.ofNat (nat_lit 1)), (.ofNat (nat_lit 3)), (nat_lit 1))])
def ct_80 : aCt := (mX7_raised, [ag_344, ag_1, ag_137, ag_361], ([], [((92, 0), 2)]), [pon_130], [], [], (nat_lit 1))
set_option maxRecDepth 100000 in
theorem S_80 : aSpec wd ct_80 := bChk_ok wx_ok btX7_raised (nds := [((nat_lit 22), [lcn_349, lcn_271, lcn_143, lcn_362, lcn_351, lcn_352], [], [sl_353], [((92, 0), 2)], (1000, [(4, -1)]))]) (fk := []) (rk := (1001, [])) (sp := 4194304) (fuel := 3000) (by decide +kernel) (lk_d S_70 ml_7_40 lk_n) odX7_raised
def ag_363 : aAg := .inl [((.ofNat (nat_lit 0)), (.ofNat (nat_lit 1365)), (nat_lit 1))]
def pon_364 : aPo := (some (.inl [((.ofNat (nat_lit 0)), (.ofNat (nat_lit 63)), (nat_lit 1))]), [], [], [])
set_option maxRecDepth 100000 in
theorem btJ6_bitCount_0f7a4 : bTab oJ6_bitCount_0f7a4 tJ6_bitCount_0f7a4 := ⟨ofJ6_bitCount_0f7a4, by decide +kernel⟩
def ct_81 : aCt := (mJ6_bitCount_0f7a4, [ag_363], ([], []), [pon_364], [], [], (nat_lit 0))
set_option maxRecDepth 100000 in
theorem S_81 : aSpec wd ct_81 := bChk_ok wx_ok btJ6_bitCount_0f7a4 (nds := []) (fk := []) (rk := (1, [])) (sp := 0) (fuel := 3000) (by decide +kernel) lk_n odJ6_bitCount_0f7a4
set_option maxRecDepth 100000 in
theorem btX11_unlikeNotes : bTab oX11_unlikeNotes tX11_unlikeNotes := ⟨ofX11_unlikeNotes, by decide +kernel⟩
def ct_82 : aCt := (mX11_unlikeNotes, [ag_1, ag_1], ([], []), [pon_364], [], [], (nat_lit 1))
set_option maxRecDepth 100000 in
theorem S_82 : aSpec wd ct_82 := bChk_ok wx_ok btX11_unlikeNotes (nds := []) (fk := []) (rk := (1, [])) (sp := 0) (fuel := 3000) (by decide +kernel) (lk_d S_81 ml_11_411 lk_n) odX11_unlikeNotes
def pon_365 : aPo := (some (.inl [((.negSucc (nat_lit 1)), (.negSucc (nat_lit 1)), (nat_lit 1)), ((.ofNat (nat_lit 0)), (.ofNat (nat_lit 6)), (nat_lit 1))]), [], [], [])
def mdn_366 : List (Nat × Nat × Nat) := [((nat_lit 92), (nat_lit 2), (nat_lit 4))]
def lcn_367 : Nat × aAg := ((nat_lit 3), .inl [((.ofNat (nat_lit 0)), (.ofNat (nat_lit 9999)), (nat_lit 1))])
def lcn_368 : Nat × aAg := ((nat_lit 5), .inl [((.negSucc (nat_lit 1)), (.negSucc (nat_lit 1)), (nat_lit 1)), ((.ofNat (nat_lit 0)), (.ofNat (nat_lit 6)), (nat_lit 1))])
def lcn_369 : Nat × aAg := ((nat_lit 6), .inl [((.ofNat (nat_lit 0)), (.ofNat (nat_lit 7)), (nat_lit 1))])
def sl_370 : (Nat × Nat) × aI := (((nat_lit 92), (nat_lit 2)), [((.negSucc (nat_lit 998)), (.ofNat (nat_lit 1001)), (nat_lit 1))])
set_option maxRecDepth 100000 in
theorem btX7_hearerOf : bTab oX7_hearerOf tX7_hearerOf := ⟨ofX7_hearerOf, by decide +kernel⟩
def ct_83 : aCt := (mX7_hearerOf, [ag_344, ag_1, ag_137, ag_345], ([], [((92, 0), 2)]), [pon_365, pon_52], mdn_366, [], (nat_lit 2))
set_option maxRecDepth 100000 in
theorem S_83 : aSpec wd ct_83 := bChk_ok wx_ok btX7_hearerOf (nds := [((nat_lit 32), [lcn_349, lcn_271, lcn_143, lcn_367, lcn_351, lcn_368, lcn_369], [], [sl_370], [((92, 0), 2)], (7, [(5, -1)]))]) (fk := []) (rk := (8, [])) (sp := 4294967296) (fuel := 3000) (by decide +kernel) (lk_d S_69 ml_7_50 (lk_d S_79 ml_7_54 (lk_d S_80 ml_7_54 (lk_d S_82 ml_7_60 lk_n)))) odX7_hearerOf
set_option maxRecDepth 100000 in
theorem btX11_hearerIn : bTab oX11_hearerIn tX11_hearerIn := ⟨ofX11_hearerIn, by decide +kernel⟩
def ct_84 : aCt := (mX11_hearerIn, [ag_0, ag_190, ag_345], ([], [((0, 3), 2), ((92, 0), 2)]), [pon_365, pon_52], mdn_366, [], (nat_lit 3))
set_option maxRecDepth 100000 in
theorem S_84 : aSpec wd ct_84 := bChk_ok wx_ok btX11_hearerIn (nds := []) (fk := []) (rk := (1, [])) (sp := 0) (fuel := 3000) (by decide +kernel) (lk_d S_76 ml_11_198 (lk_d S_83 ml_11_277 lk_n)) odX11_hearerIn
def pon_371 : aPo := (some (.inl aTop), [none, some [((.ofNat (nat_lit 0)), (.ofNat (nat_lit 7)), (nat_lit 1))]], [sl_301, sl_338], [])
def mdn_372 : List (Nat × Nat × Nat) := [((nat_lit 0), (nat_lit 2), (nat_lit 3)), ((nat_lit 92), (nat_lit 2), (nat_lit 4))]
set_option maxRecDepth 100000 in
theorem btX11_heard : bTab oX11_heard tX11_heard := ⟨ofX11_heard, by decide +kernel⟩
def ct_85 : aCt := (mX11_heard, [ag_0, ag_1], ([], [((0, 3), 2), ((92, 0), 2)]), [pon_371, pon_333], mdn_372, [], (nat_lit 4))
set_option maxRecDepth 100000 in
theorem S_85 : aSpec wd ct_85 := bChk_ok wx_ok btX11_heard (nds := []) (fk := []) (rk := (1, [])) (sp := 0) (fuel := 3000) (by decide +kernel) (lk_d S_63 ml_11_98 (lk_d S_84 ml_11_201 (lk_d S_65 ml_11_147 (lk_d S_57 ml_11_112 lk_n)))) odX11_heard
def pon_373 : aPo := (some (.inl [((.ofNat (nat_lit 0)), (.ofNat (nat_lit 0)), (nat_lit 1))]), [none, some [((.negSucc (nat_lit 2147483647)), (.negSucc (nat_lit 0)), (nat_lit 1)), ((.ofNat (nat_lit 1)), (.ofNat (nat_lit 2147483647)), (nat_lit 1))]], [], [])
def pon_374 : aPo := (some (.inl [((.ofNat (nat_lit 1)), (.ofNat (nat_lit 1)), (nat_lit 1))]), [none, some [((.ofNat (nat_lit 0)), (.ofNat (nat_lit 6)), (nat_lit 1))]], [], [])
def ct_86 : aCt := (mX11_isIsland, [ag_0, ag_1], ([sl_341], [((0, 3), 2)]), [pon_373, pon_374], [], [], (nat_lit 0))
set_option maxRecDepth 100000 in
theorem S_86 : aSpec wd ct_86 := bChk_ok wx_ok btX11_isIsland (nds := []) (fk := []) (rk := (1, [])) (sp := 0) (fuel := 3000) (by decide +kernel) lk_n odX11_isIsland
def pon_375 : aPo := (some (.inl [((.ofNat (nat_lit 1)), (.ofNat (nat_lit 1)), (nat_lit 1))]), [none, some [((.ofNat (nat_lit 0)), (.ofNat (nat_lit 6)), (nat_lit 1))], some [((.ofNat (nat_lit 0)), (.ofNat (nat_lit 6)), (nat_lit 1))]], [sl_341], [])
set_option maxRecDepth 100000 in
theorem btX11_areTwoIslands : bTab oX11_areTwoIslands tX11_areTwoIslands := ⟨ofX11_areTwoIslands, by decide +kernel⟩
def ct_87 : aCt := (mX11_areTwoIslands, [ag_0, ag_1, ag_1], ([], [((0, 3), 2)]), [pon_37, pon_375], [], [], (nat_lit 1))
set_option maxRecDepth 100000 in
theorem S_87 : aSpec wd ct_87 := bChk_ok wx_ok btX11_areTwoIslands (nds := []) (fk := []) (rk := (1, [])) (sp := 0) (fuel := 3000) (by decide +kernel) (lk_d S_86 ml_11_174 (lk_d S_67 ml_11_174 lk_n)) odX11_areTwoIslands
def sl_376 : (Nat × Nat) × aI := (((nat_lit 2), (nat_lit 5)), [((.ofNat (nat_lit 1)), (.ofNat (nat_lit 12)), (nat_lit 1))])
def pon_377 : aPo := (some (.inl [((.ofNat (nat_lit 0)), (.ofNat (nat_lit 11)), (nat_lit 1))]), [], [sl_376], [])
def lcn_378 : Nat × aAg := ((nat_lit 0), .inr (.inl [(nat_lit 2)]))
def lcn_379 : Nat × aAg := ((nat_lit 3), .inl [((.ofNat (nat_lit 0)), (.ofNat (nat_lit 12)), (nat_lit 1))])
def ct_88 : aCt := (mX4_wayBetween, [ag_357, ag_125, ag_125], ([], []), [pon_377, pon_52], [], [], (nat_lit 0))
set_option maxRecDepth 100000 in
theorem S_88 : aSpec wd ct_88 := bChk_ok wx_ok btX4_wayBetween (nds := [((nat_lit 2), [lcn_378, lcn_249, lcn_250, lcn_379], [], [], [], (12, [(2, -1)]))]) (fk := []) (rk := (13, [])) (sp := 4) (fuel := 3000) (by decide +kernel) lk_n odX4_wayBetween
def ag_380 : aAg := .inl [((.ofNat (nat_lit 0)), (.ofNat (nat_lit 11)), (nat_lit 1))]
set_option maxRecDepth 100000 in
theorem btX2_isClosed : bTab oX2_isClosed tX2_isClosed := ⟨ofX2_isClosed, by decide +kernel⟩
def ct_89 : aCt := (mX2_isClosed, [ag_289, ag_380], ([], []), [pon_37, pon_38], [], [], (nat_lit 0))
set_option maxRecDepth 100000 in
theorem S_89 : aSpec wd ct_89 := bChk_ok wx_ok btX2_isClosed (nds := []) (fk := []) (rk := (1, [])) (sp := 0) (fuel := 3000) (by decide +kernel) lk_n odX2_isClosed
def pon_381 : aPo := (some (.inl aTop), [none, some [((.ofNat (nat_lit 0)), (.ofNat (nat_lit 6)), (nat_lit 1))], some [((.ofNat (nat_lit 0)), (.ofNat (nat_lit 6)), (nat_lit 1))]], [sl_301, sl_341], [])
set_option maxRecDepth 100000 in
theorem btX11_way : bTab oX11_way tX11_way := ⟨ofX11_way, by decide +kernel⟩
def ct_90 : aCt := (mX11_way, [ag_0, ag_1, ag_1], ([], [((0, 3), 2)]), [pon_381, pon_333], mdn_25, [], (nat_lit 2))
set_option maxRecDepth 100000 in
theorem S_90 : aSpec wd ct_90 := bChk_ok wx_ok btX11_way (nds := []) (fk := []) (rk := (1, [])) (sp := 0) (fuel := 3000) (by decide +kernel) (lk_d S_63 ml_11_98 (lk_d S_89 ml_11_210 (lk_d S_88 ml_11_207 (lk_d S_57 ml_11_112 (lk_d S_87 ml_11_204 lk_n))))) odX11_way
def sl_382 : (Nat × Nat) × aI := (((nat_lit 2), (nat_lit 4)), [((.ofNat (nat_lit 0)), (.ofNat (nat_lit 0)), (nat_lit 1))])
def pon_383 : aPo := (some (.inl [((.ofNat (nat_lit 0)), (.ofNat (nat_lit 0)), (nat_lit 1))]), [], [sl_382], [])
def pon_384 : aPo := (some (.inl [((.ofNat (nat_lit 1)), (.ofNat (nat_lit 1)), (nat_lit 1))]), [], [sl_341], [])
set_option maxRecDepth 100000 in
theorem btX11_hasPost : bTab oX11_hasPost tX11_hasPost := ⟨ofX11_hasPost, by decide +kernel⟩
def ct_91 : aCt := (mX11_hasPost, [ag_0], ([], [((0, 3), 2)]), [pon_383, pon_384], [], [], (nat_lit 0))
set_option maxRecDepth 100000 in
theorem S_91 : aSpec wd ct_91 := bChk_ok wx_ok btX11_hasPost (nds := []) (fk := []) (rk := (1, [])) (sp := 0) (fuel := 3000) (by decide +kernel) lk_n odX11_hasPost
def ag_385 : aAg := .inl [((.ofNat (nat_lit 99999)), (.ofNat (nat_lit 99999)), (nat_lit 1))]
def pon_386 : aPo := (some (.inl [((.ofNat (nat_lit 0)), (.ofNat (nat_lit 0)), (nat_lit 1))]), [some [((.negSucc (nat_lit 2147483647)), (.negSucc (nat_lit 0)), (nat_lit 1)), ((.ofNat (nat_lit 100000)), (.ofNat (nat_lit 2147483647)), (nat_lit 1))], none], [], [])
def pon_387 : aPo := (some (.inl [((.ofNat (nat_lit 1)), (.ofNat (nat_lit 1)), (nat_lit 1))]), [some [((.ofNat (nat_lit 0)), (.ofNat (nat_lit 99999)), (nat_lit 1))], none], [], [])
set_option maxRecDepth 100000 in
theorem btX11_isWithin : bTab oX11_isWithin tX11_isWithin := ⟨ofX11_isWithin, by decide +kernel⟩
def ct_92 : aCt := (mX11_isWithin, [ag_1, ag_385], ([], []), [pon_386, pon_387], [], [], (nat_lit 0))
set_option maxRecDepth 100000 in
theorem S_92 : aSpec wd ct_92 := bChk_ok wx_ok btX11_isWithin (nds := []) (fk := []) (rk := (1, [])) (sp := 0) (fuel := 3000) (by decide +kernel) lk_n odX11_isWithin
def pon_388 : aPo := (some (.inl aTop), [none, some [((.ofNat (nat_lit 0)), (.ofNat (nat_lit 99999)), (nat_lit 1))]], [sl_301, sl_341], [])
def sl_389 : (Nat × Nat) × aI := (((nat_lit 0), (nat_lit 2)), [((.ofNat (nat_lit 1)), (.ofNat (nat_lit 2)), (nat_lit 1))])
def pon_390 : aPo := (some (.inl [((.negSucc (nat_lit 0)), (.negSucc (nat_lit 0)), (nat_lit 1))]), [], [sl_389], [])
set_option maxRecDepth 100000 in
theorem btX11_season : bTab oX11_season tX11_season := ⟨ofX11_season, by decide +kernel⟩
def ct_93 : aCt := (mX11_season, [ag_0, ag_1], ([], [((0, 3), 2)]), [pon_388, pon_390], mdn_25, [], (nat_lit 1))
set_option maxRecDepth 100000 in
theorem S_93 : aSpec wd ct_93 := bChk_ok wx_ok btX11_season (nds := []) (fk := []) (rk := (1, [])) (sp := 0) (fuel := 3000) (by decide +kernel) (lk_d S_91 ml_11_222 (lk_d S_6 ml_11_98 (lk_d S_63 ml_11_98 (lk_d S_92 ml_11_227 (lk_d S_57 ml_11_112 lk_n))))) odX11_season
def pon_391 : aPo := (some (.inl [((.ofNat (nat_lit 1)), (.ofNat (nat_lit 1)), (nat_lit 1))]), [none, some [((.ofNat (nat_lit 0)), (.ofNat (nat_lit 11)), (nat_lit 1))]], [sl_376], [])
set_option maxRecDepth 100000 in
theorem btX11_isWay : bTab oX11_isWay tX11_isWay := ⟨ofX11_isWay, by decide +kernel⟩
def ct_94 : aCt := (mX11_isWay, [ag_0, ag_1], ([], [((0, 3), 2)]), [pon_337, pon_391], [], [], (nat_lit 0))
set_option maxRecDepth 100000 in
theorem S_94 : aSpec wd ct_94 := bChk_ok wx_ok btX11_isWay (nds := []) (fk := []) (rk := (1, [])) (sp := 0) (fuel := 3000) (by decide +kernel) lk_n odX11_isWay
def pon_392 : aPo := (some (.inl [((.ofNat (nat_lit 0)), (.ofNat (nat_lit 0)), (nat_lit 1))]), [some [((.negSucc (nat_lit 2147483647)), (.negSucc (nat_lit 0)), (nat_lit 1)), ((.ofNat (nat_lit 10000)), (.ofNat (nat_lit 2147483647)), (nat_lit 1))], none], [], [])
def pon_393 : aPo := (some (.inl [((.ofNat (nat_lit 1)), (.ofNat (nat_lit 1)), (nat_lit 1))]), [some [((.ofNat (nat_lit 0)), (.ofNat (nat_lit 9999)), (nat_lit 1))], none], [], [])
def ct_95 : aCt := (mX11_isWithin, [ag_1, ag_204], ([], []), [pon_392, pon_393], [], [], (nat_lit 0))
set_option maxRecDepth 100000 in
theorem S_95 : aSpec wd ct_95 := bChk_ok wx_ok btX11_isWithin (nds := []) (fk := []) (rk := (1, [])) (sp := 0) (fuel := 3000) (by decide +kernel) lk_n odX11_isWithin
def ag_394 : aAg := .inr (.inl [(nat_lit 94)])
def pon_395 : aPo := (some (.inl [((.ofNat (nat_lit 0)), (.ofNat (nat_lit 9999)), (nat_lit 1)), ((.ofNat (nat_lit 90)), (.ofNat (nat_lit 10260)), (nat_lit 90))]), [], [], [])
def lcn_396 : Nat × aAg := ((nat_lit 0), .inr (.inl [(nat_lit 94)]))
def lcn_397 : Nat × aAg := ((nat_lit 1), .inl [((.ofNat (nat_lit 0)), (.ofNat (nat_lit 2)), (nat_lit 1))])
def lcn_398 : Nat × aAg := ((nat_lit 4), .inl [((.ofNat (nat_lit 0)), (.ofNat (nat_lit 111)), (nat_lit 1))])
def lcn_399 : Nat × aAg := ((nat_lit 5), .inl [((.ofNat (nat_lit 0)), (.ofNat (nat_lit 4)), (nat_lit 1))])
set_option maxRecDepth 100000 in
theorem btX6_dayOfLeaving : bTab oX6_dayOfLeaving tX6_dayOfLeaving := ⟨ofX6_dayOfLeaving, by decide +kernel⟩
def ct_96 : aCt := (mX6_dayOfLeaving, [ag_394, ag_361, ag_1, ag_345], ([], []), [pon_395], [], [], (nat_lit 0))
set_option maxRecDepth 100000 in
theorem S_96 : aSpec wd ct_96 := bChk_ok wx_ok btX6_dayOfLeaving (nds := [((nat_lit 16), [lcn_396, lcn_397, lcn_132, lcn_367, lcn_398, lcn_399], [], [], [], (4, [(4, -1)]))]) (fk := []) (rk := (5, [])) (sp := 65536) (fuel := 3000) (by decide +kernel) lk_n odX6_dayOfLeaving
def pon_400 : aPo := (some (.inl aTop), [none, some [((.ofNat (nat_lit 0)), (.ofNat (nat_lit 4)), (nat_lit 1))], some [((.ofNat (nat_lit 0)), (.ofNat (nat_lit 11)), (nat_lit 1))], some [((.ofNat (nat_lit 0)), (.ofNat (nat_lit 9999)), (nat_lit 1))]], [sl_301, sl_376, sl_334], [])
def pon_401 : aPo := (some (.inl [((.negSucc (nat_lit 0)), (.negSucc (nat_lit 0)), (nat_lit 1))]), [none, some aTop, none, none], [sl_389], [])
set_option maxRecDepth 100000 in
theorem btX11_sets : bTab oX11_sets tX11_sets := ⟨ofX11_sets, by decide +kernel⟩
def ct_97 : aCt := (mX11_sets, [ag_0, ag_1, ag_1, ag_1], ([], [((0, 3), 2)]), [pon_400, pon_401], mdn_25, [], (nat_lit 1))
set_option maxRecDepth 100000 in
theorem S_97 : aSpec wd ct_97 := bChk_ok wx_ok btX11_sets (nds := []) (fk := []) (rk := (1, [])) (sp := 0) (fuel := 3000) (by decide +kernel) (lk_d S_6 ml_11_98 (lk_d S_63 ml_11_98 (lk_d S_89 ml_11_210 (lk_d S_62 ml_11_121 (lk_d S_94 ml_11_230 (lk_d S_95 ml_11_227 (lk_d S_57 ml_11_112 (lk_d S_96 ml_11_236 lk_n)))))))) odX11_sets
set_option maxRecDepth 100000 in
theorem btX2_isSent : bTab oX2_isSent tX2_isSent := ⟨ofX2_isSent, by decide +kernel⟩
def ct_98 : aCt := (mX2_isSent, [ag_289, ag_190], ([], []), [pon_37, pon_38], [], [], (nat_lit 0))
set_option maxRecDepth 100000 in
theorem S_98 : aSpec wd ct_98 := bChk_ok wx_ok btX2_isSent (nds := []) (fk := []) (rk := (1, [])) (sp := 0) (fuel := 3000) (by decide +kernel) lk_n odX2_isSent
def ag_402 : aAg := .inl [((.ofNat (nat_lit 0)), (.ofNat (nat_lit 2)), (nat_lit 1))]
def pon_403 : aPo := (some (.inl aTop), [none, none, some [((.ofNat (nat_lit 2)), (.ofNat (nat_lit 2)), (nat_lit 1))]], [], [])
def pon_404 : aPo := (some (.inl [((.ofNat (nat_lit 0)), (.ofNat (nat_lit 0)), (nat_lit 1))]), [none, none, some [((.ofNat (nat_lit 1)), (.ofNat (nat_lit 1)), (nat_lit 1))]], [], [])
def pon_405 : aPo := (some (.inl [((.ofNat (nat_lit 1)), (.ofNat (nat_lit 1)), (nat_lit 1))]), [none, none, some [((.ofNat (nat_lit 0)), (.ofNat (nat_lit 1)), (nat_lit 1))]], [], [])
set_option maxRecDepth 100000 in
theorem btX11_sentPart : bTab oX11_sentPart tX11_sentPart := ⟨ofX11_sentPart, by decide +kernel⟩
def ct_99 : aCt := (mX11_sentPart, [ag_0, ag_190, ag_402], ([], [((0, 3), 2)]), [pon_403, pon_404, pon_405], [], [], (nat_lit 0))
set_option maxRecDepth 100000 in
theorem S_99 : aSpec wd ct_99 := bChk_ok wx_ok btX11_sentPart (nds := []) (fk := []) (rk := (1, [])) (sp := 0) (fuel := 3000) (by decide +kernel) lk_n odX11_sentPart
def pon_406 : aPo := (some (.inl aTop), [], [sl_301, sl_341], [])
def lcn_407 : Nat × aAg := ((nat_lit 0), .inr (.inl [(nat_lit 0)]))
def lcn_408 : Nat × aAg := ((nat_lit 3), .inl [((.ofNat (nat_lit 0)), (.ofNat (nat_lit 8)), (nat_lit 1))])
set_option maxRecDepth 100000 in
theorem btX11_sent : bTab oX11_sent tX11_sent := ⟨ofX11_sent, by decide +kernel⟩
def ct_100 : aCt := (mX11_sent, [ag_0, ag_1], ([], [((0, 3), 2)]), [pon_406, pon_333], mdn_25, [], (nat_lit 1))
set_option maxRecDepth 100000 in
theorem S_100 : aSpec wd ct_100 := bChk_ok wx_ok btX11_sent (nds := [((nat_lit 26), [lcn_407, lcn_397, lcn_132, lcn_408], [], [sl_341], [((0, 3), 2)], (8, [(2, -1)]))]) (fk := []) (rk := (9, [])) (sp := 67108864) (fuel := 3000) (by decide +kernel) (lk_d S_91 ml_11_222 (lk_d S_63 ml_11_98 (lk_d S_98 ml_11_242 (lk_d S_99 ml_11_245 (lk_d S_57 ml_11_112 lk_n))))) odX11_sent
set_option maxRecDepth 100000 in
theorem btX7_apartness : bTab oX7_apartness tX7_apartness := ⟨ofX7_apartness, by decide +kernel⟩
def ct_101 : aCt := (mX7_apartness, [ag_344, ag_125, ag_125], ([], [((92, 0), 2)]), [pon_364, pon_52], [], [], (nat_lit 2))
set_option maxRecDepth 100000 in
theorem S_101 : aSpec wd ct_101 := bChk_ok wx_ok btX7_apartness (nds := []) (fk := []) (rk := (1, [])) (sp := 0) (fuel := 3000) (by decide +kernel) (lk_d S_82 ml_7_60 lk_n) odX7_apartness
set_option maxRecDepth 100000 in
theorem btX11_apart : bTab oX11_apart tX11_apart := ⟨ofX11_apart, by decide +kernel⟩
def ct_102 : aCt := (mX11_apart, [ag_0, ag_1, ag_1], ([], [((0, 3), 2), ((92, 0), 2)]), [pon_381, pon_333], mdn_25, [], (nat_lit 3))
set_option maxRecDepth 100000 in
theorem S_102 : aSpec wd ct_102 := bChk_ok wx_ok btX11_apart (nds := []) (fk := []) (rk := (1, [])) (sp := 0) (fuel := 3000) (by decide +kernel) (lk_d S_63 ml_11_98 (lk_d S_101 ml_11_248 (lk_d S_86 ml_11_174 (lk_d S_67 ml_11_174 (lk_d S_57 ml_11_112 lk_n))))) odX11_apart
def ag_409 : aAg := .inl [((.ofNat (nat_lit 1)), (.ofNat (nat_lit 6)), (nat_lit 1))]
def ag_410 : aAg := .inl [((.ofNat (nat_lit 0)), (.ofNat (nat_lit 5)), (nat_lit 1))]
def ct_103 : aCt := (mX7_apartness, [ag_344, ag_409, ag_410], ([], [((92, 0), 2)]), [pon_364, pon_52], [], [], (nat_lit 2))
set_option maxRecDepth 100000 in
theorem S_103 : aSpec wd ct_103 := bChk_ok wx_ok btX7_apartness (nds := []) (fk := []) (rk := (1, [])) (sp := 0) (fuel := 3000) (by decide +kernel) (lk_d S_82 ml_7_60 lk_n) odX7_apartness
def lcn_411 : Nat × aAg := ((nat_lit 2), .inl [((.ofNat (nat_lit 0)), (.ofNat (nat_lit 7)), (nat_lit 1))])
set_option maxRecDepth 100000 in
theorem btX7_bearable : bTab oX7_bearable tX7_bearable := ⟨ofX7_bearable, by decide +kernel⟩
def ct_104 : aCt := (mX7_bearable, [ag_344], ([sl_341], [((92, 0), 2)]), [pon_130], [], [], (nat_lit 3))
set_option maxRecDepth 100000 in
theorem S_104 : aSpec wd ct_104 := bChk_ok wx_ok btX7_bearable (nds := [((nat_lit 5), [lcn_349, lcn_271, lcn_411], [], [sl_341], [((92, 0), 2)], (63, [(1, -8)])), ((nat_lit 18), [lcn_349, lcn_271, lcn_250, lcn_144], [], [sl_341], [((92, 0), 2)], (62, [(1, -8), (2, -1)]))]) (fk := []) (rk := (64, [])) (sp := 262176) (fuel := 3000) (by decide +kernel) (lk_d S_103 ml_7_67 lk_n) odX7_bearable
def pon_412 : aPo := (some (.inl [((.negSucc (nat_lit 0)), (.negSucc (nat_lit 0)), (nat_lit 1))]), [], [sl_332, sl_382], [])
set_option maxRecDepth 100000 in
theorem btX11_bear : bTab oX11_bear tX11_bear := ⟨ofX11_bear, by decide +kernel⟩
def ct_105 : aCt := (mX11_bear, [ag_0], ([], [((0, 3), 2), ((92, 0), 2)]), [pon_406, pon_412], mdn_25, [], (nat_lit 4))
set_option maxRecDepth 100000 in
theorem S_105 : aSpec wd ct_105 := bChk_ok wx_ok btX11_bear (nds := []) (fk := []) (rk := (1, [])) (sp := 0) (fuel := 3000) (by decide +kernel) (lk_d S_104 ml_11_251 (lk_d S_91 ml_11_222 (lk_d S_63 ml_11_98 (lk_d S_57 ml_11_112 lk_n)))) odX11_bear
set_option maxRecDepth 100000 in
theorem btX7_mixedPairs : bTab oX7_mixedPairs tX7_mixedPairs := ⟨ofX7_mixedPairs, by decide +kernel⟩
def ct_106 : aCt := (mX7_mixedPairs, [ag_344], ([sl_341], [((92, 0), 2)]), [pon_130], [], [], (nat_lit 3))
set_option maxRecDepth 100000 in
theorem S_106 : aSpec wd ct_106 := bChk_ok wx_ok btX7_mixedPairs (nds := [((nat_lit 4), [lcn_349, lcn_271, lcn_411], [], [sl_341], [((92, 0), 2)], (63, [(1, -8)])), ((nat_lit 17), [lcn_349, lcn_271, lcn_250, lcn_144], [], [sl_341], [((92, 0), 2)], (62, [(1, -8), (2, -1)]))]) (fk := []) (rk := (64, [])) (sp := 131088) (fuel := 3000) (by decide +kernel) (lk_d S_103 ml_7_67 lk_n) odX7_mixedPairs
set_option maxRecDepth 100000 in
theorem btX11_mixed : bTab oX11_mixed tX11_mixed := ⟨ofX11_mixed, by decide +kernel⟩
def ct_107 : aCt := (mX11_mixed, [ag_0], ([], [((0, 3), 2), ((92, 0), 2)]), [pon_406, pon_412], mdn_25, [], (nat_lit 4))
set_option maxRecDepth 100000 in
theorem S_107 : aSpec wd ct_107 := bChk_ok wx_ok btX11_mixed (nds := []) (fk := []) (rk := (1, [])) (sp := 0) (fuel := 3000) (by decide +kernel) (lk_d S_106 ml_11_255 (lk_d S_91 ml_11_222 (lk_d S_63 ml_11_98 (lk_d S_57 ml_11_112 lk_n)))) odX11_mixed
def pon_413 : aPo := (some (.inl [((.ofNat (nat_lit 2)), (.ofNat (nat_lit 2)), (nat_lit 1))]), [none, some aTop, none], [sl_341], [])
def pon_414 : aPo := (some (.inl [((.ofNat (nat_lit 0)), (.ofNat (nat_lit 0)), (nat_lit 1))]), [none, some [((.ofNat (nat_lit 2)), (.ofNat (nat_lit 5)), (nat_lit 1))], some [((.ofNat (nat_lit 1)), (.ofNat (nat_lit 5)), (nat_lit 1))]], [sl_341], [])
def pon_415 : aPo := (some (.inl [((.ofNat (nat_lit 1)), (.ofNat (nat_lit 1)), (nat_lit 1))]), [], [sl_382], [])
set_option maxRecDepth 100000 in
theorem btX11_refusalOfNewSong : bTab oX11_refusalOfNewSong tX11_refusalOfNewSong := ⟨ofX11_refusalOfNewSong, by decide +kernel⟩
def ct_108 : aCt := (mX11_refusalOfNewSong, [ag_0, ag_1, ag_1], ([], [((0, 3), 2)]), [pon_413, pon_414, pon_415], [], [], (nat_lit 1))
set_option maxRecDepth 100000 in
theorem S_108 : aSpec wd ct_108 := bChk_ok wx_ok btX11_refusalOfNewSong (nds := []) (fk := []) (rk := (1, [])) (sp := 0) (fuel := 3000) (by decide +kernel) (lk_d S_91 ml_11_222 lk_n) odX11_refusalOfNewSong
def ct_109 : aCt := (mX7_songIn, [ag_344, ag_170, ag_345], ([], [((92, 0), 2)]), [pon_130], [], [], (nat_lit 2))
set_option maxRecDepth 100000 in
theorem S_109 : aSpec wd ct_109 := bChk_ok wx_ok btX7_songIn (nds := []) (fk := []) (rk := (1, [])) (sp := 0) (fuel := 3000) (by decide +kernel) (lk_d S_69 ml_7_50 (lk_d S_71 ml_7_54 (lk_d S_72 ml_7_54 lk_n))) odX7_songIn
def ct_110 : aCt := (mX7_songIn, [ag_344, ag_53, ag_345], ([], [((92, 0), 2)]), [pon_130], [], [], (nat_lit 2))
set_option maxRecDepth 100000 in
theorem S_110 : aSpec wd ct_110 := bChk_ok wx_ok btX7_songIn (nds := []) (fk := []) (rk := (1, [])) (sp := 0) (fuel := 3000) (by decide +kernel) (lk_d S_69 ml_7_50 (lk_d S_71 ml_7_54 (lk_d S_72 ml_7_54 lk_n))) odX7_songIn
def ct_111 : aCt := (mX7_songIn, [ag_344, ag_22, ag_345], ([], [((92, 0), 2)]), [pon_130], [], [], (nat_lit 2))
set_option maxRecDepth 100000 in
theorem S_111 : aSpec wd ct_111 := bChk_ok wx_ok btX7_songIn (nds := []) (fk := []) (rk := (1, [])) (sp := 0) (fuel := 3000) (by decide +kernel) (lk_d S_69 ml_7_50 (lk_d S_71 ml_7_54 (lk_d S_72 ml_7_54 lk_n))) odX7_songIn
end Pk1
section Pk2
def ct_112 : aCt := (mX7_songIn, [ag_344, ag_122, ag_345], ([], [((92, 0), 2)]), [pon_130], [], [], (nat_lit 2))
set_option maxRecDepth 100000 in
theorem S_112 : aSpec wd ct_112 := bChk_ok wx_ok btX7_songIn (nds := []) (fk := []) (rk := (1, [])) (sp := 0) (fuel := 3000) (by decide +kernel) (lk_d S_69 ml_7_50 (lk_d S_71 ml_7_54 (lk_d S_72 ml_7_54 lk_n))) odX7_songIn
def ct_113 : aCt := (mX7_songIn, [ag_344, ag_159, ag_345], ([], [((92, 0), 2)]), [pon_130], [], [], (nat_lit 2))
set_option maxRecDepth 100000 in
theorem S_113 : aSpec wd ct_113 := bChk_ok wx_ok btX7_songIn (nds := []) (fk := []) (rk := (1, [])) (sp := 0) (fuel := 3000) (by decide +kernel) (lk_d S_69 ml_7_50 (lk_d S_71 ml_7_54 (lk_d S_72 ml_7_54 lk_n))) odX7_songIn
def ct_114 : aCt := (mX7_songIn, [ag_344, ag_150, ag_345], ([], [((92, 0), 2)]), [pon_130], [], [], (nat_lit 2))
set_option maxRecDepth 100000 in
theorem S_114 : aSpec wd ct_114 := bChk_ok wx_ok btX7_songIn (nds := []) (fk := []) (rk := (1, [])) (sp := 0) (fuel := 3000) (by decide +kernel) (lk_d S_69 ml_7_50 (lk_d S_71 ml_7_54 (lk_d S_72 ml_7_54 lk_n))) odX7_songIn
def ct_115 : aCt := (mX7_songIn, [ag_344, ag_153, ag_345], ([], [((92, 0), 2)]), [pon_130], [], [], (nat_lit 2))
set_option maxRecDepth 100000 in
theorem S_115 : aSpec wd ct_115 := bChk_ok wx_ok btX7_songIn (nds := []) (fk := []) (rk := (1, [])) (sp := 0) (fuel := 3000) (by decide +kernel) (lk_d S_69 ml_7_50 (lk_d S_71 ml_7_54 (lk_d S_72 ml_7_54 lk_n))) odX7_songIn
def ag_416 : aAg := .inl [((.ofNat (nat_lit 2)), (.ofNat (nat_lit 5)), (nat_lit 1))]
def pon_417 : aPo := (some (.inl [((.ofNat (nat_lit 0)), (.ofNat (nat_lit 7)), (nat_lit 1))]), [], [], [])
def mdn_418 : List (Nat × Nat × Nat) := [((nat_lit 93), (nat_lit 0), (nat_lit 7))]
def lcn_419 : Nat × aAg := ((nat_lit 1), .inl [((.ofNat (nat_lit 2)), (.ofNat (nat_lit 5)), (nat_lit 1))])
def lcn_420 : Nat × aAg := ((nat_lit 2), .inl [((.ofNat (nat_lit 0)), (.ofNat (nat_lit 9999)), (nat_lit 1))])
def lcn_421 : Nat × aAg := ((nat_lit 4), .inl [((.ofNat (nat_lit 0)), (.ofNat (nat_lit 0)), (nat_lit 1))])
def lcn_422 : Nat × aAg := ((nat_lit 3), .inl [((.ofNat (nat_lit 0)), (.ofNat (nat_lit 1)), (nat_lit 1))])
def lcn_423 : Nat × aAg := ((nat_lit 4), .inl [((.ofNat (nat_lit 1)), (.ofNat (nat_lit 1)), (nat_lit 1))])
def lcn_424 : Nat × aAg := ((nat_lit 3), .inl [((.ofNat (nat_lit 0)), (.ofNat (nat_lit 2)), (nat_lit 1))])
def lcn_425 : Nat × aAg := ((nat_lit 4), .inl [((.ofNat (nat_lit 2)), (.ofNat (nat_lit 2)), (nat_lit 1))])
def sl_426 : (Nat × Nat) × aI := (((nat_lit 2), (nat_lit 4)), [((.ofNat (nat_lit 2)), (.ofNat (nat_lit 7)), (nat_lit 1))])
def lcn_427 : Nat × aAg := ((nat_lit 3), .inl [((.ofNat (nat_lit 0)), (.ofNat (nat_lit 3)), (nat_lit 1))])
def lcn_428 : Nat × aAg := ((nat_lit 4), .inl [((.ofNat (nat_lit 3)), (.ofNat (nat_lit 3)), (nat_lit 1))])
def sl_429 : (Nat × Nat) × aI := (((nat_lit 2), (nat_lit 4)), [((.ofNat (nat_lit 3)), (.ofNat (nat_lit 7)), (nat_lit 1))])
def lcn_430 : Nat × aAg := ((nat_lit 3), .inl [((.ofNat (nat_lit 0)), (.ofNat (nat_lit 4)), (nat_lit 1))])
def lcn_431 : Nat × aAg := ((nat_lit 4), .inl [((.ofNat (nat_lit 4)), (.ofNat (nat_lit 4)), (nat_lit 1))])
def sl_432 : (Nat × Nat) × aI := (((nat_lit 2), (nat_lit 4)), [((.ofNat (nat_lit 4)), (.ofNat (nat_lit 7)), (nat_lit 1))])
def lcn_433 : Nat × aAg := ((nat_lit 3), .inl [((.ofNat (nat_lit 0)), (.ofNat (nat_lit 5)), (nat_lit 1))])
def lcn_434 : Nat × aAg := ((nat_lit 4), .inl [((.ofNat (nat_lit 5)), (.ofNat (nat_lit 5)), (nat_lit 1))])
def sl_435 : (Nat × Nat) × aI := (((nat_lit 2), (nat_lit 4)), [((.ofNat (nat_lit 5)), (.ofNat (nat_lit 7)), (nat_lit 1))])
def lcn_436 : Nat × aAg := ((nat_lit 4), .inl [((.ofNat (nat_lit 6)), (.ofNat (nat_lit 6)), (nat_lit 1))])
def sl_437 : (Nat × Nat) × aI := (((nat_lit 2), (nat_lit 4)), [((.ofNat (nat_lit 6)), (.ofNat (nat_lit 7)), (nat_lit 1))])
def lcn_438 : Nat × aAg := ((nat_lit 3), .inl [((.ofNat (nat_lit 0)), (.ofNat (nat_lit 7)), (nat_lit 1))])
def lcn_439 : Nat × aAg := ((nat_lit 4), .inl [((.ofNat (nat_lit 7)), (.ofNat (nat_lit 7)), (nat_lit 1))])
def sl_440 : (Nat × Nat) × aI := (((nat_lit 2), (nat_lit 4)), [((.ofNat (nat_lit 7)), (.ofNat (nat_lit 7)), (nat_lit 1))])
set_option maxRecDepth 100000 in
theorem btX7_keepSongsOf : bTab oX7_keepSongsOf tX7_keepSongsOf := ⟨ofX7_keepSongsOf, by decide +kernel⟩
def ct_116 : aCt := (mX7_keepSongsOf, [ag_344, ag_416, ag_345], ([sl_341], [((92, 0), 2)]), [pon_417], mdn_418, [], (nat_lit 3))
set_option maxRecDepth 100000 in
theorem S_116 : aSpec wd ct_116 := bChk_ok wx_ok btX7_keepSongsOf (nds := [((nat_lit 5), [lcn_349, lcn_419, lcn_420, lcn_101, lcn_421], [], [sl_341], [((92, 0), 2)], (7, [])), ((nat_lit 5), [lcn_349, lcn_419, lcn_420, lcn_422, lcn_423], [], [sl_341], [((92, 0), 2)], (6, [])), ((nat_lit 5), [lcn_349, lcn_419, lcn_420, lcn_424, lcn_425], [], [sl_426], [((92, 0), 2)], (5, [])), ((nat_lit 5), [lcn_349, lcn_419, lcn_420, lcn_427, lcn_428], [], [sl_429], [((92, 0), 2)], (4, [])), ((nat_lit 5), [lcn_349, lcn_419, lcn_420, lcn_430, lcn_431], [], [sl_432], [((92, 0), 2)], (3, [])), ((nat_lit 5), [lcn_349, lcn_419, lcn_420, lcn_433, lcn_434], [], [sl_435], [((92, 0), 2)], (2, [])), ((nat_lit 5), [lcn_349, lcn_419, lcn_420, lcn_144, lcn_436], [], [sl_437], [((92, 0), 2)], (1, [])), ((nat_lit 5), [lcn_349, lcn_419, lcn_420, lcn_438, lcn_439], [], [sl_440], [((92, 0), 2)], (0, []))]) (fk := []) (rk := (8, [])) (sp := 32) (fuel := 3000) (by decide +kernel) (lk_d S_109 ml_7_81 (lk_d S_110 ml_7_81 (lk_d S_111 ml_7_81 (lk_d S_112 ml_7_81 (lk_d S_113 ml_7_81 (lk_d S_114 ml_7_81 (lk_d S_115 ml_7_81 lk_n))))))) odX7_keepSongsOf
def ag_441 : aAg := .inl [((.ofNat (nat_lit 0)), (.ofNat (nat_lit 1023)), (nat_lit 1))]
def ct_117 : aCt := (mX11_noteAt, [ag_441, ag_416, ag_217], ([], []), [pon_346], [], [], (nat_lit 0))
set_option maxRecDepth 100000 in
theorem S_117 : aSpec wd ct_117 := bChk_ok wx_ok btX11_noteAt (nds := []) (fk := []) (rk := (1, [])) (sp := 0) (fuel := 3000) (by decide +kernel) lk_n odX11_noteAt
def lcn_442 : Nat × aAg := ((nat_lit 1), .inl [((.ofNat (nat_lit 0)), (.ofNat (nat_lit 1023)), (nat_lit 1))])
def lcn_443 : Nat × aAg := ((nat_lit 2), .inl [((.ofNat (nat_lit 2)), (.ofNat (nat_lit 5)), (nat_lit 1))])
set_option maxRecDepth 100000 in
theorem btX7_isOfNotes : bTab oX7_isOfNotes tX7_isOfNotes := ⟨ofX7_isOfNotes, by decide +kernel⟩
def ct_118 : aCt := (mX7_isOfNotes, [ag_344, ag_441, ag_416], ([], [((92, 0), 2)]), [pon_37, pon_38], [], [], (nat_lit 1))
set_option maxRecDepth 100000 in
theorem S_118 : aSpec wd ct_118 := bChk_ok wx_ok btX7_isOfNotes (nds := [((nat_lit 2), [lcn_349, lcn_442, lcn_443, lcn_433], [], [], [((92, 0), 2)], (5, [(2, -1)]))]) (fk := []) (rk := (6, [])) (sp := 4) (fuel := 3000) (by decide +kernel) (lk_d S_117 ml_7_40 lk_n) odX7_isOfNotes
def ct_119 : aCt := (mX11_unlikeNotes, [ag_441, ag_1], ([], []), [pon_364], [], [], (nat_lit 1))
set_option maxRecDepth 100000 in
theorem S_119 : aSpec wd ct_119 := bChk_ok wx_ok btX11_unlikeNotes (nds := []) (fk := []) (rk := (1, [])) (sp := 0) (fuel := 3000) (by decide +kernel) (lk_d S_81 ml_11_411 lk_n) odX11_unlikeNotes
def lcn_444 : Nat × aAg := ((nat_lit 2), .inl [((.ofNat (nat_lit 1)), (.ofNat (nat_lit 1)), (nat_lit 1))])
def lcn_445 : Nat × aAg := ((nat_lit 4), .inl [((.ofNat (nat_lit 0)), (.ofNat (nat_lit 7)), (nat_lit 1))])
set_option maxRecDepth 100000 in
theorem btX7_isFarFromKept : bTab oX7_isFarFromKept tX7_isFarFromKept := ⟨ofX7_isFarFromKept, by decide +kernel⟩
def ct_120 : aCt := (mX7_isFarFromKept, [ag_344, ag_441, ag_53, ag_133], ([], []), [pon_37, pon_38], [], [], (nat_lit 2))
set_option maxRecDepth 100000 in
theorem S_120 : aSpec wd ct_120 := bChk_ok wx_ok btX7_isFarFromKept (nds := [((nat_lit 3), [lcn_349, lcn_442, lcn_444, lcn_108, lcn_445], [], [], [], (7, [(1, -1)]))]) (fk := []) (rk := (8, [])) (sp := 8) (fuel := 3000) (by decide +kernel) (lk_d S_119 ml_7_60 lk_n) odX7_isFarFromKept
def ct_121 : aCt := (mX7_isFarFromKept, [ag_344, ag_441, ag_416, ag_133], ([], []), [pon_37, pon_38], [], [], (nat_lit 2))
set_option maxRecDepth 100000 in
theorem S_121 : aSpec wd ct_121 := bChk_ok wx_ok btX7_isFarFromKept (nds := [((nat_lit 3), [lcn_349, lcn_442, lcn_443, lcn_108, lcn_445], [], [], [], (7, [(2, -1)]))]) (fk := []) (rk := (8, [])) (sp := 8) (fuel := 3000) (by decide +kernel) (lk_d S_119 ml_7_60 lk_n) odX7_isFarFromKept
def lcn_446 : Nat × aAg := ((nat_lit 4), .inl [((.ofNat (nat_lit 0)), (.ofNat (nat_lit 6)), (nat_lit 1))])
def ct_122 : aCt := (mX7_isFarFromKept, [ag_344, ag_441, ag_53, ag_153], ([], []), [pon_37, pon_38], [], [], (nat_lit 2))
set_option maxRecDepth 100000 in
theorem S_122 : aSpec wd ct_122 := bChk_ok wx_ok btX7_isFarFromKept (nds := [((nat_lit 3), [lcn_349, lcn_442, lcn_444, lcn_107, lcn_446], [], [], [], (6, [(1, -1)]))]) (fk := []) (rk := (7, [])) (sp := 8) (fuel := 3000) (by decide +kernel) (lk_d S_119 ml_7_60 lk_n) odX7_isFarFromKept
def ct_123 : aCt := (mX7_isFarFromKept, [ag_344, ag_441, ag_416, ag_153], ([], []), [pon_37, pon_38], [], [], (nat_lit 2))
set_option maxRecDepth 100000 in
theorem S_123 : aSpec wd ct_123 := bChk_ok wx_ok btX7_isFarFromKept (nds := [((nat_lit 3), [lcn_349, lcn_442, lcn_443, lcn_107, lcn_446], [], [], [], (6, [(2, -1)]))]) (fk := []) (rk := (7, [])) (sp := 8) (fuel := 3000) (by decide +kernel) (lk_d S_119 ml_7_60 lk_n) odX7_isFarFromKept
def lcn_447 : Nat × aAg := ((nat_lit 4), .inl [((.ofNat (nat_lit 0)), (.ofNat (nat_lit 5)), (nat_lit 1))])
def ct_124 : aCt := (mX7_isFarFromKept, [ag_344, ag_441, ag_53, ag_150], ([], []), [pon_37, pon_38], [], [], (nat_lit 2))
set_option maxRecDepth 100000 in
theorem S_124 : aSpec wd ct_124 := bChk_ok wx_ok btX7_isFarFromKept (nds := [((nat_lit 3), [lcn_349, lcn_442, lcn_444, lcn_106, lcn_447], [], [], [], (5, [(1, -1)]))]) (fk := []) (rk := (6, [])) (sp := 8) (fuel := 3000) (by decide +kernel) (lk_d S_119 ml_7_60 lk_n) odX7_isFarFromKept
def ct_125 : aCt := (mX7_isFarFromKept, [ag_344, ag_441, ag_416, ag_150], ([], []), [pon_37, pon_38], [], [], (nat_lit 2))
set_option maxRecDepth 100000 in
theorem S_125 : aSpec wd ct_125 := bChk_ok wx_ok btX7_isFarFromKept (nds := [((nat_lit 3), [lcn_349, lcn_442, lcn_443, lcn_106, lcn_447], [], [], [], (5, [(2, -1)]))]) (fk := []) (rk := (6, [])) (sp := 8) (fuel := 3000) (by decide +kernel) (lk_d S_119 ml_7_60 lk_n) odX7_isFarFromKept
def lcn_448 : Nat × aAg := ((nat_lit 4), .inl [((.ofNat (nat_lit 0)), (.ofNat (nat_lit 4)), (nat_lit 1))])
def ct_126 : aCt := (mX7_isFarFromKept, [ag_344, ag_441, ag_53, ag_159], ([], []), [pon_37, pon_38], [], [], (nat_lit 2))
set_option maxRecDepth 100000 in
theorem S_126 : aSpec wd ct_126 := bChk_ok wx_ok btX7_isFarFromKept (nds := [((nat_lit 3), [lcn_349, lcn_442, lcn_444, lcn_105, lcn_448], [], [], [], (4, [(1, -1)]))]) (fk := []) (rk := (5, [])) (sp := 8) (fuel := 3000) (by decide +kernel) (lk_d S_119 ml_7_60 lk_n) odX7_isFarFromKept
def ct_127 : aCt := (mX7_isFarFromKept, [ag_344, ag_441, ag_416, ag_159], ([], []), [pon_37, pon_38], [], [], (nat_lit 2))
set_option maxRecDepth 100000 in
theorem S_127 : aSpec wd ct_127 := bChk_ok wx_ok btX7_isFarFromKept (nds := [((nat_lit 3), [lcn_349, lcn_442, lcn_443, lcn_105, lcn_448], [], [], [], (4, [(2, -1)]))]) (fk := []) (rk := (5, [])) (sp := 8) (fuel := 3000) (by decide +kernel) (lk_d S_119 ml_7_60 lk_n) odX7_isFarFromKept
def lcn_449 : Nat × aAg := ((nat_lit 4), .inl [((.ofNat (nat_lit 0)), (.ofNat (nat_lit 3)), (nat_lit 1))])
def ct_128 : aCt := (mX7_isFarFromKept, [ag_344, ag_441, ag_53, ag_122], ([], []), [pon_37, pon_38], [], [], (nat_lit 2))
set_option maxRecDepth 100000 in
theorem S_128 : aSpec wd ct_128 := bChk_ok wx_ok btX7_isFarFromKept (nds := [((nat_lit 3), [lcn_349, lcn_442, lcn_444, lcn_104, lcn_449], [], [], [], (3, [(1, -1)]))]) (fk := []) (rk := (4, [])) (sp := 8) (fuel := 3000) (by decide +kernel) (lk_d S_119 ml_7_60 lk_n) odX7_isFarFromKept
def ct_129 : aCt := (mX7_isFarFromKept, [ag_344, ag_441, ag_416, ag_122], ([], []), [pon_37, pon_38], [], [], (nat_lit 2))
set_option maxRecDepth 100000 in
theorem S_129 : aSpec wd ct_129 := bChk_ok wx_ok btX7_isFarFromKept (nds := [((nat_lit 3), [lcn_349, lcn_442, lcn_443, lcn_104, lcn_449], [], [], [], (3, [(2, -1)]))]) (fk := []) (rk := (4, [])) (sp := 8) (fuel := 3000) (by decide +kernel) (lk_d S_119 ml_7_60 lk_n) odX7_isFarFromKept
def lcn_450 : Nat × aAg := ((nat_lit 4), .inl [((.ofNat (nat_lit 0)), (.ofNat (nat_lit 2)), (nat_lit 1))])
def ct_130 : aCt := (mX7_isFarFromKept, [ag_344, ag_441, ag_53, ag_22], ([], []), [pon_37, pon_38], [], [], (nat_lit 2))
set_option maxRecDepth 100000 in
theorem S_130 : aSpec wd ct_130 := bChk_ok wx_ok btX7_isFarFromKept (nds := [((nat_lit 3), [lcn_349, lcn_442, lcn_444, lcn_103, lcn_450], [], [], [], (2, [(1, -1)]))]) (fk := []) (rk := (3, [])) (sp := 8) (fuel := 3000) (by decide +kernel) (lk_d S_119 ml_7_60 lk_n) odX7_isFarFromKept
def ct_131 : aCt := (mX7_isFarFromKept, [ag_344, ag_441, ag_416, ag_22], ([], []), [pon_37, pon_38], [], [], (nat_lit 2))
set_option maxRecDepth 100000 in
theorem S_131 : aSpec wd ct_131 := bChk_ok wx_ok btX7_isFarFromKept (nds := [((nat_lit 3), [lcn_349, lcn_442, lcn_443, lcn_103, lcn_450], [], [], [], (2, [(2, -1)]))]) (fk := []) (rk := (3, [])) (sp := 8) (fuel := 3000) (by decide +kernel) (lk_d S_119 ml_7_60 lk_n) odX7_isFarFromKept
def lcn_451 : Nat × aAg := ((nat_lit 4), .inl [((.ofNat (nat_lit 0)), (.ofNat (nat_lit 1)), (nat_lit 1))])
def ct_132 : aCt := (mX7_isFarFromKept, [ag_344, ag_441, ag_53, ag_53], ([], []), [pon_37, pon_38], [], [], (nat_lit 2))
set_option maxRecDepth 100000 in
theorem S_132 : aSpec wd ct_132 := bChk_ok wx_ok btX7_isFarFromKept (nds := [((nat_lit 3), [lcn_349, lcn_442, lcn_444, lcn_102, lcn_451], [], [], [], (1, [(1, -1)]))]) (fk := []) (rk := (2, [])) (sp := 8) (fuel := 3000) (by decide +kernel) (lk_d S_119 ml_7_60 lk_n) odX7_isFarFromKept
def ct_133 : aCt := (mX7_isFarFromKept, [ag_344, ag_441, ag_416, ag_53], ([], []), [pon_37, pon_38], [], [], (nat_lit 2))
set_option maxRecDepth 100000 in
theorem S_133 : aSpec wd ct_133 := bChk_ok wx_ok btX7_isFarFromKept (nds := [((nat_lit 3), [lcn_349, lcn_442, lcn_443, lcn_102, lcn_451], [], [], [], (1, [(2, -1)]))]) (fk := []) (rk := (2, [])) (sp := 8) (fuel := 3000) (by decide +kernel) (lk_d S_119 ml_7_60 lk_n) odX7_isFarFromKept
def ct_134 : aCt := (mX7_isFarFromKept, [ag_344, ag_441, ag_53, ag_170], ([], []), [pon_38], [], [], (nat_lit 0))
set_option maxRecDepth 100000 in
theorem S_134 : aSpec wd ct_134 := bChk_ok wx_ok btX7_isFarFromKept (nds := [((nat_lit 3), [lcn_349, lcn_442, lcn_444, lcn_101, lcn_421], [], [], [], (0, []))]) (fk := []) (rk := (1, [])) (sp := 8) (fuel := 3000) (by decide +kernel) lk_n odX7_isFarFromKept
def ct_135 : aCt := (mX7_isFarFromKept, [ag_344, ag_441, ag_416, ag_170], ([], []), [pon_38], [], [], (nat_lit 0))
set_option maxRecDepth 100000 in
theorem S_135 : aSpec wd ct_135 := bChk_ok wx_ok btX7_isFarFromKept (nds := [((nat_lit 3), [lcn_349, lcn_442, lcn_443, lcn_101, lcn_421], [], [], [], (0, []))]) (fk := []) (rk := (1, [])) (sp := 8) (fuel := 3000) (by decide +kernel) lk_n odX7_isFarFromKept
def ag_452 : aAg := .inl [((.ofNat (nat_lit 1)), (.ofNat (nat_lit 5)), (nat_lit 1))]
def pon_453 : aPo := (some (.inl [((.ofNat (nat_lit 0)), (.ofNat (nat_lit 1)), (nat_lit 1))]), [], [], [])
def mdn_454 : List (Nat × Nat × Nat) := [((nat_lit 92), (nat_lit 4), (nat_lit 5)), ((nat_lit 93), (nat_lit 0), (nat_lit 8))]
def lcn_455 : Nat × aAg := ((nat_lit 2), .inl [((.ofNat (nat_lit 1)), (.ofNat (nat_lit 5)), (nat_lit 1))])
def lcn_456 : Nat × aAg := ((nat_lit 5), .inl [((.ofNat (nat_lit 7)), (.ofNat (nat_lit 7)), (nat_lit 1))])
def lcn_457 : Nat × aAg := ((nat_lit 6), .inl [((.ofNat (nat_lit 7)), (.ofNat (nat_lit 8)), (nat_lit 1))])
def lcn_458 : Nat × aAg := ((nat_lit 7), .inl aTop)
def lcn_459 : Nat × aAg := ((nat_lit 8), .inl [((.ofNat (nat_lit 0)), (.ofNat (nat_lit 1024)), (nat_lit 1))])
def lcn_460 : Nat × aAg := ((nat_lit 5), .inl [((.ofNat (nat_lit 6)), (.ofNat (nat_lit 6)), (nat_lit 1))])
def lcn_461 : Nat × aAg := ((nat_lit 6), .inl [((.ofNat (nat_lit 6)), (.ofNat (nat_lit 7)), (nat_lit 1))])
def lcn_462 : Nat × aAg := ((nat_lit 5), .inl [((.ofNat (nat_lit 5)), (.ofNat (nat_lit 5)), (nat_lit 1))])
def lcn_463 : Nat × aAg := ((nat_lit 6), .inl [((.ofNat (nat_lit 5)), (.ofNat (nat_lit 6)), (nat_lit 1))])
def lcn_464 : Nat × aAg := ((nat_lit 5), .inl [((.ofNat (nat_lit 4)), (.ofNat (nat_lit 4)), (nat_lit 1))])
def lcn_465 : Nat × aAg := ((nat_lit 6), .inl [((.ofNat (nat_lit 4)), (.ofNat (nat_lit 5)), (nat_lit 1))])
def lcn_466 : Nat × aAg := ((nat_lit 5), .inl [((.ofNat (nat_lit 3)), (.ofNat (nat_lit 3)), (nat_lit 1))])
def lcn_467 : Nat × aAg := ((nat_lit 6), .inl [((.ofNat (nat_lit 3)), (.ofNat (nat_lit 4)), (nat_lit 1))])
def lcn_468 : Nat × aAg := ((nat_lit 5), .inl [((.ofNat (nat_lit 2)), (.ofNat (nat_lit 2)), (nat_lit 1))])
def lcn_469 : Nat × aAg := ((nat_lit 6), .inl [((.ofNat (nat_lit 2)), (.ofNat (nat_lit 3)), (nat_lit 1))])
def lcn_470 : Nat × aAg := ((nat_lit 5), .inl [((.ofNat (nat_lit 1)), (.ofNat (nat_lit 1)), (nat_lit 1))])
def lcn_471 : Nat × aAg := ((nat_lit 6), .inl [((.ofNat (nat_lit 1)), (.ofNat (nat_lit 2)), (nat_lit 1))])
def lcn_472 : Nat × aAg := ((nat_lit 5), .inl [((.ofNat (nat_lit 0)), (.ofNat (nat_lit 0)), (nat_lit 1))])
def lcn_473 : Nat × aAg := ((nat_lit 6), .inl [((.ofNat (nat_lit 0)), (.ofNat (nat_lit 1)), (nat_lit 1))])
set_option maxRecDepth 100000 in
theorem btX7_findNew : bTab oX7_findNew tX7_findNew := ⟨ofX7_findNew, by decide +kernel⟩
def ct_136 : aCt := (mX7_findNew, [ag_344, ag_416, ag_452, ag_345, ag_53], ([sl_341], [((92, 0), 2)]), [pon_453, pon_38], mdn_454, [], (nat_lit 4))
set_option maxRecDepth 100000 in
theorem S_136 : aSpec wd ct_136 := bChk_ok wx_ok btX7_findNew (nds := [((nat_lit 24), [lcn_349, lcn_419, lcn_455, lcn_367, lcn_423, lcn_456, lcn_457, lcn_458, lcn_459], [], [sl_341], [((92, 0), 2)], (9224, [(3, -1025), (5, -1)])), ((nat_lit 24), [lcn_349, lcn_419, lcn_455, lcn_367, lcn_423, lcn_460, lcn_461, lcn_458, lcn_459], [], [sl_341], [((92, 0), 2)], (8199, [(3, -1025), (5, -1)])), ((nat_lit 24), [lcn_349, lcn_419, lcn_455, lcn_367, lcn_423, lcn_462, lcn_463, lcn_458, lcn_459], [], [sl_341], [((92, 0), 2)], (7174, [(3, -1025), (5, -1)])), ((nat_lit 24), [lcn_349, lcn_419, lcn_455, lcn_367, lcn_423, lcn_464, lcn_465, lcn_458, lcn_459], [], [sl_341], [((92, 0), 2)], (6149, [(3, -1025), (5, -1)])), ((nat_lit 24), [lcn_349, lcn_419, lcn_455, lcn_367, lcn_423, lcn_466, lcn_467, lcn_458, lcn_459], [], [sl_341], [((92, 0), 2)], (5124, [(3, -1025), (5, -1)])), ((nat_lit 24), [lcn_349, lcn_419, lcn_455, lcn_367, lcn_423, lcn_468, lcn_469, lcn_458, lcn_459], [], [sl_341], [((92, 0), 2)], (4099, [(3, -1025), (5, -1)])), ((nat_lit 24), [lcn_349, lcn_419, lcn_455, lcn_367, lcn_423, lcn_470, lcn_471, lcn_458, lcn_459], [], [sl_341], [((92, 0), 2)], (3074, [(3, -1025), (5, -1)])), ((nat_lit 24), [lcn_349, lcn_419, lcn_455, lcn_367, lcn_423, lcn_472, lcn_473, lcn_458, lcn_459], [], [sl_341], [((92, 0), 2)], (2049, [(3, -1025), (5, -1)]))]) (fk := [6]) (rk := (2050, [])) (sp := 16777216) (fuel := 3000) (by decide +kernel) (lk_d S_120 ml_7_77 (lk_d S_122 ml_7_77 (lk_d S_124 ml_7_77 (lk_d S_126 ml_7_77 (lk_d S_128 ml_7_77 (lk_d S_130 ml_7_77 (lk_d S_132 ml_7_77 (lk_d S_134 ml_7_77 (lk_d S_118 ml_7_73 (lk_d S_121 ml_7_77 (lk_d S_123 ml_7_77 (lk_d S_125 ml_7_77 (lk_d S_127 ml_7_77 (lk_d S_129 ml_7_77 (lk_d S_131 ml_7_77 (lk_d S_133 ml_7_77 (lk_d S_135 ml_7_77 (lk_d S_116 ml_7_70 lk_n)))))))))))))))))) odX7_findNew
def pon_474 : aPo := (some (.inl aTop), [none, some [((.ofNat (nat_lit 2)), (.ofNat (nat_lit 5)), (nat_lit 1))], some [((.ofNat (nat_lit 1)), (.ofNat (nat_lit 5)), (nat_lit 1))]], [sl_301, sl_341], [])
def mdn_475 : List (Nat × Nat × Nat) := [((nat_lit 0), (nat_lit 2), (nat_lit 3)), ((nat_lit 92), (nat_lit 4), (nat_lit 5)), ((nat_lit 93), (nat_lit 0), (nat_lit 8))]
set_option maxRecDepth 100000 in
theorem btX11_fresh : bTab oX11_fresh tX11_fresh := ⟨ofX11_fresh, by decide +kernel⟩
def ct_137 : aCt := (mX11_fresh, [ag_0, ag_1, ag_1], ([], [((0, 3), 2), ((92, 0), 2)]), [pon_474, pon_390], mdn_475, [], (nat_lit 5))
set_option maxRecDepth 100000 in
theorem S_137 : aSpec wd ct_137 := bChk_ok wx_ok btX11_fresh (nds := []) (fk := []) (rk := (1, [])) (sp := 0) (fuel := 3000) (by decide +kernel) (lk_d S_63 ml_11_98 (lk_d S_6 ml_11_98 (lk_d S_136 ml_11_261 (lk_d S_57 ml_11_112 (lk_d S_108 ml_11_258 lk_n))))) odX11_fresh
def ag_476 : aAg := .inl [((.ofNat (nat_lit 7)), (.ofNat (nat_lit 1030)), (nat_lit 1))]
def lcn_477 : Nat × aAg := ((nat_lit 3), .inl [((.ofNat (nat_lit 7)), (.ofNat (nat_lit 1030)), (nat_lit 1))])
def lcn_478 : Nat × aAg := ((nat_lit 4), .inl [((.ofNat (nat_lit 0)), (.ofNat (nat_lit 1030)), (nat_lit 1))])
def ct_138 : aCt := (mX7_isFarFromKept, [ag_344, ag_441, ag_416, ag_476], ([], []), [pon_37, pon_38], [], [], (nat_lit 2))
set_option maxRecDepth 100000 in
theorem S_138 : aSpec wd ct_138 := bChk_ok wx_ok btX7_isFarFromKept (nds := [((nat_lit 3), [lcn_349, lcn_442, lcn_443, lcn_477, lcn_478], [], [], [], (1030, [(3, -1)]))]) (fk := []) (rk := (1031, [])) (sp := 8) (fuel := 3000) (by decide +kernel) (lk_d S_119 ml_7_60 lk_n) odX7_isFarFromKept
def ag_479 : aAg := .inl [((.ofNat (nat_lit 6)), (.ofNat (nat_lit 1029)), (nat_lit 1))]
def lcn_480 : Nat × aAg := ((nat_lit 3), .inl [((.ofNat (nat_lit 6)), (.ofNat (nat_lit 1029)), (nat_lit 1))])
def ct_139 : aCt := (mX7_isFarFromKept, [ag_344, ag_441, ag_416, ag_479], ([], []), [pon_37, pon_38], [], [], (nat_lit 2))
set_option maxRecDepth 100000 in
theorem S_139 : aSpec wd ct_139 := bChk_ok wx_ok btX7_isFarFromKept (nds := [((nat_lit 3), [lcn_349, lcn_442, lcn_443, lcn_480, lcn_478], [], [], [], (1030, [(3, -1)]))]) (fk := []) (rk := (1031, [])) (sp := 8) (fuel := 3000) (by decide +kernel) (lk_d S_119 ml_7_60 lk_n) odX7_isFarFromKept
def ag_481 : aAg := .inl [((.ofNat (nat_lit 5)), (.ofNat (nat_lit 1028)), (nat_lit 1))]
def lcn_482 : Nat × aAg := ((nat_lit 3), .inl [((.ofNat (nat_lit 5)), (.ofNat (nat_lit 1028)), (nat_lit 1))])
def ct_140 : aCt := (mX7_isFarFromKept, [ag_344, ag_441, ag_416, ag_481], ([], []), [pon_37, pon_38], [], [], (nat_lit 2))
set_option maxRecDepth 100000 in
theorem S_140 : aSpec wd ct_140 := bChk_ok wx_ok btX7_isFarFromKept (nds := [((nat_lit 3), [lcn_349, lcn_442, lcn_443, lcn_482, lcn_478], [], [], [], (1030, [(3, -1)]))]) (fk := []) (rk := (1031, [])) (sp := 8) (fuel := 3000) (by decide +kernel) (lk_d S_119 ml_7_60 lk_n) odX7_isFarFromKept
def ag_483 : aAg := .inl [((.ofNat (nat_lit 4)), (.ofNat (nat_lit 1027)), (nat_lit 1))]
def lcn_484 : Nat × aAg := ((nat_lit 3), .inl [((.ofNat (nat_lit 4)), (.ofNat (nat_lit 1027)), (nat_lit 1))])
def ct_141 : aCt := (mX7_isFarFromKept, [ag_344, ag_441, ag_416, ag_483], ([], []), [pon_37, pon_38], [], [], (nat_lit 2))
set_option maxRecDepth 100000 in
theorem S_141 : aSpec wd ct_141 := bChk_ok wx_ok btX7_isFarFromKept (nds := [((nat_lit 3), [lcn_349, lcn_442, lcn_443, lcn_484, lcn_478], [], [], [], (1030, [(3, -1)]))]) (fk := []) (rk := (1031, [])) (sp := 8) (fuel := 3000) (by decide +kernel) (lk_d S_119 ml_7_60 lk_n) odX7_isFarFromKept
def ag_485 : aAg := .inl [((.ofNat (nat_lit 3)), (.ofNat (nat_lit 1026)), (nat_lit 1))]
def lcn_486 : Nat × aAg := ((nat_lit 3), .inl [((.ofNat (nat_lit 3)), (.ofNat (nat_lit 1026)), (nat_lit 1))])
def ct_142 : aCt := (mX7_isFarFromKept, [ag_344, ag_441, ag_416, ag_485], ([], []), [pon_37, pon_38], [], [], (nat_lit 2))
set_option maxRecDepth 100000 in
theorem S_142 : aSpec wd ct_142 := bChk_ok wx_ok btX7_isFarFromKept (nds := [((nat_lit 3), [lcn_349, lcn_442, lcn_443, lcn_486, lcn_478], [], [], [], (1030, [(3, -1)]))]) (fk := []) (rk := (1031, [])) (sp := 8) (fuel := 3000) (by decide +kernel) (lk_d S_119 ml_7_60 lk_n) odX7_isFarFromKept
def ag_487 : aAg := .inl [((.ofNat (nat_lit 2)), (.ofNat (nat_lit 1025)), (nat_lit 1))]
def lcn_488 : Nat × aAg := ((nat_lit 3), .inl [((.ofNat (nat_lit 2)), (.ofNat (nat_lit 1025)), (nat_lit 1))])
def ct_143 : aCt := (mX7_isFarFromKept, [ag_344, ag_441, ag_416, ag_487], ([], []), [pon_37, pon_38], [], [], (nat_lit 2))
set_option maxRecDepth 100000 in
theorem S_143 : aSpec wd ct_143 := bChk_ok wx_ok btX7_isFarFromKept (nds := [((nat_lit 3), [lcn_349, lcn_442, lcn_443, lcn_488, lcn_478], [], [], [], (1030, [(3, -1)]))]) (fk := []) (rk := (1031, [])) (sp := 8) (fuel := 3000) (by decide +kernel) (lk_d S_119 ml_7_60 lk_n) odX7_isFarFromKept
def ag_489 : aAg := .inl [((.ofNat (nat_lit 1)), (.ofNat (nat_lit 1024)), (nat_lit 1))]
def lcn_490 : Nat × aAg := ((nat_lit 3), .inl [((.ofNat (nat_lit 1)), (.ofNat (nat_lit 1024)), (nat_lit 1))])
def lcn_491 : Nat × aAg := ((nat_lit 4), .inl [((.ofNat (nat_lit 0)), (.ofNat (nat_lit 1024)), (nat_lit 1))])
def ct_144 : aCt := (mX7_isFarFromKept, [ag_344, ag_441, ag_416, ag_489], ([], []), [pon_37, pon_38], [], [], (nat_lit 2))
set_option maxRecDepth 100000 in
theorem S_144 : aSpec wd ct_144 := bChk_ok wx_ok btX7_isFarFromKept (nds := [((nat_lit 3), [lcn_349, lcn_442, lcn_443, lcn_490, lcn_491], [], [], [], (1024, [(3, -1)]))]) (fk := []) (rk := (1025, [])) (sp := 8) (fuel := 3000) (by decide +kernel) (lk_d S_119 ml_7_60 lk_n) odX7_isFarFromKept
def lcn_492 : Nat × aAg := ((nat_lit 4), .inl [((.ofNat (nat_lit 0)), (.ofNat (nat_lit 1023)), (nat_lit 1))])
def ct_145 : aCt := (mX7_isFarFromKept, [ag_344, ag_441, ag_416, ag_441], ([], []), [pon_37, pon_38], [], [], (nat_lit 2))
set_option maxRecDepth 100000 in
theorem S_145 : aSpec wd ct_145 := bChk_ok wx_ok btX7_isFarFromKept (nds := [((nat_lit 3), [lcn_349, lcn_442, lcn_443, lcn_288, lcn_492], [], [], [], (1023, [(3, -1)]))]) (fk := []) (rk := (1024, [])) (sp := 8) (fuel := 3000) (by decide +kernel) (lk_d S_119 ml_7_60 lk_n) odX7_isFarFromKept
def ag_493 : aAg := .inl [((.ofNat (nat_lit 1024)), (.ofNat (nat_lit 1024)), (nat_lit 1))]
def pon_494 : aPo := (some (.inl [((.ofNat (nat_lit 0)), (.ofNat (nat_lit 1029)), (nat_lit 1))]), [], [], [])
def mdn_495 : List (Nat × Nat × Nat) := [((nat_lit 92), (nat_lit 4), (nat_lit 5)), ((nat_lit 93), (nat_lit 0), (nat_lit 1031))]
def lcn_496 : Nat × aAg := ((nat_lit 4), .inl [((.ofNat (nat_lit 1024)), (.ofNat (nat_lit 1024)), (nat_lit 1))])
def lcn_497 : Nat × aAg := ((nat_lit 6), .inl [((.ofNat (nat_lit 7)), (.ofNat (nat_lit 1031)), (nat_lit 1))])
def lcn_498 : Nat × aAg := ((nat_lit 6), .inl [((.ofNat (nat_lit 6)), (.ofNat (nat_lit 1030)), (nat_lit 1))])
def lcn_499 : Nat × aAg := ((nat_lit 6), .inl [((.ofNat (nat_lit 5)), (.ofNat (nat_lit 1030)), (nat_lit 1))])
def lcn_500 : Nat × aAg := ((nat_lit 6), .inl [((.ofNat (nat_lit 4)), (.ofNat (nat_lit 1030)), (nat_lit 1))])
def lcn_501 : Nat × aAg := ((nat_lit 6), .inl [((.ofNat (nat_lit 3)), (.ofNat (nat_lit 1030)), (nat_lit 1))])
def lcn_502 : Nat × aAg := ((nat_lit 6), .inl [((.ofNat (nat_lit 2)), (.ofNat (nat_lit 1030)), (nat_lit 1))])
def lcn_503 : Nat × aAg := ((nat_lit 6), .inl [((.ofNat (nat_lit 1)), (.ofNat (nat_lit 1030)), (nat_lit 1))])
def lcn_504 : Nat × aAg := ((nat_lit 6), .inl [((.ofNat (nat_lit 0)), (.ofNat (nat_lit 1024)), (nat_lit 1))])
def ct_146 : aCt := (mX7_findNew, [ag_344, ag_416, ag_452, ag_345, ag_493], ([sl_341], [((92, 0), 2)]), [pon_494], mdn_495, [], (nat_lit 4))
set_option maxRecDepth 100000 in
theorem S_146 : aSpec wd ct_146 := bChk_ok wx_ok btX7_findNew (nds := [((nat_lit 24), [lcn_349, lcn_419, lcn_455, lcn_367, lcn_496, lcn_456, lcn_497, lcn_458, lcn_459], [], [sl_341], [((92, 0), 2)], (1057799, [(3, -1025), (5, -1)])), ((nat_lit 24), [lcn_349, lcn_419, lcn_455, lcn_367, lcn_496, lcn_460, lcn_498, lcn_458, lcn_459], [], [sl_341], [((92, 0), 2)], (1056774, [(3, -1025), (5, -1)])), ((nat_lit 24), [lcn_349, lcn_419, lcn_455, lcn_367, lcn_496, lcn_462, lcn_499, lcn_458, lcn_459], [], [sl_341], [((92, 0), 2)], (1056774, [(3, -1025), (5, -1)])), ((nat_lit 24), [lcn_349, lcn_419, lcn_455, lcn_367, lcn_496, lcn_464, lcn_500, lcn_458, lcn_459], [], [sl_341], [((92, 0), 2)], (1056774, [(3, -1025), (5, -1)])), ((nat_lit 24), [lcn_349, lcn_419, lcn_455, lcn_367, lcn_496, lcn_466, lcn_501, lcn_458, lcn_459], [], [sl_341], [((92, 0), 2)], (1056774, [(3, -1025), (5, -1)])), ((nat_lit 24), [lcn_349, lcn_419, lcn_455, lcn_367, lcn_496, lcn_468, lcn_502, lcn_458, lcn_459], [], [sl_341], [((92, 0), 2)], (1056774, [(3, -1025), (5, -1)])), ((nat_lit 24), [lcn_349, lcn_419, lcn_455, lcn_367, lcn_496, lcn_470, lcn_503, lcn_458, lcn_459], [], [sl_341], [((92, 0), 2)], (1056774, [(3, -1025), (5, -1)])), ((nat_lit 24), [lcn_349, lcn_419, lcn_455, lcn_367, lcn_496, lcn_472, lcn_504, lcn_458, lcn_459], [], [sl_341], [((92, 0), 2)], (1050624, [(3, -1025), (5, -1)]))]) (fk := [6]) (rk := (1055750, [])) (sp := 16777216) (fuel := 3000) (by decide +kernel) (lk_d S_120 ml_7_77 (lk_d S_122 ml_7_77 (lk_d S_124 ml_7_77 (lk_d S_126 ml_7_77 (lk_d S_128 ml_7_77 (lk_d S_130 ml_7_77 (lk_d S_132 ml_7_77 (lk_d S_134 ml_7_77 (lk_d S_118 ml_7_73 (lk_d S_138 ml_7_77 (lk_d S_139 ml_7_77 (lk_d S_140 ml_7_77 (lk_d S_141 ml_7_77 (lk_d S_142 ml_7_77 (lk_d S_143 ml_7_77 (lk_d S_144 ml_7_77 (lk_d S_145 ml_7_77 (lk_d S_116 ml_7_70 lk_n)))))))))))))))))) odX7_findNew
def mdn_505 : List (Nat × Nat × Nat) := [((nat_lit 0), (nat_lit 2), (nat_lit 3)), ((nat_lit 92), (nat_lit 4), (nat_lit 5)), ((nat_lit 93), (nat_lit 0), (nat_lit 1031))]
set_option maxRecDepth 100000 in
theorem btX11_byTurns : bTab oX11_byTurns tX11_byTurns := ⟨ofX11_byTurns, by decide +kernel⟩
def ct_147 : aCt := (mX11_byTurns, [ag_0, ag_1, ag_1], ([], [((0, 3), 2), ((92, 0), 2)]), [pon_474, pon_390], mdn_505, [], (nat_lit 5))
set_option maxRecDepth 100000 in
theorem S_147 : aSpec wd ct_147 := bChk_ok wx_ok btX11_byTurns (nds := []) (fk := []) (rk := (1, [])) (sp := 0) (fuel := 3000) (by decide +kernel) (lk_d S_63 ml_11_98 (lk_d S_6 ml_11_98 (lk_d S_146 ml_11_261 (lk_d S_57 ml_11_112 (lk_d S_108 ml_11_258 lk_n))))) odX11_byTurns
set_option maxRecDepth 100000 in
theorem btX11_near : bTab oX11_near tX11_near := ⟨ofX11_near, by decide +kernel⟩
def ct_148 : aCt := (mX11_near, [ag_0, ag_1], ([], [((0, 3), 2), ((92, 0), 2)]), [pon_371, pon_333], mdn_372, [], (nat_lit 4))
set_option maxRecDepth 100000 in
theorem S_148 : aSpec wd ct_148 := bChk_ok wx_ok btX11_near (nds := []) (fk := []) (rk := (1, [])) (sp := 0) (fuel := 3000) (by decide +kernel) (lk_d S_63 ml_11_98 (lk_d S_84 ml_11_201 (lk_d S_65 ml_11_147 (lk_d S_57 ml_11_112 lk_n)))) odX11_near
set_option maxRecDepth 100000 in
theorem btX11_asNear : bTab oX11_asNear tX11_asNear := ⟨ofX11_asNear, by decide +kernel⟩
def ct_149 : aCt := (mX11_asNear, [ag_0, ag_1], ([], [((0, 3), 2), ((92, 0), 2)]), [pon_371, pon_333], mdn_372, [], (nat_lit 4))
set_option maxRecDepth 100000 in
theorem S_149 : aSpec wd ct_149 := bChk_ok wx_ok btX11_asNear (nds := []) (fk := []) (rk := (1, [])) (sp := 0) (fuel := 3000) (by decide +kernel) (lk_d S_63 ml_11_98 (lk_d S_84 ml_11_201 (lk_d S_65 ml_11_147 (lk_d S_57 ml_11_112 lk_n)))) odX11_asNear
def pon_506 : aPo := (some (.inl [((.ofNat (nat_lit 0)), (.ofNat (nat_lit 0)), (nat_lit 1))]), [some [((.negSucc (nat_lit 2147483647)), (.negSucc (nat_lit 0)), (nat_lit 1)), ((.ofNat (nat_lit 100)), (.ofNat (nat_lit 2147483647)), (nat_lit 1))], none], [], [])
def pon_507 : aPo := (some (.inl [((.ofNat (nat_lit 1)), (.ofNat (nat_lit 1)), (nat_lit 1))]), [some [((.ofNat (nat_lit 0)), (.ofNat (nat_lit 99)), (nat_lit 1))], none], [], [])
def ct_150 : aCt := (mX11_isWithin, [ag_1, ag_197], ([], []), [pon_506, pon_507], [], [], (nat_lit 0))
set_option maxRecDepth 100000 in
theorem S_150 : aSpec wd ct_150 := bChk_ok wx_ok btX11_isWithin (nds := []) (fk := []) (rk := (1, [])) (sp := 0) (fuel := 3000) (by decide +kernel) lk_n odX11_isWithin
def ag_508 : aAg := .inl [((.ofNat (nat_lit 0)), (.ofNat (nat_lit 10098)), (nat_lit 1))]
def ct_151 : aCt := (mX7_fallIn, [ag_344, ag_508], ([], [((92, 0), 2)]), [pon_346, pon_37], [], [], (nat_lit 0))
set_option maxRecDepth 100000 in
theorem S_151 : aSpec wd ct_151 := bChk_ok wx_ok btX7_fallIn (nds := []) (fk := []) (rk := (1, [])) (sp := 0) (fuel := 3000) (by decide +kernel) lk_n odX7_fallIn
def lcn_509 : Nat × aAg := ((nat_lit 3), .inl [((.ofNat (nat_lit 0)), (.ofNat (nat_lit 10098)), (nat_lit 1))])
def ct_152 : aCt := (mX7_hearerOf, [ag_344, ag_1, ag_137, ag_508], ([], [((92, 0), 2)]), [pon_365, pon_52], mdn_366, [], (nat_lit 2))
set_option maxRecDepth 100000 in
theorem S_152 : aSpec wd ct_152 := bChk_ok wx_ok btX7_hearerOf (nds := [((nat_lit 32), [lcn_349, lcn_271, lcn_143, lcn_509, lcn_351, lcn_368, lcn_369], [], [sl_370], [((92, 0), 2)], (7, [(5, -1)]))]) (fk := []) (rk := (8, [])) (sp := 4294967296) (fuel := 3000) (by decide +kernel) (lk_d S_151 ml_7_50 (lk_d S_79 ml_7_54 (lk_d S_80 ml_7_54 (lk_d S_82 ml_7_60 lk_n)))) odX7_hearerOf
def ct_153 : aCt := (mX11_hearerIn, [ag_0, ag_190, ag_508], ([], [((0, 3), 2), ((92, 0), 2)]), [pon_365, pon_52], mdn_366, [], (nat_lit 3))
set_option maxRecDepth 100000 in
theorem S_153 : aSpec wd ct_153 := bChk_ok wx_ok btX11_hearerIn (nds := []) (fk := []) (rk := (1, [])) (sp := 0) (fuel := 3000) (by decide +kernel) (lk_d S_76 ml_11_198 (lk_d S_152 ml_11_277 lk_n)) odX11_hearerIn
def pon_510 : aPo := (some (.inl aTop), [none, some [((.ofNat (nat_lit 0)), (.ofNat (nat_lit 7)), (nat_lit 1))], some [((.ofNat (nat_lit 0)), (.ofNat (nat_lit 99)), (nat_lit 1))]], [sl_301, sl_338], [])
set_option maxRecDepth 100000 in
theorem btX11_heardIn : bTab oX11_heardIn tX11_heardIn := ⟨ofX11_heardIn, by decide +kernel⟩
def ct_154 : aCt := (mX11_heardIn, [ag_0, ag_1, ag_1], ([], [((0, 3), 2), ((92, 0), 2)]), [pon_510, pon_390], mdn_372, [], (nat_lit 4))
set_option maxRecDepth 100000 in
theorem S_154 : aSpec wd ct_154 := bChk_ok wx_ok btX11_heardIn (nds := []) (fk := []) (rk := (1, [])) (sp := 0) (fuel := 3000) (by decide +kernel) (lk_d S_6 ml_11_98 (lk_d S_63 ml_11_98 (lk_d S_153 ml_11_201 (lk_d S_65 ml_11_147 (lk_d S_150 ml_11_227 (lk_d S_57 ml_11_112 lk_n)))))) odX11_heardIn
def ct_155 : aCt := (mX7_hearerOf, [ag_344, ag_1, ag_137, ag_508], ([sl_341], [((92, 0), 2)]), [pon_365, pon_52], mdn_366, [], (nat_lit 2))
set_option maxRecDepth 100000 in
theorem S_155 : aSpec wd ct_155 := bChk_ok wx_ok btX7_hearerOf (nds := [((nat_lit 32), [lcn_349, lcn_271, lcn_143, lcn_509, lcn_351, lcn_368, lcn_369], [], [sl_341, sl_370], [((92, 0), 2)], (7, [(5, -1)]))]) (fk := []) (rk := (8, [])) (sp := 4294967296) (fuel := 3000) (by decide +kernel) (lk_d S_151 ml_7_50 (lk_d S_79 ml_7_54 (lk_d S_80 ml_7_54 (lk_d S_82 ml_7_60 lk_n)))) odX7_hearerOf
def lcn_511 : Nat × aAg := ((nat_lit 2), .inl [((.ofNat (nat_lit 0)), (.ofNat (nat_lit 100)), (nat_lit 1))])
set_option maxRecDepth 100000 in
theorem btX11_strange : bTab oX11_strange tX11_strange := ⟨ofX11_strange, by decide +kernel⟩
def ct_156 : aCt := (mX11_strange, [ag_0, ag_1], ([], [((0, 3), 2), ((92, 0), 2)]), [pon_406, pon_333], mdn_372, [], (nat_lit 3))
set_option maxRecDepth 100000 in
theorem S_156 : aSpec wd ct_156 := bChk_ok wx_ok btX11_strange (nds := [((nat_lit 16), [lcn_407, lcn_249, lcn_511], [], [sl_341], [((0, 3), 2), ((92, 0), 2)], (100, [(1, -1)]))]) (fk := []) (rk := (101, [])) (sp := 65536) (fuel := 3000) (by decide +kernel) (lk_d S_63 ml_11_98 (lk_d S_67 ml_11_174 (lk_d S_57 ml_11_112 (lk_d S_155 ml_11_277 lk_n)))) odX11_strange
def ag_512 : aAg := .inr (.inl [(nat_lit 95)])
def ag_513 : aAg := .inl [((.ofNat (nat_lit 1000000000)), (.ofNat (nat_lit 1000000000)), (nat_lit 1))]
def mdn_514 : List (Nat × Nat × Nat) := [((nat_lit 95), (nat_lit 0), (nat_lit 7))]
def lcn_515 : Nat × aAg := ((nat_lit 0), .inr (.inl [(nat_lit 95)]))
def lcn_516 : Nat × aAg := ((nat_lit 1), .inl [((.ofNat (nat_lit 1000000000)), (.ofNat (nat_lit 1000000000)), (nat_lit 1))])
set_option maxRecDepth 100000 in
theorem btJ7_fill_53178 : bTab oJ7_fill_53178 tJ7_fill_53178 := ⟨ofJ7_fill_53178, by decide +kernel⟩
def ct_157 : aCt := (mJ7_fill_53178, [ag_512, ag_513], ([], []), [pon_49], mdn_514, [], (nat_lit 0))
set_option maxRecDepth 100000 in
theorem S_157 : aSpec wd ct_157 := bChk_ok wx_ok btJ7_fill_53178 (nds := [((nat_lit 5), [lcn_515, lcn_516, lcn_411, lcn_108], [], [], [], (7, [(0, -1)]))]) (fk := []) (rk := (8, [])) (sp := 32) (fuel := 3000) (by decide +kernel) lk_n odJ7_fill_53178
def lcn_517 : Nat × aAg := ((nat_lit 3), .inl aTop)
def ct_158 : aCt := (mX6_dayOfLeaving, [ag_394, ag_170, ag_1, ag_1], ([], []), [pon_130], [], [], (nat_lit 0))
set_option maxRecDepth 100000 in
theorem S_158 : aSpec wd ct_158 := bChk_ok wx_ok btX6_dayOfLeaving (nds := [((nat_lit 16), [lcn_396, lcn_175, lcn_132, lcn_517, lcn_351, lcn_399], [], [], [], (4, [(3, -1)]))]) (fk := []) (rk := (5, [])) (sp := 65536) (fuel := 3000) (by decide +kernel) lk_n odX6_dayOfLeaving
def ag_518 : aAg := .inr (.inl [(nat_lit 9), (nat_lit 10), (nat_lit 11), (nat_lit 12), (nat_lit 13), (nat_lit 14), (nat_lit 15), (nat_lit 16), (nat_lit 17), (nat_lit 18), (nat_lit 19), (nat_lit 20)])
set_option maxRecDepth 100000 in
theorem btX6_goes : bTab oX6_goes tX6_goes := ⟨ofX6_goes, by decide +kernel⟩
def ct_159 : aCt := (mX6_goes, [ag_394, ag_170, ag_518, ag_125, ag_125], ([], []), [pon_37, pon_38], mdn_514, [], (nat_lit 1))
set_option maxRecDepth 100000 in
theorem S_159 : aSpec wd ct_159 := bChk_ok wx_ok btX6_goes (nds := []) (fk := []) (rk := (1, [])) (sp := 0) (fuel := 3000) (by decide +kernel) (lk_d S_158 ml_6_80 lk_n) odX6_goes
def ct_160 : aCt := (mX6_dayOfLeaving, [ag_394, ag_22, ag_1, ag_1], ([], []), [pon_130], [], [], (nat_lit 0))
set_option maxRecDepth 100000 in
theorem S_160 : aSpec wd ct_160 := bChk_ok wx_ok btX6_dayOfLeaving (nds := [((nat_lit 16), [lcn_396, lcn_167, lcn_132, lcn_517, lcn_351, lcn_399], [], [], [], (4, [(3, -1)]))]) (fk := []) (rk := (5, [])) (sp := 65536) (fuel := 3000) (by decide +kernel) lk_n odX6_dayOfLeaving
def ag_519 : aAg := .inl [((.negSucc (nat_lit 1)), (.negSucc (nat_lit 1)), (nat_lit 1)), ((.ofNat (nat_lit 1)), (.ofNat (nat_lit 1)), (nat_lit 1)), ((.ofNat (nat_lit 3)), (.ofNat (nat_lit 3)), (nat_lit 1))]
def lcn_520 : Nat × aAg := ((nat_lit 1), .inl [((.negSucc (nat_lit 1)), (.negSucc (nat_lit 1)), (nat_lit 1)), ((.ofNat (nat_lit 1)), (.ofNat (nat_lit 1)), (nat_lit 1))])
def ct_161 : aCt := (mX6_dayOfLeaving, [ag_394, ag_519, ag_1, ag_1], ([], []), [pon_130], [], [], (nat_lit 0))
set_option maxRecDepth 100000 in
theorem S_161 : aSpec wd ct_161 := bChk_ok wx_ok btX6_dayOfLeaving (nds := [((nat_lit 16), [lcn_396, lcn_520, lcn_132, lcn_517, lcn_351, lcn_399], [], [], [], (4, [(4, -1)]))]) (fk := []) (rk := (5, [])) (sp := 65536) (fuel := 3000) (by decide +kernel) lk_n odX6_dayOfLeaving
def ag_521 : aAg := .inl [((.negSucc (nat_lit 1)), (.negSucc (nat_lit 1)), (nat_lit 1)), ((.ofNat (nat_lit 1)), (.ofNat (nat_lit 3)), (nat_lit 1))]
def pon_522 : aPo := (some (.inl [((.ofNat (nat_lit 1)), (.ofNat (nat_lit 1)), (nat_lit 1))]), [none, some [((.negSucc (nat_lit 1)), (.negSucc (nat_lit 1)), (nat_lit 1)), ((.ofNat (nat_lit 1)), (.ofNat (nat_lit 3)), (nat_lit 1))], none, none, none], [], [])
def ct_162 : aCt := (mX6_goes, [ag_394, ag_521, ag_518, ag_125, ag_125], ([], []), [pon_37, pon_522], mdn_514, [], (nat_lit 1))
set_option maxRecDepth 100000 in
theorem S_162 : aSpec wd ct_162 := bChk_ok wx_ok btX6_goes (nds := []) (fk := []) (rk := (1, [])) (sp := 0) (fuel := 3000) (by decide +kernel) (lk_d S_160 ml_6_80 (lk_d S_161 ml_6_80 lk_n)) odX6_goes
def ag_523 : aAg := .inl [((.negSucc (nat_lit 1)), (.negSucc (nat_lit 1)), (nat_lit 1)), ((.ofNat (nat_lit 0)), (.ofNat (nat_lit 3)), (nat_lit 1))]
def lcn_524 : Nat × aAg := ((nat_lit 1), .inl [((.negSucc (nat_lit 1)), (.negSucc (nat_lit 1)), (nat_lit 1)), ((.ofNat (nat_lit 0)), (.ofNat (nat_lit 3)), (nat_lit 1))])
def lcn_525 : Nat × aAg := ((nat_lit 5), .inl [((.ofNat (nat_lit 0)), (.ofNat (nat_lit 1)), (nat_lit 1))])
def lcn_526 : Nat × aAg := ((nat_lit 4), .inl [((.ofNat (nat_lit 1)), (.ofNat (nat_lit 7)), (nat_lit 1))])
def lcn_527 : Nat × aAg := ((nat_lit 6), .inl [((.ofNat (nat_lit 0)), (.ofNat (nat_lit 6)), (nat_lit 1))])
def lcn_528 : Nat × aAg := ((nat_lit 7), .inl [((.ofNat (nat_lit 0)), (.ofNat (nat_lit 12)), (nat_lit 1))])
set_option maxRecDepth 100000 in
theorem btX6_findFirstDays : bTab oX6_findFirstDays tX6_findFirstDays := ⟨ofX6_findFirstDays, by decide +kernel⟩
def ct_163 : aCt := (mX6_findFirstDays, [ag_394, ag_523, ag_125, ag_1], ([], [((94, 0), 2)]), [pon_49], mdn_514, [], (nat_lit 2))
set_option maxRecDepth 100000 in
theorem S_163 : aSpec wd ct_163 := bChk_ok wx_ok btX6_findFirstDays (nds := [((nat_lit 39), [lcn_396, lcn_524, lcn_250, lcn_517, lcn_445, lcn_525, lcn_369], [], [], [((94, 0), 2)], (111, [(5, -14)])), ((nat_lit 57), [lcn_396, lcn_524, lcn_250, lcn_517, lcn_526, lcn_525, lcn_527, lcn_528], [], [], [((94, 0), 2)], (110, [(5, -14), (6, -1)]))]) (fk := []) (rk := (112, [])) (sp := 144115737831669760) (fuel := 3000) (by decide +kernel) (lk_d S_157 ml_6_38 (lk_d S_89 ml_6_64 (lk_d S_159 ml_6_70 (lk_d S_162 ml_6_70 lk_n)))) odX6_findFirstDays
set_option maxRecDepth 100000 in
theorem btX6_firstDayAt : bTab oX6_firstDayAt tX6_firstDayAt := ⟨ofX6_firstDayAt, by decide +kernel⟩
def ct_164 : aCt := (mX6_firstDayAt, [ag_394, ag_361, ag_125, ag_125, ag_345], ([sl_341], [((94, 0), 2)]), [pon_130, pon_52], mdn_514, [], (nat_lit 3))
set_option maxRecDepth 100000 in
theorem S_164 : aSpec wd ct_164 := bChk_ok wx_ok btX6_firstDayAt (nds := []) (fk := []) (rk := (1, [])) (sp := 0) (fuel := 3000) (by decide +kernel) (lk_d S_163 ml_6_84 lk_n) odX6_firstDayAt
def pon_529 : aPo := (some (.inl aTop), [none, some [((.ofNat (nat_lit 0)), (.ofNat (nat_lit 4)), (nat_lit 1))], some [((.ofNat (nat_lit 0)), (.ofNat (nat_lit 6)), (nat_lit 1))], some [((.ofNat (nat_lit 0)), (.ofNat (nat_lit 6)), (nat_lit 1))], some [((.ofNat (nat_lit 0)), (.ofNat (nat_lit 9999)), (nat_lit 1))]], [sl_301, sl_341, sl_334], [])
def pon_530 : aPo := (some (.inl [((.negSucc (nat_lit 0)), (.negSucc (nat_lit 0)), (nat_lit 1))]), [none, some aTop, none, none, none], [sl_389], [])
def mdn_531 : List (Nat × Nat × Nat) := [((nat_lit 0), (nat_lit 2), (nat_lit 3)), ((nat_lit 95), (nat_lit 0), (nat_lit 7))]
set_option maxRecDepth 100000 in
theorem btX11_arrival : bTab oX11_arrival tX11_arrival := ⟨ofX11_arrival, by decide +kernel⟩
def ct_165 : aCt := (mX11_arrival, [ag_0, ag_1, ag_1, ag_1, ag_1], ([], [((0, 3), 2), ((94, 0), 2)]), [pon_529, pon_530], mdn_531, [], (nat_lit 4))
set_option maxRecDepth 100000 in
theorem S_165 : aSpec wd ct_165 := bChk_ok wx_ok btX11_arrival (nds := []) (fk := []) (rk := (1, [])) (sp := 0) (fuel := 3000) (by decide +kernel) (lk_d S_6 ml_11_98 (lk_d S_63 ml_11_98 (lk_d S_164 ml_11_280 (lk_d S_86 ml_11_174 (lk_d S_62 ml_11_121 (lk_d S_67 ml_11_174 (lk_d S_95 ml_11_227 (lk_d S_57 ml_11_112 lk_n)))))))) odX11_arrival
def ct_166 : aCt := (mX6_firstDayAt, [ag_394, ag_361, ag_125, ag_125, ag_1], ([], [((94, 0), 2)]), [pon_130, pon_52], mdn_514, [], (nat_lit 3))
set_option maxRecDepth 100000 in
theorem S_166 : aSpec wd ct_166 := bChk_ok wx_ok btX6_firstDayAt (nds := []) (fk := []) (rk := (1, [])) (sp := 0) (fuel := 3000) (by decide +kernel) (lk_d S_163 ml_6_84 lk_n) odX6_firstDayAt
def sl_532 : (Nat × Nat) × aI := (((nat_lit 94), (nat_lit 4)), [((.ofNat (nat_lit 0)), (.ofNat (nat_lit 6)), (nat_lit 1))])
def pon_533 : aPo := (some (.inl aTop), [], [sl_532], [])
def mdn_534 : List (Nat × Nat × Nat) := [((nat_lit 92), (nat_lit 2), (nat_lit 4)), ((nat_lit 94), (nat_lit 4), (nat_lit 7)), ((nat_lit 95), (nat_lit 0), (nat_lit 7))]
set_option maxRecDepth 100000 in
theorem btX6_dayOfBringing : bTab oX6_dayOfBringing tX6_dayOfBringing := ⟨ofX6_dayOfBringing, by decide +kernel⟩
def ct_167 : aCt := (mX6_dayOfBringing, [ag_394, ag_217, ag_190], ([sl_324], [((92, 0), 2), ((94, 0), 2)]), [pon_533, pon_52], mdn_534, [], (nat_lit 4))
set_option maxRecDepth 100000 in
theorem S_167 : aSpec wd ct_167 := bChk_ok wx_ok btX6_dayOfBringing (nds := []) (fk := []) (rk := (1, [])) (sp := 0) (fuel := 3000) (by decide +kernel) (lk_d S_98 ml_6_96 (lk_d S_76 ml_6_115 (lk_d S_166 ml_6_136 (lk_d S_83 ml_6_122 lk_n)))) odX6_dayOfBringing
def ct_168 : aCt := (mX6_dayOfBringing, [ag_394, ag_361, ag_190], ([sl_322], [((92, 0), 2), ((94, 0), 2)]), [pon_533, pon_52], mdn_534, [], (nat_lit 4))
set_option maxRecDepth 100000 in
theorem S_168 : aSpec wd ct_168 := bChk_ok wx_ok btX6_dayOfBringing (nds := []) (fk := []) (rk := (1, [])) (sp := 0) (fuel := 3000) (by decide +kernel) (lk_d S_98 ml_6_96 (lk_d S_76 ml_6_115 (lk_d S_166 ml_6_136 (lk_d S_83 ml_6_122 lk_n)))) odX6_dayOfBringing
def ct_169 : aCt := (mX6_dayOfBringing, [ag_394, ag_402, ag_190], ([sl_320], [((92, 0), 2), ((94, 0), 2)]), [pon_533, pon_52], mdn_534, [], (nat_lit 4))
set_option maxRecDepth 100000 in
theorem S_169 : aSpec wd ct_169 := bChk_ok wx_ok btX6_dayOfBringing (nds := []) (fk := []) (rk := (1, [])) (sp := 0) (fuel := 3000) (by decide +kernel) (lk_d S_98 ml_6_96 (lk_d S_76 ml_6_115 (lk_d S_166 ml_6_136 (lk_d S_83 ml_6_122 lk_n)))) odX6_dayOfBringing
def ag_535 : aAg := .inl [((.ofNat (nat_lit 0)), (.ofNat (nat_lit 1)), (nat_lit 1))]
def ct_170 : aCt := (mX6_dayOfBringing, [ag_394, ag_535, ag_190], ([sl_318], [((92, 0), 2), ((94, 0), 2)]), [pon_533, pon_52], mdn_534, [], (nat_lit 4))
set_option maxRecDepth 100000 in
theorem S_170 : aSpec wd ct_170 := bChk_ok wx_ok btX6_dayOfBringing (nds := []) (fk := []) (rk := (1, [])) (sp := 0) (fuel := 3000) (by decide +kernel) (lk_d S_98 ml_6_96 (lk_d S_76 ml_6_115 (lk_d S_166 ml_6_136 (lk_d S_83 ml_6_122 lk_n)))) odX6_dayOfBringing
def ct_171 : aCt := (mX6_dayOfBringing, [ag_394, ag_170, ag_190], ([sl_316], [((92, 0), 2), ((94, 0), 2)]), [pon_533, pon_52], mdn_534, [], (nat_lit 4))
set_option maxRecDepth 100000 in
theorem S_171 : aSpec wd ct_171 := bChk_ok wx_ok btX6_dayOfBringing (nds := []) (fk := []) (rk := (1, [])) (sp := 0) (fuel := 3000) (by decide +kernel) (lk_d S_98 ml_6_96 (lk_d S_76 ml_6_115 (lk_d S_166 ml_6_136 (lk_d S_83 ml_6_122 lk_n)))) odX6_dayOfBringing
def pon_536 : aPo := (some (.inl aTop), [none, some [((.ofNat (nat_lit 0)), (.ofNat (nat_lit 4)), (nat_lit 1))], some [((.ofNat (nat_lit 0)), (.ofNat (nat_lit 7)), (nat_lit 1))]], [sl_301, sl_334, sl_338], [])
def mdn_537 : List (Nat × Nat × Nat) := [((nat_lit 0), (nat_lit 2), (nat_lit 3)), ((nat_lit 92), (nat_lit 2), (nat_lit 4)), ((nat_lit 94), (nat_lit 4), (nat_lit 7)), ((nat_lit 95), (nat_lit 0), (nat_lit 7))]
set_option maxRecDepth 100000 in
theorem btX11_brings : bTab oX11_brings tX11_brings := ⟨ofX11_brings, by decide +kernel⟩
def ct_172 : aCt := (mX11_brings, [ag_0, ag_1, ag_1], ([], [((0, 3), 2), ((92, 0), 2), ((94, 0), 2)]), [pon_536, pon_336], mdn_537, [], (nat_lit 5))
set_option maxRecDepth 100000 in
theorem S_172 : aSpec wd ct_172 := bChk_ok wx_ok btX11_brings (nds := []) (fk := []) (rk := (1, [])) (sp := 0) (fuel := 3000) (by decide +kernel) (lk_d S_63 ml_11_98 (lk_d S_171 ml_11_283 (lk_d S_170 ml_11_283 (lk_d S_169 ml_11_283 (lk_d S_168 ml_11_283 (lk_d S_167 ml_11_283 (lk_d S_62 ml_11_121 (lk_d S_65 ml_11_147 (lk_d S_57 ml_11_112 lk_n))))))))) odX11_brings
end Pk2
