section Pk0
def ag_0 : aAg := .inr (.inl [(nat_lit 0)])
def ag_1 : aAg := .inl aTop
def sl_2 : (Nat × Nat) × aI := (((nat_lit 0), (nat_lit 1)), [((.ofNat (nat_lit 0)), (.ofNat (nat_lit 980)), (nat_lit 1))])
def sl_3 : (Nat × Nat) × aI := (((nat_lit 0), (nat_lit 1)), [((.ofNat (nat_lit 4)), (.ofNat (nat_lit 984)), (nat_lit 1))])
def pon_4 : aPo := (none, [], [sl_3], [])
def mdn_5 : List (Nat × Nat × Nat) := [((nat_lit 0), (nat_lit 1), (nat_lit 2)), ((nat_lit 1), (nat_lit 0), (nat_lit 984))]
set_option maxRecDepth 100000 in
theorem btX11_appendBytes : bTab oX11_appendBytes tX11_appendBytes := ⟨ofX11_appendBytes, by decide +kernel⟩
def ct_0 : aCt := (mX11_appendBytes, [ag_0, ag_1], ([sl_2], []), [pon_4], mdn_5, [], (nat_lit 0))
set_option maxRecDepth 100000 in
theorem S_0 : aSpec wd ct_0 := bChk_ok wx_ok btX11_appendBytes (nds := []) (fk := []) (rk := (1, [])) (sp := 0) (fuel := 3000) (by decide +kernel) lk_n odX11_appendBytes
def sl_6 : (Nat × Nat) × aI := (((nat_lit 0), (nat_lit 1)), [((.ofNat (nat_lit 8)), (.ofNat (nat_lit 988)), (nat_lit 1))])
def pon_7 : aPo := (none, [], [sl_6], [])
def mdn_8 : List (Nat × Nat × Nat) := [((nat_lit 0), (nat_lit 1), (nat_lit 2)), ((nat_lit 1), (nat_lit 4), (nat_lit 988))]
def ct_1 : aCt := (mX11_appendBytes, [ag_0, ag_1], ([sl_3], []), [pon_7], mdn_8, [], (nat_lit 0))
set_option maxRecDepth 100000 in
theorem S_1 : aSpec wd ct_1 := bChk_ok wx_ok btX11_appendBytes (nds := []) (fk := []) (rk := (1, [])) (sp := 0) (fuel := 3000) (by decide +kernel) lk_n odX11_appendBytes
def sl_9 : (Nat × Nat) × aI := (((nat_lit 0), (nat_lit 1)), [((.ofNat (nat_lit 12)), (.ofNat (nat_lit 992)), (nat_lit 1))])
def pon_10 : aPo := (none, [], [sl_9], [])
def mdn_11 : List (Nat × Nat × Nat) := [((nat_lit 0), (nat_lit 1), (nat_lit 2)), ((nat_lit 1), (nat_lit 8), (nat_lit 992))]
def ct_2 : aCt := (mX11_appendBytes, [ag_0, ag_1], ([sl_6], []), [pon_10], mdn_11, [], (nat_lit 0))
set_option maxRecDepth 100000 in
theorem S_2 : aSpec wd ct_2 := bChk_ok wx_ok btX11_appendBytes (nds := []) (fk := []) (rk := (1, [])) (sp := 0) (fuel := 3000) (by decide +kernel) lk_n odX11_appendBytes
def sl_12 : (Nat × Nat) × aI := (((nat_lit 0), (nat_lit 1)), [((.ofNat (nat_lit 16)), (.ofNat (nat_lit 996)), (nat_lit 1))])
def pon_13 : aPo := (none, [], [sl_12], [])
def mdn_14 : List (Nat × Nat × Nat) := [((nat_lit 0), (nat_lit 1), (nat_lit 2)), ((nat_lit 1), (nat_lit 12), (nat_lit 996))]
def ct_3 : aCt := (mX11_appendBytes, [ag_0, ag_1], ([sl_9], []), [pon_13], mdn_14, [], (nat_lit 0))
set_option maxRecDepth 100000 in
theorem S_3 : aSpec wd ct_3 := bChk_ok wx_ok btX11_appendBytes (nds := []) (fk := []) (rk := (1, [])) (sp := 0) (fuel := 3000) (by decide +kernel) lk_n odX11_appendBytes
def sl_15 : (Nat × Nat) × aI := (((nat_lit 0), (nat_lit 1)), [((.ofNat (nat_lit 20)), (.ofNat (nat_lit 1000)), (nat_lit 1))])
def pon_16 : aPo := (none, [], [sl_15], [])
def mdn_17 : List (Nat × Nat × Nat) := [((nat_lit 0), (nat_lit 1), (nat_lit 2)), ((nat_lit 1), (nat_lit 16), (nat_lit 1000))]
def ct_4 : aCt := (mX11_appendBytes, [ag_0, ag_1], ([sl_12], []), [pon_16], mdn_17, [], (nat_lit 0))
set_option maxRecDepth 100000 in
theorem S_4 : aSpec wd ct_4 := bChk_ok wx_ok btX11_appendBytes (nds := []) (fk := []) (rk := (1, [])) (sp := 0) (fuel := 3000) (by decide +kernel) lk_n odX11_appendBytes
def pon_18 : aPo := (some (.inl [((.ofNat (nat_lit 20)), (.ofNat (nat_lit 1000)), (nat_lit 1))]), [], [sl_15], [])
def sl_19 : (Nat × Nat) × aI := (((nat_lit 0), (nat_lit 1)), [((.ofNat (nat_lit 981)), (.ofNat (nat_lit 1000)), (nat_lit 1))])
def pon_20 : aPo := (some (.inl [((.negSucc (nat_lit 0)), (.negSucc (nat_lit 0)), (nat_lit 1))]), [], [sl_19], [])
def mdn_21 : List (Nat × Nat × Nat) := [((nat_lit 0), (nat_lit 1), (nat_lit 2)), ((nat_lit 1), (nat_lit 0), (nat_lit 1000))]
set_option maxRecDepth 100000 in
theorem btX11_feed : bTab oX11_feed tX11_feed := ⟨ofX11_feed, by decide +kernel⟩
def ct_5 : aCt := (mX11_feed, [ag_0, ag_1, ag_1, ag_1, ag_1, ag_1], ([], []), [pon_18, pon_20], mdn_21, [], (nat_lit 1))
set_option maxRecDepth 100000 in
theorem S_5 : aSpec wd ct_5 := bChk_ok wx_ok btX11_feed (nds := []) (fk := []) (rk := (1, [])) (sp := 0) (fuel := 3000) (by decide +kernel) (lk_d S_0 ml_11_94 (lk_d S_1 ml_11_94 (lk_d S_2 ml_11_94 (lk_d S_3 ml_11_94 (lk_d S_4 ml_11_94 lk_n))))) odX11_feed
def ag_22 : aAg := .inl [((.ofNat (nat_lit 2)), (.ofNat (nat_lit 2)), (nat_lit 1))]
def sl_23 : (Nat × Nat) × aI := (((nat_lit 0), (nat_lit 2)), [((.ofNat (nat_lit 2)), (.ofNat (nat_lit 2)), (nat_lit 1))])
def pon_24 : aPo := (some (.inl [((.negSucc (nat_lit 0)), (.negSucc (nat_lit 0)), (nat_lit 1))]), [], [sl_23], [])
def mdn_25 : List (Nat × Nat × Nat) := [((nat_lit 0), (nat_lit 2), (nat_lit 3))]
set_option maxRecDepth 100000 in
theorem btX11_refused : bTab oX11_refused tX11_refused := ⟨ofX11_refused, by decide +kernel⟩
def ct_6 : aCt := (mX11_refused, [ag_0, ag_22], ([], []), [pon_24], mdn_25, [], (nat_lit 0))
set_option maxRecDepth 100000 in
theorem S_6 : aSpec wd ct_6 := bChk_ok wx_ok btX11_refused (nds := []) (fk := []) (rk := (1, [])) (sp := 0) (fuel := 3000) (by decide +kernel) lk_n odX11_refused
def ag_26 : aAg := .inr (.inl [(nat_lit 42)])
def sl_27 : (Nat × Nat) × aI := (((nat_lit 42), (nat_lit 4)), [((.ofNat (nat_lit 0)), (.ofNat (nat_lit 0)), (nat_lit 1))])
def sl_28 : (Nat × Nat) × aI := (((nat_lit 42), (nat_lit 5)), [((.ofNat (nat_lit 0)), (.ofNat (nat_lit 0)), (nat_lit 1))])
def sl_29 : (Nat × Nat) × aI := (((nat_lit 42), (nat_lit 6)), [((.ofNat (nat_lit 0)), (.ofNat (nat_lit 0)), (nat_lit 1))])
def sl_30 : (Nat × Nat) × aI := (((nat_lit 42), (nat_lit 7)), [((.ofNat (nat_lit 0)), (.ofNat (nat_lit 0)), (nat_lit 1))])
def sl_31 : (Nat × Nat) × aI := (((nat_lit 42), (nat_lit 8)), [((.ofNat (nat_lit 0)), (.ofNat (nat_lit 0)), (nat_lit 1))])
def pon_32 : aPo := (none, [], [sl_27, sl_28, sl_29, sl_30, sl_31], [])
def mdn_33 : List (Nat × Nat × Nat) := [((nat_lit 42), (nat_lit 0), (nat_lit 9))]
set_option maxRecDepth 100000 in
theorem btX4_clear : bTab oX4_clear tX4_clear := ⟨ofX4_clear, by decide +kernel⟩
def ct_7 : aCt := (mX4_clear, [ag_26], ([], []), [pon_32], mdn_33, [], (nat_lit 0))
set_option maxRecDepth 100000 in
theorem S_7 : aSpec wd ct_7 := bChk_ok wx_ok btX4_clear (nds := []) (fk := []) (rk := (1, [])) (sp := 0) (fuel := 3000) (by decide +kernel) lk_n odX4_clear
def ag_34 : aAg := .inr (.inl [(nat_lit 82)])
def ag_35 : aAg := .inl [((.ofNat (nat_lit 97)), (.ofNat (nat_lit 97)), (nat_lit 1))]
def ag_36 : aAg := .inl [((.ofNat (nat_lit 122)), (.ofNat (nat_lit 122)), (nat_lit 1))]
def pon_37 : aPo := (some (.inl [((.ofNat (nat_lit 0)), (.ofNat (nat_lit 0)), (nat_lit 1))]), [], [], [])
def pon_38 : aPo := (some (.inl [((.ofNat (nat_lit 1)), (.ofNat (nat_lit 1)), (nat_lit 1))]), [], [], [])
def mdn_39 : List (Nat × Nat × Nat) := [((nat_lit 82), (nat_lit 2), (nat_lit 3))]
def lcn_40 : Nat × aAg := ((nat_lit 0), .inr (.inl [(nat_lit 82)]))
def lcn_41 : Nat × aAg := ((nat_lit 1), .inl [((.ofNat (nat_lit 97)), (.ofNat (nat_lit 97)), (nat_lit 1))])
def lcn_42 : Nat × aAg := ((nat_lit 2), .inl [((.ofNat (nat_lit 122)), (.ofNat (nat_lit 122)), (nat_lit 1))])
def sl_43 : (Nat × Nat) × aI := (((nat_lit 82), (nat_lit 1)), [((.ofNat (nat_lit 1)), (.ofNat (nat_lit 1000)), (nat_lit 1))])
def sl_44 : (Nat × Nat) × aI := (((nat_lit 82), (nat_lit 2)), [((.ofNat (nat_lit 1)), (.ofNat (nat_lit 1000)), (nat_lit 1))])
set_option maxRecDepth 100000 in
theorem btX5_passAll : bTab oX5_passAll tX5_passAll := ⟨ofX5_passAll, by decide +kernel⟩
def ct_8 : aCt := (mX5_passAll, [ag_34, ag_35, ag_36], ([], []), [pon_37, pon_38], mdn_39, [], (nat_lit 0))
set_option maxRecDepth 100000 in
theorem S_8 : aSpec wd ct_8 := bChk_ok wx_ok btX5_passAll (nds := [((nat_lit 0), [lcn_40, lcn_41, lcn_42], [], [sl_43, sl_44], [], (1000, [(1, -1)]))]) (fk := []) (rk := (1000, [])) (sp := 1) (fuel := 3000) (by decide +kernel) lk_n odX5_passAll
def ag_45 : aAg := .inl [((.ofNat (nat_lit 48)), (.ofNat (nat_lit 48)), (nat_lit 1))]
def ag_46 : aAg := .inl [((.ofNat (nat_lit 57)), (.ofNat (nat_lit 57)), (nat_lit 1))]
def lcn_47 : Nat × aAg := ((nat_lit 1), .inl [((.ofNat (nat_lit 48)), (.ofNat (nat_lit 48)), (nat_lit 1))])
def lcn_48 : Nat × aAg := ((nat_lit 2), .inl [((.ofNat (nat_lit 57)), (.ofNat (nat_lit 57)), (nat_lit 1))])
def ct_9 : aCt := (mX5_passAll, [ag_34, ag_45, ag_46], ([], []), [pon_37, pon_38], mdn_39, [], (nat_lit 0))
set_option maxRecDepth 100000 in
theorem S_9 : aSpec wd ct_9 := bChk_ok wx_ok btX5_passAll (nds := [((nat_lit 0), [lcn_40, lcn_47, lcn_48], [], [sl_43, sl_44], [], (1000, [(1, -1)]))]) (fk := []) (rk := (1000, [])) (sp := 1) (fuel := 3000) (by decide +kernel) lk_n odX5_passAll
def pon_49 : aPo := (none, [], [], [])
def mdn_50 : List (Nat × Nat × Nat) := [((nat_lit 82), (nat_lit 2), (nat_lit 5))]
set_option maxRecDepth 100000 in
theorem btX5_nextToken : bTab oX5_nextToken tX5_nextToken := ⟨ofX5_nextToken, by decide +kernel⟩
def ct_10 : aCt := (mX5_nextToken, [ag_34], ([], []), [pon_49], mdn_50, [], (nat_lit 1))
set_option maxRecDepth 100000 in
theorem S_10 : aSpec wd ct_10 := bChk_ok wx_ok btX5_nextToken (nds := [((nat_lit 0), [lcn_40], [], [sl_43, sl_44], [], (1000, [(1, -1)]))]) (fk := []) (rk := (1000, [])) (sp := 1) (fuel := 3000) (by decide +kernel) (lk_d S_8 ml_5_278 (lk_d S_9 ml_5_278 lk_n)) odX5_nextToken
def pon_51 : aPo := (some (.inl [((.ofNat (nat_lit 2)), (.ofNat (nat_lit 5)), (nat_lit 1))]), [], [], [])
def pon_52 : aPo := (some (.inl [((.negSucc (nat_lit 1)), (.negSucc (nat_lit 1)), (nat_lit 1))]), [], [], [])
set_option maxRecDepth 100000 in
theorem btX5_sortOfLine : bTab oX5_sortOfLine tX5_sortOfLine := ⟨ofX5_sortOfLine, by decide +kernel⟩
def ct_11 : aCt := (mX5_sortOfLine, [ag_34], ([], []), [pon_51, pon_52, pon_37, pon_38], [], [], (nat_lit 1))
set_option maxRecDepth 100000 in
theorem S_11 : aSpec wd ct_11 := bChk_ok wx_ok btX5_sortOfLine (nds := []) (fk := []) (rk := (1, [])) (sp := 0) (fuel := 3000) (by decide +kernel) (lk_d S_X5_isToken_0 ml_5_245 lk_n) odX5_sortOfLine
def ag_53 : aAg := .inl [((.ofNat (nat_lit 1)), (.ofNat (nat_lit 1)), (nat_lit 1))]
def sl_54 : (Nat × Nat) × aI := (((nat_lit 82), (nat_lit 11)), [((.ofNat (nat_lit 0)), (.ofNat (nat_lit 0)), (nat_lit 1))])
def sl_55 : (Nat × Nat) × aI := (((nat_lit 82), (nat_lit 11)), [((.ofNat (nat_lit 1)), (.ofNat (nat_lit 1)), (nat_lit 1))])
def pon_56 : aPo := (some (.inl [((.ofNat (nat_lit 0)), (.ofNat (nat_lit 0)), (nat_lit 1))]), [], [sl_55], [])
def mdn_57 : List (Nat × Nat × Nat) := [((nat_lit 82), (nat_lit 11), (nat_lit 13))]
set_option maxRecDepth 100000 in
theorem btX5_faulty : bTab oX5_faulty tX5_faulty := ⟨ofX5_faulty, by decide +kernel⟩
def ct_12 : aCt := (mX5_faulty, [ag_34, ag_53], ([sl_54], []), [pon_56], mdn_57, [], (nat_lit 0))
set_option maxRecDepth 100000 in
theorem S_12 : aSpec wd ct_12 := bChk_ok wx_ok btX5_faulty (nds := []) (fk := []) (rk := (1, [])) (sp := 0) (fuel := 3000) (by decide +kernel) lk_n odX5_faulty
def pon_58 : aPo := (some (.inr ()), [], [], [])
def lcn_59 : Nat × aAg := ((nat_lit 1), .inr (.inr false))
def lcn_60 : Nat × aAg := ((nat_lit 3), .inl [((.ofNat (nat_lit 0)), (.ofNat (nat_lit 1000)), (nat_lit 1))])
set_option maxRecDepth 100000 in
theorem btX5_letters : bTab oX5_letters tX5_letters := ⟨ofX5_letters, by decide +kernel⟩
def ct_13 : aCt := (mX5_letters, [ag_34], ([], []), [pon_58], [], [], (nat_lit 0))
set_option maxRecDepth 100000 in
theorem S_13 : aSpec wd ct_13 := bChk_ok wx_ok btX5_letters (nds := [((nat_lit 7), [lcn_40, lcn_59, lcn_60], [], [], [], (1000, [(0, -1)]))]) (fk := []) (rk := (1001, [])) (sp := 128) (fuel := 3000) (by decide +kernel) lk_n odX5_letters
def sl_61 : (Nat × Nat) × aI := (((nat_lit 82), (nat_lit 10)), [((.ofNat (nat_lit 1)), (.ofNat (nat_lit 20)), (nat_lit 1))])
def pon_62 : aPo := (some (.inl [((.ofNat (nat_lit 0)), (.ofNat (nat_lit 0)), (nat_lit 1))]), [], [sl_61], [])
def sl_63 : (Nat × Nat) × aI := (((nat_lit 82), (nat_lit 10)), [((.ofNat (nat_lit 2)), (.ofNat (nat_lit 20)), (nat_lit 1))])
def pon_64 : aPo := (some (.inl [((.ofNat (nat_lit 1)), (.ofNat (nat_lit 1)), (nat_lit 1))]), [], [sl_63], [])
def sl_65 : (Nat × Nat) × aI := (((nat_lit 82), (nat_lit 10)), [((.ofNat (nat_lit 11)), (.ofNat (nat_lit 20)), (nat_lit 1))])
def pon_66 : aPo := (some (.inl [((.ofNat (nat_lit 10)), (.ofNat (nat_lit 10)), (nat_lit 1))]), [], [sl_65], [])
def sl_67 : (Nat × Nat) × aI := (((nat_lit 82), (nat_lit 10)), [((.ofNat (nat_lit 12)), (.ofNat (nat_lit 20)), (nat_lit 1))])
def pon_68 : aPo := (some (.inl [((.ofNat (nat_lit 11)), (.ofNat (nat_lit 11)), (nat_lit 1))]), [], [sl_67], [])
def sl_69 : (Nat × Nat) × aI := (((nat_lit 82), (nat_lit 10)), [((.ofNat (nat_lit 13)), (.ofNat (nat_lit 20)), (nat_lit 1))])
def pon_70 : aPo := (some (.inl [((.ofNat (nat_lit 12)), (.ofNat (nat_lit 12)), (nat_lit 1))]), [], [sl_69], [])
def sl_71 : (Nat × Nat) × aI := (((nat_lit 82), (nat_lit 10)), [((.ofNat (nat_lit 14)), (.ofNat (nat_lit 20)), (nat_lit 1))])
def pon_72 : aPo := (some (.inl [((.ofNat (nat_lit 13)), (.ofNat (nat_lit 13)), (nat_lit 1))]), [], [sl_71], [])
def sl_73 : (Nat × Nat) × aI := (((nat_lit 82), (nat_lit 10)), [((.ofNat (nat_lit 15)), (.ofNat (nat_lit 20)), (nat_lit 1))])
def pon_74 : aPo := (some (.inl [((.ofNat (nat_lit 14)), (.ofNat (nat_lit 14)), (nat_lit 1))]), [], [sl_73], [])
def sl_75 : (Nat × Nat) × aI := (((nat_lit 82), (nat_lit 10)), [((.ofNat (nat_lit 16)), (.ofNat (nat_lit 20)), (nat_lit 1))])
def pon_76 : aPo := (some (.inl [((.ofNat (nat_lit 15)), (.ofNat (nat_lit 15)), (nat_lit 1))]), [], [sl_75], [])
def sl_77 : (Nat × Nat) × aI := (((nat_lit 82), (nat_lit 10)), [((.ofNat (nat_lit 17)), (.ofNat (nat_lit 20)), (nat_lit 1))])
def pon_78 : aPo := (some (.inl [((.ofNat (nat_lit 16)), (.ofNat (nat_lit 16)), (nat_lit 1))]), [], [sl_77], [])
def sl_79 : (Nat × Nat) × aI := (((nat_lit 82), (nat_lit 10)), [((.ofNat (nat_lit 18)), (.ofNat (nat_lit 20)), (nat_lit 1))])
def pon_80 : aPo := (some (.inl [((.ofNat (nat_lit 17)), (.ofNat (nat_lit 17)), (nat_lit 1))]), [], [sl_79], [])
def sl_81 : (Nat × Nat) × aI := (((nat_lit 82), (nat_lit 10)), [((.ofNat (nat_lit 19)), (.ofNat (nat_lit 20)), (nat_lit 1))])
def pon_82 : aPo := (some (.inl [((.ofNat (nat_lit 18)), (.ofNat (nat_lit 18)), (nat_lit 1))]), [], [sl_81], [])
def sl_83 : (Nat × Nat) × aI := (((nat_lit 82), (nat_lit 10)), [((.ofNat (nat_lit 20)), (.ofNat (nat_lit 20)), (nat_lit 1))])
def pon_84 : aPo := (some (.inl [((.ofNat (nat_lit 19)), (.ofNat (nat_lit 19)), (nat_lit 1))]), [], [sl_83], [])
def sl_85 : (Nat × Nat) × aI := (((nat_lit 82), (nat_lit 10)), [((.ofNat (nat_lit 3)), (.ofNat (nat_lit 20)), (nat_lit 1))])
def pon_86 : aPo := (some (.inl [((.ofNat (nat_lit 2)), (.ofNat (nat_lit 2)), (nat_lit 1))]), [], [sl_85], [])
def sl_87 : (Nat × Nat) × aI := (((nat_lit 82), (nat_lit 10)), [((.ofNat (nat_lit 4)), (.ofNat (nat_lit 20)), (nat_lit 1))])
def pon_88 : aPo := (some (.inl [((.ofNat (nat_lit 3)), (.ofNat (nat_lit 3)), (nat_lit 1))]), [], [sl_87], [])
def sl_89 : (Nat × Nat) × aI := (((nat_lit 82), (nat_lit 10)), [((.ofNat (nat_lit 5)), (.ofNat (nat_lit 20)), (nat_lit 1))])
def pon_90 : aPo := (some (.inl [((.ofNat (nat_lit 4)), (.ofNat (nat_lit 4)), (nat_lit 1))]), [], [sl_89], [])
def sl_91 : (Nat × Nat) × aI := (((nat_lit 82), (nat_lit 10)), [((.ofNat (nat_lit 6)), (.ofNat (nat_lit 20)), (nat_lit 1))])
def pon_92 : aPo := (some (.inl [((.ofNat (nat_lit 5)), (.ofNat (nat_lit 5)), (nat_lit 1))]), [], [sl_91], [])
def sl_93 : (Nat × Nat) × aI := (((nat_lit 82), (nat_lit 10)), [((.ofNat (nat_lit 7)), (.ofNat (nat_lit 20)), (nat_lit 1))])
def pon_94 : aPo := (some (.inl [((.ofNat (nat_lit 6)), (.ofNat (nat_lit 6)), (nat_lit 1))]), [], [sl_93], [])
def sl_95 : (Nat × Nat) × aI := (((nat_lit 82), (nat_lit 10)), [((.ofNat (nat_lit 8)), (.ofNat (nat_lit 20)), (nat_lit 1))])
def pon_96 : aPo := (some (.inl [((.ofNat (nat_lit 7)), (.ofNat (nat_lit 7)), (nat_lit 1))]), [], [sl_95], [])
def sl_97 : (Nat × Nat) × aI := (((nat_lit 82), (nat_lit 10)), [((.ofNat (nat_lit 9)), (.ofNat (nat_lit 20)), (nat_lit 1))])
def pon_98 : aPo := (some (.inl [((.ofNat (nat_lit 8)), (.ofNat (nat_lit 8)), (nat_lit 1))]), [], [sl_97], [])
def sl_99 : (Nat × Nat) × aI := (((nat_lit 82), (nat_lit 10)), [((.ofNat (nat_lit 10)), (.ofNat (nat_lit 20)), (nat_lit 1))])
def pon_100 : aPo := (some (.inl [((.ofNat (nat_lit 9)), (.ofNat (nat_lit 9)), (nat_lit 1))]), [], [sl_99], [])
def lcn_101 : Nat × aAg := ((nat_lit 3), .inl [((.ofNat (nat_lit 0)), (.ofNat (nat_lit 0)), (nat_lit 1))])
def lcn_102 : Nat × aAg := ((nat_lit 3), .inl [((.ofNat (nat_lit 1)), (.ofNat (nat_lit 1)), (nat_lit 1))])
def lcn_103 : Nat × aAg := ((nat_lit 3), .inl [((.ofNat (nat_lit 2)), (.ofNat (nat_lit 2)), (nat_lit 1))])
def lcn_104 : Nat × aAg := ((nat_lit 3), .inl [((.ofNat (nat_lit 3)), (.ofNat (nat_lit 3)), (nat_lit 1))])
def lcn_105 : Nat × aAg := ((nat_lit 3), .inl [((.ofNat (nat_lit 4)), (.ofNat (nat_lit 4)), (nat_lit 1))])
def lcn_106 : Nat × aAg := ((nat_lit 3), .inl [((.ofNat (nat_lit 5)), (.ofNat (nat_lit 5)), (nat_lit 1))])
def lcn_107 : Nat × aAg := ((nat_lit 3), .inl [((.ofNat (nat_lit 6)), (.ofNat (nat_lit 6)), (nat_lit 1))])
def lcn_108 : Nat × aAg := ((nat_lit 3), .inl [((.ofNat (nat_lit 7)), (.ofNat (nat_lit 7)), (nat_lit 1))])
def lcn_109 : Nat × aAg := ((nat_lit 3), .inl [((.ofNat (nat_lit 8)), (.ofNat (nat_lit 8)), (nat_lit 1))])
def lcn_110 : Nat × aAg := ((nat_lit 3), .inl [((.ofNat (nat_lit 9)), (.ofNat (nat_lit 9)), (nat_lit 1))])
def lcn_111 : Nat × aAg := ((nat_lit 3), .inl [((.ofNat (nat_lit 10)), (.ofNat (nat_lit 10)), (nat_lit 1))])
def lcn_112 : Nat × aAg := ((nat_lit 3), .inl [((.ofNat (nat_lit 11)), (.ofNat (nat_lit 11)), (nat_lit 1))])
def lcn_113 : Nat × aAg := ((nat_lit 3), .inl [((.ofNat (nat_lit 12)), (.ofNat (nat_lit 12)), (nat_lit 1))])
def lcn_114 : Nat × aAg := ((nat_lit 3), .inl [((.ofNat (nat_lit 13)), (.ofNat (nat_lit 13)), (nat_lit 1))])
def lcn_115 : Nat × aAg := ((nat_lit 3), .inl [((.ofNat (nat_lit 14)), (.ofNat (nat_lit 14)), (nat_lit 1))])
def lcn_116 : Nat × aAg := ((nat_lit 3), .inl [((.ofNat (nat_lit 15)), (.ofNat (nat_lit 15)), (nat_lit 1))])
def lcn_117 : Nat × aAg := ((nat_lit 3), .inl [((.ofNat (nat_lit 16)), (.ofNat (nat_lit 16)), (nat_lit 1))])
def lcn_118 : Nat × aAg := ((nat_lit 3), .inl [((.ofNat (nat_lit 17)), (.ofNat (nat_lit 17)), (nat_lit 1))])
def lcn_119 : Nat × aAg := ((nat_lit 3), .inl [((.ofNat (nat_lit 18)), (.ofNat (nat_lit 18)), (nat_lit 1))])
def lcn_120 : Nat × aAg := ((nat_lit 3), .inl [((.ofNat (nat_lit 19)), (.ofNat (nat_lit 19)), (nat_lit 1))])
def lcn_121 : Nat × aAg := ((nat_lit 3), .inl [((.ofNat (nat_lit 20)), (.ofNat (nat_lit 20)), (nat_lit 1))])
set_option maxRecDepth 100000 in
theorem btX5_nameOfToken : bTab oX5_nameOfToken tX5_nameOfToken := ⟨ofX5_nameOfToken, by decide +kernel⟩
def ct_14 : aCt := (mX5_nameOfToken, [ag_34], ([], []), [pon_52, pon_62, pon_64, pon_66, pon_68, pon_70, pon_72, pon_74, pon_76, pon_78, pon_80, pon_82, pon_84, pon_86, pon_88, pon_90, pon_92, pon_94, pon_96, pon_98, pon_100], [], [], (nat_lit 1))
set_option maxRecDepth 100000 in
theorem S_14 : aSpec wd ct_14 := bChk_ok wx_ok btX5_nameOfToken (nds := [((nat_lit 7), [lcn_40, lcn_59, lcn_101], [], [], [], (20, [])), ((nat_lit 7), [lcn_40, lcn_59, lcn_102], [], [sl_61], [], (19, [])), ((nat_lit 7), [lcn_40, lcn_59, lcn_103], [], [sl_63], [], (18, [])), ((nat_lit 7), [lcn_40, lcn_59, lcn_104], [], [sl_85], [], (17, [])), ((nat_lit 7), [lcn_40, lcn_59, lcn_105], [], [sl_87], [], (16, [])), ((nat_lit 7), [lcn_40, lcn_59, lcn_106], [], [sl_89], [], (15, [])), ((nat_lit 7), [lcn_40, lcn_59, lcn_107], [], [sl_91], [], (14, [])), ((nat_lit 7), [lcn_40, lcn_59, lcn_108], [], [sl_93], [], (13, [])), ((nat_lit 7), [lcn_40, lcn_59, lcn_109], [], [sl_95], [], (12, [])), ((nat_lit 7), [lcn_40, lcn_59, lcn_110], [], [sl_97], [], (11, [])), ((nat_lit 7), [lcn_40, lcn_59, lcn_111], [], [sl_99], [], (10, [])), ((nat_lit 7), [lcn_40, lcn_59, lcn_112], [], [sl_65], [], (9, [])), ((nat_lit 7), [lcn_40, lcn_59, lcn_113], [], [sl_67], [], (8, [])), ((nat_lit 7), [lcn_40, lcn_59, lcn_114], [], [sl_69], [], (7, [])), ((nat_lit 7), [lcn_40, lcn_59, lcn_115], [], [sl_71], [], (6, [])), ((nat_lit 7), [lcn_40, lcn_59, lcn_116], [], [sl_73], [], (5, [])), ((nat_lit 7), [lcn_40, lcn_59, lcn_117], [], [sl_75], [], (4, [])), ((nat_lit 7), [lcn_40, lcn_59, lcn_118], [], [sl_77], [], (3, [])), ((nat_lit 7), [lcn_40, lcn_59, lcn_119], [], [sl_79], [], (2, [])), ((nat_lit 7), [lcn_40, lcn_59, lcn_120], [], [sl_81], [], (1, [])), ((nat_lit 7), [lcn_40, lcn_59, lcn_121], [], [sl_83], [], (0, []))]) (fk := []) (rk := (21, [])) (sp := 128) (fuel := 3000) (by decide +kernel) (lk_d S_13 ml_5_251 lk_n) odX5_nameOfToken
def ag_122 : aAg := .inl [((.ofNat (nat_lit 3)), (.ofNat (nat_lit 3)), (nat_lit 1))]
def sl_123 : (Nat × Nat) × aI := (((nat_lit 82), (nat_lit 11)), [((.ofNat (nat_lit 3)), (.ofNat (nat_lit 3)), (nat_lit 1))])
def pon_124 : aPo := (some (.inl [((.ofNat (nat_lit 0)), (.ofNat (nat_lit 0)), (nat_lit 1))]), [], [sl_123], [])
def ct_15 : aCt := (mX5_faulty, [ag_34, ag_122], ([sl_54], []), [pon_124], mdn_57, [], (nat_lit 0))
set_option maxRecDepth 100000 in
theorem S_15 : aSpec wd ct_15 := bChk_ok wx_ok btX5_faulty (nds := []) (fk := []) (rk := (1, [])) (sp := 0) (fuel := 3000) (by decide +kernel) lk_n odX5_faulty
def ag_125 : aAg := .inl [((.ofNat (nat_lit 0)), (.ofNat (nat_lit 6)), (nat_lit 1))]
def sl_126 : (Nat × Nat) × aI := (((nat_lit 82), (nat_lit 11)), [((.ofNat (nat_lit 1)), (.ofNat (nat_lit 1)), (nat_lit 1)), ((.ofNat (nat_lit 3)), (.ofNat (nat_lit 3)), (nat_lit 1))])
def pon_127 : aPo := (some (.inl [((.ofNat (nat_lit 0)), (.ofNat (nat_lit 0)), (nat_lit 1))]), [], [sl_126], [])
def pon_128 : aPo := (some (.inl [((.ofNat (nat_lit 1)), (.ofNat (nat_lit 1)), (nat_lit 1))]), [], [sl_61, sl_54], [])
def mdn_129 : List (Nat × Nat × Nat) := [((nat_lit 82), (nat_lit 2), (nat_lit 5)), ((nat_lit 82), (nat_lit 10), (nat_lit 13)), ((nat_lit 84), (nat_lit 0), (nat_lit 20)), ((nat_lit 85), (nat_lit 0), (nat_lit 20))]
set_option maxRecDepth 100000 in
theorem btX5_newName : bTab oX5_newName tX5_newName := ⟨ofX5_newName, by decide +kernel⟩
def ct_16 : aCt := (mX5_newName, [ag_34, ag_53, ag_125], ([sl_54], []), [pon_127, pon_128], mdn_129, [], (nat_lit 2))
set_option maxRecDepth 100000 in
theorem S_16 : aSpec wd ct_16 := bChk_ok wx_ok btX5_newName (nds := []) (fk := [40]) (rk := (1, [])) (sp := 0) (fuel := 3000) (by decide +kernel) (lk_d S_10 ml_5_70 (lk_d S_11 ml_5_80 (lk_d S_14 ml_5_248 (lk_d S_13 ml_5_251 (lk_d S_12 ml_5_76 (lk_d S_15 ml_5_76 lk_n)))))) odX5_newName
def pon_130 : aPo := (some (.inl aTop), [], [], [])
def lcn_131 : Nat × aAg := ((nat_lit 1), .inl [((.ofNat (nat_lit 2)), (.ofNat (nat_lit 6)), (nat_lit 1))])
def lcn_132 : Nat × aAg := ((nat_lit 2), .inl aTop)
set_option maxRecDepth 100000 in
theorem btX5_songOfToken : bTab oX5_songOfToken tX5_songOfToken := ⟨ofX5_songOfToken, by decide +kernel⟩
def ct_17 : aCt := (mX5_songOfToken, [ag_34], ([], [((82, 6), 42)]), [pon_130, pon_52], [], [], (nat_lit 0))
set_option maxRecDepth 100000 in
theorem S_17 : aSpec wd ct_17 := bChk_ok wx_ok btX5_songOfToken (nds := [((nat_lit 31), [lcn_40, lcn_131, lcn_132, lcn_60], [], [], [((82, 6), 42)], (1000, [(2, -1)]))]) (fk := []) (rk := (1001, [])) (sp := 2147483648) (fuel := 3000) (by decide +kernel) lk_n odX5_songOfToken
def ag_133 : aAg := .inl [((.ofNat (nat_lit 7)), (.ofNat (nat_lit 7)), (nat_lit 1))]
def sl_134 : (Nat × Nat) × aI := (((nat_lit 82), (nat_lit 11)), [((.ofNat (nat_lit 7)), (.ofNat (nat_lit 7)), (nat_lit 1))])
def pon_135 : aPo := (some (.inl [((.ofNat (nat_lit 0)), (.ofNat (nat_lit 0)), (nat_lit 1))]), [], [sl_134], [])
def ct_18 : aCt := (mX5_faulty, [ag_34, ag_133], ([sl_54], []), [pon_135], mdn_57, [], (nat_lit 0))
set_option maxRecDepth 100000 in
theorem S_18 : aSpec wd ct_18 := bChk_ok wx_ok btX5_faulty (nds := []) (fk := []) (rk := (1, [])) (sp := 0) (fuel := 3000) (by decide +kernel) lk_n odX5_faulty
def ag_136 : aAg := .inl [((.negSucc (nat_lit 2147483647)), (.negSucc (nat_lit 2)), (nat_lit 1)), ((.negSucc (nat_lit 0)), (.ofNat (nat_lit 2147483647)), (nat_lit 1))]
def ag_137 : aAg := .inl [((.negSucc (nat_lit 999)), (.ofNat (nat_lit 1000)), (nat_lit 1))]
def sl_138 : (Nat × Nat) × aI := (((nat_lit 42), (nat_lit 4)), [((.ofNat (nat_lit 0)), (.ofNat (nat_lit 6)), (nat_lit 1))])
def sl_139 : (Nat × Nat) × aI := (((nat_lit 42), (nat_lit 4)), [((.ofNat (nat_lit 1)), (.ofNat (nat_lit 6)), (nat_lit 1))])
def pon_140 : aPo := (some (.inl [((.ofNat (nat_lit 1)), (.ofNat (nat_lit 1)), (nat_lit 1))]), [], [sl_139], [])
def lcn_141 : Nat × aAg := ((nat_lit 0), .inr (.inl [(nat_lit 42)]))
def lcn_142 : Nat × aAg := ((nat_lit 1), .inl [((.negSucc (nat_lit 2147483647)), (.negSucc (nat_lit 2)), (nat_lit 1)), ((.negSucc (nat_lit 0)), (.ofNat (nat_lit 2147483647)), (nat_lit 1))])
def lcn_143 : Nat × aAg := ((nat_lit 2), .inl [((.negSucc (nat_lit 999)), (.ofNat (nat_lit 1000)), (nat_lit 1))])
def lcn_144 : Nat × aAg := ((nat_lit 3), .inl [((.ofNat (nat_lit 0)), (.ofNat (nat_lit 6)), (nat_lit 1))])
set_option maxRecDepth 100000 in
theorem btX4_hasSong : bTab oX4_hasSong tX4_hasSong := ⟨ofX4_hasSong, by decide +kernel⟩
def ct_19 : aCt := (mX4_hasSong, [ag_26, ag_136, ag_137], ([sl_138], []), [pon_37, pon_140], [], [], (nat_lit 0))
set_option maxRecDepth 100000 in
theorem S_19 : aSpec wd ct_19 := bChk_ok wx_ok btX4_hasSong (nds := [((nat_lit 2), [lcn_141, lcn_142, lcn_143, lcn_144], [], [sl_138], [], (6, [(2, -1)]))]) (fk := []) (rk := (7, [])) (sp := 4) (fuel := 3000) (by decide +kernel) lk_n odX4_hasSong
def sl_145 : (Nat × Nat) × aI := (((nat_lit 82), (nat_lit 11)), [((.ofNat (nat_lit 1)), (.ofNat (nat_lit 1)), (nat_lit 1)), ((.ofNat (nat_lit 3)), (.ofNat (nat_lit 3)), (nat_lit 1)), ((.ofNat (nat_lit 7)), (.ofNat (nat_lit 7)), (nat_lit 1))])
def pon_146 : aPo := (some (.inl [((.ofNat (nat_lit 0)), (.ofNat (nat_lit 0)), (nat_lit 1))]), [], [sl_138, sl_145], [])
def sl_147 : (Nat × Nat) × aI := (((nat_lit 42), (nat_lit 4)), [((.ofNat (nat_lit 1)), (.ofNat (nat_lit 7)), (nat_lit 1))])
def pon_148 : aPo := (some (.inl [((.ofNat (nat_lit 1)), (.ofNat (nat_lit 1)), (nat_lit 1))]), [], [sl_147, sl_61, sl_54], [])
def mdn_149 : List (Nat × Nat × Nat) := [((nat_lit 42), (nat_lit 4), (nat_lit 5)), ((nat_lit 43), (nat_lit 0), (nat_lit 7)), ((nat_lit 44), (nat_lit 0), (nat_lit 7)), ((nat_lit 82), (nat_lit 2), (nat_lit 5)), ((nat_lit 82), (nat_lit 10), (nat_lit 13)), ((nat_lit 84), (nat_lit 0), (nat_lit 20)), ((nat_lit 85), (nat_lit 0), (nat_lit 20))]
set_option maxRecDepth 100000 in
theorem btX5_readIsland : bTab oX5_readIsland tX5_readIsland := ⟨ofX5_readIsland, by decide +kernel⟩
def ct_20 : aCt := (mX5_readIsland, [ag_34], ([sl_138, sl_54], [((82, 6), 42)]), [pon_146, pon_148], mdn_149, [], (nat_lit 3))
set_option maxRecDepth 100000 in
theorem S_20 : aSpec wd ct_20 := bChk_ok wx_ok btX5_readIsland (nds := []) (fk := []) (rk := (1, [])) (sp := 0) (fuel := 3000) (by decide +kernel) (lk_d S_17 ml_5_161 (lk_d S_10 ml_5_70 (lk_d S_12 ml_5_76 (lk_d S_18 ml_5_76 (lk_d S_15 ml_5_76 (lk_d S_16 ml_5_158 (lk_d S_19 ml_5_164 lk_n))))))) odX5_readIsland
def ag_150 : aAg := .inl [((.ofNat (nat_lit 5)), (.ofNat (nat_lit 5)), (nat_lit 1))]
def sl_151 : (Nat × Nat) × aI := (((nat_lit 82), (nat_lit 11)), [((.ofNat (nat_lit 5)), (.ofNat (nat_lit 5)), (nat_lit 1))])
def pon_152 : aPo := (some (.inl [((.ofNat (nat_lit 0)), (.ofNat (nat_lit 0)), (nat_lit 1))]), [], [sl_151], [])
def ct_21 : aCt := (mX5_faulty, [ag_34, ag_150], ([sl_54], []), [pon_152], mdn_57, [], (nat_lit 0))
set_option maxRecDepth 100000 in
theorem S_21 : aSpec wd ct_21 := bChk_ok wx_ok btX5_faulty (nds := []) (fk := []) (rk := (1, [])) (sp := 0) (fuel := 3000) (by decide +kernel) lk_n odX5_faulty
def ag_153 : aAg := .inl [((.ofNat (nat_lit 6)), (.ofNat (nat_lit 6)), (nat_lit 1))]
def sl_154 : (Nat × Nat) × aI := (((nat_lit 82), (nat_lit 11)), [((.ofNat (nat_lit 6)), (.ofNat (nat_lit 6)), (nat_lit 1))])
def pon_155 : aPo := (some (.inl [((.ofNat (nat_lit 0)), (.ofNat (nat_lit 0)), (nat_lit 1))]), [], [sl_154], [])
def ct_22 : aCt := (mX5_faulty, [ag_34, ag_153], ([sl_54], []), [pon_155], mdn_57, [], (nat_lit 0))
set_option maxRecDepth 100000 in
theorem S_22 : aSpec wd ct_22 := bChk_ok wx_ok btX5_faulty (nds := []) (fk := []) (rk := (1, [])) (sp := 0) (fuel := 3000) (by decide +kernel) lk_n odX5_faulty
def ag_156 : aAg := .inr (.inl [(nat_lit 1000010), (nat_lit 1000011), (nat_lit 1000012), (nat_lit 1000013), (nat_lit 1000014), (nat_lit 1000015), (nat_lit 1000016), (nat_lit 1000017), (nat_lit 1000018), (nat_lit 1000019), (nat_lit 1000020), (nat_lit 1000021), (nat_lit 1000022), (nat_lit 1000023), (nat_lit 1000024), (nat_lit 1000025), (nat_lit 1000026), (nat_lit 1000027), (nat_lit 1000028), (nat_lit 1000029), (nat_lit 1000030), (nat_lit 1000031), (nat_lit 1000032)])
def pon_157 : aPo := (some (.inl [((.ofNat (nat_lit 1)), (.ofNat (nat_lit 1)), (nat_lit 1))]), [], [sl_54], [])
def mdn_158 : List (Nat × Nat × Nat) := [((nat_lit 82), (nat_lit 2), (nat_lit 5)), ((nat_lit 82), (nat_lit 11), (nat_lit 13))]
set_option maxRecDepth 100000 in
theorem btX5_word : bTab oX5_word tX5_word := ⟨ofX5_word, by decide +kernel⟩
def ct_23 : aCt := (mX5_word, [ag_34, ag_156], ([sl_54], []), [pon_56, pon_157], mdn_158, [], (nat_lit 2))
set_option maxRecDepth 100000 in
theorem S_23 : aSpec wd ct_23 := bChk_ok wx_ok btX5_word (nds := []) (fk := []) (rk := (1, [])) (sp := 0) (fuel := 3000) (by decide +kernel) (lk_d S_10 ml_5_70 (lk_d S_12 ml_5_76 (lk_d S_X5_isToken_0 ml_5_245 lk_n))) odX5_word
def ag_159 : aAg := .inl [((.ofNat (nat_lit 4)), (.ofNat (nat_lit 4)), (nat_lit 1))]
def sl_160 : (Nat × Nat) × aI := (((nat_lit 82), (nat_lit 11)), [((.ofNat (nat_lit 4)), (.ofNat (nat_lit 4)), (nat_lit 1))])
def pon_161 : aPo := (some (.inl [((.ofNat (nat_lit 0)), (.ofNat (nat_lit 0)), (nat_lit 1))]), [], [sl_160], [])
def ct_24 : aCt := (mX5_faulty, [ag_34, ag_159], ([sl_54], []), [pon_161], mdn_57, [], (nat_lit 0))
set_option maxRecDepth 100000 in
theorem S_24 : aSpec wd ct_24 := bChk_ok wx_ok btX5_faulty (nds := []) (fk := []) (rk := (1, [])) (sp := 0) (fuel := 3000) (by decide +kernel) lk_n odX5_faulty
def sl_162 : (Nat × Nat) × aI := (((nat_lit 82), (nat_lit 11)), [((.ofNat (nat_lit 1)), (.ofNat (nat_lit 1)), (nat_lit 1)), ((.ofNat (nat_lit 4)), (.ofNat (nat_lit 4)), (nat_lit 1))])
def pon_163 : aPo := (some (.inl [((.ofNat (nat_lit 0)), (.ofNat (nat_lit 0)), (nat_lit 1))]), [], [sl_162], [])
def sl_164 : (Nat × Nat) × aI := (((nat_lit 82), (nat_lit 5)), [((.ofNat (nat_lit 2)), (.ofNat (nat_lit 4)), (nat_lit 1))])
def pon_165 : aPo := (some (.inl [((.ofNat (nat_lit 1)), (.ofNat (nat_lit 1)), (nat_lit 1))]), [], [sl_164, sl_54], [])
def mdn_166 : List (Nat × Nat × Nat) := [((nat_lit 82), (nat_lit 2), (nat_lit 6)), ((nat_lit 82), (nat_lit 11), (nat_lit 13))]
def lcn_167 : Nat × aAg := ((nat_lit 1), .inl [((.ofNat (nat_lit 2)), (.ofNat (nat_lit 2)), (nat_lit 1))])
def lcn_168 : Nat × aAg := ((nat_lit 2), .inl [((.ofNat (nat_lit 4)), (.ofNat (nat_lit 4)), (nat_lit 1))])
def sl_169 : (Nat × Nat) × aI := (((nat_lit 82), (nat_lit 3)), [((.ofNat (nat_lit 2)), (.ofNat (nat_lit 2)), (nat_lit 1))])
set_option maxRecDepth 100000 in
theorem btX5_whole : bTab oX5_whole tX5_whole := ⟨ofX5_whole, by decide +kernel⟩
def ct_25 : aCt := (mX5_whole, [ag_34, ag_22, ag_159], ([sl_54], []), [pon_163, pon_165], mdn_166, [], (nat_lit 2))
set_option maxRecDepth 100000 in
theorem S_25 : aSpec wd ct_25 := bChk_ok wx_ok btX5_whole (nds := [((nat_lit 28), [lcn_40, lcn_167, lcn_168, lcn_60], [], [sl_169, sl_54], [], (1000, [(0, -1)]))]) (fk := []) (rk := (1001, [])) (sp := 268435456) (fuel := 3000) (by decide +kernel) (lk_d S_10 ml_5_70 (lk_d S_12 ml_5_76 (lk_d S_24 ml_5_76 lk_n))) odX5_whole
def ag_170 : aAg := .inl [((.ofNat (nat_lit 0)), (.ofNat (nat_lit 0)), (nat_lit 1))]
def sl_171 : (Nat × Nat) × aI := (((nat_lit 82), (nat_lit 5)), [((.negSucc (nat_lit 2147483647)), (.negSucc (nat_lit 0)), (nat_lit 1)), ((.ofNat (nat_lit 2)), (.ofNat (nat_lit 2147483647)), (nat_lit 1))])
def pon_172 : aPo := (some (.inl [((.ofNat (nat_lit 0)), (.ofNat (nat_lit 0)), (nat_lit 1))]), [], [sl_171, sl_162], [])
def sl_173 : (Nat × Nat) × aI := (((nat_lit 82), (nat_lit 5)), [((.ofNat (nat_lit 0)), (.ofNat (nat_lit 3)), (nat_lit 1))])
def pon_174 : aPo := (some (.inl [((.ofNat (nat_lit 1)), (.ofNat (nat_lit 1)), (nat_lit 1))]), [], [sl_173, sl_54], [])
def lcn_175 : Nat × aAg := ((nat_lit 1), .inl [((.ofNat (nat_lit 0)), (.ofNat (nat_lit 0)), (nat_lit 1))])
def lcn_176 : Nat × aAg := ((nat_lit 2), .inl [((.ofNat (nat_lit 3)), (.ofNat (nat_lit 3)), (nat_lit 1))])
def ct_26 : aCt := (mX5_whole, [ag_34, ag_170, ag_122], ([sl_164, sl_54], []), [pon_172, pon_174], mdn_166, [], (nat_lit 2))
set_option maxRecDepth 100000 in
theorem S_26 : aSpec wd ct_26 := bChk_ok wx_ok btX5_whole (nds := [((nat_lit 28), [lcn_40, lcn_175, lcn_176, lcn_60], [], [sl_169, sl_54], [], (1000, [(0, -1)]))]) (fk := []) (rk := (1001, [])) (sp := 268435456) (fuel := 3000) (by decide +kernel) (lk_d S_10 ml_5_70 (lk_d S_12 ml_5_76 (lk_d S_24 ml_5_76 lk_n))) odX5_whole
def ag_177 : aAg := .inl [((.ofNat (nat_lit 50)), (.ofNat (nat_lit 50)), (nat_lit 1))]
def sl_178 : (Nat × Nat) × aI := (((nat_lit 82), (nat_lit 5)), [((.negSucc (nat_lit 2147483647)), (.ofNat (nat_lit 3)), (nat_lit 1)), ((.ofNat (nat_lit 51)), (.ofNat (nat_lit 2147483647)), (nat_lit 1))])
def pon_179 : aPo := (some (.inl [((.ofNat (nat_lit 0)), (.ofNat (nat_lit 0)), (nat_lit 1))]), [], [sl_178, sl_162], [])
def sl_180 : (Nat × Nat) × aI := (((nat_lit 82), (nat_lit 5)), [((.ofNat (nat_lit 0)), (.ofNat (nat_lit 50)), (nat_lit 1))])
def pon_181 : aPo := (some (.inl [((.ofNat (nat_lit 1)), (.ofNat (nat_lit 1)), (nat_lit 1))]), [], [sl_180, sl_54], [])
def lcn_182 : Nat × aAg := ((nat_lit 2), .inl [((.ofNat (nat_lit 50)), (.ofNat (nat_lit 50)), (nat_lit 1))])
def ct_27 : aCt := (mX5_whole, [ag_34, ag_170, ag_177], ([sl_173, sl_54], []), [pon_179, pon_181], mdn_166, [], (nat_lit 2))
set_option maxRecDepth 100000 in
theorem S_27 : aSpec wd ct_27 := bChk_ok wx_ok btX5_whole (nds := [((nat_lit 28), [lcn_40, lcn_175, lcn_182, lcn_60], [], [sl_169, sl_54], [], (1000, [(0, -1)]))]) (fk := []) (rk := (1001, [])) (sp := 268435456) (fuel := 3000) (by decide +kernel) (lk_d S_10 ml_5_70 (lk_d S_12 ml_5_76 (lk_d S_24 ml_5_76 lk_n))) odX5_whole
def ag_183 : aAg := .inl [((.ofNat (nat_lit 100)), (.ofNat (nat_lit 100)), (nat_lit 1))]
def sl_184 : (Nat × Nat) × aI := (((nat_lit 82), (nat_lit 5)), [((.negSucc (nat_lit 2147483647)), (.ofNat (nat_lit 50)), (nat_lit 1)), ((.ofNat (nat_lit 101)), (.ofNat (nat_lit 2147483647)), (nat_lit 1))])
def pon_185 : aPo := (some (.inl [((.ofNat (nat_lit 0)), (.ofNat (nat_lit 0)), (nat_lit 1))]), [], [sl_184, sl_162], [])
def sl_186 : (Nat × Nat) × aI := (((nat_lit 82), (nat_lit 5)), [((.ofNat (nat_lit 0)), (.ofNat (nat_lit 100)), (nat_lit 1))])
def pon_187 : aPo := (some (.inl [((.ofNat (nat_lit 1)), (.ofNat (nat_lit 1)), (nat_lit 1))]), [], [sl_186, sl_54], [])
def lcn_188 : Nat × aAg := ((nat_lit 2), .inl [((.ofNat (nat_lit 100)), (.ofNat (nat_lit 100)), (nat_lit 1))])
def ct_28 : aCt := (mX5_whole, [ag_34, ag_170, ag_183], ([sl_180, sl_54], []), [pon_185, pon_187], mdn_166, [], (nat_lit 2))
set_option maxRecDepth 100000 in
theorem S_28 : aSpec wd ct_28 := bChk_ok wx_ok btX5_whole (nds := [((nat_lit 28), [lcn_40, lcn_175, lcn_188, lcn_60], [], [sl_169, sl_54], [], (1000, [(0, -1)]))]) (fk := []) (rk := (1001, [])) (sp := 268435456) (fuel := 3000) (by decide +kernel) (lk_d S_10 ml_5_70 (lk_d S_12 ml_5_76 (lk_d S_24 ml_5_76 lk_n))) odX5_whole
def mdn_189 : List (Nat × Nat × Nat) := [((nat_lit 42), (nat_lit 0), (nat_lit 4)), ((nat_lit 82), (nat_lit 2), (nat_lit 6)), ((nat_lit 82), (nat_lit 11), (nat_lit 13))]
set_option maxRecDepth 100000 in
theorem btX5_readHead : bTab oX5_readHead tX5_readHead := ⟨ofX5_readHead, by decide +kernel⟩
def ct_29 : aCt := (mX5_readHead, [ag_34], ([sl_54], [((82, 6), 42)]), [pon_163, pon_187], mdn_189, [], (nat_lit 3))
set_option maxRecDepth 100000 in
theorem S_29 : aSpec wd ct_29 := bChk_ok wx_ok btX5_readHead (nds := []) (fk := []) (rk := (1, [])) (sp := 0) (fuel := 3000) (by decide +kernel) (lk_d S_26 ml_5_142 (lk_d S_27 ml_5_142 (lk_d S_28 ml_5_142 (lk_d S_25 ml_5_142 (lk_d S_23 ml_5_138 lk_n))))) odX5_readHead
def ag_190 : aAg := .inl [((.ofNat (nat_lit 0)), (.ofNat (nat_lit 7)), (nat_lit 1))]
def ct_30 : aCt := (mX5_newName, [ag_34, ag_159, ag_190], ([sl_54], []), [pon_127, pon_128], mdn_129, [], (nat_lit 2))
set_option maxRecDepth 100000 in
theorem S_30 : aSpec wd ct_30 := bChk_ok wx_ok btX5_newName (nds := []) (fk := [40]) (rk := (1, [])) (sp := 0) (fuel := 3000) (by decide +kernel) (lk_d S_10 ml_5_70 (lk_d S_11 ml_5_80 (lk_d S_14 ml_5_248 (lk_d S_13 ml_5_251 (lk_d S_12 ml_5_76 (lk_d S_15 ml_5_76 lk_n)))))) odX5_newName
def sl_191 : (Nat × Nat) × aI := (((nat_lit 82), (nat_lit 11)), [((.ofNat (nat_lit 2)), (.ofNat (nat_lit 2)), (nat_lit 1))])
def pon_192 : aPo := (some (.inl [((.ofNat (nat_lit 0)), (.ofNat (nat_lit 0)), (nat_lit 1))]), [], [sl_191], [])
def ct_31 : aCt := (mX5_faulty, [ag_34, ag_22], ([sl_54], []), [pon_192], mdn_57, [], (nat_lit 0))
set_option maxRecDepth 100000 in
theorem S_31 : aSpec wd ct_31 := bChk_ok wx_ok btX5_faulty (nds := []) (fk := []) (rk := (1, [])) (sp := 0) (fuel := 3000) (by decide +kernel) lk_n odX5_faulty
def sl_193 : (Nat × Nat) × aI := (((nat_lit 82), (nat_lit 11)), [((.ofNat (nat_lit 1)), (.ofNat (nat_lit 2)), (nat_lit 1))])
def pon_194 : aPo := (some (.inl [((.ofNat (nat_lit 0)), (.ofNat (nat_lit 0)), (nat_lit 1))]), [], [sl_193], [])
def sl_195 : (Nat × Nat) × aI := (((nat_lit 82), (nat_lit 5)), [((.ofNat (nat_lit 0)), (.ofNat (nat_lit 6)), (nat_lit 1))])
def pon_196 : aPo := (some (.inl [((.ofNat (nat_lit 1)), (.ofNat (nat_lit 1)), (nat_lit 1))]), [], [sl_195, sl_61, sl_54], [])
set_option maxRecDepth 100000 in
theorem btX5_toldName : bTab oX5_toldName tX5_toldName := ⟨ofX5_toldName, by decide +kernel⟩
def ct_32 : aCt := (mX5_toldName, [ag_34, ag_53], ([sl_54], []), [pon_194, pon_196], mdn_166, [], (nat_lit 2))
set_option maxRecDepth 100000 in
theorem S_32 : aSpec wd ct_32 := bChk_ok wx_ok btX5_toldName (nds := []) (fk := []) (rk := (1, [])) (sp := 0) (fuel := 3000) (by decide +kernel) (lk_d S_10 ml_5_70 (lk_d S_11 ml_5_80 (lk_d S_14 ml_5_248 (lk_d S_12 ml_5_76 (lk_d S_31 ml_5_76 lk_n))))) odX5_toldName
def ag_197 : aAg := .inl [((.ofNat (nat_lit 99)), (.ofNat (nat_lit 99)), (nat_lit 1))]
def sl_198 : (Nat × Nat) × aI := (((nat_lit 82), (nat_lit 5)), [((.negSucc (nat_lit 2147483647)), (.ofNat (nat_lit 6)), (nat_lit 1)), ((.ofNat (nat_lit 100)), (.ofNat (nat_lit 2147483647)), (nat_lit 1))])
def pon_199 : aPo := (some (.inl [((.ofNat (nat_lit 0)), (.ofNat (nat_lit 0)), (nat_lit 1))]), [], [sl_198, sl_162], [])
def sl_200 : (Nat × Nat) × aI := (((nat_lit 82), (nat_lit 5)), [((.ofNat (nat_lit 1)), (.ofNat (nat_lit 99)), (nat_lit 1))])
def pon_201 : aPo := (some (.inl [((.ofNat (nat_lit 1)), (.ofNat (nat_lit 1)), (nat_lit 1))]), [], [sl_200, sl_54], [])
def lcn_202 : Nat × aAg := ((nat_lit 1), .inl [((.ofNat (nat_lit 1)), (.ofNat (nat_lit 1)), (nat_lit 1))])
def lcn_203 : Nat × aAg := ((nat_lit 2), .inl [((.ofNat (nat_lit 99)), (.ofNat (nat_lit 99)), (nat_lit 1))])
def ct_33 : aCt := (mX5_whole, [ag_34, ag_53, ag_197], ([sl_195, sl_54], []), [pon_199, pon_201], mdn_166, [], (nat_lit 2))
set_option maxRecDepth 100000 in
theorem S_33 : aSpec wd ct_33 := bChk_ok wx_ok btX5_whole (nds := [((nat_lit 28), [lcn_40, lcn_202, lcn_203, lcn_60], [], [sl_169, sl_54], [], (1000, [(0, -1)]))]) (fk := []) (rk := (1001, [])) (sp := 268435456) (fuel := 3000) (by decide +kernel) (lk_d S_10 ml_5_70 (lk_d S_12 ml_5_76 (lk_d S_24 ml_5_76 lk_n))) odX5_whole
def ag_204 : aAg := .inl [((.ofNat (nat_lit 9999)), (.ofNat (nat_lit 9999)), (nat_lit 1))]
def sl_205 : (Nat × Nat) × aI := (((nat_lit 82), (nat_lit 5)), [((.negSucc (nat_lit 2147483647)), (.negSucc (nat_lit 0)), (nat_lit 1)), ((.ofNat (nat_lit 1)), (.ofNat (nat_lit 99)), (nat_lit 1)), ((.ofNat (nat_lit 10000)), (.ofNat (nat_lit 2147483647)), (nat_lit 1))])
def pon_206 : aPo := (some (.inl [((.ofNat (nat_lit 0)), (.ofNat (nat_lit 0)), (nat_lit 1))]), [], [sl_205, sl_162], [])
def sl_207 : (Nat × Nat) × aI := (((nat_lit 82), (nat_lit 5)), [((.ofNat (nat_lit 0)), (.ofNat (nat_lit 9999)), (nat_lit 1))])
def pon_208 : aPo := (some (.inl [((.ofNat (nat_lit 1)), (.ofNat (nat_lit 1)), (nat_lit 1))]), [], [sl_207, sl_54], [])
def lcn_209 : Nat × aAg := ((nat_lit 2), .inl [((.ofNat (nat_lit 9999)), (.ofNat (nat_lit 9999)), (nat_lit 1))])
def ct_34 : aCt := (mX5_whole, [ag_34, ag_170, ag_204], ([sl_200, sl_54], []), [pon_206, pon_208], mdn_166, [], (nat_lit 2))
set_option maxRecDepth 100000 in
theorem S_34 : aSpec wd ct_34 := bChk_ok wx_ok btX5_whole (nds := [((nat_lit 28), [lcn_40, lcn_175, lcn_209, lcn_60], [], [sl_169, sl_54], [], (1000, [(0, -1)]))]) (fk := []) (rk := (1001, [])) (sp := 268435456) (fuel := 3000) (by decide +kernel) (lk_d S_10 ml_5_70 (lk_d S_12 ml_5_76 (lk_d S_24 ml_5_76 lk_n))) odX5_whole
def ag_210 : aAg := .inr (.inl [(nat_lit 66), (nat_lit 67), (nat_lit 68), (nat_lit 69), (nat_lit 70), (nat_lit 71), (nat_lit 72), (nat_lit 73)])
def sl_211 : (Nat × Nat) × aI := (((nat_lit 42), (nat_lit 7)), [((.ofNat (nat_lit 0)), (.ofNat (nat_lit 7)), (nat_lit 1))])
def sl_212 : (Nat × Nat) × aI := (((nat_lit 82), (nat_lit 11)), [((.ofNat (nat_lit 1)), (.ofNat (nat_lit 4)), (nat_lit 1))])
def pon_213 : aPo := (some (.inl [((.ofNat (nat_lit 0)), (.ofNat (nat_lit 0)), (nat_lit 1))]), [], [sl_211, sl_212], [])
def sl_214 : (Nat × Nat) × aI := (((nat_lit 42), (nat_lit 7)), [((.ofNat (nat_lit 1)), (.ofNat (nat_lit 8)), (nat_lit 1))])
def pon_215 : aPo := (some (.inl [((.ofNat (nat_lit 1)), (.ofNat (nat_lit 1)), (nat_lit 1))]), [], [sl_214, sl_207, sl_61, sl_54], [])
def mdn_216 : List (Nat × Nat × Nat) := [((nat_lit 42), (nat_lit 7), (nat_lit 8)), ((nat_lit 66), (nat_lit 0), (nat_lit 4)), ((nat_lit 67), (nat_lit 0), (nat_lit 4)), ((nat_lit 68), (nat_lit 0), (nat_lit 4)), ((nat_lit 69), (nat_lit 0), (nat_lit 4)), ((nat_lit 70), (nat_lit 0), (nat_lit 4)), ((nat_lit 71), (nat_lit 0), (nat_lit 4)), ((nat_lit 72), (nat_lit 0), (nat_lit 4)), ((nat_lit 73), (nat_lit 0), (nat_lit 4)), ((nat_lit 82), (nat_lit 2), (nat_lit 6)), ((nat_lit 82), (nat_lit 10), (nat_lit 13)), ((nat_lit 84), (nat_lit 0), (nat_lit 20)), ((nat_lit 85), (nat_lit 0), (nat_lit 20))]
set_option maxRecDepth 100000 in
theorem btX5_readBox : bTab oX5_readBox tX5_readBox := ⟨ofX5_readBox, by decide +kernel⟩
def ct_35 : aCt := (mX5_readBox, [ag_34, ag_210], ([sl_211, sl_54], [((82, 6), 42)]), [pon_213, pon_215], mdn_216, [], (nat_lit 3))
set_option maxRecDepth 100000 in
theorem S_35 : aSpec wd ct_35 := bChk_ok wx_ok btX5_readBox (nds := []) (fk := []) (rk := (1, [])) (sp := 0) (fuel := 3000) (by decide +kernel) (lk_d S_32 ml_5_173 (lk_d S_33 ml_5_142 (lk_d S_34 ml_5_142 (lk_d S_30 ml_5_158 (lk_d S_23 ml_5_138 lk_n))))) odX5_readBox
def ag_217 : aAg := .inl [((.ofNat (nat_lit 0)), (.ofNat (nat_lit 4)), (nat_lit 1))]
def ct_36 : aCt := (mX5_newName, [ag_34, ag_122, ag_217], ([sl_54], []), [pon_127, pon_128], mdn_129, [], (nat_lit 2))
set_option maxRecDepth 100000 in
theorem S_36 : aSpec wd ct_36 := bChk_ok wx_ok btX5_newName (nds := []) (fk := [40]) (rk := (1, [])) (sp := 0) (fuel := 3000) (by decide +kernel) (lk_d S_10 ml_5_70 (lk_d S_11 ml_5_80 (lk_d S_14 ml_5_248 (lk_d S_13 ml_5_251 (lk_d S_12 ml_5_76 (lk_d S_15 ml_5_76 lk_n)))))) odX5_newName
def pon_218 : aPo := (some (.inl [((.ofNat (nat_lit 2)), (.ofNat (nat_lit 3)), (nat_lit 1))]), [], [], [])
set_option maxRecDepth 100000 in
theorem btX5_kindOfToken : bTab oX5_kindOfToken tX5_kindOfToken := ⟨ofX5_kindOfToken, by decide +kernel⟩
def ct_37 : aCt := (mX5_kindOfToken, [ag_34], ([], []), [pon_218, pon_52, pon_37, pon_38], [], [], (nat_lit 1))
set_option maxRecDepth 100000 in
theorem S_37 : aSpec wd ct_37 := bChk_ok wx_ok btX5_kindOfToken (nds := []) (fk := []) (rk := (1, [])) (sp := 0) (fuel := 3000) (by decide +kernel) (lk_d S_X5_isToken_0 ml_5_245 lk_n) odX5_kindOfToken
def sl_219 : (Nat × Nat) × aI := (((nat_lit 82), (nat_lit 5)), [((.ofNat (nat_lit 0)), (.ofNat (nat_lit 99)), (nat_lit 1))])
def pon_220 : aPo := (some (.inl [((.ofNat (nat_lit 1)), (.ofNat (nat_lit 1)), (nat_lit 1))]), [], [sl_219, sl_54], [])
def ct_38 : aCt := (mX5_whole, [ag_34, ag_170, ag_197], ([sl_195, sl_54], []), [pon_199, pon_220], mdn_166, [], (nat_lit 2))
set_option maxRecDepth 100000 in
theorem S_38 : aSpec wd ct_38 := bChk_ok wx_ok btX5_whole (nds := [((nat_lit 28), [lcn_40, lcn_175, lcn_203, lcn_60], [], [sl_169, sl_54], [], (1000, [(0, -1)]))]) (fk := []) (rk := (1001, [])) (sp := 268435456) (fuel := 3000) (by decide +kernel) (lk_d S_10 ml_5_70 (lk_d S_12 ml_5_76 (lk_d S_24 ml_5_76 lk_n))) odX5_whole
def ct_39 : aCt := (mX5_whole, [ag_34, ag_170, ag_197], ([sl_219, sl_54], []), [pon_163, pon_220], mdn_166, [], (nat_lit 2))
set_option maxRecDepth 100000 in
theorem S_39 : aSpec wd ct_39 := bChk_ok wx_ok btX5_whole (nds := [((nat_lit 28), [lcn_40, lcn_175, lcn_203, lcn_60], [], [sl_169, sl_54], [], (1000, [(0, -1)]))]) (fk := []) (rk := (1001, [])) (sp := 268435456) (fuel := 3000) (by decide +kernel) (lk_d S_10 ml_5_70 (lk_d S_12 ml_5_76 (lk_d S_24 ml_5_76 lk_n))) odX5_whole
def ag_221 : aAg := .inr (.inl [(nat_lit 65)])
def sl_222 : (Nat × Nat) × aI := (((nat_lit 42), (nat_lit 6)), [((.ofNat (nat_lit 4)), (.ofNat (nat_lit 4)), (nat_lit 1))])
def pon_223 : aPo := (some (.inl [((.ofNat (nat_lit 0)), (.ofNat (nat_lit 0)), (nat_lit 1))]), [], [sl_222, sl_212], [])
def sl_224 : (Nat × Nat) × aI := (((nat_lit 42), (nat_lit 6)), [((.ofNat (nat_lit 5)), (.ofNat (nat_lit 5)), (nat_lit 1))])
def pon_225 : aPo := (some (.inl [((.ofNat (nat_lit 1)), (.ofNat (nat_lit 1)), (nat_lit 1))]), [], [sl_224, sl_219, sl_61, sl_54], [])
def mdn_226 : List (Nat × Nat × Nat) := [((nat_lit 42), (nat_lit 6), (nat_lit 7)), ((nat_lit 65), (nat_lit 0), (nat_lit 4)), ((nat_lit 82), (nat_lit 2), (nat_lit 6)), ((nat_lit 82), (nat_lit 10), (nat_lit 13)), ((nat_lit 84), (nat_lit 0), (nat_lit 20)), ((nat_lit 85), (nat_lit 0), (nat_lit 20))]
set_option maxRecDepth 100000 in
theorem btX5_readWhale : bTab oX5_readWhale tX5_readWhale := ⟨ofX5_readWhale, by decide +kernel⟩
def ct_40 : aCt := (mX5_readWhale, [ag_34, ag_221], ([sl_222, sl_54], [((82, 6), 42)]), [pon_223, pon_225], mdn_226, [], (nat_lit 3))
set_option maxRecDepth 100000 in
theorem S_40 : aSpec wd ct_40 := bChk_ok wx_ok btX5_readWhale (nds := []) (fk := []) (rk := (1, [])) (sp := 0) (fuel := 3000) (by decide +kernel) (lk_d S_10 ml_5_70 (lk_d S_37 ml_5_195 (lk_d S_32 ml_5_173 (lk_d S_12 ml_5_76 (lk_d S_38 ml_5_142 (lk_d S_39 ml_5_142 (lk_d S_36 ml_5_158 (lk_d S_23 ml_5_138 lk_n)))))))) odX5_readWhale
end Pk0
section Pk1
def ag_227 : aAg := .inr (.inl [(nat_lit 64)])
def sl_228 : (Nat × Nat) × aI := (((nat_lit 42), (nat_lit 6)), [((.ofNat (nat_lit 3)), (.ofNat (nat_lit 3)), (nat_lit 1))])
def pon_229 : aPo := (some (.inl [((.ofNat (nat_lit 0)), (.ofNat (nat_lit 0)), (nat_lit 1))]), [], [sl_228, sl_212], [])
def pon_230 : aPo := (some (.inl [((.ofNat (nat_lit 1)), (.ofNat (nat_lit 1)), (nat_lit 1))]), [], [sl_222, sl_219, sl_61, sl_54], [])
def mdn_231 : List (Nat × Nat × Nat) := [((nat_lit 42), (nat_lit 6), (nat_lit 7)), ((nat_lit 64), (nat_lit 0), (nat_lit 4)), ((nat_lit 82), (nat_lit 2), (nat_lit 6)), ((nat_lit 82), (nat_lit 10), (nat_lit 13)), ((nat_lit 84), (nat_lit 0), (nat_lit 20)), ((nat_lit 85), (nat_lit 0), (nat_lit 20))]
def ct_41 : aCt := (mX5_readWhale, [ag_34, ag_227], ([sl_228, sl_54], [((82, 6), 42)]), [pon_229, pon_230], mdn_231, [], (nat_lit 3))
set_option maxRecDepth 100000 in
theorem S_41 : aSpec wd ct_41 := bChk_ok wx_ok btX5_readWhale (nds := []) (fk := []) (rk := (1, [])) (sp := 0) (fuel := 3000) (by decide +kernel) (lk_d S_10 ml_5_70 (lk_d S_37 ml_5_195 (lk_d S_32 ml_5_173 (lk_d S_12 ml_5_76 (lk_d S_38 ml_5_142 (lk_d S_39 ml_5_142 (lk_d S_36 ml_5_158 (lk_d S_23 ml_5_138 lk_n)))))))) odX5_readWhale
def ag_232 : aAg := .inr (.inl [(nat_lit 63)])
def sl_233 : (Nat × Nat) × aI := (((nat_lit 42), (nat_lit 6)), [((.ofNat (nat_lit 2)), (.ofNat (nat_lit 2)), (nat_lit 1))])
def pon_234 : aPo := (some (.inl [((.ofNat (nat_lit 0)), (.ofNat (nat_lit 0)), (nat_lit 1))]), [], [sl_233, sl_212], [])
def pon_235 : aPo := (some (.inl [((.ofNat (nat_lit 1)), (.ofNat (nat_lit 1)), (nat_lit 1))]), [], [sl_228, sl_219, sl_61, sl_54], [])
def mdn_236 : List (Nat × Nat × Nat) := [((nat_lit 42), (nat_lit 6), (nat_lit 7)), ((nat_lit 63), (nat_lit 0), (nat_lit 4)), ((nat_lit 82), (nat_lit 2), (nat_lit 6)), ((nat_lit 82), (nat_lit 10), (nat_lit 13)), ((nat_lit 84), (nat_lit 0), (nat_lit 20)), ((nat_lit 85), (nat_lit 0), (nat_lit 20))]
def ct_42 : aCt := (mX5_readWhale, [ag_34, ag_232], ([sl_233, sl_54], [((82, 6), 42)]), [pon_234, pon_235], mdn_236, [], (nat_lit 3))
set_option maxRecDepth 100000 in
theorem S_42 : aSpec wd ct_42 := bChk_ok wx_ok btX5_readWhale (nds := []) (fk := []) (rk := (1, [])) (sp := 0) (fuel := 3000) (by decide +kernel) (lk_d S_10 ml_5_70 (lk_d S_37 ml_5_195 (lk_d S_32 ml_5_173 (lk_d S_12 ml_5_76 (lk_d S_38 ml_5_142 (lk_d S_39 ml_5_142 (lk_d S_36 ml_5_158 (lk_d S_23 ml_5_138 lk_n)))))))) odX5_readWhale
def ag_237 : aAg := .inr (.inl [(nat_lit 62)])
def sl_238 : (Nat × Nat) × aI := (((nat_lit 42), (nat_lit 6)), [((.ofNat (nat_lit 1)), (.ofNat (nat_lit 1)), (nat_lit 1))])
def pon_239 : aPo := (some (.inl [((.ofNat (nat_lit 0)), (.ofNat (nat_lit 0)), (nat_lit 1))]), [], [sl_238, sl_212], [])
def pon_240 : aPo := (some (.inl [((.ofNat (nat_lit 1)), (.ofNat (nat_lit 1)), (nat_lit 1))]), [], [sl_233, sl_219, sl_61, sl_54], [])
def mdn_241 : List (Nat × Nat × Nat) := [((nat_lit 42), (nat_lit 6), (nat_lit 7)), ((nat_lit 62), (nat_lit 0), (nat_lit 4)), ((nat_lit 82), (nat_lit 2), (nat_lit 6)), ((nat_lit 82), (nat_lit 10), (nat_lit 13)), ((nat_lit 84), (nat_lit 0), (nat_lit 20)), ((nat_lit 85), (nat_lit 0), (nat_lit 20))]
def ct_43 : aCt := (mX5_readWhale, [ag_34, ag_237], ([sl_238, sl_54], [((82, 6), 42)]), [pon_239, pon_240], mdn_241, [], (nat_lit 3))
set_option maxRecDepth 100000 in
theorem S_43 : aSpec wd ct_43 := bChk_ok wx_ok btX5_readWhale (nds := []) (fk := []) (rk := (1, [])) (sp := 0) (fuel := 3000) (by decide +kernel) (lk_d S_10 ml_5_70 (lk_d S_37 ml_5_195 (lk_d S_32 ml_5_173 (lk_d S_12 ml_5_76 (lk_d S_38 ml_5_142 (lk_d S_39 ml_5_142 (lk_d S_36 ml_5_158 (lk_d S_23 ml_5_138 lk_n)))))))) odX5_readWhale
def ag_242 : aAg := .inr (.inl [(nat_lit 61)])
def pon_243 : aPo := (some (.inl [((.ofNat (nat_lit 0)), (.ofNat (nat_lit 0)), (nat_lit 1))]), [], [sl_29, sl_212], [])
def pon_244 : aPo := (some (.inl [((.ofNat (nat_lit 1)), (.ofNat (nat_lit 1)), (nat_lit 1))]), [], [sl_238, sl_219, sl_61, sl_54], [])
def mdn_245 : List (Nat × Nat × Nat) := [((nat_lit 42), (nat_lit 6), (nat_lit 7)), ((nat_lit 61), (nat_lit 0), (nat_lit 4)), ((nat_lit 82), (nat_lit 2), (nat_lit 6)), ((nat_lit 82), (nat_lit 10), (nat_lit 13)), ((nat_lit 84), (nat_lit 0), (nat_lit 20)), ((nat_lit 85), (nat_lit 0), (nat_lit 20))]
def ct_44 : aCt := (mX5_readWhale, [ag_34, ag_242], ([sl_29, sl_54], [((82, 6), 42)]), [pon_243, pon_244], mdn_245, [], (nat_lit 3))
set_option maxRecDepth 100000 in
theorem S_44 : aSpec wd ct_44 := bChk_ok wx_ok btX5_readWhale (nds := []) (fk := []) (rk := (1, [])) (sp := 0) (fuel := 3000) (by decide +kernel) (lk_d S_10 ml_5_70 (lk_d S_37 ml_5_195 (lk_d S_32 ml_5_173 (lk_d S_12 ml_5_76 (lk_d S_38 ml_5_142 (lk_d S_39 ml_5_142 (lk_d S_36 ml_5_158 (lk_d S_23 ml_5_138 lk_n)))))))) odX5_readWhale
def sl_246 : (Nat × Nat) × aI := (((nat_lit 42), (nat_lit 5)), [((.ofNat (nat_lit 0)), (.ofNat (nat_lit 11)), (nat_lit 1))])
def sl_247 : (Nat × Nat) × aI := (((nat_lit 42), (nat_lit 5)), [((.ofNat (nat_lit 1)), (.ofNat (nat_lit 11)), (nat_lit 1))])
def pon_248 : aPo := (some (.inl [((.ofNat (nat_lit 0)), (.ofNat (nat_lit 10)), (nat_lit 1))]), [], [sl_247], [])
def lcn_249 : Nat × aAg := ((nat_lit 1), .inl [((.ofNat (nat_lit 0)), (.ofNat (nat_lit 6)), (nat_lit 1))])
def lcn_250 : Nat × aAg := ((nat_lit 2), .inl [((.ofNat (nat_lit 0)), (.ofNat (nat_lit 6)), (nat_lit 1))])
def lcn_251 : Nat × aAg := ((nat_lit 3), .inl [((.ofNat (nat_lit 0)), (.ofNat (nat_lit 11)), (nat_lit 1))])
set_option maxRecDepth 100000 in
theorem btX4_wayBetween : bTab oX4_wayBetween tX4_wayBetween := ⟨ofX4_wayBetween, by decide +kernel⟩
def ct_45 : aCt := (mX4_wayBetween, [ag_26, ag_125, ag_125], ([sl_246], []), [pon_248, pon_52], [], [], (nat_lit 0))
set_option maxRecDepth 100000 in
theorem S_45 : aSpec wd ct_45 := bChk_ok wx_ok btX4_wayBetween (nds := [((nat_lit 2), [lcn_141, lcn_249, lcn_250, lcn_251], [], [sl_246], [], (11, [(2, -1)]))]) (fk := []) (rk := (12, [])) (sp := 4) (fuel := 3000) (by decide +kernel) lk_n odX4_wayBetween
def ag_252 : aAg := .inl [((.ofNat (nat_lit 15)), (.ofNat (nat_lit 15)), (nat_lit 1))]
def sl_253 : (Nat × Nat) × aI := (((nat_lit 82), (nat_lit 5)), [((.ofNat (nat_lit 1)), (.ofNat (nat_lit 15)), (nat_lit 1))])
def pon_254 : aPo := (some (.inl [((.ofNat (nat_lit 1)), (.ofNat (nat_lit 1)), (nat_lit 1))]), [], [sl_253, sl_54], [])
def lcn_255 : Nat × aAg := ((nat_lit 2), .inl [((.ofNat (nat_lit 15)), (.ofNat (nat_lit 15)), (nat_lit 1))])
def ct_46 : aCt := (mX5_whole, [ag_34, ag_53, ag_252], ([sl_200, sl_54], []), [pon_163, pon_254], mdn_166, [], (nat_lit 2))
set_option maxRecDepth 100000 in
theorem S_46 : aSpec wd ct_46 := bChk_ok wx_ok btX5_whole (nds := [((nat_lit 28), [lcn_40, lcn_202, lcn_255, lcn_60], [], [sl_169, sl_54], [], (1000, [(0, -1)]))]) (fk := []) (rk := (1001, [])) (sp := 268435456) (fuel := 3000) (by decide +kernel) (lk_d S_10 ml_5_70 (lk_d S_12 ml_5_76 (lk_d S_24 ml_5_76 lk_n))) odX5_whole
def ag_256 : aAg := .inr (.inl [(nat_lit 49), (nat_lit 50), (nat_lit 51), (nat_lit 52), (nat_lit 53), (nat_lit 54), (nat_lit 55), (nat_lit 56), (nat_lit 57), (nat_lit 58), (nat_lit 59), (nat_lit 60)])
def pon_257 : aPo := (some (.inl [((.ofNat (nat_lit 0)), (.ofNat (nat_lit 0)), (nat_lit 1))]), [], [sl_246, sl_212], [])
def sl_258 : (Nat × Nat) × aI := (((nat_lit 42), (nat_lit 5)), [((.ofNat (nat_lit 1)), (.ofNat (nat_lit 12)), (nat_lit 1))])
def pon_259 : aPo := (some (.inl [((.ofNat (nat_lit 1)), (.ofNat (nat_lit 1)), (nat_lit 1))]), [], [sl_258, sl_253, sl_61, sl_54], [])
def mdn_260 : List (Nat × Nat × Nat) := [((nat_lit 42), (nat_lit 5), (nat_lit 6)), ((nat_lit 49), (nat_lit 0), (nat_lit 4)), ((nat_lit 50), (nat_lit 0), (nat_lit 4)), ((nat_lit 51), (nat_lit 0), (nat_lit 4)), ((nat_lit 52), (nat_lit 0), (nat_lit 4)), ((nat_lit 53), (nat_lit 0), (nat_lit 4)), ((nat_lit 54), (nat_lit 0), (nat_lit 4)), ((nat_lit 55), (nat_lit 0), (nat_lit 4)), ((nat_lit 56), (nat_lit 0), (nat_lit 4)), ((nat_lit 57), (nat_lit 0), (nat_lit 4)), ((nat_lit 58), (nat_lit 0), (nat_lit 4)), ((nat_lit 59), (nat_lit 0), (nat_lit 4)), ((nat_lit 60), (nat_lit 0), (nat_lit 4)), ((nat_lit 82), (nat_lit 2), (nat_lit 6)), ((nat_lit 82), (nat_lit 11), (nat_lit 13))]
set_option maxRecDepth 100000 in
theorem btX5_readWay : bTab oX5_readWay tX5_readWay := ⟨ofX5_readWay, by decide +kernel⟩
def ct_47 : aCt := (mX5_readWay, [ag_34, ag_256], ([sl_246, sl_54], [((82, 6), 42)]), [pon_257, pon_259], mdn_260, [], (nat_lit 3))
set_option maxRecDepth 100000 in
theorem S_47 : aSpec wd ct_47 := bChk_ok wx_ok btX5_readWay (nds := []) (fk := []) (rk := (1, [])) (sp := 0) (fuel := 3000) (by decide +kernel) (lk_d S_32 ml_5_173 (lk_d S_15 ml_5_76 (lk_d S_33 ml_5_142 (lk_d S_46 ml_5_142 (lk_d S_45 ml_5_184 (lk_d S_23 ml_5_138 lk_n)))))) odX5_readWay
def sl_261 : (Nat × Nat) × aI := (((nat_lit 82), (nat_lit 5)), [((.ofNat (nat_lit 0)), (.ofNat (nat_lit 4)), (nat_lit 1))])
def pon_262 : aPo := (some (.inl [((.ofNat (nat_lit 1)), (.ofNat (nat_lit 1)), (nat_lit 1))]), [], [sl_261, sl_61, sl_54], [])
def ct_48 : aCt := (mX5_toldName, [ag_34, ag_122], ([sl_54], []), [pon_194, pon_262], mdn_166, [], (nat_lit 2))
set_option maxRecDepth 100000 in
theorem S_48 : aSpec wd ct_48 := bChk_ok wx_ok btX5_toldName (nds := []) (fk := []) (rk := (1, [])) (sp := 0) (fuel := 3000) (by decide +kernel) (lk_d S_10 ml_5_70 (lk_d S_11 ml_5_80 (lk_d S_14 ml_5_248 (lk_d S_12 ml_5_76 (lk_d S_31 ml_5_76 lk_n))))) odX5_toldName
def sl_263 : (Nat × Nat) × aI := (((nat_lit 42), (nat_lit 8)), [((.ofNat (nat_lit 0)), (.ofNat (nat_lit 7)), (nat_lit 1))])
def pon_264 : aPo := (some (.inl [((.ofNat (nat_lit 0)), (.ofNat (nat_lit 6)), (nat_lit 1))]), [], [], [])
def lcn_265 : Nat × aAg := ((nat_lit 1), .inl [((.ofNat (nat_lit 0)), (.ofNat (nat_lit 4)), (nat_lit 1))])
def lcn_266 : Nat × aAg := ((nat_lit 2), .inl [((.negSucc (nat_lit 0)), (.ofNat (nat_lit 6)), (nat_lit 1))])
set_option maxRecDepth 100000 in
theorem btX4_lastSpoutOf : bTab oX4_lastSpoutOf tX4_lastSpoutOf := ⟨ofX4_lastSpoutOf, by decide +kernel⟩
def ct_49 : aCt := (mX4_lastSpoutOf, [ag_26, ag_217], ([sl_263], []), [pon_264, pon_52], [], [], (nat_lit 0))
set_option maxRecDepth 100000 in
theorem S_49 : aSpec wd ct_49 := bChk_ok wx_ok btX4_lastSpoutOf (nds := [((nat_lit 7), [lcn_141, lcn_265, lcn_266], [], [sl_263], [], (1, [(1, 1)]))]) (fk := []) (rk := (8, [])) (sp := 128) (fuel := 3000) (by decide +kernel) lk_n odX4_lastSpoutOf
def sl_267 : (Nat × Nat) × aI := (((nat_lit 82), (nat_lit 5)), [((.negSucc (nat_lit 2147483647)), (.ofNat (nat_lit 6)), (nat_lit 1)), ((.ofNat (nat_lit 10000)), (.ofNat (nat_lit 2147483647)), (nat_lit 1))])
def pon_268 : aPo := (some (.inl [((.ofNat (nat_lit 0)), (.ofNat (nat_lit 0)), (nat_lit 1))]), [], [sl_267, sl_162], [])
def ct_50 : aCt := (mX5_whole, [ag_34, ag_170, ag_204], ([sl_195, sl_54], []), [pon_268, pon_208], mdn_166, [], (nat_lit 2))
set_option maxRecDepth 100000 in
theorem S_50 : aSpec wd ct_50 := bChk_ok wx_ok btX5_whole (nds := [((nat_lit 28), [lcn_40, lcn_175, lcn_209, lcn_60], [], [sl_169, sl_54], [], (1000, [(0, -1)]))]) (fk := []) (rk := (1001, [])) (sp := 268435456) (fuel := 3000) (by decide +kernel) (lk_d S_10 ml_5_70 (lk_d S_12 ml_5_76 (lk_d S_24 ml_5_76 lk_n))) odX5_whole
def sl_269 : (Nat × Nat) × aI := (((nat_lit 82), (nat_lit 5)), [((.negSucc (nat_lit 2147483647)), (.ofNat (nat_lit 9999)), (nat_lit 1))])
def pon_270 : aPo := (some (.inl [((.ofNat (nat_lit 1)), (.ofNat (nat_lit 1)), (nat_lit 1))]), [], [sl_269, sl_54], [])
def lcn_271 : Nat × aAg := ((nat_lit 1), .inl aTop)
def ct_51 : aCt := (mX5_whole, [ag_34, ag_1, ag_204], ([sl_195, sl_54], []), [pon_163, pon_270], mdn_166, [], (nat_lit 2))
set_option maxRecDepth 100000 in
theorem S_51 : aSpec wd ct_51 := bChk_ok wx_ok btX5_whole (nds := [((nat_lit 28), [lcn_40, lcn_271, lcn_209, lcn_60], [], [sl_169, sl_54], [], (1000, [(1, -1)]))]) (fk := []) (rk := (1001, [])) (sp := 268435456) (fuel := 3000) (by decide +kernel) (lk_d S_10 ml_5_70 (lk_d S_12 ml_5_76 (lk_d S_24 ml_5_76 lk_n))) odX5_whole
def ag_272 : aAg := .inr (.inl [(nat_lit 74), (nat_lit 75), (nat_lit 76), (nat_lit 77), (nat_lit 78), (nat_lit 79), (nat_lit 80), (nat_lit 81)])
def sl_273 : (Nat × Nat) × aI := (((nat_lit 82), (nat_lit 11)), [((.ofNat (nat_lit 1)), (.ofNat (nat_lit 2)), (nat_lit 1)), ((.ofNat (nat_lit 4)), (.ofNat (nat_lit 4)), (nat_lit 1))])
def pon_274 : aPo := (some (.inl [((.ofNat (nat_lit 0)), (.ofNat (nat_lit 0)), (nat_lit 1))]), [], [sl_263, sl_273], [])
def sl_275 : (Nat × Nat) × aI := (((nat_lit 42), (nat_lit 8)), [((.ofNat (nat_lit 1)), (.ofNat (nat_lit 8)), (nat_lit 1))])
def pon_276 : aPo := (some (.inl [((.ofNat (nat_lit 1)), (.ofNat (nat_lit 1)), (nat_lit 1))]), [], [sl_275, sl_269, sl_61, sl_54], [])
def mdn_277 : List (Nat × Nat × Nat) := [((nat_lit 42), (nat_lit 8), (nat_lit 9)), ((nat_lit 74), (nat_lit 0), (nat_lit 3)), ((nat_lit 75), (nat_lit 0), (nat_lit 3)), ((nat_lit 76), (nat_lit 0), (nat_lit 3)), ((nat_lit 77), (nat_lit 0), (nat_lit 3)), ((nat_lit 78), (nat_lit 0), (nat_lit 3)), ((nat_lit 79), (nat_lit 0), (nat_lit 3)), ((nat_lit 80), (nat_lit 0), (nat_lit 3)), ((nat_lit 81), (nat_lit 0), (nat_lit 3)), ((nat_lit 82), (nat_lit 2), (nat_lit 6)), ((nat_lit 82), (nat_lit 11), (nat_lit 13))]
set_option maxRecDepth 100000 in
theorem btX5_readSpout : bTab oX5_readSpout tX5_readSpout := ⟨ofX5_readSpout, by decide +kernel⟩
def ct_52 : aCt := (mX5_readSpout, [ag_34, ag_272], ([sl_263, sl_54], [((82, 6), 42)]), [pon_274, pon_276], mdn_277, [], (nat_lit 3))
set_option maxRecDepth 100000 in
theorem S_52 : aSpec wd ct_52 := bChk_ok wx_ok btX5_readSpout (nds := []) (fk := []) (rk := (1, [])) (sp := 0) (fuel := 3000) (by decide +kernel) (lk_d S_48 ml_5_173 (lk_d S_32 ml_5_173 (lk_d S_50 ml_5_142 (lk_d S_49 ml_5_240 (lk_d S_23 ml_5_138 (lk_d S_51 ml_5_142 lk_n)))))) odX5_readSpout
def sl_278 : (Nat × Nat) × aI := (((nat_lit 82), (nat_lit 11)), [((.ofNat (nat_lit 1)), (.ofNat (nat_lit 7)), (nat_lit 1))])
def pon_279 : aPo := (some (.inl [((.ofNat (nat_lit 0)), (.ofNat (nat_lit 0)), (nat_lit 1))]), [], [sl_278], [])
def mdn_280 : List (Nat × Nat × Nat) := [((nat_lit 42), (nat_lit 0), (nat_lit 9)), ((nat_lit 43), (nat_lit 0), (nat_lit 7)), ((nat_lit 44), (nat_lit 0), (nat_lit 7)), ((nat_lit 49), (nat_lit 0), (nat_lit 4)), ((nat_lit 50), (nat_lit 0), (nat_lit 4)), ((nat_lit 51), (nat_lit 0), (nat_lit 4)), ((nat_lit 52), (nat_lit 0), (nat_lit 4)), ((nat_lit 53), (nat_lit 0), (nat_lit 4)), ((nat_lit 54), (nat_lit 0), (nat_lit 4)), ((nat_lit 55), (nat_lit 0), (nat_lit 4)), ((nat_lit 56), (nat_lit 0), (nat_lit 4)), ((nat_lit 57), (nat_lit 0), (nat_lit 4)), ((nat_lit 58), (nat_lit 0), (nat_lit 4)), ((nat_lit 59), (nat_lit 0), (nat_lit 4)), ((nat_lit 60), (nat_lit 0), (nat_lit 4)), ((nat_lit 61), (nat_lit 0), (nat_lit 4)), ((nat_lit 62), (nat_lit 0), (nat_lit 4)), ((nat_lit 63), (nat_lit 0), (nat_lit 4)), ((nat_lit 64), (nat_lit 0), (nat_lit 4)), ((nat_lit 65), (nat_lit 0), (nat_lit 4)), ((nat_lit 66), (nat_lit 0), (nat_lit 4)), ((nat_lit 67), (nat_lit 0), (nat_lit 4)), ((nat_lit 68), (nat_lit 0), (nat_lit 4)), ((nat_lit 69), (nat_lit 0), (nat_lit 4)), ((nat_lit 70), (nat_lit 0), (nat_lit 4)), ((nat_lit 71), (nat_lit 0), (nat_lit 4)), ((nat_lit 72), (nat_lit 0), (nat_lit 4)), ((nat_lit 73), (nat_lit 0), (nat_lit 4)), ((nat_lit 74), (nat_lit 0), (nat_lit 3)), ((nat_lit 75), (nat_lit 0), (nat_lit 3)), ((nat_lit 76), (nat_lit 0), (nat_lit 3)), ((nat_lit 77), (nat_lit 0), (nat_lit 3)), ((nat_lit 78), (nat_lit 0), (nat_lit 3)), ((nat_lit 79), (nat_lit 0), (nat_lit 3)), ((nat_lit 80), (nat_lit 0), (nat_lit 3)), ((nat_lit 81), (nat_lit 0), (nat_lit 3)), ((nat_lit 82), (nat_lit 2), (nat_lit 6)), ((nat_lit 82), (nat_lit 10), (nat_lit 13)), ((nat_lit 84), (nat_lit 0), (nat_lit 20)), ((nat_lit 85), (nat_lit 0), (nat_lit 20))]
set_option maxRecDepth 100000 in
theorem btX5_readLine : bTab oX5_readLine tX5_readLine := ⟨ofX5_readLine, by decide +kernel⟩
def ct_53 : aCt := (mX5_readLine, [ag_34], ([sl_54], [((82, 6), 42)]), [pon_279, pon_157], mdn_280, [], (nat_lit 4))
set_option maxRecDepth 100000 in
theorem S_53 : aSpec wd ct_53 := bChk_ok wx_ok btX5_readLine (nds := []) (fk := [172]) (rk := (1, [])) (sp := 0) (fuel := 3000) (by decide +kernel) (lk_d S_20 ml_5_90 (lk_d S_29 ml_5_87 (lk_d S_10 ml_5_70 (lk_d S_11 ml_5_80 (lk_d S_40 ml_5_111 (lk_d S_41 ml_5_111 (lk_d S_42 ml_5_111 (lk_d S_43 ml_5_111 (lk_d S_44 ml_5_111 (lk_d S_21 ml_5_76 (lk_d S_22 ml_5_76 (lk_d S_15 ml_5_76 (lk_d S_12 ml_5_76 (lk_d S_35 ml_5_122 (lk_d S_52 ml_5_133 (lk_d S_47 ml_5_100 lk_n)))))))))))))))) odX5_readLine
def ag_281 : aAg := .inl [((.ofNat (nat_lit 0)), (.ofNat (nat_lit 1000)), (nat_lit 1))]
def pon_282 : aPo := (some (.inl [((.ofNat (nat_lit 0)), (.ofNat (nat_lit 0)), (nat_lit 1))]), [], [sl_278], [((82, 6), 42)])
def pon_283 : aPo := (some (.inl [((.ofNat (nat_lit 1)), (.ofNat (nat_lit 1)), (nat_lit 1))]), [], [sl_147, sl_54], [((82, 6), 42)])
def mdn_284 : List (Nat × Nat × Nat) := [((nat_lit 42), (nat_lit 0), (nat_lit 9)), ((nat_lit 43), (nat_lit 0), (nat_lit 7)), ((nat_lit 44), (nat_lit 0), (nat_lit 7)), ((nat_lit 49), (nat_lit 0), (nat_lit 4)), ((nat_lit 50), (nat_lit 0), (nat_lit 4)), ((nat_lit 51), (nat_lit 0), (nat_lit 4)), ((nat_lit 52), (nat_lit 0), (nat_lit 4)), ((nat_lit 53), (nat_lit 0), (nat_lit 4)), ((nat_lit 54), (nat_lit 0), (nat_lit 4)), ((nat_lit 55), (nat_lit 0), (nat_lit 4)), ((nat_lit 56), (nat_lit 0), (nat_lit 4)), ((nat_lit 57), (nat_lit 0), (nat_lit 4)), ((nat_lit 58), (nat_lit 0), (nat_lit 4)), ((nat_lit 59), (nat_lit 0), (nat_lit 4)), ((nat_lit 60), (nat_lit 0), (nat_lit 4)), ((nat_lit 61), (nat_lit 0), (nat_lit 4)), ((nat_lit 62), (nat_lit 0), (nat_lit 4)), ((nat_lit 63), (nat_lit 0), (nat_lit 4)), ((nat_lit 64), (nat_lit 0), (nat_lit 4)), ((nat_lit 65), (nat_lit 0), (nat_lit 4)), ((nat_lit 66), (nat_lit 0), (nat_lit 4)), ((nat_lit 67), (nat_lit 0), (nat_lit 4)), ((nat_lit 68), (nat_lit 0), (nat_lit 4)), ((nat_lit 69), (nat_lit 0), (nat_lit 4)), ((nat_lit 70), (nat_lit 0), (nat_lit 4)), ((nat_lit 71), (nat_lit 0), (nat_lit 4)), ((nat_lit 72), (nat_lit 0), (nat_lit 4)), ((nat_lit 73), (nat_lit 0), (nat_lit 4)), ((nat_lit 74), (nat_lit 0), (nat_lit 3)), ((nat_lit 75), (nat_lit 0), (nat_lit 3)), ((nat_lit 76), (nat_lit 0), (nat_lit 3)), ((nat_lit 77), (nat_lit 0), (nat_lit 3)), ((nat_lit 78), (nat_lit 0), (nat_lit 3)), ((nat_lit 79), (nat_lit 0), (nat_lit 3)), ((nat_lit 80), (nat_lit 0), (nat_lit 3)), ((nat_lit 81), (nat_lit 0), (nat_lit 3)), ((nat_lit 82), (nat_lit 1), (nat_lit 6)), ((nat_lit 82), (nat_lit 10), (nat_lit 13)), ((nat_lit 84), (nat_lit 0), (nat_lit 20)), ((nat_lit 85), (nat_lit 0), (nat_lit 20))]
def mdn_285 : List (Nat × Nat × Nat) := [((nat_lit 82), (nat_lit 6), (nat_lit 7))]
def lcn_286 : Nat × aAg := ((nat_lit 1), .inl [((.ofNat (nat_lit 0)), (.ofNat (nat_lit 1000)), (nat_lit 1))])
def lcn_287 : Nat × aAg := ((nat_lit 2), .inr (.inl [(nat_lit 42)]))
def lcn_288 : Nat × aAg := ((nat_lit 3), .inl [((.ofNat (nat_lit 0)), (.ofNat (nat_lit 1023)), (nat_lit 1))])
set_option maxRecDepth 100000 in
theorem btX5_readPost : bTab oX5_readPost tX5_readPost := ⟨ofX5_readPost, by decide +kernel⟩
def ct_54 : aCt := (mX5_readPost, [ag_34, ag_281, ag_26], ([], []), [pon_282, pon_283], mdn_284, mdn_285, (nat_lit 5))
set_option maxRecDepth 100000 in
theorem S_54 : aSpec wd ct_54 := bChk_ok wx_ok btX5_readPost (nds := [((nat_lit 47), [lcn_40, lcn_286, lcn_287, lcn_288], [], [sl_54], [((82, 6), 42)], (1023, [(1, -1)]))]) (fk := []) (rk := (1024, [])) (sp := 140737488355328) (fuel := 3000) (by decide +kernel) (lk_d S_53 ml_5_66 (lk_d S_7 ml_5_55 (lk_d S_10 ml_5_70 (lk_d S_22 ml_5_76 (lk_d S_12 ml_5_76 lk_n))))) odX5_readPost
def ag_289 : aAg := .inr (.inl [(nat_lit 86)])
def mdn_290 : List (Nat × Nat × Nat) := [((nat_lit 86), (nat_lit 0), (nat_lit 2)), ((nat_lit 87), (nat_lit 0), (nat_lit 5)), ((nat_lit 88), (nat_lit 0), (nat_lit 5)), ((nat_lit 89), (nat_lit 0), (nat_lit 8)), ((nat_lit 90), (nat_lit 0), (nat_lit 8)), ((nat_lit 91), (nat_lit 0), (nat_lit 8))]
def lcn_291 : Nat × aAg := ((nat_lit 0), .inr (.inl [(nat_lit 86)]))
def lcn_292 : Nat × aAg := ((nat_lit 1), .inr (.inl [(nat_lit 42)]))
def lcn_293 : Nat × aAg := ((nat_lit 2), .inl [((.ofNat (nat_lit 0)), (.ofNat (nat_lit 5)), (nat_lit 1))])
def sl_294 : (Nat × Nat) × aI := (((nat_lit 86), (nat_lit 0)), [((.ofNat (nat_lit 0)), (.ofNat (nat_lit 0)), (nat_lit 1))])
def sl_295 : (Nat × Nat) × aI := (((nat_lit 86), (nat_lit 1)), [((.ofNat (nat_lit 0)), (.ofNat (nat_lit 0)), (nat_lit 1))])
def lcn_296 : Nat × aAg := ((nat_lit 2), .inl [((.ofNat (nat_lit 0)), (.ofNat (nat_lit 8)), (nat_lit 1))])
set_option maxRecDepth 100000 in
theorem btX2_begin : bTab oX2_begin tX2_begin := ⟨ofX2_begin, by decide +kernel⟩
def ct_55 : aCt := (mX2_begin, [ag_289, ag_26], ([], []), [pon_49], mdn_290, [], (nat_lit 0))
set_option maxRecDepth 100000 in
theorem S_55 : aSpec wd ct_55 := bChk_ok wx_ok btX2_begin (nds := [((nat_lit 12), [lcn_291, lcn_292, lcn_293], [], [sl_294, sl_295], [], (14, [(0, -1)])), ((nat_lit 50), [lcn_291, lcn_292, lcn_296], [], [sl_294, sl_295], [], (8, [(0, -1)]))]) (fk := []) (rk := (15, [])) (sp := 1125899906846720) (fuel := 3000) (by decide +kernel) lk_n odX2_begin
def sl_297 : (Nat × Nat) × aI := (((nat_lit 0), (nat_lit 15)), [((.ofNat (nat_lit 0)), (.ofNat (nat_lit 0)), (nat_lit 1))])
def pon_298 : aPo := (none, [], [sl_297], [((0, 3), 42), ((0, 4), 2), ((92, 0), 42), ((94, 0), 42), ((96, 0), 42)])
def mdn_299 : List (Nat × Nat × Nat) := [((nat_lit 0), (nat_lit 13), (nat_lit 14)), ((nat_lit 0), (nat_lit 15), (nat_lit 16)), ((nat_lit 86), (nat_lit 0), (nat_lit 2)), ((nat_lit 87), (nat_lit 0), (nat_lit 5)), ((nat_lit 88), (nat_lit 0), (nat_lit 5)), ((nat_lit 89), (nat_lit 0), (nat_lit 8)), ((nat_lit 90), (nat_lit 0), (nat_lit 8)), ((nat_lit 91), (nat_lit 0), (nat_lit 8))]
def mdn_300 : List (Nat × Nat × Nat) := [((nat_lit 0), (nat_lit 3), (nat_lit 4)), ((nat_lit 0), (nat_lit 4), (nat_lit 5)), ((nat_lit 92), (nat_lit 0), (nat_lit 1)), ((nat_lit 94), (nat_lit 0), (nat_lit 1)), ((nat_lit 96), (nat_lit 0), (nat_lit 1))]
set_option maxRecDepth 100000 in
theorem btX11_takeDraft : bTab oX11_takeDraft tX11_takeDraft := ⟨ofX11_takeDraft, by decide +kernel⟩
def ct_56 : aCt := (mX11_takeDraft, [ag_0], ([], [((0, 3), 2), ((0, 4), 42), ((92, 0), 2), ((94, 0), 2), ((96, 0), 2)]), [pon_298], mdn_299, mdn_300, (nat_lit 1))
set_option maxRecDepth 100000 in
theorem S_56 : aSpec wd ct_56 := bChk_ok wx_ok btX11_takeDraft (nds := []) (fk := []) (rk := (1, [])) (sp := 0) (fuel := 3000) (by decide +kernel) (lk_d S_55 ml_11_391 lk_n) odX11_takeDraft
def sl_301 : (Nat × Nat) × aI := (((nat_lit 0), (nat_lit 2)), [((.ofNat (nat_lit 0)), (.ofNat (nat_lit 0)), (nat_lit 1))])
def pon_302 : aPo := (some (.inl aTop), [], [sl_301], [])
set_option maxRecDepth 100000 in
theorem btX11_granted : bTab oX11_granted tX11_granted := ⟨ofX11_granted, by decide +kernel⟩
def ct_57 : aCt := (mX11_granted, [ag_0, ag_1], ([], []), [pon_302], mdn_25, [], (nat_lit 0))
set_option maxRecDepth 100000 in
theorem S_57 : aSpec wd ct_57 := bChk_ok wx_ok btX11_granted (nds := []) (fk := []) (rk := (1, [])) (sp := 0) (fuel := 3000) (by decide +kernel) lk_n odX11_granted
def sl_303 : (Nat × Nat) × aI := (((nat_lit 0), (nat_lit 2)), [((.ofNat (nat_lit 4)), (.ofNat (nat_lit 4)), (nat_lit 1))])
def pon_304 : aPo := (some (.inl [((.negSucc (nat_lit 0)), (.negSucc (nat_lit 0)), (nat_lit 1))]), [], [sl_303], [])
def ct_58 : aCt := (mX11_refused, [ag_0, ag_159], ([], []), [pon_304], mdn_25, [], (nat_lit 0))
set_option maxRecDepth 100000 in
theorem S_58 : aSpec wd ct_58 := bChk_ok wx_ok btX11_refused (nds := []) (fk := []) (rk := (1, [])) (sp := 0) (fuel := 3000) (by decide +kernel) lk_n odX11_refused
def sl_305 : (Nat × Nat) × aI := (((nat_lit 0), (nat_lit 1)), [((.ofNat (nat_lit 0)), (.ofNat (nat_lit 0)), (nat_lit 1))])
def pon_306 : aPo := (some (.inl aTop), [none, some [((.ofNat (nat_lit 0)), (.ofNat (nat_lit 1000)), (nat_lit 1))]], [sl_305, sl_301, sl_297, sl_147, sl_54], [((0, 3), 42), ((0, 4), 2), ((82, 6), 42), ((92, 0), 42), ((94, 0), 42), ((96, 0), 42)])
def pon_307 : aPo := (some (.inl [((.negSucc (nat_lit 0)), (.negSucc (nat_lit 0)), (nat_lit 1))]), [none, some [((.ofNat (nat_lit 0)), (.ofNat (nat_lit 1000)), (nat_lit 1))]], [sl_305, sl_303, sl_278], [((0, 3), 2), ((0, 4), 42), ((82, 6), 42), ((92, 0), 2), ((94, 0), 2), ((96, 0), 2)])
def pon_308 : aPo := (some (.inl [((.negSucc (nat_lit 0)), (.negSucc (nat_lit 0)), (nat_lit 1))]), [none, some [((.negSucc (nat_lit 2147483647)), (.negSucc (nat_lit 0)), (nat_lit 1)), ((.ofNat (nat_lit 1)), (.ofNat (nat_lit 2147483647)), (nat_lit 1))]], [sl_23], [((0, 3), 2), ((0, 4), 42), ((92, 0), 2), ((94, 0), 2), ((96, 0), 2)])
def mdn_309 : List (Nat × Nat × Nat) := [((nat_lit 0), (nat_lit 1), (nat_lit 3)), ((nat_lit 0), (nat_lit 13), (nat_lit 14)), ((nat_lit 0), (nat_lit 15), (nat_lit 16)), ((nat_lit 42), (nat_lit 0), (nat_lit 9)), ((nat_lit 43), (nat_lit 0), (nat_lit 7)), ((nat_lit 44), (nat_lit 0), (nat_lit 7)), ((nat_lit 49), (nat_lit 0), (nat_lit 4)), ((nat_lit 50), (nat_lit 0), (nat_lit 4)), ((nat_lit 51), (nat_lit 0), (nat_lit 4)), ((nat_lit 52), (nat_lit 0), (nat_lit 4)), ((nat_lit 53), (nat_lit 0), (nat_lit 4)), ((nat_lit 54), (nat_lit 0), (nat_lit 4)), ((nat_lit 55), (nat_lit 0), (nat_lit 4)), ((nat_lit 56), (nat_lit 0), (nat_lit 4)), ((nat_lit 57), (nat_lit 0), (nat_lit 4)), ((nat_lit 58), (nat_lit 0), (nat_lit 4)), ((nat_lit 59), (nat_lit 0), (nat_lit 4)), ((nat_lit 60), (nat_lit 0), (nat_lit 4)), ((nat_lit 61), (nat_lit 0), (nat_lit 4)), ((nat_lit 62), (nat_lit 0), (nat_lit 4)), ((nat_lit 63), (nat_lit 0), (nat_lit 4)), ((nat_lit 64), (nat_lit 0), (nat_lit 4)), ((nat_lit 65), (nat_lit 0), (nat_lit 4)), ((nat_lit 66), (nat_lit 0), (nat_lit 4)), ((nat_lit 67), (nat_lit 0), (nat_lit 4)), ((nat_lit 68), (nat_lit 0), (nat_lit 4)), ((nat_lit 69), (nat_lit 0), (nat_lit 4)), ((nat_lit 70), (nat_lit 0), (nat_lit 4)), ((nat_lit 71), (nat_lit 0), (nat_lit 4)), ((nat_lit 72), (nat_lit 0), (nat_lit 4)), ((nat_lit 73), (nat_lit 0), (nat_lit 4)), ((nat_lit 74), (nat_lit 0), (nat_lit 3)), ((nat_lit 75), (nat_lit 0), (nat_lit 3)), ((nat_lit 76), (nat_lit 0), (nat_lit 3)), ((nat_lit 77), (nat_lit 0), (nat_lit 3)), ((nat_lit 78), (nat_lit 0), (nat_lit 3)), ((nat_lit 79), (nat_lit 0), (nat_lit 3)), ((nat_lit 80), (nat_lit 0), (nat_lit 3)), ((nat_lit 81), (nat_lit 0), (nat_lit 3)), ((nat_lit 82), (nat_lit 1), (nat_lit 6)), ((nat_lit 82), (nat_lit 10), (nat_lit 13)), ((nat_lit 84), (nat_lit 0), (nat_lit 20)), ((nat_lit 85), (nat_lit 0), (nat_lit 20)), ((nat_lit 86), (nat_lit 0), (nat_lit 2)), ((nat_lit 87), (nat_lit 0), (nat_lit 5)), ((nat_lit 88), (nat_lit 0), (nat_lit 5)), ((nat_lit 89), (nat_lit 0), (nat_lit 8)), ((nat_lit 90), (nat_lit 0), (nat_lit 8)), ((nat_lit 91), (nat_lit 0), (nat_lit 8))]
def mdn_310 : List (Nat × Nat × Nat) := [((nat_lit 0), (nat_lit 3), (nat_lit 4)), ((nat_lit 0), (nat_lit 4), (nat_lit 5)), ((nat_lit 82), (nat_lit 6), (nat_lit 7)), ((nat_lit 92), (nat_lit 0), (nat_lit 1)), ((nat_lit 94), (nat_lit 0), (nat_lit 1)), ((nat_lit 96), (nat_lit 0), (nat_lit 1))]
set_option maxRecDepth 100000 in
theorem btX11_post : bTab oX11_post tX11_post := ⟨ofX11_post, by decide +kernel⟩
def ct_59 : aCt := (mX11_post, [ag_0, ag_1], ([], [((0, 3), 2), ((0, 4), 42), ((92, 0), 2), ((94, 0), 2), ((96, 0), 2)]), [pon_306, pon_307, pon_308], mdn_309, mdn_310, (nat_lit 6))
set_option maxRecDepth 100000 in
theorem S_59 : aSpec wd ct_59 := bChk_ok wx_ok btX11_post (nds := []) (fk := []) (rk := (1, [])) (sp := 0) (fuel := 3000) (by decide +kernel) (lk_d S_56 ml_11_106 (lk_d S_6 ml_11_98 (lk_d S_58 ml_11_98 (lk_d S_54 ml_11_102 (lk_d S_57 ml_11_112 lk_n))))) odX11_post
set_option maxRecDepth 100000 in
theorem btX11_fault : bTab oX11_fault tX11_fault := ⟨ofX11_fault, by decide +kernel⟩
def ct_60 : aCt := (mX11_fault, [ag_0], ([], []), [pon_130], [], [], (nat_lit 0))
set_option maxRecDepth 100000 in
theorem S_60 : aSpec wd ct_60 := bChk_ok wx_ok btX11_fault (nds := []) (fk := []) (rk := (1, [])) (sp := 0) (fuel := 3000) (by decide +kernel) lk_n odX11_fault
def pon_311 : aPo := (some (.inl aTop), [], [sl_303], [])
def sl_312 : (Nat × Nat) × aI := (((nat_lit 0), (nat_lit 2)), [((.ofNat (nat_lit 0)), (.ofNat (nat_lit 3)), (nat_lit 1)), ((.ofNat (nat_lit 5)), (.ofNat (nat_lit 6)), (nat_lit 1))])
def pon_313 : aPo := (some (.inl [((.negSucc (nat_lit 0)), (.negSucc (nat_lit 0)), (nat_lit 1))]), [], [sl_312], [])
set_option maxRecDepth 100000 in
theorem btX11_where : bTab oX11_where tX11_where := ⟨ofX11_where, by decide +kernel⟩
def ct_61 : aCt := (mX11_where, [ag_0], ([], []), [pon_311, pon_313], [], [], (nat_lit 0))
set_option maxRecDepth 100000 in
theorem S_61 : aSpec wd ct_61 := bChk_ok wx_ok btX11_where (nds := []) (fk := []) (rk := (1, [])) (sp := 0) (fuel := 3000) (by decide +kernel) lk_n odX11_where
def sl_314 : (Nat × Nat) × aI := (((nat_lit 2), (nat_lit 6)), [((.ofNat (nat_lit 0)), (.ofNat (nat_lit 0)), (nat_lit 1))])
def pon_315 : aPo := (some (.inl [((.ofNat (nat_lit 0)), (.ofNat (nat_lit 0)), (nat_lit 1))]), [none, some [((.ofNat (nat_lit 0)), (.ofNat (nat_lit 2147483647)), (nat_lit 1))]], [sl_314], [])
def sl_316 : (Nat × Nat) × aI := (((nat_lit 2), (nat_lit 6)), [((.ofNat (nat_lit 1)), (.ofNat (nat_lit 1)), (nat_lit 1))])
def pon_317 : aPo := (some (.inl [((.ofNat (nat_lit 0)), (.ofNat (nat_lit 0)), (nat_lit 1))]), [none, some [((.ofNat (nat_lit 1)), (.ofNat (nat_lit 2147483647)), (nat_lit 1))]], [sl_316], [])
def sl_318 : (Nat × Nat) × aI := (((nat_lit 2), (nat_lit 6)), [((.ofNat (nat_lit 2)), (.ofNat (nat_lit 2)), (nat_lit 1))])
def pon_319 : aPo := (some (.inl [((.ofNat (nat_lit 0)), (.ofNat (nat_lit 0)), (nat_lit 1))]), [none, some [((.ofNat (nat_lit 2)), (.ofNat (nat_lit 2147483647)), (nat_lit 1))]], [sl_318], [])
def sl_320 : (Nat × Nat) × aI := (((nat_lit 2), (nat_lit 6)), [((.ofNat (nat_lit 3)), (.ofNat (nat_lit 3)), (nat_lit 1))])
def pon_321 : aPo := (some (.inl [((.ofNat (nat_lit 0)), (.ofNat (nat_lit 0)), (nat_lit 1))]), [none, some [((.ofNat (nat_lit 3)), (.ofNat (nat_lit 2147483647)), (nat_lit 1))]], [sl_320], [])
def sl_322 : (Nat × Nat) × aI := (((nat_lit 2), (nat_lit 6)), [((.ofNat (nat_lit 4)), (.ofNat (nat_lit 4)), (nat_lit 1))])
def pon_323 : aPo := (some (.inl [((.ofNat (nat_lit 0)), (.ofNat (nat_lit 0)), (nat_lit 1))]), [none, some [((.ofNat (nat_lit 4)), (.ofNat (nat_lit 2147483647)), (nat_lit 1))]], [sl_322], [])
def sl_324 : (Nat × Nat) × aI := (((nat_lit 2), (nat_lit 6)), [((.ofNat (nat_lit 5)), (.ofNat (nat_lit 5)), (nat_lit 1))])
def pon_325 : aPo := (some (.inl [((.ofNat (nat_lit 0)), (.ofNat (nat_lit 0)), (nat_lit 1))]), [none, some [((.ofNat (nat_lit 5)), (.ofNat (nat_lit 2147483647)), (nat_lit 1))]], [sl_324], [])
def pon_326 : aPo := (some (.inl [((.ofNat (nat_lit 0)), (.ofNat (nat_lit 0)), (nat_lit 1))]), [none, some [((.negSucc (nat_lit 2147483647)), (.negSucc (nat_lit 0)), (nat_lit 1))]], [], [])
def pon_327 : aPo := (some (.inl [((.ofNat (nat_lit 1)), (.ofNat (nat_lit 1)), (nat_lit 1))]), [none, some [((.ofNat (nat_lit 0)), (.ofNat (nat_lit 0)), (nat_lit 1))]], [sl_316], [])
def pon_328 : aPo := (some (.inl [((.ofNat (nat_lit 1)), (.ofNat (nat_lit 1)), (nat_lit 1))]), [none, some [((.ofNat (nat_lit 0)), (.ofNat (nat_lit 1)), (nat_lit 1))]], [sl_318], [])
def pon_329 : aPo := (some (.inl [((.ofNat (nat_lit 1)), (.ofNat (nat_lit 1)), (nat_lit 1))]), [none, some [((.ofNat (nat_lit 0)), (.ofNat (nat_lit 2)), (nat_lit 1))]], [sl_320], [])
def pon_330 : aPo := (some (.inl [((.ofNat (nat_lit 1)), (.ofNat (nat_lit 1)), (nat_lit 1))]), [none, some [((.ofNat (nat_lit 0)), (.ofNat (nat_lit 3)), (nat_lit 1))]], [sl_322], [])
def pon_331 : aPo := (some (.inl [((.ofNat (nat_lit 1)), (.ofNat (nat_lit 1)), (nat_lit 1))]), [none, some [((.ofNat (nat_lit 0)), (.ofNat (nat_lit 4)), (nat_lit 1))]], [sl_324], [])
set_option maxRecDepth 100000 in
theorem btX11_isWhale : bTab oX11_isWhale tX11_isWhale := ⟨ofX11_isWhale, by decide +kernel⟩
def ct_62 : aCt := (mX11_isWhale, [ag_0, ag_1], ([], [((0, 3), 2)]), [pon_315, pon_317, pon_319, pon_321, pon_323, pon_325, pon_326, pon_327, pon_328, pon_329, pon_330, pon_331], [], [], (nat_lit 0))
set_option maxRecDepth 100000 in
theorem S_62 : aSpec wd ct_62 := bChk_ok wx_ok btX11_isWhale (nds := []) (fk := [12]) (rk := (1, [])) (sp := 0) (fuel := 3000) (by decide +kernel) lk_n odX11_isWhale
def sl_332 : (Nat × Nat) × aI := (((nat_lit 0), (nat_lit 2)), [((.ofNat (nat_lit 1)), (.ofNat (nat_lit 1)), (nat_lit 1))])
def pon_333 : aPo := (some (.inl [((.negSucc (nat_lit 0)), (.negSucc (nat_lit 0)), (nat_lit 1))]), [], [sl_332], [])
def ct_63 : aCt := (mX11_refused, [ag_0, ag_53], ([], []), [pon_333], mdn_25, [], (nat_lit 0))
set_option maxRecDepth 100000 in
theorem S_63 : aSpec wd ct_63 := bChk_ok wx_ok btX11_refused (nds := []) (fk := []) (rk := (1, [])) (sp := 0) (fuel := 3000) (by decide +kernel) lk_n odX11_refused
def sl_334 : (Nat × Nat) × aI := (((nat_lit 2), (nat_lit 6)), [((.ofNat (nat_lit 1)), (.ofNat (nat_lit 5)), (nat_lit 1))])
def pon_335 : aPo := (some (.inl aTop), [none, some [((.ofNat (nat_lit 0)), (.ofNat (nat_lit 4)), (nat_lit 1))], some [((.ofNat (nat_lit 0)), (.ofNat (nat_lit 4)), (nat_lit 1))]], [sl_301, sl_334], [])
def pon_336 : aPo := (some (.inl [((.negSucc (nat_lit 0)), (.negSucc (nat_lit 0)), (nat_lit 1))]), [none, some aTop, none], [sl_332], [])
set_option maxRecDepth 100000 in
theorem btX11_whale : bTab oX11_whale tX11_whale := ⟨ofX11_whale, by decide +kernel⟩
def ct_64 : aCt := (mX11_whale, [ag_0, ag_1, ag_1], ([], [((0, 3), 2)]), [pon_335, pon_336], mdn_25, [], (nat_lit 1))
set_option maxRecDepth 100000 in
theorem S_64 : aSpec wd ct_64 := bChk_ok wx_ok btX11_whale (nds := []) (fk := []) (rk := (1, [])) (sp := 0) (fuel := 3000) (by decide +kernel) (lk_d S_63 ml_11_98 (lk_d S_62 ml_11_121 (lk_d S_57 ml_11_112 lk_n))) odX11_whale
def pon_337 : aPo := (some (.inl [((.ofNat (nat_lit 0)), (.ofNat (nat_lit 0)), (nat_lit 1))]), [none, some aTop], [], [])
def sl_338 : (Nat × Nat) × aI := (((nat_lit 2), (nat_lit 7)), [((.ofNat (nat_lit 1)), (.ofNat (nat_lit 8)), (nat_lit 1))])
def pon_339 : aPo := (some (.inl [((.ofNat (nat_lit 1)), (.ofNat (nat_lit 1)), (nat_lit 1))]), [none, some [((.ofNat (nat_lit 0)), (.ofNat (nat_lit 7)), (nat_lit 1))]], [sl_338], [])
set_option maxRecDepth 100000 in
theorem btX11_isBox : bTab oX11_isBox tX11_isBox := ⟨ofX11_isBox, by decide +kernel⟩
def ct_65 : aCt := (mX11_isBox, [ag_0, ag_1], ([], [((0, 3), 2)]), [pon_337, pon_339], [], [], (nat_lit 0))
set_option maxRecDepth 100000 in
theorem S_65 : aSpec wd ct_65 := bChk_ok wx_ok btX11_isBox (nds := []) (fk := []) (rk := (1, [])) (sp := 0) (fuel := 3000) (by decide +kernel) lk_n odX11_isBox
def pon_340 : aPo := (some (.inl aTop), [none, some [((.ofNat (nat_lit 0)), (.ofNat (nat_lit 7)), (nat_lit 1))], some [((.ofNat (nat_lit 0)), (.ofNat (nat_lit 5)), (nat_lit 1))]], [sl_301, sl_338], [])
set_option maxRecDepth 100000 in
theorem btX11_box : bTab oX11_box tX11_box := ⟨ofX11_box, by decide +kernel⟩
def ct_66 : aCt := (mX11_box, [ag_0, ag_1, ag_1], ([], [((0, 3), 2)]), [pon_340, pon_333], mdn_25, [], (nat_lit 1))
set_option maxRecDepth 100000 in
theorem S_66 : aSpec wd ct_66 := bChk_ok wx_ok btX11_box (nds := []) (fk := []) (rk := (1, [])) (sp := 0) (fuel := 3000) (by decide +kernel) (lk_d S_63 ml_11_98 (lk_d S_65 ml_11_147 (lk_d S_57 ml_11_112 lk_n))) odX11_box
def sl_341 : (Nat × Nat) × aI := (((nat_lit 2), (nat_lit 4)), [((.ofNat (nat_lit 1)), (.ofNat (nat_lit 7)), (nat_lit 1))])
def pon_342 : aPo := (some (.inl [((.ofNat (nat_lit 1)), (.ofNat (nat_lit 1)), (nat_lit 1))]), [none, some [((.ofNat (nat_lit 0)), (.ofNat (nat_lit 6)), (nat_lit 1))]], [sl_341], [])
set_option maxRecDepth 100000 in
theorem btX11_isIsland : bTab oX11_isIsland tX11_isIsland := ⟨ofX11_isIsland, by decide +kernel⟩
def ct_67 : aCt := (mX11_isIsland, [ag_0, ag_1], ([], [((0, 3), 2)]), [pon_337, pon_342], [], [], (nat_lit 0))
set_option maxRecDepth 100000 in
theorem S_67 : aSpec wd ct_67 := bChk_ok wx_ok btX11_isIsland (nds := []) (fk := []) (rk := (1, [])) (sp := 0) (fuel := 3000) (by decide +kernel) lk_n odX11_isIsland
def pon_343 : aPo := (some (.inl aTop), [none, some [((.ofNat (nat_lit 0)), (.ofNat (nat_lit 6)), (nat_lit 1))]], [sl_301, sl_341], [])
set_option maxRecDepth 100000 in
theorem btX11_length : bTab oX11_length tX11_length := ⟨ofX11_length, by decide +kernel⟩
def ct_68 : aCt := (mX11_length, [ag_0, ag_1], ([], [((0, 3), 2)]), [pon_343, pon_333], mdn_25, [], (nat_lit 1))
set_option maxRecDepth 100000 in
theorem S_68 : aSpec wd ct_68 := bChk_ok wx_ok btX11_length (nds := []) (fk := []) (rk := (1, [])) (sp := 0) (fuel := 3000) (by decide +kernel) (lk_d S_63 ml_11_98 (lk_d S_67 ml_11_174 (lk_d S_57 ml_11_112 lk_n))) odX11_length
def ag_344 : aAg := .inr (.inl [(nat_lit 92)])
def ag_345 : aAg := .inl [((.ofNat (nat_lit 0)), (.ofNat (nat_lit 9999)), (nat_lit 1))]
def pon_346 : aPo := (some (.inl [((.ofNat (nat_lit 0)), (.ofNat (nat_lit 3)), (nat_lit 1))]), [], [], [])
set_option maxRecDepth 100000 in
theorem btX7_fallIn : bTab oX7_fallIn tX7_fallIn := ⟨ofX7_fallIn, by decide +kernel⟩
def ct_69 : aCt := (mX7_fallIn, [ag_344, ag_345], ([], [((92, 0), 2)]), [pon_346, pon_37], [], [], (nat_lit 0))
set_option maxRecDepth 100000 in
theorem S_69 : aSpec wd ct_69 := bChk_ok wx_ok btX7_fallIn (nds := []) (fk := []) (rk := (1, [])) (sp := 0) (fuel := 3000) (by decide +kernel) lk_n odX7_fallIn
def ag_347 : aAg := .inl [((.ofNat (nat_lit 1)), (.ofNat (nat_lit 1000)), (nat_lit 1))]
def ag_348 : aAg := .inl [((.ofNat (nat_lit 0)), (.ofNat (nat_lit 999)), (nat_lit 1))]
set_option maxRecDepth 100000 in
theorem btX11_noteAt : bTab oX11_noteAt tX11_noteAt := ⟨ofX11_noteAt, by decide +kernel⟩
def ct_70 : aCt := (mX11_noteAt, [ag_1, ag_347, ag_348], ([], []), [pon_346], [], [], (nat_lit 0))
set_option maxRecDepth 100000 in
theorem S_70 : aSpec wd ct_70 := bChk_ok wx_ok btX11_noteAt (nds := []) (fk := []) (rk := (1, [])) (sp := 0) (fuel := 3000) (by decide +kernel) lk_n odX11_noteAt
def lcn_349 : Nat × aAg := ((nat_lit 0), .inr (.inl [(nat_lit 92)]))
def lcn_350 : Nat × aAg := ((nat_lit 3), .inl [((.ofNat (nat_lit 1)), (.ofNat (nat_lit 4)), (nat_lit 1))])
def lcn_351 : Nat × aAg := ((nat_lit 4), .inl aTop)
def lcn_352 : Nat × aAg := ((nat_lit 5), .inl [((.ofNat (nat_lit 0)), (.ofNat (nat_lit 1000)), (nat_lit 1))])
def sl_353 : (Nat × Nat) × aI := (((nat_lit 2), (nat_lit 0)), [((.ofNat (nat_lit 1)), (.ofNat (nat_lit 4)), (nat_lit 1))])
set_option maxRecDepth 100000 in
theorem btX7_raised : bTab oX7_raised tX7_raised := ⟨ofX7_raised, by decide +kernel⟩
def ct_71 : aCt := (mX7_raised, [ag_344, ag_1, ag_137, ag_217], ([], [((92, 0), 2)]), [pon_130], [], [], (nat_lit 1))
set_option maxRecDepth 100000 in
theorem S_71 : aSpec wd ct_71 := bChk_ok wx_ok btX7_raised (nds := [((nat_lit 22), [lcn_349, lcn_271, lcn_143, lcn_350, lcn_351, lcn_352], [], [sl_353], [((92, 0), 2)], (1000, [(4, -1)]))]) (fk := []) (rk := (1001, [])) (sp := 4194304) (fuel := 3000) (by decide +kernel) (lk_d S_70 ml_7_40 lk_n) odX7_raised
def ag_354 : aAg := .inl [((.negSucc (nat_lit 2)), (.ofNat (nat_lit 4)), (nat_lit 1))]
def lcn_355 : Nat × aAg := ((nat_lit 3), .inl [((.negSucc (nat_lit 2)), (.negSucc (nat_lit 0)), (nat_lit 1)), ((.ofNat (nat_lit 1)), (.ofNat (nat_lit 4)), (nat_lit 1))])
def ct_72 : aCt := (mX7_raised, [ag_344, ag_1, ag_137, ag_354], ([], [((92, 0), 2)]), [pon_130], [], [], (nat_lit 1))
set_option maxRecDepth 100000 in
theorem S_72 : aSpec wd ct_72 := bChk_ok wx_ok btX7_raised (nds := [((nat_lit 22), [lcn_349, lcn_271, lcn_143, lcn_355, lcn_351, lcn_352], [], [sl_353], [((92, 0), 2)], (1000, [(4, -1)]))]) (fk := []) (rk := (1001, [])) (sp := 4194304) (fuel := 3000) (by decide +kernel) (lk_d S_70 ml_7_40 lk_n) odX7_raised
set_option maxRecDepth 100000 in
theorem btX7_songIn : bTab oX7_songIn tX7_songIn := ⟨ofX7_songIn, by decide +kernel⟩
def ct_73 : aCt := (mX7_songIn, [ag_344, ag_125, ag_345], ([], [((92, 0), 2)]), [pon_130], [], [], (nat_lit 2))
set_option maxRecDepth 100000 in
theorem S_73 : aSpec wd ct_73 := bChk_ok wx_ok btX7_songIn (nds := []) (fk := []) (rk := (1, [])) (sp := 0) (fuel := 3000) (by decide +kernel) (lk_d S_69 ml_7_50 (lk_d S_71 ml_7_54 (lk_d S_72 ml_7_54 lk_n))) odX7_songIn
def ct_74 : aCt := (mX11_noteAt, [ag_1, ag_137, ag_348], ([], []), [pon_346], [], [], (nat_lit 0))
set_option maxRecDepth 100000 in
theorem S_74 : aSpec wd ct_74 := bChk_ok wx_ok btX11_noteAt (nds := []) (fk := []) (rk := (1, [])) (sp := 0) (fuel := 3000) (by decide +kernel) lk_n odX11_noteAt
def pon_356 : aPo := (some (.inl aTop), [none, some [((.ofNat (nat_lit 0)), (.ofNat (nat_lit 6)), (nat_lit 1))], some [((.ofNat (nat_lit 0)), (.ofNat (nat_lit 999)), (nat_lit 1))]], [sl_301, sl_341], [])
set_option maxRecDepth 100000 in
theorem btX11_note : bTab oX11_note tX11_note := ⟨ofX11_note, by decide +kernel⟩
def ct_75 : aCt := (mX11_note, [ag_0, ag_1, ag_1], ([], [((0, 3), 2), ((92, 0), 2)]), [pon_356, pon_333], mdn_25, [], (nat_lit 3))
set_option maxRecDepth 100000 in
theorem S_75 : aSpec wd ct_75 := bChk_ok wx_ok btX11_note (nds := []) (fk := []) (rk := (1, [])) (sp := 0) (fuel := 3000) (by decide +kernel) (lk_d S_63 ml_11_98 (lk_d S_73 ml_11_183 (lk_d S_67 ml_11_174 (lk_d S_57 ml_11_112 (lk_d S_74 ml_11_187 lk_n))))) odX11_note
def ag_357 : aAg := .inr (.inl [(nat_lit 2)])
def pon_358 : aPo := (some (.inl [((.negSucc (nat_lit 999)), (.ofNat (nat_lit 1000)), (nat_lit 1))]), [], [], [])
set_option maxRecDepth 100000 in
theorem btX4_boxLength : bTab oX4_boxLength tX4_boxLength := ⟨ofX4_boxLength, by decide +kernel⟩
def ct_76 : aCt := (mX4_boxLength, [ag_357, ag_190], ([], []), [pon_358], [], [], (nat_lit 0))
set_option maxRecDepth 100000 in
theorem S_76 : aSpec wd ct_76 := bChk_ok wx_ok btX4_boxLength (nds := []) (fk := []) (rk := (1, [])) (sp := 0) (fuel := 3000) (by decide +kernel) lk_n odX4_boxLength
def pon_359 : aPo := (some (.inl [((.ofNat (nat_lit 1)), (.ofNat (nat_lit 1)), (nat_lit 1))]), [none, some [((.ofNat (nat_lit 0)), (.ofNat (nat_lit 7)), (nat_lit 1))], some [((.ofNat (nat_lit 0)), (.ofNat (nat_lit 999)), (nat_lit 1))]], [sl_338], [])
set_option maxRecDepth 100000 in
theorem btX11_isNoteOfBox : bTab oX11_isNoteOfBox tX11_isNoteOfBox := ⟨ofX11_isNoteOfBox, by decide +kernel⟩
def ct_77 : aCt := (mX11_isNoteOfBox, [ag_0, ag_1, ag_1], ([], [((0, 3), 2)]), [pon_37, pon_359], [], [], (nat_lit 1))
set_option maxRecDepth 100000 in
theorem S_77 : aSpec wd ct_77 := bChk_ok wx_ok btX11_isNoteOfBox (nds := []) (fk := []) (rk := (1, [])) (sp := 0) (fuel := 3000) (by decide +kernel) (lk_d S_76 ml_11_198 (lk_d S_65 ml_11_147 lk_n)) odX11_isNoteOfBox
def pon_360 : aPo := (some (.inl aTop), [none, some [((.ofNat (nat_lit 0)), (.ofNat (nat_lit 7)), (nat_lit 1))], some [((.ofNat (nat_lit 0)), (.ofNat (nat_lit 999)), (nat_lit 1))]], [sl_301, sl_338], [])
set_option maxRecDepth 100000 in
theorem btX11_sung : bTab oX11_sung tX11_sung := ⟨ofX11_sung, by decide +kernel⟩
def ct_78 : aCt := (mX11_sung, [ag_0, ag_1, ag_1], ([], [((0, 3), 2)]), [pon_360, pon_333], mdn_25, [], (nat_lit 2))
set_option maxRecDepth 100000 in
theorem S_78 : aSpec wd ct_78 := bChk_ok wx_ok btX11_sung (nds := []) (fk := []) (rk := (1, [])) (sp := 0) (fuel := 3000) (by decide +kernel) (lk_d S_63 ml_11_98 (lk_d S_76 ml_11_198 (lk_d S_57 ml_11_112 (lk_d S_74 ml_11_187 (lk_d S_77 ml_11_191 lk_n))))) odX11_sung
def ct_79 : aCt := (mX7_raised, [ag_344, ag_1, ag_137, ag_170], ([], [((92, 0), 2)]), [pon_130], [], [], (nat_lit 0))
set_option maxRecDepth 100000 in
theorem S_79 : aSpec wd ct_79 := bChk_ok wx_ok btX7_raised (nds := []) (fk := []) (rk := (1, [])) (sp := 0) (fuel := 3000) (by decide +kernel) lk_n odX7_raised
def ag_361 : aAg := .inl [((.ofNat (nat_lit 0)), (.ofNat (nat_lit 3)), (nat_lit 1))]
def lcn_362 : Nat × aAg := ((nat_lit 3), .inl [((.ofNat (nat_lit 1)), (.ofNat (nat_lit 3)), (nat_lit 1))])
def ct_80 : aCt := (mX7_raised, [ag_344, ag_1, ag_137, ag_361], ([], [((92, 0), 2)]), [pon_130], [], [], (nat_lit 1))
set_option maxRecDepth 100000 in
theorem S_80 : aSpec wd ct_80 := bChk_ok wx_ok btX7_raised (nds := [((nat_lit 22), [lcn_349, lcn_271, lcn_143, lcn_362, lcn_351, lcn_352], [], [sl_353], [((92, 0), 2)], (1000, [(4, -1)]))]) (fk := []) (rk := (1001, [])) (sp := 4194304) (fuel := 3000) (by decide +kernel) (lk_d S_70 ml_7_40 lk_n) odX7_raised
def ag_363 : aAg := .inl [((.ofNat (nat_lit 0)), (.ofNat (nat_lit 1365)), (nat_lit 1))]
def pon_364 : aPo := (some (.inl [((.ofNat (nat_lit 0)), (.ofNat (nat_lit 63)), (nat_lit 1))]), [], [], [])
set_option maxRecDepth 100000 in
theorem btJ6_bitCount_0f7a4 : bTab oJ6_bitCount_0f7a4 tJ6_bitCount_0f7a4 := ⟨ofJ6_bitCount_0f7a4, by decide +kernel⟩
def ct_81 : aCt := (mJ6_bitCount_0f7a4, [ag_363], ([], []), [pon_364], [], [], (nat_lit 0))
set_option maxRecDepth 100000 in
theorem S_81 : aSpec wd ct_81 := bChk_ok wx_ok btJ6_bitCount_0f7a4 (nds := []) (fk := []) (rk := (1, [])) (sp := 0) (fuel := 3000) (by decide +kernel) lk_n odJ6_bitCount_0f7a4
set_option maxRecDepth 100000 in
theorem btX11_unlikeNotes : bTab oX11_unlikeNotes tX11_unlikeNotes := ⟨ofX11_unlikeNotes, by decide +kernel⟩
def ct_82 : aCt := (mX11_unlikeNotes, [ag_1, ag_1], ([], []), [pon_364], [], [], (nat_lit 1))
set_option maxRecDepth 100000 in
theorem S_82 : aSpec wd ct_82 := bChk_ok wx_ok btX11_unlikeNotes (nds := []) (fk := []) (rk := (1, [])) (sp := 0) (fuel := 3000) (by decide +kernel) (lk_d S_81 ml_11_411 lk_n) odX11_unlikeNotes
def pon_365 : aPo := (some (.inl [((.negSucc (nat_lit 1)), (.negSucc (nat_lit 1)), (nat_lit 1)), ((.ofNat (nat_lit 0)), (.ofNat (nat_lit 6)), (nat_lit 1))]), [], [], [])
def mdn_366 : List (Nat × Nat × Nat) := [((nat_lit 92), (nat_lit 2), (nat_lit 4))]
def lcn_367 : Nat × aAg := ((nat_lit 3), .inl [((.ofNat (nat_lit 0)), (.ofNat (nat_lit 9999)), (nat_lit 1))])
def lcn_368 : Nat × aAg := ((nat_lit 5), .inl [((.negSucc (nat_lit 1)), (.negSucc (nat_lit 1)), (nat_lit 1)), ((.ofNat (nat_lit 0)), (.ofNat (nat_lit 6)), (nat_lit 1))])
def lcn_369 : Nat × aAg := ((nat_lit 6), .inl [((.ofNat (nat_lit 0)), (.ofNat (nat_lit 7)), (nat_lit 1))])
def sl_370 : (Nat × Nat) × aI := (((nat_lit 92), (nat_lit 2)), [((.negSucc (nat_lit 998)), (.ofNat (nat_lit 1001)), (nat_lit 1))])
set_option maxRecDepth 100000 in
theorem btX7_hearerOf : bTab oX7_hearerOf tX7_hearerOf := ⟨ofX7_hearerOf, by decide +kernel⟩
def ct_83 : aCt := (mX7_hearerOf, [ag_344, ag_1, ag_137, ag_345], ([], [((92, 0), 2)]), [pon_365, pon_52], mdn_366, [], (nat_lit 2))
set_option maxRecDepth 100000 in
theorem S_83 : aSpec wd ct_83 := bChk_ok wx_ok btX7_hearerOf (nds := [((nat_lit 32), [lcn_349, lcn_271, lcn_143, lcn_367, lcn_351, lcn_368, lcn_369], [], [sl_370], [((92, 0), 2)], (7, [(5, -1)]))]) (fk := []) (rk := (8, [])) (sp := 4294967296) (fuel := 3000) (by decide +kernel) (lk_d S_69 ml_7_50 (lk_d S_79 ml_7_54 (lk_d S_80 ml_7_54 (lk_d S_82 ml_7_60 lk_n)))) odX7_hearerOf
set_option maxRecDepth 100000 in
theorem btX11_hearerIn : bTab oX11_hearerIn tX11_hearerIn := ⟨ofX11_hearerIn, by decide +kernel⟩
def ct_84 : aCt := (mX11_hearerIn, [ag_0, ag_190, ag_345], ([], [((0, 3), 2), ((92, 0), 2)]), [pon_365, pon_52], mdn_366, [], (nat_lit 3))
set_option maxRecDepth 100000 in
theorem S_84 : aSpec wd ct_84 := bChk_ok wx_ok btX11_hearerIn (nds := []) (fk := []) (rk := (1, [])) (sp := 0) (fuel := 3000) (by decide +kernel) (lk_d S_76 ml_11_198 (lk_d S_83 ml_11_277 lk_n)) odX11_hearerIn
def pon_371 : aPo := (some (.inl aTop), [none, some [((.ofNat (nat_lit 0)), (.ofNat (nat_lit 7)), (nat_lit 1))]], [sl_301, sl_338], [])
def mdn_372 : List (Nat × Nat × Nat) := [((nat_lit 0), (nat_lit 2), (nat_lit 3)), ((nat_lit 92), (nat_lit 2), (nat_lit 4))]
set_option maxRecDepth 100000 in
theorem btX11_heard : bTab oX11_heard tX11_heard := ⟨ofX11_heard, by decide +kernel⟩
def ct_85 : aCt := (mX11_heard, [ag_0, ag_1], ([], [((0, 3), 2), ((92, 0), 2)]), [pon_371, pon_333], mdn_372, [], (nat_lit 4))
set_option maxRecDepth 100000 in
theorem S_85 : aSpec wd ct_85 := bChk_ok wx_ok btX11_heard (nds := []) (fk := []) (rk := (1, [])) (sp := 0) (fuel := 3000) (by decide +kernel) (lk_d S_63 ml_11_98 (lk_d S_84 ml_11_201 (lk_d S_65 ml_11_147 (lk_d S_57 ml_11_112 lk_n)))) odX11_heard
def pon_373 : aPo := (some (.inl [((.ofNat (nat_lit 0)), (.ofNat (nat_lit 0)), (nat_lit 1))]), [none, some [((.negSucc (nat_lit 2147483647)), (.negSucc (nat_lit 0)), (nat_lit 1)), ((.ofNat (nat_lit 1)), (.ofNat (nat_lit 2147483647)), (nat_lit 1))]], [], [])
def pon_374 : aPo := (some (.inl [((.ofNat (nat_lit 1)), (.ofNat (nat_lit 1)), (nat_lit 1))]), [none, some [((.ofNat (nat_lit 0)), (.ofNat (nat_lit 6)), (nat_lit 1))]], [], [])
def ct_86 : aCt := (mX11_isIsland, [ag_0, ag_1], ([sl_341], [((0, 3), 2)]), [pon_373, pon_374], [], [], (nat_lit 0))
set_option maxRecDepth 100000 in
theorem S_86 : aSpec wd ct_86 := bChk_ok wx_ok btX11_isIsland (nds := []) (fk := []) (rk := (1, [])) (sp := 0) (fuel := 3000) (by decide +kernel) lk_n odX11_isIsland
def pon_375 : aPo := (some (.inl [((.ofNat (nat_lit 1)), (.ofNat (nat_lit 1)), (nat_lit 1))]), [none, some [((.ofNat (nat_lit 0)), (.ofNat (nat_lit 6)), (nat_lit 1))], some [((.ofNat (nat_lit 0)), (.ofNat (nat_lit 6)), (nat_lit 1))]], [sl_341], [])
set_option maxRecDepth 100000 in
theorem btX11_areTwoIslands : bTab oX11_areTwoIslands tX11_areTwoIslands := ⟨ofX11_areTwoIslands, by decide +kernel⟩
def ct_87 : aCt := (mX11_areTwoIslands, [ag_0, ag_1, ag_1], ([], [((0, 3), 2)]), [pon_37, pon_375], [], [], (nat_lit 1))
set_option maxRecDepth 100000 in
theorem S_87 : aSpec wd ct_87 := bChk_ok wx_ok btX11_areTwoIslands (nds := []) (fk := []) (rk := (1, [])) (sp := 0) (fuel := 3000) (by decide +kernel) (lk_d S_86 ml_11_174 (lk_d S_67 ml_11_174 lk_n)) odX11_areTwoIslands
def sl_376 : (Nat × Nat) × aI := (((nat_lit 2), (nat_lit 5)), [((.ofNat (nat_lit 1)), (.ofNat (nat_lit 12)), (nat_lit 1))])
def pon_377 : aPo := (some (.inl [((.ofNat (nat_lit 0)), (.ofNat (nat_lit 11)), (nat_lit 1))]), [], [sl_376], [])
def lcn_378 : Nat × aAg := ((nat_lit 0), .inr (.inl [(nat_lit 2)]))
def lcn_379 : Nat × aAg := ((nat_lit 3), .inl [((.ofNat (nat_lit 0)), (.ofNat (nat_lit 12)), (nat_lit 1))])
def ct_88 : aCt := (mX4_wayBetween, [ag_357, ag_125, ag_125], ([], []), [pon_377, pon_52], [], [], (nat_lit 0))
set_option maxRecDepth 100000 in
theorem S_88 : aSpec wd ct_88 := bChk_ok wx_ok btX4_wayBetween (nds := [((nat_lit 2), [lcn_378, lcn_249, lcn_250, lcn_379], [], [], [], (12, [(2, -1)]))]) (fk := []) (rk := (13, [])) (sp := 4) (fuel := 3000) (by decide +kernel) lk_n odX4_wayBetween
def ag_380 : aAg := .inl [((.ofNat (nat_lit 0)), (.ofNat (nat_lit 11)), (nat_lit 1))]
set_option maxRecDepth 100000 in
theorem btX2_isClosed : bTab oX2_isClosed tX2_isClosed := ⟨ofX2_isClosed, by decide +kernel⟩
def ct_89 : aCt := (mX2_isClosed, [ag_289, ag_380], ([], []), [pon_37, pon_38], [], [], (nat_lit 0))
set_option maxRecDepth 100000 in
theorem S_89 : aSpec wd ct_89 := bChk_ok wx_ok btX2_isClosed (nds := []) (fk := []) (rk := (1, [])) (sp := 0) (fuel := 3000) (by decide +kernel) lk_n odX2_isClosed
def pon_381 : aPo := (some (.inl aTop), [none, some [((.ofNat (nat_lit 0)), (.ofNat (nat_lit 6)), (nat_lit 1))], some [((.ofNat (nat_lit 0)), (.ofNat (nat_lit 6)), (nat_lit 1))]], [sl_301, sl_341], [])
set_option maxRecDepth 100000 in
theorem btX11_way : bTab oX11_way tX11_way := ⟨ofX11_way, by decide +kernel⟩
def ct_90 : aCt := (mX11_way, [ag_0, ag_1, ag_1], ([], [((0, 3), 2)]), [pon_381, pon_333], mdn_25, [], (nat_lit 2))
set_option maxRecDepth 100000 in
theorem S_90 : aSpec wd ct_90 := bChk_ok wx_ok btX11_way (nds := []) (fk := []) (rk := (1, [])) (sp := 0) (fuel := 3000) (by decide +kernel) (lk_d S_63 ml_11_98 (lk_d S_89 ml_11_210 (lk_d S_88 ml_11_207 (lk_d S_57 ml_11_112 (lk_d S_87 ml_11_204 lk_n))))) odX11_way
def sl_382 : (Nat × Nat) × aI := (((nat_lit 2), (nat_lit 4)), [((.ofNat (nat_lit 0)), (.ofNat (nat_lit 0)), (nat_lit 1))])
def pon_383 : aPo := (some (.inl [((.ofNat (nat_lit 0)), (.ofNat (nat_lit 0)), (nat_lit 1))]), [], [sl_382], [])
def pon_384 : aPo := (some (.inl [((.ofNat (nat_lit 1)), (.ofNat (nat_lit 1)), (nat_lit 1))]), [], [sl_341], [])
set_option maxRecDepth 100000 in
theorem btX11_hasPost : bTab oX11_hasPost tX11_hasPost := ⟨ofX11_hasPost, by decide +kernel⟩
def ct_91 : aCt := (mX11_hasPost, [ag_0], ([], [((0, 3), 2)]), [pon_383, pon_384], [], [], (nat_lit 0))
set_option maxRecDepth 100000 in
theorem S_91 : aSpec wd ct_91 := bChk_ok wx_ok btX11_hasPost (nds := []) (fk := []) (rk := (1, [])) (sp := 0) (fuel := 3000) (by decide +kernel) lk_n odX11_hasPost
def ag_385 : aAg := .inl [((.ofNat (nat_lit 99999)), (.ofNat (nat_lit 99999)), (nat_lit 1))]
def pon_386 : aPo := (some (.inl [((.ofNat (nat_lit 0)), (.ofNat (nat_lit 0)), (nat_lit 1))]), [some [((.negSucc (nat_lit 2147483647)), (.negSucc (nat_lit 0)), (nat_lit 1)), ((.ofNat (nat_lit 100000)), (.ofNat (nat_lit 2147483647)), (nat_lit 1))], none], [], [])
def pon_387 : aPo := (some (.inl [((.ofNat (nat_lit 1)), (.ofNat (nat_lit 1)), (nat_lit 1))]), [some [((.ofNat (nat_lit 0)), (.ofNat (nat_lit 99999)), (nat_lit 1))], none], [], [])
set_option maxRecDepth 100000 in
theorem btX11_isWithin : bTab oX11_isWithin tX11_isWithin := ⟨ofX11_isWithin, by decide +kernel⟩
def ct_92 : aCt := (mX11_isWithin, [ag_1, ag_385], ([], []), [pon_386, pon_387], [], [], (nat_lit 0))
set_option maxRecDepth 100000 in
theorem S_92 : aSpec wd ct_92 := bChk_ok wx_ok btX11_isWithin (nds := []) (fk := []) (rk := (1, [])) (sp := 0) (fuel := 3000) (by decide +kernel) lk_n odX11_isWithin
def pon_388 : aPo := (some (.inl aTop), [none, some [((.ofNat (nat_lit 0)), (.ofNat (nat_lit 99999)), (nat_lit 1))]], [sl_301, sl_341], [])
def sl_389 : (Nat × Nat) × aI := (((nat_lit 0), (nat_lit 2)), [((.ofNat (nat_lit 1)), (.ofNat (nat_lit 2)), (nat_lit 1))])
def pon_390 : aPo := (some (.inl [((.negSucc (nat_lit 0)), (.negSucc (nat_lit 0)), (nat_lit 1))]), [], [sl_389], [])
set_option maxRecDepth 100000 in
theorem btX11_season : bTab oX11_season tX11_season := ⟨ofX11_season, by decide +kernel⟩
def ct_93 : aCt := (mX11_season, [ag_0, ag_1], ([], [((0, 3), 2)]), [pon_388, pon_390], mdn_25, [], (nat_lit 1))
set_option maxRecDepth 100000 in
theorem S_93 : aSpec wd ct_93 := bChk_ok wx_ok btX11_season (nds := []) (fk := []) (rk := (1, [])) (sp := 0) (fuel := 3000) (by decide +kernel) (lk_d S_91 ml_11_222 (lk_d S_6 ml_11_98 (lk_d S_63 ml_11_98 (lk_d S_92 ml_11_227 (lk_d S_57 ml_11_112 lk_n))))) odX11_season
def pon_391 : aPo := (some (.inl [((.ofNat (nat_lit 1)), (.ofNat (nat_lit 1)), (nat_lit 1))]), [none, some [((.ofNat (nat_lit 0)), (.ofNat (nat_lit 11)), (nat_lit 1))]], [sl_376], [])
set_option maxRecDepth 100000 in
theorem btX11_isWay : bTab oX11_isWay tX11_isWay := ⟨ofX11_isWay, by decide +kernel⟩
def ct_94 : aCt := (mX11_isWay, [ag_0, ag_1], ([], [((0, 3), 2)]), [pon_337, pon_391], [], [], (nat_lit 0))
set_option maxRecDepth 100000 in
theorem S_94 : aSpec wd ct_94 := bChk_ok wx_ok btX11_isWay (nds := []) (fk := []) (rk := (1, [])) (sp := 0) (fuel := 3000) (by decide +kernel) lk_n odX11_isWay
def pon_392 : aPo := (some (.inl [((.ofNat (nat_lit 0)), (.ofNat (nat_lit 0)), (nat_lit 1))]), [some [((.negSucc (nat_lit 2147483647)), (.negSucc (nat_lit 0)), (nat_lit 1)), ((.ofNat (nat_lit 10000)), (.ofNat (nat_lit 2147483647)), (nat_lit 1))], none], [], [])
def pon_393 : aPo := (some (.inl [((.ofNat (nat_lit 1)), (.ofNat (nat_lit 1)), (nat_lit 1))]), [some [((.ofNat (nat_lit 0)), (.ofNat (nat_lit 9999)), (nat_lit 1))], none], [], [])
def ct_95 : aCt := (mX11_isWithin, [ag_1, ag_204], ([], []), [pon_392, pon_393], [], [], (nat_lit 0))
set_option maxRecDepth 100000 in
theorem S_95 : aSpec wd ct_95 := bChk_ok wx_ok btX11_isWithin (nds := []) (fk := []) (rk := (1, [])) (sp := 0) (fuel := 3000) (by decide +kernel) lk_n odX11_isWithin
def ag_394 : aAg := .inr (.inl [(nat_lit 94)])
def pon_395 : aPo := (some (.inl [((.ofNat (nat_lit 0)), (.ofNat (nat_lit 9999)), (nat_lit 1)), ((.ofNat (nat_lit 90)), (.ofNat (nat_lit 10260)), (nat_lit 90))]), [], [], [])
def lcn_396 : Nat × aAg := ((nat_lit 0), .inr (.inl [(nat_lit 94)]))
def lcn_397 : Nat × aAg := ((nat_lit 1), .inl [((.ofNat (nat_lit 0)), (.ofNat (nat_lit 2)), (nat_lit 1))])
def lcn_398 : Nat × aAg := ((nat_lit 4), .inl [((.ofNat (nat_lit 0)), (.ofNat (nat_lit 111)), (nat_lit 1))])
def lcn_399 : Nat × aAg := ((nat_lit 5), .inl [((.ofNat (nat_lit 0)), (.ofNat (nat_lit 4)), (nat_lit 1))])
set_option maxRecDepth 100000 in
theorem btX6_dayOfLeaving : bTab oX6_dayOfLeaving tX6_dayOfLeaving := ⟨ofX6_dayOfLeaving, by decide +kernel⟩
def ct_96 : aCt := (mX6_dayOfLeaving, [ag_394, ag_361, ag_1, ag_345], ([], []), [pon_395], [], [], (nat_lit 0))
set_option maxRecDepth 100000 in
theorem S_96 : aSpec wd ct_96 := bChk_ok wx_ok btX6_dayOfLeaving (nds := [((nat_lit 16), [lcn_396, lcn_397, lcn_132, lcn_367, lcn_398, lcn_399], [], [], [], (4, [(4, -1)]))]) (fk := []) (rk := (5, [])) (sp := 65536) (fuel := 3000) (by decide +kernel) lk_n odX6_dayOfLeaving
def pon_400 : aPo := (some (.inl aTop), [none, some [((.ofNat (nat_lit 0)), (.ofNat (nat_lit 4)), (nat_lit 1))], some [((.ofNat (nat_lit 0)), (.ofNat (nat_lit 11)), (nat_lit 1))], some [((.ofNat (nat_lit 0)), (.ofNat (nat_lit 9999)), (nat_lit 1))]], [sl_301, sl_376, sl_334], [])
def pon_401 : aPo := (some (.inl [((.negSucc (nat_lit 0)), (.negSucc (nat_lit 0)), (nat_lit 1))]), [none, some aTop, none, none], [sl_389], [])
set_option maxRecDepth 100000 in
theorem btX11_sets : bTab oX11_sets tX11_sets := ⟨ofX11_sets, by decide +kernel⟩
def ct_97 : aCt := (mX11_sets, [ag_0, ag_1, ag_1, ag_1], ([], [((0, 3), 2)]), [pon_400, pon_401], mdn_25, [], (nat_lit 1))
set_option maxRecDepth 100000 in
theorem S_97 : aSpec wd ct_97 := bChk_ok wx_ok btX11_sets (nds := []) (fk := []) (rk := (1, [])) (sp := 0) (fuel := 3000) (by decide +kernel) (lk_d S_6 ml_11_98 (lk_d S_63 ml_11_98 (lk_d S_89 ml_11_210 (lk_d S_62 ml_11_121 (lk_d S_94 ml_11_230 (lk_d S_95 ml_11_227 (lk_d S_57 ml_11_112 (lk_d S_96 ml_11_236 lk_n)))))))) odX11_sets
set_option maxRecDepth 100000 in
theorem btX2_isSent : bTab oX2_isSent tX2_isSent := ⟨ofX2_isSent, by decide +kernel⟩
def ct_98 : aCt := (mX2_isSent, [ag_289, ag_190], ([], []), [pon_37, pon_38], [], [], (nat_lit 0))
set_option maxRecDepth 100000 in
theorem S_98 : aSpec wd ct_98 := bChk_ok wx_ok btX2_isSent (nds := []) (fk := []) (rk := (1, [])) (sp := 0) (fuel := 3000) (by decide +kernel) lk_n odX2_isSent
def ag_402 : aAg := .inl [((.ofNat (nat_lit 0)), (.ofNat (nat_lit 2)), (nat_lit 1))]
def pon_403 : aPo := (some (.inl aTop), [none, none, some [((.ofNat (nat_lit 2)), (.ofNat (nat_lit 2)), (nat_lit 1))]], [], [])
def pon_404 : aPo := (some (.inl [((.ofNat (nat_lit 0)), (.ofNat (nat_lit 0)), (nat_lit 1))]), [none, none, some [((.ofNat (nat_lit 1)), (.ofNat (nat_lit 1)), (nat_lit 1))]], [], [])
def pon_405 : aPo := (some (.inl [((.ofNat (nat_lit 1)), (.ofNat (nat_lit 1)), (nat_lit 1))]), [none, none, some [((.ofNat (nat_lit 0)), (.ofNat (nat_lit 1)), (nat_lit 1))]], [], [])
set_option maxRecDepth 100000 in
theorem btX11_sentPart : bTab oX11_sentPart tX11_sentPart := ⟨ofX11_sentPart, by decide +kernel⟩
def ct_99 : aCt := (mX11_sentPart, [ag_0, ag_190, ag_402], ([], [((0, 3), 2)]), [pon_403, pon_404, pon_405], [], [], (nat_lit 0))
set_option maxRecDepth 100000 in
theorem S_99 : aSpec wd ct_99 := bChk_ok wx_ok btX11_sentPart (nds := []) (fk := []) (rk := (1, [])) (sp := 0) (fuel := 3000) (by decide +kernel) lk_n odX11_sentPart
def pon_406 : aPo := (some (.inl aTop), [], [sl_301, sl_341], [])
def lcn_407 : Nat × aAg := ((nat_lit 0), .inr (.inl [(nat_lit 0)]))
def lcn_408 : Nat × aAg := ((nat_lit 3), .inl [((.ofNat (nat_lit 0)), (.ofNat (nat_lit 8)), (nat_lit 1))])
set_option maxRecDepth 100000 in
theorem btX11_sent : bTab oX11_sent tX11_sent := ⟨ofX11_sent, by decide +kernel⟩
def ct_100 : aCt := (mX11_sent, [ag_0, ag_1], ([], [((0, 3), 2)]), [pon_406, pon_333], mdn_25, [], (nat_lit 1))
set_option maxRecDepth 100000 in
theorem S_100 : aSpec wd ct_100 := bChk_ok wx_ok btX11_sent (nds := [((nat_lit 26), [lcn_407, lcn_397, lcn_132, lcn_408], [], [sl_341], [((0, 3), 2)], (8, [(2, -1)]))]) (fk := []) (rk := (9, [])) (sp := 67108864) (fuel := 3000) (by decide +kernel) (lk_d S_91 ml_11_222 (lk_d S_63 ml_11_98 (lk_d S_98 ml_11_242 (lk_d S_99 ml_11_245 (lk_d S_57 ml_11_112 lk_n))))) odX11_sent
set_option maxRecDepth 100000 in
theorem btX7_apartness : bTab oX7_apartness tX7_apartness := ⟨ofX7_apartness, by decide +kernel⟩
def ct_101 : aCt := (mX7_apartness, [ag_344, ag_125, ag_125], ([], [((92, 0), 2)]), [pon_364, pon_52], [], [], (nat_lit 2))
set_option maxRecDepth 100000 in
theorem S_101 : aSpec wd ct_101 := bChk_ok wx_ok btX7_apartness (nds := []) (fk := []) (rk := (1, [])) (sp := 0) (fuel := 3000) (by decide +kernel) (lk_d S_82 ml_7_60 lk_n) odX7_apartness
set_option maxRecDepth 100000 in
theorem btX11_apart : bTab oX11_apart tX11_apart := ⟨ofX11_apart, by decide +kernel⟩
def ct_102 : aCt := (mX11_apart, [ag_0, ag_1, ag_1], ([], [((0, 3), 2), ((92, 0), 2)]), [pon_381, pon_333], mdn_25, [], (nat_lit 3))
set_option maxRecDepth 100000 in
theorem S_102 : aSpec wd ct_102 := bChk_ok wx_ok btX11_apart (nds := []) (fk := []) (rk := (1, [])) (sp := 0) (fuel := 3000) (by decide +kernel) (lk_d S_63 ml_11_98 (lk_d S_101 ml_11_248 (lk_d S_86 ml_11_174 (lk_d S_67 ml_11_174 (lk_d S_57 ml_11_112 lk_n))))) odX11_apart
def ag_409 : aAg := .inl [((.ofNat (nat_lit 1)), (.ofNat (nat_lit 6)), (nat_lit 1))]
def ag_410 : aAg := .inl [((.ofNat (nat_lit 0)), (.ofNat (nat_lit 5)), (nat_lit 1))]
def ct_103 : aCt := (mX7_apartness, [ag_344, ag_409, ag_410], ([], [((92, 0), 2)]), [pon_364, pon_52], [], [], (nat_lit 2))
set_option maxRecDepth 100000 in
theorem S_103 : aSpec wd ct_103 := bChk_ok wx_ok btX7_apartness (nds := []) (fk := []) (rk := (1, [])) (sp := 0) (fuel := 3000) (by decide +kernel) (lk_d S_82 ml_7_60 lk_n) odX7_apartness
def lcn_411 : Nat × aAg := ((nat_lit 2), .inl [((.ofNat (nat_lit 0)), (.ofNat (nat_lit 7)), (nat_lit 1))])
set_option maxRecDepth 100000 in
theorem btX7_bearable : bTab oX7_bearable tX7_bearable := ⟨ofX7_bearable, by decide +kernel⟩
def ct_104 : aCt := (mX7_bearable, [ag_344], ([sl_341], [((92, 0), 2)]), [pon_130], [], [], (nat_lit 3))
set_option maxRecDepth 100000 in
theorem S_104 : aSpec wd ct_104 := bChk_ok wx_ok btX7_bearable (nds := [((nat_lit 5), [lcn_349, lcn_271, lcn_411], [], [sl_341], [((92, 0), 2)], (63, [(1, -8)])), ((nat_lit 18), [lcn_349, lcn_271, lcn_250, lcn_144], [], [sl_341], [((92, 0), 2)], (62, [(1, -8), (2, -1)]))]) (fk := []) (rk := (64, [])) (sp := 262176) (fuel := 3000) (by decide +kernel) (lk_d S_103 ml_7_67 lk_n) odX7_bearable
def pon_412 : aPo := (some (.inl [((.negSucc (nat_lit 0)), (.negSucc (nat_lit 0)), (nat_lit 1))]), [], [sl_332, sl_382], [])
set_option maxRecDepth 100000 in
theorem btX11_bear : bTab oX11_bear tX11_bear := ⟨ofX11_bear, by decide +kernel⟩
def ct_105 : aCt := (mX11_bear, [ag_0], ([], [((0, 3), 2), ((92, 0), 2)]), [pon_406, pon_412], mdn_25, [], (nat_lit 4))
set_option maxRecDepth 100000 in
theorem S_105 : aSpec wd ct_105 := bChk_ok wx_ok btX11_bear (nds := []) (fk := []) (rk := (1, [])) (sp := 0) (fuel := 3000) (by decide +kernel) (lk_d S_104 ml_11_251 (lk_d S_91 ml_11_222 (lk_d S_63 ml_11_98 (lk_d S_57 ml_11_112 lk_n)))) odX11_bear
set_option maxRecDepth 100000 in
theorem btX7_mixedPairs : bTab oX7_mixedPairs tX7_mixedPairs := ⟨ofX7_mixedPairs, by decide +kernel⟩
def ct_106 : aCt := (mX7_mixedPairs, [ag_344], ([sl_341], [((92, 0), 2)]), [pon_130], [], [], (nat_lit 3))
set_option maxRecDepth 100000 in
theorem S_106 : aSpec wd ct_106 := bChk_ok wx_ok btX7_mixedPairs (nds := [((nat_lit 4), [lcn_349, lcn_271, lcn_411], [], [sl_341], [((92, 0), 2)], (63, [(1, -8)])), ((nat_lit 17), [lcn_349, lcn_271, lcn_250, lcn_144], [], [sl_341], [((92, 0), 2)], (62, [(1, -8), (2, -1)]))]) (fk := []) (rk := (64, [])) (sp := 131088) (fuel := 3000) (by decide +kernel) (lk_d S_103 ml_7_67 lk_n) odX7_mixedPairs
set_option maxRecDepth 100000 in
theorem btX11_mixed : bTab oX11_mixed tX11_mixed := ⟨ofX11_mixed, by decide +kernel⟩
def ct_107 : aCt := (mX11_mixed, [ag_0], ([], [((0, 3), 2), ((92, 0), 2)]), [pon_406, pon_412], mdn_25, [], (nat_lit 4))
set_option maxRecDepth 100000 in
theorem S_107 : aSpec wd ct_107 := bChk_ok wx_ok btX11_mixed (nds := []) (fk := []) (rk := (1, [])) (sp := 0) (fuel := 3000) (by decide +kernel) (lk_d S_106 ml_11_255 (lk_d S_91 ml_11_222 (lk_d S_63 ml_11_98 (lk_d S_57 ml_11_112 lk_n)))) odX11_mixed
def pon_413 : aPo := (some (.inl [((.ofNat (nat_lit 2)), (.ofNat (nat_lit 2)), (nat_lit 1))]), [none, some aTop, none], [sl_341], [])
def pon_414 : aPo := (some (.inl [((.ofNat (nat_lit 0)), (.ofNat (nat_lit 0)), (nat_lit 1))]), [none, some [((.ofNat (nat_lit 2)), (.ofNat (nat_lit 5)), (nat_lit 1))], some [((.ofNat (nat_lit 1)), (.ofNat (nat_lit 5)), (nat_lit 1))]], [sl_341], [])
def pon_415 : aPo := (some (.inl [((.ofNat (nat_lit 1)), (.ofNat (nat_lit 1)), (nat_lit 1))]), [], [sl_382], [])
set_option maxRecDepth 100000 in
theorem btX11_refusalOfNewSong : bTab oX11_refusalOfNewSong tX11_refusalOfNewSong := ⟨ofX11_refusalOfNewSong, by decide +kernel⟩
def ct_108 : aCt := (mX11_refusalOfNewSong, [ag_0, ag_1, ag_1], ([], [((0, 3), 2)]), [pon_413, pon_414, pon_415], [], [], (nat_lit 1))
set_option maxRecDepth 100000 in
theorem S_108 : aSpec wd ct_108 := bChk_ok wx_ok btX11_refusalOfNewSong (nds := []) (fk := []) (rk := (1, [])) (sp := 0) (fuel := 3000) (by decide +kernel) (lk_d S_91 ml_11_222 lk_n) odX11_refusalOfNewSong
def ct_109 : aCt := (mX7_songIn, [ag_344, ag_170, ag_345], ([], [((92, 0), 2)]), [pon_130], [], [], (nat_lit 2))
set_option maxRecDepth 100000 in
theorem S_109 : aSpec wd ct_109 := bChk_ok wx_ok btX7_songIn (nds := []) (fk := []) (rk := (1, [])) (sp := 0) (fuel := 3000) (by decide +kernel) (lk_d S_69 ml_7_50 (lk_d S_71 ml_7_54 (lk_d S_72 ml_7_54 lk_n))) odX7_songIn
def ct_110 : aCt := (mX7_songIn, [ag_344, ag_53, ag_345], ([], [((92, 0), 2)]), [pon_130], [], [], (nat_lit 2))
set_option maxRecDepth 100000 in
theorem S_110 : aSpec wd ct_110 := bChk_ok wx_ok btX7_songIn (nds := []) (fk := []) (rk := (1, [])) (sp := 0) (fuel := 3000) (by decide +kernel) (lk_d S_69 ml_7_50 (lk_d S_71 ml_7_54 (lk_d S_72 ml_7_54 lk_n))) odX7_songIn
def ct_111 : aCt := (mX7_songIn, [ag_344, ag_22, ag_345], ([], [((92, 0), 2)]), [pon_130], [], [], (nat_lit 2))
set_option maxRecDepth 100000 in
theorem S_111 : aSpec wd ct_111 := bChk_ok wx_ok btX7_songIn (nds := []) (fk := []) (rk := (1, [])) (sp := 0) (fuel := 3000) (by decide +kernel) (lk_d S_69 ml_7_50 (lk_d S_71 ml_7_54 (lk_d S_72 ml_7_54 lk_n))) odX7_songIn
end Pk1
section Pk2
def ct_112 : aCt := (mX7_songIn, [ag_344, ag_122, ag_345], ([], [((92, 0), 2)]), [pon_130], [], [], (nat_lit 2))
set_option maxRecDepth 100000 in
theorem S_112 : aSpec wd ct_112 := bChk_ok wx_ok btX7_songIn (nds := []) (fk := []) (rk := (1, [])) (sp := 0) (fuel := 3000) (by decide +kernel) (lk_d S_69 ml_7_50 (lk_d S_71 ml_7_54 (lk_d S_72 ml_7_54 lk_n))) odX7_songIn
def ct_113 : aCt := (mX7_songIn, [ag_344, ag_159, ag_345], ([], [((92, 0), 2)]), [pon_130], [], [], (nat_lit 2))
set_option maxRecDepth 100000 in
theorem S_113 : aSpec wd ct_113 := bChk_ok wx_ok btX7_songIn (nds := []) (fk := []) (rk := (1, [])) (sp := 0) (fuel := 3000) (by decide +kernel) (lk_d S_69 ml_7_50 (lk_d S_71 ml_7_54 (lk_d S_72 ml_7_54 lk_n))) odX7_songIn
def ct_114 : aCt := (mX7_songIn, [ag_344, ag_150, ag_345], ([], [((92, 0), 2)]), [pon_130], [], [], (nat_lit 2))
set_option maxRecDepth 100000 in
theorem S_114 : aSpec wd ct_114 := bChk_ok wx_ok btX7_songIn (nds := []) (fk := []) (rk := (1, [])) (sp := 0) (fuel := 3000) (by decide +kernel) (lk_d S_69 ml_7_50 (lk_d S_71 ml_7_54 (lk_d S_72 ml_7_54 lk_n))) odX7_songIn
def ct_115 : aCt := (mX7_songIn, [ag_344, ag_153, ag_345], ([], [((92, 0), 2)]), [pon_130], [], [], (nat_lit 2))
set_option maxRecDepth 100000 in
theorem S_115 : aSpec wd ct_115 := bChk_ok wx_ok btX7_songIn (nds := []) (fk := []) (rk := (1, [])) (sp := 0) (fuel := 3000) (by decide +kernel) (lk_d S_69 ml_7_50 (lk_d S_71 ml_7_54 (lk_d S_72 ml_7_54 lk_n))) odX7_songIn
def ag_416 : aAg := .inl [((.ofNat (nat_lit 2)), (.ofNat (nat_lit 5)), (nat_lit 1))]
def pon_417 : aPo := (some (.inl [((.ofNat (nat_lit 0)), (.ofNat (nat_lit 7)), (nat_lit 1))]), [], [], [])
def mdn_418 : List (Nat × Nat × Nat) := [((nat_lit 93), (nat_lit 0), (nat_lit 7))]
def lcn_419 : Nat × aAg := ((nat_lit 1), .inl [((.ofNat (nat_lit 2)), (.ofNat (nat_lit 5)), (nat_lit 1))])
def lcn_420 : Nat × aAg := ((nat_lit 2), .inl [((.ofNat (nat_lit 0)), (.ofNat (nat_lit 9999)), (nat_lit 1))])
def lcn_421 : Nat × aAg := ((nat_lit 4), .inl [((.ofNat (nat_lit 0)), (.ofNat (nat_lit 0)), (nat_lit 1))])
def lcn_422 : Nat × aAg := ((nat_lit 3), .inl [((.ofNat (nat_lit 0)), (.ofNat (nat_lit 1)), (nat_lit 1))])
def lcn_423 : Nat × aAg := ((nat_lit 4), .inl [((.ofNat (nat_lit 1)), (.ofNat (nat_lit 1)), (nat_lit 1))])
def lcn_424 : Nat × aAg := ((nat_lit 3), .inl [((.ofNat (nat_lit 0)), (.ofNat (nat_lit 2)), (nat_lit 1))])
def lcn_425 : Nat × aAg := ((nat_lit 4), .inl [((.ofNat (nat_lit 2)), (.ofNat (nat_lit 2)), (nat_lit 1))])
def sl_426 : (Nat × Nat) × aI := (((nat_lit 2), (nat_lit 4)), [((.ofNat (nat_lit 2)), (.ofNat (nat_lit 7)), (nat_lit 1))])
def lcn_427 : Nat × aAg := ((nat_lit 3), .inl [((.ofNat (nat_lit 0)), (.ofNat (nat_lit 3)), (nat_lit 1))])
def lcn_428 : Nat × aAg := ((nat_lit 4), .inl [((.ofNat (nat_lit 3)), (.ofNat (nat_lit 3)), (nat_lit 1))])
def sl_429 : (Nat × Nat) × aI := (((nat_lit 2), (nat_lit 4)), [((.ofNat (nat_lit 3)), (.ofNat (nat_lit 7)), (nat_lit 1))])
def lcn_430 : Nat × aAg := ((nat_lit 3), .inl [((.ofNat (nat_lit 0)), (.ofNat (nat_lit 4)), (nat_lit 1))])
def lcn_431 : Nat × aAg := ((nat_lit 4), .inl [((.ofNat (nat_lit 4)), (.ofNat (nat_lit 4)), (nat_lit 1))])
def sl_432 : (Nat × Nat) × aI := (((nat_lit 2), (nat_lit 4)), [((.ofNat (nat_lit 4)), (.ofNat (nat_lit 7)), (nat_lit 1))])
def lcn_433 : Nat × aAg := ((nat_lit 3), .inl [((.ofNat (nat_lit 0)), (.ofNat (nat_lit 5)), (nat_lit 1))])
def lcn_434 : Nat × aAg := ((nat_lit 4), .inl [((.ofNat (nat_lit 5)), (.ofNat (nat_lit 5)), (nat_lit 1))])
def sl_435 : (Nat × Nat) × aI := (((nat_lit 2), (nat_lit 4)), [((.ofNat (nat_lit 5)), (.ofNat (nat_lit 7)), (nat_lit 1))])
def lcn_436 : Nat × aAg := ((nat_lit 4), .inl [((.ofNat (nat_lit 6)), (.ofNat (nat_lit 6)), (nat_lit 1))])
def sl_437 : (Nat × Nat) × aI := (((nat_lit 2), (nat_lit 4)), [((.ofNat (nat_lit 6)), (.ofNat (nat_lit 7)), (nat_lit 1))])
def lcn_438 : Nat × aAg := ((nat_lit 3), .inl [((.ofNat (nat_lit 0)), (.ofNat (nat_lit 7)), (nat_lit 1))])
def lcn_439 : Nat × aAg := ((nat_lit 4), .inl [((.ofNat (nat_lit 7)), (.ofNat (nat_lit 7)), (nat_lit 1))])
def sl_440 : (Nat × Nat) × aI := (((nat_lit 2), (nat_lit 4)), [((.ofNat (nat_lit 7)), (.ofNat (nat_lit 7)), (nat_lit 1))])
set_option maxRecDepth 100000 in
theorem btX7_keepSongsOf : bTab oX7_keepSongsOf tX7_keepSongsOf := ⟨ofX7_keepSongsOf, by decide +kernel⟩
def ct_116 : aCt := (mX7_keepSongsOf, [ag_344, ag_416, ag_345], ([sl_341], [((92, 0), 2)]), [pon_417], mdn_418, [], (nat_lit 3))
set_option maxRecDepth 100000 in
theorem S_116 : aSpec wd ct_116 := bChk_ok wx_ok btX7_keepSongsOf (nds := [((nat_lit 5), [lcn_349, lcn_419, lcn_420, lcn_101, lcn_421], [], [sl_341], [((92, 0), 2)], (7, [])), ((nat_lit 5), [lcn_349, lcn_419, lcn_420, lcn_422, lcn_423], [], [sl_341], [((92, 0), 2)], (6, [])), ((nat_lit 5), [lcn_349, lcn_419, lcn_420, lcn_424, lcn_425], [], [sl_426], [((92, 0), 2)], (5, [])), ((nat_lit 5), [lcn_349, lcn_419, lcn_420, lcn_427, lcn_428], [], [sl_429], [((92, 0), 2)], (4, [])), ((nat_lit 5), [lcn_349, lcn_419, lcn_420, lcn_430, lcn_431], [], [sl_432], [((92, 0), 2)], (3, [])), ((nat_lit 5), [lcn_349, lcn_419, lcn_420, lcn_433, lcn_434], [], [sl_435], [((92, 0), 2)], (2, [])), ((nat_lit 5), [lcn_349, lcn_419, lcn_420, lcn_144, lcn_436], [], [sl_437], [((92, 0), 2)], (1, [])), ((nat_lit 5), [lcn_349, lcn_419, lcn_420, lcn_438, lcn_439], [], [sl_440], [((92, 0), 2)], (0, []))]) (fk := []) (rk := (8, [])) (sp := 32) (fuel := 3000) (by decide +kernel) (lk_d S_109 ml_7_81 (lk_d S_110 ml_7_81 (lk_d S_111 ml_7_81 (lk_d S_112 ml_7_81 (lk_d S_113 ml_7_81 (lk_d S_114 ml_7_81 (lk_d S_115 ml_7_81 lk_n))))))) odX7_keepSongsOf
def ag_441 : aAg := .inl [((.ofNat (nat_lit 0)), (.ofNat (nat_lit 1023)), (nat_lit 1))]
def ct_117 : aCt := (mX11_noteAt, [ag_441, ag_416, ag_217], ([], []), [pon_346], [], [], (nat_lit 0))
set_option maxRecDepth 100000 in
theorem S_117 : aSpec wd ct_117 := bChk_ok wx_ok btX11_noteAt (nds := []) (fk := []) (rk := (1, [])) (sp := 0) (fuel := 3000) (by decide +kernel) lk_n odX11_noteAt
def lcn_442 : Nat × aAg := ((nat_lit 1), .inl [((.ofNat (nat_lit 0)), (.ofNat (nat_lit 1023)), (nat_lit 1))])
def lcn_443 : Nat × aAg := ((nat_lit 2), .inl [((.ofNat (nat_lit 2)), (.ofNat (nat_lit 5)), (nat_lit 1))])
set_option maxRecDepth 100000 in
theorem btX7_isOfNotes : bTab oX7_isOfNotes tX7_isOfNotes := ⟨ofX7_isOfNotes, by decide +kernel⟩
def ct_118 : aCt := (mX7_isOfNotes, [ag_344, ag_441, ag_416], ([], [((92, 0), 2)]), [pon_37, pon_38], [], [], (nat_lit 1))
set_option maxRecDepth 100000 in
theorem S_118 : aSpec wd ct_118 := bChk_ok wx_ok btX7_isOfNotes (nds := [((nat_lit 2), [lcn_349, lcn_442, lcn_443, lcn_433], [], [], [((92, 0), 2)], (5, [(2, -1)]))]) (fk := []) (rk := (6, [])) (sp := 4) (fuel := 3000) (by decide +kernel) (lk_d S_117 ml_7_40 lk_n) odX7_isOfNotes
def ct_119 : aCt := (mX11_unlikeNotes, [ag_441, ag_1], ([], []), [pon_364], [], [], (nat_lit 1))
set_option maxRecDepth 100000 in
theorem S_119 : aSpec wd ct_119 := bChk_ok wx_ok btX11_unlikeNotes (nds := []) (fk := []) (rk := (1, [])) (sp := 0) (fuel := 3000) (by decide +kernel) (lk_d S_81 ml_11_411 lk_n) odX11_unlikeNotes
def lcn_444 : Nat × aAg := ((nat_lit 2), .inl [((.ofNat (nat_lit 1)), (.ofNat (nat_lit 1)), (nat_lit 1))])
def lcn_445 : Nat × aAg := ((nat_lit 4), .inl [((.ofNat (nat_lit 0)), (.ofNat (nat_lit 7)), (nat_lit 1))])
set_option maxRecDepth 100000 in
theorem btX7_isFarFromKept : bTab oX7_isFarFromKept tX7_isFarFromKept := ⟨ofX7_isFarFromKept, by decide +kernel⟩
def ct_120 : aCt := (mX7_isFarFromKept, [ag_344, ag_441, ag_53, ag_133], ([], []), [pon_37, pon_38], [], [], (nat_lit 2))
set_option maxRecDepth 100000 in
theorem S_120 : aSpec wd ct_120 := bChk_ok wx_ok btX7_isFarFromKept (nds := [((nat_lit 3), [lcn_349, lcn_442, lcn_444, lcn_108, lcn_445], [], [], [], (7, [(1, -1)]))]) (fk := []) (rk := (8, [])) (sp := 8) (fuel := 3000) (by decide +kernel) (lk_d S_119 ml_7_60 lk_n) odX7_isFarFromKept
def ct_121 : aCt := (mX7_isFarFromKept, [ag_344, ag_441, ag_416, ag_133], ([], []), [pon_37, pon_38], [], [], (nat_lit 2))
set_option maxRecDepth 100000 in
theorem S_121 : aSpec wd ct_121 := bChk_ok wx_ok btX7_isFarFromKept (nds := [((nat_lit 3), [lcn_349, lcn_442, lcn_443, lcn_108, lcn_445], [], [], [], (7, [(2, -1)]))]) (fk := []) (rk := (8, [])) (sp := 8) (fuel := 3000) (by decide +kernel) (lk_d S_119 ml_7_60 lk_n) odX7_isFarFromKept
def lcn_446 : Nat × aAg := ((nat_lit 4), .inl [((.ofNat (nat_lit 0)), (.ofNat (nat_lit 6)), (nat_lit 1))])
def ct_122 : aCt := (mX7_isFarFromKept, [ag_344, ag_441, ag_53, ag_153], ([], []), [pon_37, pon_38], [], [], (nat_lit 2))
set_option maxRecDepth 100000 in
theorem S_122 : aSpec wd ct_122 := bChk_ok wx_ok btX7_isFarFromKept (nds := [((nat_lit 3), [lcn_349, lcn_442, lcn_444, lcn_107, lcn_446], [], [], [], (6, [(1, -1)]))]) (fk := []) (rk := (7, [])) (sp := 8) (fuel := 3000) (by decide +kernel) (lk_d S_119 ml_7_60 lk_n) odX7_isFarFromKept
def ct_123 : aCt := (mX7_isFarFromKept, [ag_344, ag_441, ag_416, ag_153], ([], []), [pon_37, pon_38], [], [], (nat_lit 2))
set_option maxRecDepth 100000 in
theorem S_123 : aSpec wd ct_123 := bChk_ok wx_ok btX7_isFarFromKept (nds := [((nat_lit 3), [lcn_349, lcn_442, lcn_443, lcn_107, lcn_446], [], [], [], (6, [(2, -1)]))]) (fk := []) (rk := (7, [])) (sp := 8) (fuel := 3000) (by decide +kernel) (lk_d S_119 ml_7_60 lk_n) odX7_isFarFromKept
def lcn_447 : Nat × aAg := ((nat_lit 4), .inl [((.ofNat (nat_lit 0)), (.ofNat (nat_lit 5)), (nat_lit 1))])
def ct_124 : aCt := (mX7_isFarFromKept, [ag_344, ag_441, ag_53, ag_150], ([], []), [pon_37, pon_38], [], [], (nat_lit 2))
set_option maxRecDepth 100000 in
theorem S_124 : aSpec wd ct_124 := bChk_ok wx_ok btX7_isFarFromKept (nds := [((nat_lit 3), [lcn_349, lcn_442, lcn_444, lcn_106, lcn_447], [], [], [], (5, [(1, -1)]))]) (fk := []) (rk := (6, [])) (sp := 8) (fuel := 3000) (by decide +kernel) (lk_d S_119 ml_7_60 lk_n) odX7_isFarFromKept
def ct_125 : aCt := (mX7_isFarFromKept, [ag_344, ag_441, ag_416, ag_150], ([], []), [pon_37, pon_38], [], [], (nat_lit 2))
set_option maxRecDepth 100000 in
theorem S_125 : aSpec wd ct_125 := bChk_ok wx_ok btX7_isFarFromKept (nds := [((nat_lit 3), [lcn_349, lcn_442, lcn_443, lcn_106, lcn_447], [], [], [], (5, [(2, -1)]))]) (fk := []) (rk := (6, [])) (sp := 8) (fuel := 3000) (by decide +kernel) (lk_d S_119 ml_7_60 lk_n) odX7_isFarFromKept
def lcn_448 : Nat × aAg := ((nat_lit 4), .inl [((.ofNat (nat_lit 0)), (.ofNat (nat_lit 4)), (nat_lit 1))])
def ct_126 : aCt := (mX7_isFarFromKept, [ag_344, ag_441, ag_53, ag_159], ([], []), [pon_37, pon_38], [], [], (nat_lit 2))
set_option maxRecDepth 100000 in
theorem S_126 : aSpec wd ct_126 := bChk_ok wx_ok btX7_isFarFromKept (nds := [((nat_lit 3), [lcn_349, lcn_442, lcn_444, lcn_105, lcn_448], [], [], [], (4, [(1, -1)]))]) (fk := []) (rk := (5, [])) (sp := 8) (fuel := 3000) (by decide +kernel) (lk_d S_119 ml_7_60 lk_n) odX7_isFarFromKept
def ct_127 : aCt := (mX7_isFarFromKept, [ag_344, ag_441, ag_416, ag_159], ([], []), [pon_37, pon_38], [], [], (nat_lit 2))
set_option maxRecDepth 100000 in
theorem S_127 : aSpec wd ct_127 := bChk_ok wx_ok btX7_isFarFromKept (nds := [((nat_lit 3), [lcn_349, lcn_442, lcn_443, lcn_105, lcn_448], [], [], [], (4, [(2, -1)]))]) (fk := []) (rk := (5, [])) (sp := 8) (fuel := 3000) (by decide +kernel) (lk_d S_119 ml_7_60 lk_n) odX7_isFarFromKept
def lcn_449 : Nat × aAg := ((nat_lit 4), .inl [((.ofNat (nat_lit 0)), (.ofNat (nat_lit 3)), (nat_lit 1))])
def ct_128 : aCt := (mX7_isFarFromKept, [ag_344, ag_441, ag_53, ag_122], ([], []), [pon_37, pon_38], [], [], (nat_lit 2))
set_option maxRecDepth 100000 in
theorem S_128 : aSpec wd ct_128 := bChk_ok wx_ok btX7_isFarFromKept (nds := [((nat_lit 3), [lcn_349, lcn_442, lcn_444, lcn_104, lcn_449], [], [], [], (3, [(1, -1)]))]) (fk := []) (rk := (4, [])) (sp := 8) (fuel := 3000) (by decide +kernel) (lk_d S_119 ml_7_60 lk_n) odX7_isFarFromKept
def ct_129 : aCt := (mX7_isFarFromKept, [ag_344, ag_441, ag_416, ag_122], ([], []), [pon_37, pon_38], [], [], (nat_lit 2))
set_option maxRecDepth 100000 in
theorem S_129 : aSpec wd ct_129 := bChk_ok wx_ok btX7_isFarFromKept (nds := [((nat_lit 3), [lcn_349, lcn_442, lcn_443, lcn_104, lcn_449], [], [], [], (3, [(2, -1)]))]) (fk := []) (rk := (4, [])) (sp := 8) (fuel := 3000) (by decide +kernel) (lk_d S_119 ml_7_60 lk_n) odX7_isFarFromKept
def lcn_450 : Nat × aAg := ((nat_lit 4), .inl [((.ofNat (nat_lit 0)), (.ofNat (nat_lit 2)), (nat_lit 1))])
def ct_130 : aCt := (mX7_isFarFromKept, [ag_344, ag_441, ag_53, ag_22], ([], []), [pon_37, pon_38], [], [], (nat_lit 2))
set_option maxRecDepth 100000 in
theorem S_130 : aSpec wd ct_130 := bChk_ok wx_ok btX7_isFarFromKept (nds := [((nat_lit 3), [lcn_349, lcn_442, lcn_444, lcn_103, lcn_450], [], [], [], (2, [(1, -1)]))]) (fk := []) (rk := (3, [])) (sp := 8) (fuel := 3000) (by decide +kernel) (lk_d S_119 ml_7_60 lk_n) odX7_isFarFromKept
def ct_131 : aCt := (mX7_isFarFromKept, [ag_344, ag_441, ag_416, ag_22], ([], []), [pon_37, pon_38], [], [], (nat_lit 2))
set_option maxRecDepth 100000 in
theorem S_131 : aSpec wd ct_131 := bChk_ok wx_ok btX7_isFarFromKept (nds := [((nat_lit 3), [lcn_349, lcn_442, lcn_443, lcn_103, lcn_450], [], [], [], (2, [(2, -1)]))]) (fk := []) (rk := (3, [])) (sp := 8) (fuel := 3000) (by decide +kernel) (lk_d S_119 ml_7_60 lk_n) odX7_isFarFromKept
def lcn_451 : Nat × aAg := ((nat_lit 4), .inl [((.ofNat (nat_lit 0)), (.ofNat (nat_lit 1)), (nat_lit 1))])
def ct_132 : aCt := (mX7_isFarFromKept, [ag_344, ag_441, ag_53, ag_53], ([], []), [pon_37, pon_38], [], [], (nat_lit 2))
set_option maxRecDepth 100000 in
theorem S_132 : aSpec wd ct_132 := bChk_ok wx_ok btX7_isFarFromKept (nds := [((nat_lit 3), [lcn_349, lcn_442, lcn_444, lcn_102, lcn_451], [], [], [], (1, [(1, -1)]))]) (fk := []) (rk := (2, [])) (sp := 8) (fuel := 3000) (by decide +kernel) (lk_d S_119 ml_7_60 lk_n) odX7_isFarFromKept
def ct_133 : aCt := (mX7_isFarFromKept, [ag_344, ag_441, ag_416, ag_53], ([], []), [pon_37, pon_38], [], [], (nat_lit 2))
set_option maxRecDepth 100000 in
theorem S_133 : aSpec wd ct_133 := bChk_ok wx_ok btX7_isFarFromKept (nds := [((nat_lit 3), [lcn_349, lcn_442, lcn_443, lcn_102, lcn_451], [], [], [], (1, [(2, -1)]))]) (fk := []) (rk := (2, [])) (sp := 8) (fuel := 3000) (by decide +kernel) (lk_d S_119 ml_7_60 lk_n) odX7_isFarFromKept
def ct_134 : aCt := (mX7_isFarFromKept, [ag_344, ag_441, ag_53, ag_170], ([], []), [pon_38], [], [], (nat_lit 0))
set_option maxRecDepth 100000 in
theorem S_134 : aSpec wd ct_134 := bChk_ok wx_ok btX7_isFarFromKept (nds := [((nat_lit 3), [lcn_349, lcn_442, lcn_444, lcn_101, lcn_421], [], [], [], (0, []))]) (fk := []) (rk := (1, [])) (sp := 8) (fuel := 3000) (by decide +kernel) lk_n odX7_isFarFromKept
def ct_135 : aCt := (mX7_isFarFromKept, [ag_344, ag_441, ag_416, ag_170], ([], []), [pon_38], [], [], (nat_lit 0))
set_option maxRecDepth 100000 in
theorem S_135 : aSpec wd ct_135 := bChk_ok wx_ok btX7_isFarFromKept (nds := [((nat_lit 3), [lcn_349, lcn_442, lcn_443, lcn_101, lcn_421], [], [], [], (0, []))]) (fk := []) (rk := (1, [])) (sp := 8) (fuel := 3000) (by decide +kernel) lk_n odX7_isFarFromKept
def ag_452 : aAg := .inl [((.ofNat (nat_lit 1)), (.ofNat (nat_lit 5)), (nat_lit 1))]
def pon_453 : aPo := (some (.inl [((.ofNat (nat_lit 0)), (.ofNat (nat_lit 1)), (nat_lit 1))]), [], [], [])
def mdn_454 : List (Nat × Nat × Nat) := [((nat_lit 92), (nat_lit 4), (nat_lit 5)), ((nat_lit 93), (nat_lit 0), (nat_lit 8))]
def lcn_455 : Nat × aAg := ((nat_lit 2), .inl [((.ofNat (nat_lit 1)), (.ofNat (nat_lit 5)), (nat_lit 1))])
def lcn_456 : Nat × aAg := ((nat_lit 5), .inl [((.ofNat (nat_lit 7)), (.ofNat (nat_lit 7)), (nat_lit 1))])
def lcn_457 : Nat × aAg := ((nat_lit 6), .inl [((.ofNat (nat_lit 7)), (.ofNat (nat_lit 8)), (nat_lit 1))])
def lcn_458 : Nat × aAg := ((nat_lit 7), .inl aTop)
def lcn_459 : Nat × aAg := ((nat_lit 8), .inl [((.ofNat (nat_lit 0)), (.ofNat (nat_lit 1024)), (nat_lit 1))])
def lcn_460 : Nat × aAg := ((nat_lit 5), .inl [((.ofNat (nat_lit 6)), (.ofNat (nat_lit 6)), (nat_lit 1))])
def lcn_461 : Nat × aAg := ((nat_lit 6), .inl [((.ofNat (nat_lit 6)), (.ofNat (nat_lit 7)), (nat_lit 1))])
def lcn_462 : Nat × aAg := ((nat_lit 5), .inl [((.ofNat (nat_lit 5)), (.ofNat (nat_lit 5)), (nat_lit 1))])
def lcn_463 : Nat × aAg := ((nat_lit 6), .inl [((.ofNat (nat_lit 5)), (.ofNat (nat_lit 6)), (nat_lit 1))])
def lcn_464 : Nat × aAg := ((nat_lit 5), .inl [((.ofNat (nat_lit 4)), (.ofNat (nat_lit 4)), (nat_lit 1))])
def lcn_465 : Nat × aAg := ((nat_lit 6), .inl [((.ofNat (nat_lit 4)), (.ofNat (nat_lit 5)), (nat_lit 1))])
def lcn_466 : Nat × aAg := ((nat_lit 5), .inl [((.ofNat (nat_lit 3)), (.ofNat (nat_lit 3)), (nat_lit 1))])
def lcn_467 : Nat × aAg := ((nat_lit 6), .inl [((.ofNat (nat_lit 3)), (.ofNat (nat_lit 4)), (nat_lit 1))])
def lcn_468 : Nat × aAg := ((nat_lit 5), .inl [((.ofNat (nat_lit 2)), (.ofNat (nat_lit 2)), (nat_lit 1))])
def lcn_469 : Nat × aAg := ((nat_lit 6), .inl [((.ofNat (nat_lit 2)), (.ofNat (nat_lit 3)), (nat_lit 1))])
def lcn_470 : Nat × aAg := ((nat_lit 5), .inl [((.ofNat (nat_lit 1)), (.ofNat (nat_lit 1)), (nat_lit 1))])
def lcn_471 : Nat × aAg := ((nat_lit 6), .inl [((.ofNat (nat_lit 1)), (.ofNat (nat_lit 2)), (nat_lit 1))])
def lcn_472 : Nat × aAg := ((nat_lit 5), .inl [((.ofNat (nat_lit 0)), (.ofNat (nat_lit 0)), (nat_lit 1))])
def lcn_473 : Nat × aAg := ((nat_lit 6), .inl [((.ofNat (nat_lit 0)), (.ofNat (nat_lit 1)), (nat_lit 1))])
set_option maxRecDepth 100000 in
theorem btX7_findNew : bTab oX7_findNew tX7_findNew := ⟨ofX7_findNew, by decide +kernel⟩
def ct_136 : aCt := (mX7_findNew, [ag_344, ag_416, ag_452, ag_345, ag_53], ([sl_341], [((92, 0), 2)]), [pon_453, pon_38], mdn_454, [], (nat_lit 4))
set_option maxRecDepth 100000 in
theorem S_136 : aSpec wd ct_136 := bChk_ok wx_ok btX7_findNew (nds := [((nat_lit 24), [lcn_349, lcn_419, lcn_455, lcn_367, lcn_423, lcn_456, lcn_457, lcn_458, lcn_459], [], [sl_341], [((92, 0), 2)], (9224, [(3, -1025), (5, -1)])), ((nat_lit 24), [lcn_349, lcn_419, lcn_455, lcn_367, lcn_423, lcn_460, lcn_461, lcn_458, lcn_459], [], [sl_341], [((92, 0), 2)], (8199, [(3, -1025), (5, -1)])), ((nat_lit 24), [lcn_349, lcn_419, lcn_455, lcn_367, lcn_423, lcn_462, lcn_463, lcn_458, lcn_459], [], [sl_341], [((92, 0), 2)], (7174, [(3, -1025), (5, -1)])), ((nat_lit 24), [lcn_349, lcn_419, lcn_455, lcn_367, lcn_423, lcn_464, lcn_465, lcn_458, lcn_459], [], [sl_341], [((92, 0), 2)], (6149, [(3, -1025), (5, -1)])), ((nat_lit 24), [lcn_349, lcn_419, lcn_455, lcn_367, lcn_423, lcn_466, lcn_467, lcn_458, lcn_459], [], [sl_341], [((92, 0), 2)], (5124, [(3, -1025), (5, -1)])), ((nat_lit 24), [lcn_349, lcn_419, lcn_455, lcn_367, lcn_423, lcn_468, lcn_469, lcn_458, lcn_459], [], [sl_341], [((92, 0), 2)], (4099, [(3, -1025), (5, -1)])), ((nat_lit 24), [lcn_349, lcn_419, lcn_455, lcn_367, lcn_423, lcn_470, lcn_471, lcn_458, lcn_459], [], [sl_341], [((92, 0), 2)], (3074, [(3, -1025), (5, -1)])), ((nat_lit 24), [lcn_349, lcn_419, lcn_455, lcn_367, lcn_423, lcn_472, lcn_473, lcn_458, lcn_459], [], [sl_341], [((92, 0), 2)], (2049, [(3, -1025), (5, -1)]))]) (fk := [6]) (rk := (2050, [])) (sp := 16777216) (fuel := 3000) (by decide +kernel) (lk_d S_120 ml_7_77 (lk_d S_122 ml_7_77 (lk_d S_124 ml_7_77 (lk_d S_126 ml_7_77 (lk_d S_128 ml_7_77 (lk_d S_130 ml_7_77 (lk_d S_132 ml_7_77 (lk_d S_134 ml_7_77 (lk_d S_118 ml_7_73 (lk_d S_121 ml_7_77 (lk_d S_123 ml_7_77 (lk_d S_125 ml_7_77 (lk_d S_127 ml_7_77 (lk_d S_129 ml_7_77 (lk_d S_131 ml_7_77 (lk_d S_133 ml_7_77 (lk_d S_135 ml_7_77 (lk_d S_116 ml_7_70 lk_n)))))))))))))))))) odX7_findNew
def pon_474 : aPo := (some (.inl aTop), [none, some [((.ofNat (nat_lit 2)), (.ofNat (nat_lit 5)), (nat_lit 1))], some [((.ofNat (nat_lit 1)), (.ofNat (nat_lit 5)), (nat_lit 1))]], [sl_301, sl_341], [])
def mdn_475 : List (Nat × Nat × Nat) := [((nat_lit 0), (nat_lit 2), (nat_lit 3)), ((nat_lit 92), (nat_lit 4), (nat_lit 5)), ((nat_lit 93), (nat_lit 0), (nat_lit 8))]
set_option maxRecDepth 100000 in
theorem btX11_fresh : bTab oX11_fresh tX11_fresh := ⟨ofX11_fresh, by decide +kernel⟩
def ct_137 : aCt := (mX11_fresh, [ag_0, ag_1, ag_1], ([], [((0, 3), 2), ((92, 0), 2)]), [pon_474, pon_390], mdn_475, [], (nat_lit 5))
set_option maxRecDepth 100000 in
theorem S_137 : aSpec wd ct_137 := bChk_ok wx_ok btX11_fresh (nds := []) (fk := []) (rk := (1, [])) (sp := 0) (fuel := 3000) (by decide +kernel) (lk_d S_63 ml_11_98 (lk_d S_6 ml_11_98 (lk_d S_136 ml_11_261 (lk_d S_57 ml_11_112 (lk_d S_108 ml_11_258 lk_n))))) odX11_fresh
def ag_476 : aAg := .inl [((.ofNat (nat_lit 7)), (.ofNat (nat_lit 1030)), (nat_lit 1))]
def lcn_477 : Nat × aAg := ((nat_lit 3), .inl [((.ofNat (nat_lit 7)), (.ofNat (nat_lit 1030)), (nat_lit 1))])
def lcn_478 : Nat × aAg := ((nat_lit 4), .inl [((.ofNat (nat_lit 0)), (.ofNat (nat_lit 1030)), (nat_lit 1))])
def ct_138 : aCt := (mX7_isFarFromKept, [ag_344, ag_441, ag_416, ag_476], ([], []), [pon_37, pon_38], [], [], (nat_lit 2))
set_option maxRecDepth 100000 in
theorem S_138 : aSpec wd ct_138 := bChk_ok wx_ok btX7_isFarFromKept (nds := [((nat_lit 3), [lcn_349, lcn_442, lcn_443, lcn_477, lcn_478], [], [], [], (1030, [(3, -1)]))]) (fk := []) (rk := (1031, [])) (sp := 8) (fuel := 3000) (by decide +kernel) (lk_d S_119 ml_7_60 lk_n) odX7_isFarFromKept
def ag_479 : aAg := .inl [((.ofNat (nat_lit 6)), (.ofNat (nat_lit 1029)), (nat_lit 1))]
def lcn_480 : Nat × aAg := ((nat_lit 3), .inl [((.ofNat (nat_lit 6)), (.ofNat (nat_lit 1029)), (nat_lit 1))])
def ct_139 : aCt := (mX7_isFarFromKept, [ag_344, ag_441, ag_416, ag_479], ([], []), [pon_37, pon_38], [], [], (nat_lit 2))
set_option maxRecDepth 100000 in
theorem S_139 : aSpec wd ct_139 := bChk_ok wx_ok btX7_isFarFromKept (nds := [((nat_lit 3), [lcn_349, lcn_442, lcn_443, lcn_480, lcn_478], [], [], [], (1030, [(3, -1)]))]) (fk := []) (rk := (1031, [])) (sp := 8) (fuel := 3000) (by decide +kernel) (lk_d S_119 ml_7_60 lk_n) odX7_isFarFromKept
def ag_481 : aAg := .inl [((.ofNat (nat_lit 5)), (.ofNat (nat_lit 1028)), (nat_lit 1))]
def lcn_482 : Nat × aAg := ((nat_lit 3), .inl [((.ofNat (nat_lit 5)), (.ofNat (nat_lit 1028)), (nat_lit 1))])
def ct_140 : aCt := (mX7_isFarFromKept, [ag_344, ag_441, ag_416, ag_481], ([], []), [pon_37, pon_38], [], [], (nat_lit 2))
set_option maxRecDepth 100000 in
theorem S_140 : aSpec wd ct_140 := bChk_ok wx_ok btX7_isFarFromKept (nds := [((nat_lit 3), [lcn_349, lcn_442, lcn_443, lcn_482, lcn_478], [], [], [], (1030, [(3, -1)]))]) (fk := []) (rk := (1031, [])) (sp := 8) (fuel := 3000) (by decide +kernel) (lk_d S_119 ml_7_60 lk_n) odX7_isFarFromKept
def ag_483 : aAg := .inl [((.ofNat (nat_lit 4)), (.ofNat (nat_lit 1027)), (nat_lit 1))]
def lcn_484 : Nat × aAg := ((nat_lit 3), .inl [((.ofNat (nat_lit 4)), (.ofNat (nat_lit 1027)), (nat_lit 1))])
def ct_141 : aCt := (mX7_isFarFromKept, [ag_344, ag_441, ag_416, ag_483], ([], []), [pon_37, pon_38], [], [], (nat_lit 2))
set_option maxRecDepth 100000 in
theorem S_141 : aSpec wd ct_141 := bChk_ok wx_ok btX7_isFarFromKept (nds := [((nat_lit 3), [lcn_349, lcn_442, lcn_443, lcn_484, lcn_478], [], [], [], (1030, [(3, -1)]))]) (fk := []) (rk := (1031, [])) (sp := 8) (fuel := 3000) (by decide +kernel) (lk_d S_119 ml_7_60 lk_n) odX7_isFarFromKept
def ag_485 : aAg := .inl [((.ofNat (nat_lit 3)), (.ofNat (nat_lit 1026)), (nat_lit 1))]
def lcn_486 : Nat × aAg := ((nat_lit 3), .inl [((.ofNat (nat_lit 3)), (.ofNat (nat_lit 1026)), (nat_lit 1))])
def ct_142 : aCt := (mX7_isFarFromKept, [ag_344, ag_441, ag_416, ag_485], ([], []), [pon_37, pon_38], [], [], (nat_lit 2))
set_option maxRecDepth 100000 in
theorem S_142 : aSpec wd ct_142 := bChk_ok wx_ok btX7_isFarFromKept (nds := [((nat_lit 3), [lcn_349, lcn_442, lcn_443, lcn_486, lcn_478], [], [], [], (1030, [(3, -1)]))]) (fk := []) (rk := (1031, [])) (sp := 8) (fuel := 3000) (by decide +kernel) (lk_d S_119 ml_7_60 lk_n) odX7_isFarFromKept
def ag_487 : aAg := .inl [((.ofNat (nat_lit 2)), (.ofNat (nat_lit 1025)), (nat_lit 1))]
def lcn_488 : Nat × aAg := ((nat_lit 3), .inl [((.ofNat (nat_lit 2)), (.ofNat (nat_lit 1025)), (nat_lit 1))])
def ct_143 : aCt := (mX7_isFarFromKept, [ag_344, ag_441, ag_416, ag_487], ([], []), [pon_37, pon_38], [], [], (nat_lit 2))
set_option maxRecDepth 100000 in
theorem S_143 : aSpec wd ct_143 := bChk_ok wx_ok btX7_isFarFromKept (nds := [((nat_lit 3), [lcn_349, lcn_442, lcn_443, lcn_488, lcn_478], [], [], [], (1030, [(3, -1)]))]) (fk := []) (rk := (1031, [])) (sp := 8) (fuel := 3000) (by decide +kernel) (lk_d S_119 ml_7_60 lk_n) odX7_isFarFromKept
def ag_489 : aAg := .inl [((.ofNat (nat_lit 1)), (.ofNat (nat_lit 1024)), (nat_lit 1))]
def lcn_490 : Nat × aAg := ((nat_lit 3), .inl [((.ofNat (nat_lit 1)), (.ofNat (nat_lit 1024)), (nat_lit 1))])
def lcn_491 : Nat × aAg := ((nat_lit 4), .inl [((.ofNat (nat_lit 0)), (.ofNat (nat_lit 1024)), (nat_lit 1))])
def ct_144 : aCt := (mX7_isFarFromKept, [ag_344, ag_441, ag_416, ag_489], ([], []), [pon_37, pon_38], [], [], (nat_lit 2))
set_option maxRecDepth 100000 in
theorem S_144 : aSpec wd ct_144 := bChk_ok wx_ok btX7_isFarFromKept (nds := [((nat_lit 3), [lcn_349, lcn_442, lcn_443, lcn_490, lcn_491], [], [], [], (1024, [(3, -1)]))]) (fk := []) (rk := (1025, [])) (sp := 8) (fuel := 3000) (by decide +kernel) (lk_d S_119 ml_7_60 lk_n) odX7_isFarFromKept
def lcn_492 : Nat × aAg := ((nat_lit 4), .inl [((.ofNat (nat_lit 0)), (.ofNat (nat_lit 1023)), (nat_lit 1))])
def ct_145 : aCt := (mX7_isFarFromKept, [ag_344, ag_441, ag_416, ag_441], ([], []), [pon_37, pon_38], [], [], (nat_lit 2))
set_option maxRecDepth 100000 in
theorem S_145 : aSpec wd ct_145 := bChk_ok wx_ok btX7_isFarFromKept (nds := [((nat_lit 3), [lcn_349, lcn_442, lcn_443, lcn_288, lcn_492], [], [], [], (1023, [(3, -1)]))]) (fk := []) (rk := (1024, [])) (sp := 8) (fuel := 3000) (by decide +kernel) (lk_d S_119 ml_7_60 lk_n) odX7_isFarFromKept
def ag_493 : aAg := .inl [((.ofNat (nat_lit 1024)), (.ofNat (nat_lit 1024)), (nat_lit 1))]
def pon_494 : aPo := (some (.inl [((.ofNat (nat_lit 0)), (.ofNat (nat_lit 1029)), (nat_lit 1))]), [], [], [])
def mdn_495 : List (Nat × Nat × Nat) := [((nat_lit 92), (nat_lit 4), (nat_lit 5)), ((nat_lit 93), (nat_lit 0), (nat_lit 1031))]
def lcn_496 : Nat × aAg := ((nat_lit 4), .inl [((.ofNat (nat_lit 1024)), (.ofNat (nat_lit 1024)), (nat_lit 1))])
def lcn_497 : Nat × aAg := ((nat_lit 6), .inl [((.ofNat (nat_lit 7)), (.ofNat (nat_lit 1031)), (nat_lit 1))])
def lcn_498 : Nat × aAg := ((nat_lit 6), .inl [((.ofNat (nat_lit 6)), (.ofNat (nat_lit 1030)), (nat_lit 1))])
def lcn_499 : Nat × aAg := ((nat_lit 6), .inl [((.ofNat (nat_lit 5)), (.ofNat (nat_lit 1030)), (nat_lit 1))])
def lcn_500 : Nat × aAg := ((nat_lit 6), .inl [((.ofNat (nat_lit 4)), (.ofNat (nat_lit 1030)), (nat_lit 1))])
def lcn_501 : Nat × aAg := ((nat_lit 6), .inl [((.ofNat (nat_lit 3)), (.ofNat (nat_lit 1030)), (nat_lit 1))])
def lcn_502 : Nat × aAg := ((nat_lit 6), .inl [((.ofNat (nat_lit 2)), (.ofNat (nat_lit 1030)), (nat_lit 1))])
def lcn_503 : Nat × aAg := ((nat_lit 6), .inl [((.ofNat (nat_lit 1)), (.ofNat (nat_lit 1030)), (nat_lit 1))])
def lcn_504 : Nat × aAg := ((nat_lit 6), .inl [((.ofNat (nat_lit 0)), (.ofNat (nat_lit 1024)), (nat_lit 1))])
def ct_146 : aCt := (mX7_findNew, [ag_344, ag_416, ag_452, ag_345, ag_493], ([sl_341], [((92, 0), 2)]), [pon_494], mdn_495, [], (nat_lit 4))
set_option maxRecDepth 100000 in
theorem S_146 : aSpec wd ct_146 := bChk_ok wx_ok btX7_findNew (nds := [((nat_lit 24), [lcn_349, lcn_419, lcn_455, lcn_367, lcn_496, lcn_456, lcn_497, lcn_458, lcn_459], [], [sl_341], [((92, 0), 2)], (1057799, [(3, -1025), (5, -1)])), ((nat_lit 24), [lcn_349, lcn_419, lcn_455, lcn_367, lcn_496, lcn_460, lcn_498, lcn_458, lcn_459], [], [sl_341], [((92, 0), 2)], (1056774, [(3, -1025), (5, -1)])), ((nat_lit 24), [lcn_349, lcn_419, lcn_455, lcn_367, lcn_496, lcn_462, lcn_499, lcn_458, lcn_459], [], [sl_341], [((92, 0), 2)], (1056774, [(3, -1025), (5, -1)])), ((nat_lit 24), [lcn_349, lcn_419, lcn_455, lcn_367, lcn_496, lcn_464, lcn_500, lcn_458, lcn_459], [], [sl_341], [((92, 0), 2)], (1056774, [(3, -1025), (5, -1)])), ((nat_lit 24), [lcn_349, lcn_419, lcn_455, lcn_367, lcn_496, lcn_466, lcn_501, lcn_458, lcn_459], [], [sl_341], [((92, 0), 2)], (1056774, [(3, -1025), (5, -1)])), ((nat_lit 24), [lcn_349, lcn_419, lcn_455, lcn_367, lcn_496, lcn_468, lcn_502, lcn_458, lcn_459], [], [sl_341], [((92, 0), 2)], (1056774, [(3, -1025), (5, -1)])), ((nat_lit 24), [lcn_349, lcn_419, lcn_455, lcn_367, lcn_496, lcn_470, lcn_503, lcn_458, lcn_459], [], [sl_341], [((92, 0), 2)], (1056774, [(3, -1025), (5, -1)])), ((nat_lit 24), [lcn_349, lcn_419, lcn_455, lcn_367, lcn_496, lcn_472, lcn_504, lcn_458, lcn_459], [], [sl_341], [((92, 0), 2)], (1050624, [(3, -1025), (5, -1)]))]) (fk := [6]) (rk := (1055750, [])) (sp := 16777216) (fuel := 3000) (by decide +kernel) (lk_d S_120 ml_7_77 (lk_d S_122 ml_7_77 (lk_d S_124 ml_7_77 (lk_d S_126 ml_7_77 (lk_d S_128 ml_7_77 (lk_d S_130 ml_7_77 (lk_d S_132 ml_7_77 (lk_d S_134 ml_7_77 (lk_d S_118 ml_7_73 (lk_d S_138 ml_7_77 (lk_d S_139 ml_7_77 (lk_d S_140 ml_7_77 (lk_d S_141 ml_7_77 (lk_d S_142 ml_7_77 (lk_d S_143 ml_7_77 (lk_d S_144 ml_7_77 (lk_d S_145 ml_7_77 (lk_d S_116 ml_7_70 lk_n)))))))))))))))))) odX7_findNew
def mdn_505 : List (Nat × Nat × Nat) := [((nat_lit 0), (nat_lit 2), (nat_lit 3)), ((nat_lit 92), (nat_lit 4), (nat_lit 5)), ((nat_lit 93), (nat_lit 0), (nat_lit 1031))]
set_option maxRecDepth 100000 in
theorem btX11_byTurns : bTab oX11_byTurns tX11_byTurns := ⟨ofX11_byTurns, by decide +kernel⟩
def ct_147 : aCt := (mX11_byTurns, [ag_0, ag_1, ag_1], ([], [((0, 3), 2), ((92, 0), 2)]), [pon_474, pon_390], mdn_505, [], (nat_lit 5))
set_option maxRecDepth 100000 in
theorem S_147 : aSpec wd ct_147 := bChk_ok wx_ok btX11_byTurns (nds := []) (fk := []) (rk := (1, [])) (sp := 0) (fuel := 3000) (by decide +kernel) (lk_d S_63 ml_11_98 (lk_d S_6 ml_11_98 (lk_d S_146 ml_11_261 (lk_d S_57 ml_11_112 (lk_d S_108 ml_11_258 lk_n))))) odX11_byTurns
set_option maxRecDepth 100000 in
theorem btX11_near : bTab oX11_near tX11_near := ⟨ofX11_near, by decide +kernel⟩
def ct_148 : aCt := (mX11_near, [ag_0, ag_1], ([], [((0, 3), 2), ((92, 0), 2)]), [pon_371, pon_333], mdn_372, [], (nat_lit 4))
set_option maxRecDepth 100000 in
theorem S_148 : aSpec wd ct_148 := bChk_ok wx_ok btX11_near (nds := []) (fk := []) (rk := (1, [])) (sp := 0) (fuel := 3000) (by decide +kernel) (lk_d S_63 ml_11_98 (lk_d S_84 ml_11_201 (lk_d S_65 ml_11_147 (lk_d S_57 ml_11_112 lk_n)))) odX11_near
set_option maxRecDepth 100000 in
theorem btX11_asNear : bTab oX11_asNear tX11_asNear := ⟨ofX11_asNear, by decide +kernel⟩
def ct_149 : aCt := (mX11_asNear, [ag_0, ag_1], ([], [((0, 3), 2), ((92, 0), 2)]), [pon_371, pon_333], mdn_372, [], (nat_lit 4))
set_option maxRecDepth 100000 in
theorem S_149 : aSpec wd ct_149 := bChk_ok wx_ok btX11_asNear (nds := []) (fk := []) (rk := (1, [])) (sp := 0) (fuel := 3000) (by decide +kernel) (lk_d S_63 ml_11_98 (lk_d S_84 ml_11_201 (lk_d S_65 ml_11_147 (lk_d S_57 ml_11_112 lk_n)))) odX11_asNear
def pon_506 : aPo := (some (.inl [((.ofNat (nat_lit 0)), (.ofNat (nat_lit 0)), (nat_lit 1))]), [some [((.negSucc (nat_lit 2147483647)), (.negSucc (nat_lit 0)), (nat_lit 1)), ((.ofNat (nat_lit 100)), (.ofNat (nat_lit 2147483647)), (nat_lit 1))], none], [], [])
def pon_507 : aPo := (some (.inl [((.ofNat (nat_lit 1)), (.ofNat (nat_lit 1)), (nat_lit 1))]), [some [((.ofNat (nat_lit 0)), (.ofNat (nat_lit 99)), (nat_lit 1))], none], [], [])
def ct_150 : aCt := (mX11_isWithin, [ag_1, ag_197], ([], []), [pon_506, pon_507], [], [], (nat_lit 0))
set_option maxRecDepth 100000 in
theorem S_150 : aSpec wd ct_150 := bChk_ok wx_ok btX11_isWithin (nds := []) (fk := []) (rk := (1, [])) (sp := 0) (fuel := 3000) (by decide +kernel) lk_n odX11_isWithin
def ag_508 : aAg := .inl [((.ofNat (nat_lit 0)), (.ofNat (nat_lit 10098)), (nat_lit 1))]
def ct_151 : aCt := (mX7_fallIn, [ag_344, ag_508], ([], [((92, 0), 2)]), [pon_346, pon_37], [], [], (nat_lit 0))
set_option maxRecDepth 100000 in
theorem S_151 : aSpec wd ct_151 := bChk_ok wx_ok btX7_fallIn (nds := []) (fk := []) (rk := (1, [])) (sp := 0) (fuel := 3000) (by decide +kernel) lk_n odX7_fallIn
def lcn_509 : Nat × aAg := ((nat_lit 3), .inl [((.ofNat (nat_lit 0)), (.ofNat (nat_lit 10098)), (nat_lit 1))])
def ct_152 : aCt := (mX7_hearerOf, [ag_344, ag_1, ag_137, ag_508], ([], [((92, 0), 2)]), [pon_365, pon_52], mdn_366, [], (nat_lit 2))
set_option maxRecDepth 100000 in
theorem S_152 : aSpec wd ct_152 := bChk_ok wx_ok btX7_hearerOf (nds := [((nat_lit 32), [lcn_349, lcn_271, lcn_143, lcn_509, lcn_351, lcn_368, lcn_369], [], [sl_370], [((92, 0), 2)], (7, [(5, -1)]))]) (fk := []) (rk := (8, [])) (sp := 4294967296) (fuel := 3000) (by decide +kernel) (lk_d S_151 ml_7_50 (lk_d S_79 ml_7_54 (lk_d S_80 ml_7_54 (lk_d S_82 ml_7_60 lk_n)))) odX7_hearerOf
def ct_153 : aCt := (mX11_hearerIn, [ag_0, ag_190, ag_508], ([], [((0, 3), 2), ((92, 0), 2)]), [pon_365, pon_52], mdn_366, [], (nat_lit 3))
set_option maxRecDepth 100000 in
theorem S_153 : aSpec wd ct_153 := bChk_ok wx_ok btX11_hearerIn (nds := []) (fk := []) (rk := (1, [])) (sp := 0) (fuel := 3000) (by decide +kernel) (lk_d S_76 ml_11_198 (lk_d S_152 ml_11_277 lk_n)) odX11_hearerIn
def pon_510 : aPo := (some (.inl aTop), [none, some [((.ofNat (nat_lit 0)), (.ofNat (nat_lit 7)), (nat_lit 1))], some [((.ofNat (nat_lit 0)), (.ofNat (nat_lit 99)), (nat_lit 1))]], [sl_301, sl_338], [])
set_option maxRecDepth 100000 in
theorem btX11_heardIn : bTab oX11_heardIn tX11_heardIn := ⟨ofX11_heardIn, by decide +kernel⟩
def ct_154 : aCt := (mX11_heardIn, [ag_0, ag_1, ag_1], ([], [((0, 3), 2), ((92, 0), 2)]), [pon_510, pon_390], mdn_372, [], (nat_lit 4))
set_option maxRecDepth 100000 in
theorem S_154 : aSpec wd ct_154 := bChk_ok wx_ok btX11_heardIn (nds := []) (fk := []) (rk := (1, [])) (sp := 0) (fuel := 3000) (by decide +kernel) (lk_d S_6 ml_11_98 (lk_d S_63 ml_11_98 (lk_d S_153 ml_11_201 (lk_d S_65 ml_11_147 (lk_d S_150 ml_11_227 (lk_d S_57 ml_11_112 lk_n)))))) odX11_heardIn
def ct_155 : aCt := (mX7_hearerOf, [ag_344, ag_1, ag_137, ag_508], ([sl_341], [((92, 0), 2)]), [pon_365, pon_52], mdn_366, [], (nat_lit 2))
set_option maxRecDepth 100000 in
theorem S_155 : aSpec wd ct_155 := bChk_ok wx_ok btX7_hearerOf (nds := [((nat_lit 32), [lcn_349, lcn_271, lcn_143, lcn_509, lcn_351, lcn_368, lcn_369], [], [sl_341, sl_370], [((92, 0), 2)], (7, [(5, -1)]))]) (fk := []) (rk := (8, [])) (sp := 4294967296) (fuel := 3000) (by decide +kernel) (lk_d S_151 ml_7_50 (lk_d S_79 ml_7_54 (lk_d S_80 ml_7_54 (lk_d S_82 ml_7_60 lk_n)))) odX7_hearerOf
def lcn_511 : Nat × aAg := ((nat_lit 2), .inl [((.ofNat (nat_lit 0)), (.ofNat (nat_lit 100)), (nat_lit 1))])
set_option maxRecDepth 100000 in
theorem btX11_strange : bTab oX11_strange tX11_strange := ⟨ofX11_strange, by decide +kernel⟩
def ct_156 : aCt := (mX11_strange, [ag_0, ag_1], ([], [((0, 3), 2), ((92, 0), 2)]), [pon_406, pon_333], mdn_372, [], (nat_lit 3))
set_option maxRecDepth 100000 in
theorem S_156 : aSpec wd ct_156 := bChk_ok wx_ok btX11_strange (nds := [((nat_lit 16), [lcn_407, lcn_249, lcn_511], [], [sl_341], [((0, 3), 2), ((92, 0), 2)], (100, [(1, -1)]))]) (fk := []) (rk := (101, [])) (sp := 65536) (fuel := 3000) (by decide +kernel) (lk_d S_63 ml_11_98 (lk_d S_67 ml_11_174 (lk_d S_57 ml_11_112 (lk_d S_155 ml_11_277 lk_n)))) odX11_strange
def ag_512 : aAg := .inr (.inl [(nat_lit 95)])
def ag_513 : aAg := .inl [((.ofNat (nat_lit 1000000000)), (.ofNat (nat_lit 1000000000)), (nat_lit 1))]
def mdn_514 : List (Nat × Nat × Nat) := [((nat_lit 95), (nat_lit 0), (nat_lit 7))]
def lcn_515 : Nat × aAg := ((nat_lit 0), .inr (.inl [(nat_lit 95)]))
def lcn_516 : Nat × aAg := ((nat_lit 1), .inl [((.ofNat (nat_lit 1000000000)), (.ofNat (nat_lit 1000000000)), (nat_lit 1))])
set_option maxRecDepth 100000 in
theorem btJ7_fill_53178 : bTab oJ7_fill_53178 tJ7_fill_53178 := ⟨ofJ7_fill_53178, by decide +kernel⟩
def ct_157 : aCt := (mJ7_fill_53178, [ag_512, ag_513], ([], []), [pon_49], mdn_514, [], (nat_lit 0))
set_option maxRecDepth 100000 in
theorem S_157 : aSpec wd ct_157 := bChk_ok wx_ok btJ7_fill_53178 (nds := [((nat_lit 5), [lcn_515, lcn_516, lcn_411, lcn_108], [], [], [], (7, [(0, -1)]))]) (fk := []) (rk := (8, [])) (sp := 32) (fuel := 3000) (by decide +kernel) lk_n odJ7_fill_53178
def lcn_517 : Nat × aAg := ((nat_lit 3), .inl aTop)
def ct_158 : aCt := (mX6_dayOfLeaving, [ag_394, ag_170, ag_1, ag_1], ([], []), [pon_130], [], [], (nat_lit 0))
set_option maxRecDepth 100000 in
theorem S_158 : aSpec wd ct_158 := bChk_ok wx_ok btX6_dayOfLeaving (nds := [((nat_lit 16), [lcn_396, lcn_175, lcn_132, lcn_517, lcn_351, lcn_399], [], [], [], (4, [(3, -1)]))]) (fk := []) (rk := (5, [])) (sp := 65536) (fuel := 3000) (by decide +kernel) lk_n odX6_dayOfLeaving
def ag_518 : aAg := .inr (.inl [(nat_lit 9), (nat_lit 10), (nat_lit 11), (nat_lit 12), (nat_lit 13), (nat_lit 14), (nat_lit 15), (nat_lit 16), (nat_lit 17), (nat_lit 18), (nat_lit 19), (nat_lit 20)])
set_option maxRecDepth 100000 in
theorem btX6_goes : bTab oX6_goes tX6_goes := ⟨ofX6_goes, by decide +kernel⟩
def ct_159 : aCt := (mX6_goes, [ag_394, ag_170, ag_518, ag_125, ag_125], ([], []), [pon_37, pon_38], mdn_514, [], (nat_lit 1))
set_option maxRecDepth 100000 in
theorem S_159 : aSpec wd ct_159 := bChk_ok wx_ok btX6_goes (nds := []) (fk := []) (rk := (1, [])) (sp := 0) (fuel := 3000) (by decide +kernel) (lk_d S_158 ml_6_80 lk_n) odX6_goes
def ct_160 : aCt := (mX6_dayOfLeaving, [ag_394, ag_22, ag_1, ag_1], ([], []), [pon_130], [], [], (nat_lit 0))
set_option maxRecDepth 100000 in
theorem S_160 : aSpec wd ct_160 := bChk_ok wx_ok btX6_dayOfLeaving (nds := [((nat_lit 16), [lcn_396, lcn_167, lcn_132, lcn_517, lcn_351, lcn_399], [], [], [], (4, [(3, -1)]))]) (fk := []) (rk := (5, [])) (sp := 65536) (fuel := 3000) (by decide +kernel) lk_n odX6_dayOfLeaving
def ag_519 : aAg := .inl [((.negSucc (nat_lit 1)), (.negSucc (nat_lit 1)), (nat_lit 1)), ((.ofNat (nat_lit 1)), (.ofNat (nat_lit 1)), (nat_lit 1)), ((.ofNat (nat_lit 3)), (.ofNat (nat_lit 3)), (nat_lit 1))]
def lcn_520 : Nat × aAg := ((nat_lit 1), .inl [((.negSucc (nat_lit 1)), (.negSucc (nat_lit 1)), (nat_lit 1)), ((.ofNat (nat_lit 1)), (.ofNat (nat_lit 1)), (nat_lit 1))])
def ct_161 : aCt := (mX6_dayOfLeaving, [ag_394, ag_519, ag_1, ag_1], ([], []), [pon_130], [], [], (nat_lit 0))
set_option maxRecDepth 100000 in
theorem S_161 : aSpec wd ct_161 := bChk_ok wx_ok btX6_dayOfLeaving (nds := [((nat_lit 16), [lcn_396, lcn_520, lcn_132, lcn_517, lcn_351, lcn_399], [], [], [], (4, [(4, -1)]))]) (fk := []) (rk := (5, [])) (sp := 65536) (fuel := 3000) (by decide +kernel) lk_n odX6_dayOfLeaving
def ag_521 : aAg := .inl [((.negSucc (nat_lit 1)), (.negSucc (nat_lit 1)), (nat_lit 1)), ((.ofNat (nat_lit 1)), (.ofNat (nat_lit 3)), (nat_lit 1))]
def pon_522 : aPo := (some (.inl [((.ofNat (nat_lit 1)), (.ofNat (nat_lit 1)), (nat_lit 1))]), [none, some [((.negSucc (nat_lit 1)), (.negSucc (nat_lit 1)), (nat_lit 1)), ((.ofNat (nat_lit 1)), (.ofNat (nat_lit 3)), (nat_lit 1))], none, none, none], [], [])
def ct_162 : aCt := (mX6_goes, [ag_394, ag_521, ag_518, ag_125, ag_125], ([], []), [pon_37, pon_522], mdn_514, [], (nat_lit 1))
set_option maxRecDepth 100000 in
theorem S_162 : aSpec wd ct_162 := bChk_ok wx_ok btX6_goes (nds := []) (fk := []) (rk := (1, [])) (sp := 0) (fuel := 3000) (by decide +kernel) (lk_d S_160 ml_6_80 (lk_d S_161 ml_6_80 lk_n)) odX6_goes
def ag_523 : aAg := .inl [((.negSucc (nat_lit 1)), (.negSucc (nat_lit 1)), (nat_lit 1)), ((.ofNat (nat_lit 0)), (.ofNat (nat_lit 3)), (nat_lit 1))]
def lcn_524 : Nat × aAg := ((nat_lit 1), .inl [((.negSucc (nat_lit 1)), (.negSucc (nat_lit 1)), (nat_lit 1)), ((.ofNat (nat_lit 0)), (.ofNat (nat_lit 3)), (nat_lit 1))])
def lcn_525 : Nat × aAg := ((nat_lit 5), .inl [((.ofNat (nat_lit 0)), (.ofNat (nat_lit 1)), (nat_lit 1))])
def lcn_526 : Nat × aAg := ((nat_lit 4), .inl [((.ofNat (nat_lit 1)), (.ofNat (nat_lit 7)), (nat_lit 1))])
def lcn_527 : Nat × aAg := ((nat_lit 6), .inl [((.ofNat (nat_lit 0)), (.ofNat (nat_lit 6)), (nat_lit 1))])
def lcn_528 : Nat × aAg := ((nat_lit 7), .inl [((.ofNat (nat_lit 0)), (.ofNat (nat_lit 12)), (nat_lit 1))])
set_option maxRecDepth 100000 in
theorem btX6_findFirstDays : bTab oX6_findFirstDays tX6_findFirstDays := ⟨ofX6_findFirstDays, by decide +kernel⟩
def ct_163 : aCt := (mX6_findFirstDays, [ag_394, ag_523, ag_125, ag_1], ([], [((94, 0), 2)]), [pon_49], mdn_514, [], (nat_lit 2))
set_option maxRecDepth 100000 in
theorem S_163 : aSpec wd ct_163 := bChk_ok wx_ok btX6_findFirstDays (nds := [((nat_lit 39), [lcn_396, lcn_524, lcn_250, lcn_517, lcn_445, lcn_525, lcn_369], [], [], [((94, 0), 2)], (111, [(5, -14)])), ((nat_lit 57), [lcn_396, lcn_524, lcn_250, lcn_517, lcn_526, lcn_525, lcn_527, lcn_528], [], [], [((94, 0), 2)], (110, [(5, -14), (6, -1)]))]) (fk := []) (rk := (112, [])) (sp := 144115737831669760) (fuel := 3000) (by decide +kernel) (lk_d S_157 ml_6_38 (lk_d S_89 ml_6_64 (lk_d S_159 ml_6_70 (lk_d S_162 ml_6_70 lk_n)))) odX6_findFirstDays
set_option maxRecDepth 100000 in
theorem btX6_firstDayAt : bTab oX6_firstDayAt tX6_firstDayAt := ⟨ofX6_firstDayAt, by decide +kernel⟩
def ct_164 : aCt := (mX6_firstDayAt, [ag_394, ag_361, ag_125, ag_125, ag_345], ([sl_341], [((94, 0), 2)]), [pon_130, pon_52], mdn_514, [], (nat_lit 3))
set_option maxRecDepth 100000 in
theorem S_164 : aSpec wd ct_164 := bChk_ok wx_ok btX6_firstDayAt (nds := []) (fk := []) (rk := (1, [])) (sp := 0) (fuel := 3000) (by decide +kernel) (lk_d S_163 ml_6_84 lk_n) odX6_firstDayAt
def pon_529 : aPo := (some (.inl aTop), [none, some [((.ofNat (nat_lit 0)), (.ofNat (nat_lit 4)), (nat_lit 1))], some [((.ofNat (nat_lit 0)), (.ofNat (nat_lit 6)), (nat_lit 1))], some [((.ofNat (nat_lit 0)), (.ofNat (nat_lit 6)), (nat_lit 1))], some [((.ofNat (nat_lit 0)), (.ofNat (nat_lit 9999)), (nat_lit 1))]], [sl_301, sl_341, sl_334], [])
def pon_530 : aPo := (some (.inl [((.negSucc (nat_lit 0)), (.negSucc (nat_lit 0)), (nat_lit 1))]), [none, some aTop, none, none, none], [sl_389], [])
def mdn_531 : List (Nat × Nat × Nat) := [((nat_lit 0), (nat_lit 2), (nat_lit 3)), ((nat_lit 95), (nat_lit 0), (nat_lit 7))]
set_option maxRecDepth 100000 in
theorem btX11_arrival : bTab oX11_arrival tX11_arrival := ⟨ofX11_arrival, by decide +kernel⟩
def ct_165 : aCt := (mX11_arrival, [ag_0, ag_1, ag_1, ag_1, ag_1], ([], [((0, 3), 2), ((94, 0), 2)]), [pon_529, pon_530], mdn_531, [], (nat_lit 4))
set_option maxRecDepth 100000 in
theorem S_165 : aSpec wd ct_165 := bChk_ok wx_ok btX11_arrival (nds := []) (fk := []) (rk := (1, [])) (sp := 0) (fuel := 3000) (by decide +kernel) (lk_d S_6 ml_11_98 (lk_d S_63 ml_11_98 (lk_d S_164 ml_11_280 (lk_d S_86 ml_11_174 (lk_d S_62 ml_11_121 (lk_d S_67 ml_11_174 (lk_d S_95 ml_11_227 (lk_d S_57 ml_11_112 lk_n)))))))) odX11_arrival
def ct_166 : aCt := (mX6_firstDayAt, [ag_394, ag_361, ag_125, ag_125, ag_1], ([], [((94, 0), 2)]), [pon_130, pon_52], mdn_514, [], (nat_lit 3))
set_option maxRecDepth 100000 in
theorem S_166 : aSpec wd ct_166 := bChk_ok wx_ok btX6_firstDayAt (nds := []) (fk := []) (rk := (1, [])) (sp := 0) (fuel := 3000) (by decide +kernel) (lk_d S_163 ml_6_84 lk_n) odX6_firstDayAt
def sl_532 : (Nat × Nat) × aI := (((nat_lit 94), (nat_lit 4)), [((.ofNat (nat_lit 0)), (.ofNat (nat_lit 6)), (nat_lit 1))])
def pon_533 : aPo := (some (.inl aTop), [], [sl_532], [])
def mdn_534 : List (Nat × Nat × Nat) := [((nat_lit 92), (nat_lit 2), (nat_lit 4)), ((nat_lit 94), (nat_lit 4), (nat_lit 7)), ((nat_lit 95), (nat_lit 0), (nat_lit 7))]
set_option maxRecDepth 100000 in
theorem btX6_dayOfBringing : bTab oX6_dayOfBringing tX6_dayOfBringing := ⟨ofX6_dayOfBringing, by decide +kernel⟩
def ct_167 : aCt := (mX6_dayOfBringing, [ag_394, ag_217, ag_190], ([sl_324], [((92, 0), 2), ((94, 0), 2)]), [pon_533, pon_52], mdn_534, [], (nat_lit 4))
set_option maxRecDepth 100000 in
theorem S_167 : aSpec wd ct_167 := bChk_ok wx_ok btX6_dayOfBringing (nds := []) (fk := []) (rk := (1, [])) (sp := 0) (fuel := 3000) (by decide +kernel) (lk_d S_98 ml_6_96 (lk_d S_76 ml_6_115 (lk_d S_166 ml_6_136 (lk_d S_83 ml_6_122 lk_n)))) odX6_dayOfBringing
def ct_168 : aCt := (mX6_dayOfBringing, [ag_394, ag_361, ag_190], ([sl_322], [((92, 0), 2), ((94, 0), 2)]), [pon_533, pon_52], mdn_534, [], (nat_lit 4))
set_option maxRecDepth 100000 in
theorem S_168 : aSpec wd ct_168 := bChk_ok wx_ok btX6_dayOfBringing (nds := []) (fk := []) (rk := (1, [])) (sp := 0) (fuel := 3000) (by decide +kernel) (lk_d S_98 ml_6_96 (lk_d S_76 ml_6_115 (lk_d S_166 ml_6_136 (lk_d S_83 ml_6_122 lk_n)))) odX6_dayOfBringing
def ct_169 : aCt := (mX6_dayOfBringing, [ag_394, ag_402, ag_190], ([sl_320], [((92, 0), 2), ((94, 0), 2)]), [pon_533, pon_52], mdn_534, [], (nat_lit 4))
set_option maxRecDepth 100000 in
theorem S_169 : aSpec wd ct_169 := bChk_ok wx_ok btX6_dayOfBringing (nds := []) (fk := []) (rk := (1, [])) (sp := 0) (fuel := 3000) (by decide +kernel) (lk_d S_98 ml_6_96 (lk_d S_76 ml_6_115 (lk_d S_166 ml_6_136 (lk_d S_83 ml_6_122 lk_n)))) odX6_dayOfBringing
def ag_535 : aAg := .inl [((.ofNat (nat_lit 0)), (.ofNat (nat_lit 1)), (nat_lit 1))]
def ct_170 : aCt := (mX6_dayOfBringing, [ag_394, ag_535, ag_190], ([sl_318], [((92, 0), 2), ((94, 0), 2)]), [pon_533, pon_52], mdn_534, [], (nat_lit 4))
set_option maxRecDepth 100000 in
theorem S_170 : aSpec wd ct_170 := bChk_ok wx_ok btX6_dayOfBringing (nds := []) (fk := []) (rk := (1, [])) (sp := 0) (fuel := 3000) (by decide +kernel) (lk_d S_98 ml_6_96 (lk_d S_76 ml_6_115 (lk_d S_166 ml_6_136 (lk_d S_83 ml_6_122 lk_n)))) odX6_dayOfBringing
def ct_171 : aCt := (mX6_dayOfBringing, [ag_394, ag_170, ag_190], ([sl_316], [((92, 0), 2), ((94, 0), 2)]), [pon_533, pon_52], mdn_534, [], (nat_lit 4))
set_option maxRecDepth 100000 in
theorem S_171 : aSpec wd ct_171 := bChk_ok wx_ok btX6_dayOfBringing (nds := []) (fk := []) (rk := (1, [])) (sp := 0) (fuel := 3000) (by decide +kernel) (lk_d S_98 ml_6_96 (lk_d S_76 ml_6_115 (lk_d S_166 ml_6_136 (lk_d S_83 ml_6_122 lk_n)))) odX6_dayOfBringing
def pon_536 : aPo := (some (.inl aTop), [none, some [((.ofNat (nat_lit 0)), (.ofNat (nat_lit 4)), (nat_lit 1))], some [((.ofNat (nat_lit 0)), (.ofNat (nat_lit 7)), (nat_lit 1))]], [sl_301, sl_334, sl_338], [])
def mdn_537 : List (Nat × Nat × Nat) := [((nat_lit 0), (nat_lit 2), (nat_lit 3)), ((nat_lit 92), (nat_lit 2), (nat_lit 4)), ((nat_lit 94), (nat_lit 4), (nat_lit 7)), ((nat_lit 95), (nat_lit 0), (nat_lit 7))]
set_option maxRecDepth 100000 in
theorem btX11_brings : bTab oX11_brings tX11_brings := ⟨ofX11_brings, by decide +kernel⟩
def ct_172 : aCt := (mX11_brings, [ag_0, ag_1, ag_1], ([], [((0, 3), 2), ((92, 0), 2), ((94, 0), 2)]), [pon_536, pon_336], mdn_537, [], (nat_lit 5))
set_option maxRecDepth 100000 in
theorem S_172 : aSpec wd ct_172 := bChk_ok wx_ok btX11_brings (nds := []) (fk := []) (rk := (1, [])) (sp := 0) (fuel := 3000) (by decide +kernel) (lk_d S_63 ml_11_98 (lk_d S_171 ml_11_283 (lk_d S_170 ml_11_283 (lk_d S_169 ml_11_283 (lk_d S_168 ml_11_283 (lk_d S_167 ml_11_283 (lk_d S_62 ml_11_121 (lk_d S_65 ml_11_147 (lk_d S_57 ml_11_112 lk_n))))))))) odX11_brings
end Pk2
section Pk3
def pon_538 : aPo := (some (.inl [((.negSucc (nat_lit 1)), (.negSucc (nat_lit 1)), (nat_lit 1)), ((.ofNat (nat_lit 0)), (.ofNat (nat_lit 4)), (nat_lit 1))]), [], [sl_334], [])
def pon_539 : aPo := (some (.inl [((.negSucc (nat_lit 1)), (.negSucc (nat_lit 1)), (nat_lit 1))]), [], [sl_314], [])
def lcn_540 : Nat × aAg := ((nat_lit 1), .inl [((.ofNat (nat_lit 0)), (.ofNat (nat_lit 7)), (nat_lit 1))])
def lcn_541 : Nat × aAg := ((nat_lit 2), .inl [((.negSucc (nat_lit 1)), (.negSucc (nat_lit 1)), (nat_lit 1))])
def lcn_542 : Nat × aAg := ((nat_lit 2), .inl [((.negSucc (nat_lit 1)), (.negSucc (nat_lit 1)), (nat_lit 1)), ((.ofNat (nat_lit 0)), (.ofNat (nat_lit 4)), (nat_lit 1))])
def lcn_543 : Nat × aAg := ((nat_lit 3), .inl [((.negSucc (nat_lit 2147483647)), (.negSucc (nat_lit 2)), (nat_lit 1)), ((.negSucc (nat_lit 0)), (.ofNat (nat_lit 2147483647)), (nat_lit 1))])
def lcn_544 : Nat × aAg := ((nat_lit 4), .inl [((.ofNat (nat_lit 1)), (.ofNat (nat_lit 5)), (nat_lit 1))])
def lcn_545 : Nat × aAg := ((nat_lit 5), .inl aTop)
def lcn_546 : Nat × aAg := ((nat_lit 2), .inl [((.negSucc (nat_lit 1)), (.negSucc (nat_lit 1)), (nat_lit 1)), ((.ofNat (nat_lit 0)), (.ofNat (nat_lit 3)), (nat_lit 1))])
def lcn_547 : Nat × aAg := ((nat_lit 4), .inl [((.ofNat (nat_lit 1)), (.ofNat (nat_lit 4)), (nat_lit 1))])
def lcn_548 : Nat × aAg := ((nat_lit 2), .inl [((.negSucc (nat_lit 1)), (.negSucc (nat_lit 1)), (nat_lit 1)), ((.ofNat (nat_lit 0)), (.ofNat (nat_lit 2)), (nat_lit 1))])
def lcn_549 : Nat × aAg := ((nat_lit 4), .inl [((.ofNat (nat_lit 1)), (.ofNat (nat_lit 3)), (nat_lit 1))])
def lcn_550 : Nat × aAg := ((nat_lit 2), .inl [((.negSucc (nat_lit 1)), (.negSucc (nat_lit 1)), (nat_lit 1)), ((.ofNat (nat_lit 0)), (.ofNat (nat_lit 1)), (nat_lit 1))])
def lcn_551 : Nat × aAg := ((nat_lit 4), .inl [((.ofNat (nat_lit 1)), (.ofNat (nat_lit 2)), (nat_lit 1))])
def lcn_552 : Nat × aAg := ((nat_lit 2), .inl [((.negSucc (nat_lit 1)), (.negSucc (nat_lit 1)), (nat_lit 1)), ((.ofNat (nat_lit 0)), (.ofNat (nat_lit 0)), (nat_lit 1))])
set_option maxRecDepth 100000 in
theorem btX6_soonestBringer : bTab oX6_soonestBringer tX6_soonestBringer := ⟨ofX6_soonestBringer, by decide +kernel⟩
def ct_173 : aCt := (mX6_soonestBringer, [ag_394, ag_190], ([], [((92, 0), 2), ((94, 0), 2)]), [pon_538, pon_539], mdn_534, [], (nat_lit 5))
set_option maxRecDepth 100000 in
theorem S_173 : aSpec wd ct_173 := bChk_ok wx_ok btX6_soonestBringer (nds := [((nat_lit 8), [lcn_396, lcn_540, lcn_541, lcn_101, lcn_421], [], [], [((92, 0), 2), ((94, 0), 2)], (8, [])), ((nat_lit 8), [lcn_396, lcn_540, lcn_542, lcn_543, lcn_544, lcn_545], [], [sl_324], [((92, 0), 2), ((94, 0), 2)], (5, [(3, -1)])), ((nat_lit 8), [lcn_396, lcn_540, lcn_546, lcn_543, lcn_547, lcn_545], [], [sl_322], [((92, 0), 2), ((94, 0), 2)], (4, [(3, -1)])), ((nat_lit 8), [lcn_396, lcn_540, lcn_548, lcn_543, lcn_549, lcn_545], [], [sl_320], [((92, 0), 2), ((94, 0), 2)], (3, [(3, -1)])), ((nat_lit 8), [lcn_396, lcn_540, lcn_550, lcn_543, lcn_551, lcn_545], [], [sl_318], [((92, 0), 2), ((94, 0), 2)], (4, [(1, -2), (3, -1)])), ((nat_lit 8), [lcn_396, lcn_540, lcn_552, lcn_543, lcn_423, lcn_545], [], [sl_316], [((92, 0), 2), ((94, 0), 2)], (0, []))]) (fk := [17]) (rk := (9, [])) (sp := 256) (fuel := 3000) (by decide +kernel) (lk_d S_171 ml_6_155 (lk_d S_170 ml_6_155 (lk_d S_169 ml_6_155 (lk_d S_168 ml_6_155 (lk_d S_167 ml_6_155 lk_n))))) odX6_soonestBringer
set_option maxRecDepth 100000 in
theorem btX11_soonest : bTab oX11_soonest tX11_soonest := ⟨ofX11_soonest, by decide +kernel⟩
def ct_174 : aCt := (mX11_soonest, [ag_0, ag_1], ([], [((0, 3), 2), ((92, 0), 2), ((94, 0), 2)]), [pon_371, pon_333], mdn_537, [], (nat_lit 6))
set_option maxRecDepth 100000 in
theorem S_174 : aSpec wd ct_174 := bChk_ok wx_ok btX11_soonest (nds := []) (fk := []) (rk := (1, [])) (sp := 0) (fuel := 3000) (by decide +kernel) (lk_d S_63 ml_11_98 (lk_d S_173 ml_11_286 (lk_d S_65 ml_11_147 (lk_d S_57 ml_11_112 lk_n)))) odX11_soonest
def ag_553 : aAg := .inl [((.negSucc (nat_lit 1)), (.negSucc (nat_lit 1)), (nat_lit 1)), ((.ofNat (nat_lit 0)), (.ofNat (nat_lit 4)), (nat_lit 1))]
def lcn_554 : Nat × aAg := ((nat_lit 3), .inl [((.negSucc (nat_lit 1)), (.negSucc (nat_lit 1)), (nat_lit 1))])
def lcn_555 : Nat × aAg := ((nat_lit 3), .inl [((.negSucc (nat_lit 1)), (.negSucc (nat_lit 1)), (nat_lit 1)), ((.ofNat (nat_lit 0)), (.ofNat (nat_lit 4)), (nat_lit 1))])
def lcn_556 : Nat × aAg := ((nat_lit 3), .inl [((.negSucc (nat_lit 1)), (.negSucc (nat_lit 1)), (nat_lit 1)), ((.ofNat (nat_lit 0)), (.ofNat (nat_lit 3)), (nat_lit 1))])
def lcn_557 : Nat × aAg := ((nat_lit 3), .inl [((.negSucc (nat_lit 1)), (.negSucc (nat_lit 1)), (nat_lit 1)), ((.ofNat (nat_lit 0)), (.ofNat (nat_lit 2)), (nat_lit 1))])
def lcn_558 : Nat × aAg := ((nat_lit 3), .inl [((.negSucc (nat_lit 1)), (.negSucc (nat_lit 1)), (nat_lit 1)), ((.ofNat (nat_lit 0)), (.ofNat (nat_lit 1)), (nat_lit 1))])
def lcn_559 : Nat × aAg := ((nat_lit 3), .inl [((.negSucc (nat_lit 1)), (.negSucc (nat_lit 1)), (nat_lit 1)), ((.ofNat (nat_lit 0)), (.ofNat (nat_lit 0)), (nat_lit 1))])
set_option maxRecDepth 100000 in
theorem btX6_surestBringer : bTab oX6_surestBringer tX6_surestBringer := ⟨ofX6_surestBringer, by decide +kernel⟩
def ct_175 : aCt := (mX6_surestBringer, [ag_394, ag_190, ag_553], ([], [((92, 0), 2), ((94, 0), 2)]), [pon_538, pon_539], mdn_534, [], (nat_lit 5))
set_option maxRecDepth 100000 in
theorem S_175 : aSpec wd ct_175 := bChk_ok wx_ok btX6_surestBringer (nds := [((nat_lit 6), [lcn_396, lcn_540, lcn_542, lcn_554, lcn_421], [], [], [((92, 0), 2), ((94, 0), 2)], (8, [])), ((nat_lit 6), [lcn_396, lcn_540, lcn_542, lcn_555, lcn_544, lcn_525], [], [sl_324], [((92, 0), 2), ((94, 0), 2)], (5, [(3, -1)])), ((nat_lit 6), [lcn_396, lcn_540, lcn_542, lcn_556, lcn_547, lcn_525], [], [sl_322], [((92, 0), 2), ((94, 0), 2)], (4, [(3, -1)])), ((nat_lit 6), [lcn_396, lcn_540, lcn_542, lcn_557, lcn_549, lcn_525], [], [sl_320], [((92, 0), 2), ((94, 0), 2)], (3, [(3, -1)])), ((nat_lit 6), [lcn_396, lcn_540, lcn_542, lcn_558, lcn_551, lcn_525], [], [sl_318], [((92, 0), 2), ((94, 0), 2)], (4, [(2, -2), (3, -1)])), ((nat_lit 6), [lcn_396, lcn_540, lcn_542, lcn_559, lcn_423, lcn_470], [], [sl_316], [((92, 0), 2), ((94, 0), 2)], (0, []))]) (fk := [15]) (rk := (9, [])) (sp := 64) (fuel := 3000) (by decide +kernel) (lk_d S_171 ml_6_155 (lk_d S_170 ml_6_155 (lk_d S_169 ml_6_155 (lk_d S_168 ml_6_155 (lk_d S_167 ml_6_155 lk_n))))) odX6_surestBringer
set_option maxRecDepth 100000 in
theorem btX11_surest : bTab oX11_surest tX11_surest := ⟨ofX11_surest, by decide +kernel⟩
def ct_176 : aCt := (mX11_surest, [ag_0, ag_1], ([], [((0, 3), 2), ((92, 0), 2), ((94, 0), 2)]), [pon_371, pon_333], mdn_537, [], (nat_lit 6))
set_option maxRecDepth 100000 in
theorem S_176 : aSpec wd ct_176 := bChk_ok wx_ok btX11_surest (nds := []) (fk := []) (rk := (1, [])) (sp := 0) (fuel := 3000) (by decide +kernel) (lk_d S_63 ml_11_98 (lk_d S_175 ml_11_289 (lk_d S_65 ml_11_147 (lk_d S_57 ml_11_112 lk_n)))) odX11_surest
def ag_560 : aAg := .inl [((.ofNat (nat_lit 0)), (.ofNat (nat_lit 99999)), (nat_lit 1))]
def pon_561 : aPo := (some (.inl [((.ofNat (nat_lit 0)), (.ofNat (nat_lit 31)), (nat_lit 1))]), [], [sl_334], [])
def pon_562 : aPo := (some (.inl [((.ofNat (nat_lit 0)), (.ofNat (nat_lit 0)), (nat_lit 1))]), [], [sl_314], [])
def lcn_563 : Nat × aAg := ((nat_lit 2), .inl [((.ofNat (nat_lit 0)), (.ofNat (nat_lit 99999)), (nat_lit 1))])
def lcn_564 : Nat × aAg := ((nat_lit 3), .inl [((.ofNat (nat_lit 0)), (.ofNat (nat_lit 31)), (nat_lit 1))])
def lcn_565 : Nat × aAg := ((nat_lit 3), .inl [((.ofNat (nat_lit 0)), (.ofNat (nat_lit 15)), (nat_lit 1))])
set_option maxRecDepth 100000 in
theorem btX6_bringersBy : bTab oX6_bringersBy tX6_bringersBy := ⟨ofX6_bringersBy, by decide +kernel⟩
def ct_177 : aCt := (mX6_bringersBy, [ag_394, ag_190, ag_560], ([], [((92, 0), 2), ((94, 0), 2)]), [pon_561, pon_562], mdn_534, [], (nat_lit 5))
set_option maxRecDepth 100000 in
theorem S_177 : aSpec wd ct_177 := bChk_ok wx_ok btX6_bringersBy (nds := [((nat_lit 5), [lcn_396, lcn_540, lcn_563, lcn_101, lcn_421], [], [], [((92, 0), 2), ((94, 0), 2)], (5, [])), ((nat_lit 5), [lcn_396, lcn_540, lcn_563, lcn_564, lcn_544, lcn_545], [], [sl_324], [((92, 0), 2), ((94, 0), 2)], (5, [(3, -1)])), ((nat_lit 5), [lcn_396, lcn_540, lcn_563, lcn_565, lcn_547, lcn_545], [], [sl_322], [((92, 0), 2), ((94, 0), 2)], (4, [(3, -1)])), ((nat_lit 5), [lcn_396, lcn_540, lcn_563, lcn_438, lcn_549, lcn_545], [], [sl_320], [((92, 0), 2), ((94, 0), 2)], (3, [(3, -1)])), ((nat_lit 5), [lcn_396, lcn_540, lcn_563, lcn_427, lcn_551, lcn_545], [], [sl_318], [((92, 0), 2), ((94, 0), 2)], (2, [(3, -1)])), ((nat_lit 5), [lcn_396, lcn_540, lcn_563, lcn_422, lcn_423, lcn_545], [], [sl_316], [((92, 0), 2), ((94, 0), 2)], (0, []))]) (fk := [14]) (rk := (6, [])) (sp := 32) (fuel := 3000) (by decide +kernel) (lk_d S_171 ml_6_155 (lk_d S_170 ml_6_155 (lk_d S_169 ml_6_155 (lk_d S_168 ml_6_155 (lk_d S_167 ml_6_155 lk_n))))) odX6_bringersBy
def pon_566 : aPo := (some (.inl aTop), [none, some [((.ofNat (nat_lit 0)), (.ofNat (nat_lit 7)), (nat_lit 1))], some [((.ofNat (nat_lit 0)), (.ofNat (nat_lit 99999)), (nat_lit 1))]], [sl_301, sl_338], [])
set_option maxRecDepth 100000 in
theorem btX11_by : bTab oX11_by tX11_by := ⟨ofX11_by, by decide +kernel⟩
def ct_178 : aCt := (mX11_by, [ag_0, ag_1, ag_1], ([], [((0, 3), 2), ((92, 0), 2), ((94, 0), 2)]), [pon_566, pon_390], mdn_537, [], (nat_lit 6))
set_option maxRecDepth 100000 in
theorem S_178 : aSpec wd ct_178 := bChk_ok wx_ok btX11_by (nds := []) (fk := []) (rk := (1, [])) (sp := 0) (fuel := 3000) (by decide +kernel) (lk_d S_6 ml_11_98 (lk_d S_63 ml_11_98 (lk_d S_177 ml_11_292 (lk_d S_65 ml_11_147 (lk_d S_92 ml_11_227 (lk_d S_57 ml_11_112 lk_n)))))) odX11_by
def sl_567 : (Nat × Nat) × aI := (((nat_lit 0), (nat_lit 2)), [((.ofNat (nat_lit 6)), (.ofNat (nat_lit 6)), (nat_lit 1))])
def pon_568 : aPo := (some (.inl [((.negSucc (nat_lit 0)), (.negSucc (nat_lit 0)), (nat_lit 1))]), [], [sl_567], [])
def ct_179 : aCt := (mX11_refused, [ag_0, ag_153], ([], []), [pon_568], mdn_25, [], (nat_lit 0))
set_option maxRecDepth 100000 in
theorem S_179 : aSpec wd ct_179 := bChk_ok wx_ok btX11_refused (nds := []) (fk := []) (rk := (1, [])) (sp := 0) (fuel := 3000) (by decide +kernel) lk_n odX11_refused
def pon_569 : aPo := (some (.inl [((.ofNat (nat_lit 1)), (.ofNat (nat_lit 2147483647)), (nat_lit 1))]), [], [], [])
def lcn_570 : Nat × aAg := ((nat_lit 0), .inl [((.ofNat (nat_lit 100)), (.ofNat (nat_lit 100)), (nat_lit 1))])
def lcn_571 : Nat × aAg := ((nat_lit 2), .inl [((.negSucc (nat_lit 2147483647)), (.negSucc (nat_lit 0)), (nat_lit 1)), ((.ofNat (nat_lit 1)), (.ofNat (nat_lit 2147483647)), (nat_lit 1))])
def lcn_572 : Nat × aAg := ((nat_lit 4), .inl [((.ofNat (nat_lit 0)), (.ofNat (nat_lit 47)), (nat_lit 1))])
set_option maxRecDepth 100000 in
theorem btX11_commonDivisor : bTab oX11_commonDivisor tX11_commonDivisor := ⟨ofX11_commonDivisor, by decide +kernel⟩
def ct_180 : aCt := (mX11_commonDivisor, [ag_183, ag_1], ([], []), [pon_569], [], [], (nat_lit 1))
set_option maxRecDepth 100000 in
theorem S_180 : aSpec wd ct_180 := bChk_ok wx_ok btX11_commonDivisor (nds := [((nat_lit 7), [lcn_570, lcn_271, lcn_571, lcn_517, lcn_572], [], [], [], (47, [(3, -1)]))]) (fk := []) (rk := (48, [])) (sp := 128) (fuel := 3000) (by decide +kernel) lk_n odX11_commonDivisor
def ag_573 : aAg := .inl [((.ofNat (nat_lit 10000)), (.ofNat (nat_lit 10000)), (nat_lit 1))]
def lcn_574 : Nat × aAg := ((nat_lit 0), .inl [((.ofNat (nat_lit 10000)), (.ofNat (nat_lit 10000)), (nat_lit 1))])
def ct_181 : aCt := (mX11_commonDivisor, [ag_573, ag_1], ([], []), [pon_569], [], [], (nat_lit 1))
set_option maxRecDepth 100000 in
theorem S_181 : aSpec wd ct_181 := bChk_ok wx_ok btX11_commonDivisor (nds := [((nat_lit 7), [lcn_574, lcn_271, lcn_571, lcn_517, lcn_572], [], [], [], (47, [(3, -1)]))]) (fk := []) (rk := (48, [])) (sp := 128) (fuel := 3000) (by decide +kernel) lk_n odX11_commonDivisor
def sl_575 : (Nat × Nat) × aI := (((nat_lit 0), (nat_lit 2)), [((.ofNat (nat_lit 0)), (.ofNat (nat_lit 1)), (nat_lit 1)), ((.ofNat (nat_lit 6)), (.ofNat (nat_lit 6)), (nat_lit 1))])
def pon_576 : aPo := (some (.inr ()), [], [sl_575], [])
set_option maxRecDepth 100000 in
theorem btX11_registered : bTab oX11_registered tX11_registered := ⟨ofX11_registered, by decide +kernel⟩
def ct_182 : aCt := (mX11_registered, [ag_0, ag_1, ag_535], ([], [((0, 3), 2), ((92, 0), 2), ((94, 0), 2)]), [pon_576], mdn_537, [], (nat_lit 6))
set_option maxRecDepth 100000 in
theorem S_182 : aSpec wd ct_182 := bChk_ok wx_ok btX11_registered (nds := []) (fk := []) (rk := (1, [])) (sp := 0) (fuel := 3000) (by decide +kernel) (lk_d S_179 ml_11_98 (lk_d S_63 ml_11_98 (lk_d S_175 ml_11_289 (lk_d S_65 ml_11_147 (lk_d S_180 ml_11_295 (lk_d S_57 ml_11_112 (lk_d S_181 ml_11_295 lk_n))))))) odX11_registered
def ag_577 : aAg := .inr (.inl [(nat_lit 103)])
def mdn_578 : List (Nat × Nat × Nat) := [((nat_lit 103), (nat_lit 0), (nat_lit 288))]
def lcn_579 : Nat × aAg := ((nat_lit 0), .inr (.inl [(nat_lit 103)]))
def lcn_580 : Nat × aAg := ((nat_lit 2), .inl [((.ofNat (nat_lit 0)), (.ofNat (nat_lit 363)), (nat_lit 1))])
def lcn_581 : Nat × aAg := ((nat_lit 3), .inl [((.ofNat (nat_lit 288)), (.ofNat (nat_lit 288)), (nat_lit 1))])
def ct_183 : aCt := (mJ7_fill_53178, [ag_577, ag_170], ([], []), [pon_49], mdn_578, [], (nat_lit 0))
set_option maxRecDepth 100000 in
theorem S_183 : aSpec wd ct_183 := bChk_ok wx_ok btJ7_fill_53178 (nds := [((nat_lit 5), [lcn_579, lcn_175, lcn_580, lcn_581], [], [], [], (363, [(0, -1)]))]) (fk := []) (rk := (364, [])) (sp := 32) (fuel := 3000) (by decide +kernel) lk_n odJ7_fill_53178
def ag_582 : aAg := .inr (.inl [(nat_lit 100)])
def mdn_583 : List (Nat × Nat × Nat) := [((nat_lit 100), (nat_lit 2), (nat_lit 4))]
def lcn_584 : Nat × aAg := ((nat_lit 0), .inr (.inl [(nat_lit 100)]))
def sl_585 : (Nat × Nat) × aI := (((nat_lit 100), (nat_lit 2)), [((.ofNat (nat_lit 0)), (.ofNat (nat_lit 0)), (nat_lit 1))])
def sl_586 : (Nat × Nat) × aI := (((nat_lit 100), (nat_lit 3)), [((.ofNat (nat_lit 0)), (.ofNat (nat_lit 0)), (nat_lit 1))])
set_option maxRecDepth 100000 in
theorem btX1_choose : bTab oX1_choose tX1_choose := ⟨ofX1_choose, by decide +kernel⟩
def ct_184 : aCt := (mX1_choose, [ag_582, ag_170, ag_410], ([], []), [pon_49], mdn_583, [], (nat_lit 0))
set_option maxRecDepth 100000 in
theorem S_184 : aSpec wd ct_184 := bChk_ok wx_ok btX1_choose (nds := [((nat_lit 15), [lcn_584, lcn_175, lcn_293, lcn_101, lcn_421], [], [sl_585, sl_586], [], (0, []))]) (fk := []) (rk := (1, [])) (sp := 32768) (fuel := 3000) (by decide +kernel) lk_n odX1_choose
def mdn_587 : List (Nat × Nat × Nat) := [((nat_lit 100), (nat_lit 2), (nat_lit 4)), ((nat_lit 103), (nat_lit 0), (nat_lit 288))]
def lcn_588 : Nat × aAg := ((nat_lit 3), .inl [((.negSucc (nat_lit 0)), (.negSucc (nat_lit 0)), (nat_lit 1))])
set_option maxRecDepth 100000 in
theorem btX1_solve : bTab oX1_solve tX1_solve := ⟨ofX1_solve, by decide +kernel⟩
def ct_185 : aCt := (mX1_solve, [ag_582, ag_170, ag_410], ([], []), [pon_49], mdn_587, [], (nat_lit 1))
set_option maxRecDepth 100000 in
theorem S_185 : aSpec wd ct_185 := bChk_ok wx_ok btX1_solve (nds := [((nat_lit 12), [lcn_584, lcn_175, lcn_293, lcn_588], [], [], [], (0, []))]) (fk := []) (rk := (1, [])) (sp := 4096) (fuel := 3000) (by decide +kernel) (lk_d S_183 ml_1_28 (lk_d S_184 ml_1_44 lk_n)) odX1_solve
def lcn_589 : Nat × aAg := ((nat_lit 2), .inl [((.ofNat (nat_lit 0)), (.ofNat (nat_lit 0)), (nat_lit 1))])
set_option maxRecDepth 100000 in
theorem btX1_firstBest : bTab oX1_firstBest tX1_firstBest := ⟨ofX1_firstBest, by decide +kernel⟩
def ct_186 : aCt := (mX1_firstBest, [ag_582, ag_190, ag_170, ag_170], ([], []), [pon_52], [], [], (nat_lit 0))
set_option maxRecDepth 100000 in
theorem S_186 : aSpec wd ct_186 := bChk_ok wx_ok btX1_firstBest (nds := [((nat_lit 3), [lcn_584, lcn_540, lcn_589, lcn_101, lcn_421], [], [], [], (0, []))]) (fk := []) (rk := (1, [])) (sp := 8) (fuel := 3000) (by decide +kernel) lk_n odX1_firstBest
def ag_590 : aAg := .inl [((.ofNat (nat_lit 1)), (.ofNat (nat_lit 8)), (nat_lit 1))]
def mdn_591 : List (Nat × Nat × Nat) := [((nat_lit 100), (nat_lit 2), (nat_lit 4)), ((nat_lit 102), (nat_lit 0), (nat_lit 8))]
def lcn_592 : Nat × aAg := ((nat_lit 1), .inl [((.ofNat (nat_lit 1)), (.ofNat (nat_lit 8)), (nat_lit 1))])
def lcn_593 : Nat × aAg := ((nat_lit 4), .inl [((.ofNat (nat_lit 0)), (.ofNat (nat_lit 8)), (nat_lit 1))])
def ct_187 : aCt := (mX1_choose, [ag_582, ag_590, ag_170], ([], []), [pon_49], mdn_591, [], (nat_lit 1))
set_option maxRecDepth 100000 in
theorem S_187 : aSpec wd ct_187 := bChk_ok wx_ok btX1_choose (nds := [((nat_lit 15), [lcn_584, lcn_592, lcn_589, lcn_101, lcn_593], [], [sl_585, sl_586], [], (8, [(1, -1)]))]) (fk := []) (rk := (9, [])) (sp := 32768) (fuel := 3000) (by decide +kernel) (lk_d S_186 ml_1_49 lk_n) odX1_choose
def mdn_594 : List (Nat × Nat × Nat) := [((nat_lit 100), (nat_lit 2), (nat_lit 4)), ((nat_lit 102), (nat_lit 0), (nat_lit 8)), ((nat_lit 103), (nat_lit 0), (nat_lit 288))]
def lcn_595 : Nat × aAg := ((nat_lit 3), .inl [((.negSucc (nat_lit 0)), (.ofNat (nat_lit 7)), (nat_lit 1))])
def lcn_596 : Nat × aAg := ((nat_lit 6), .inl [((.ofNat (nat_lit 0)), (.ofNat (nat_lit 0)), (nat_lit 1))])
def ct_188 : aCt := (mX1_solve, [ag_582, ag_590, ag_170], ([], []), [pon_49], mdn_594, [], (nat_lit 2))
set_option maxRecDepth 100000 in
theorem S_188 : aSpec wd ct_188 := bChk_ok wx_ok btX1_solve (nds := [((nat_lit 12), [lcn_584, lcn_592, lcn_589, lcn_595], [], [], [], (9, [(1, 5)])), ((nat_lit 19), [lcn_584, lcn_592, lcn_589, lcn_438, lcn_451], [], [], [], (8, [(1, 5), (2, -2)])), ((nat_lit 46), [lcn_584, lcn_592, lcn_589, lcn_438, lcn_421, lcn_545, lcn_596], [], [], [], (7, [(1, 5)]))]) (fk := []) (rk := (45, [])) (sp := 70368744706048) (fuel := 3000) (by decide +kernel) (lk_d S_183 ml_1_28 (lk_d S_187 ml_1_44 lk_n)) odX1_solve
set_option maxRecDepth 100000 in
theorem btX1_worth : bTab oX1_worth tX1_worth := ⟨ofX1_worth, by decide +kernel⟩
def ct_189 : aCt := (mX1_worth, [ag_582, ag_190, ag_170, ag_535], ([], []), [pon_130, pon_52], [], [], (nat_lit 0))
set_option maxRecDepth 100000 in
theorem S_189 : aSpec wd ct_189 := bChk_ok wx_ok btX1_worth (nds := []) (fk := []) (rk := (1, [])) (sp := 0) (fuel := 3000) (by decide +kernel) lk_n odX1_worth
def ct_190 : aCt := (mX1_firstBest, [ag_582, ag_190, ag_53, ag_535], ([], []), [pon_52, pon_37], [], [], (nat_lit 1))
set_option maxRecDepth 100000 in
theorem S_190 : aSpec wd ct_190 := bChk_ok wx_ok btX1_firstBest (nds := [((nat_lit 3), [lcn_584, lcn_540, lcn_444, lcn_422, lcn_451], [], [], [], (1, [(2, -1)]))]) (fk := []) (rk := (2, [])) (sp := 8) (fuel := 3000) (by decide +kernel) (lk_d S_189 ml_1_34 lk_n) odX1_firstBest
def ct_191 : aCt := (mX1_choose, [ag_582, ag_590, ag_53], ([], []), [pon_49], mdn_591, [], (nat_lit 2))
set_option maxRecDepth 100000 in
theorem S_191 : aSpec wd ct_191 := bChk_ok wx_ok btX1_choose (nds := [((nat_lit 15), [lcn_584, lcn_592, lcn_444, lcn_422, lcn_593], [], [], [], (8, [(2, -1)]))]) (fk := []) (rk := (9, [])) (sp := 32768) (fuel := 3000) (by decide +kernel) (lk_d S_190 ml_1_49 lk_n) odX1_choose
def ct_192 : aCt := (mX1_solve, [ag_582, ag_590, ag_53], ([], []), [pon_49], mdn_594, [], (nat_lit 3))
set_option maxRecDepth 100000 in
theorem S_192 : aSpec wd ct_192 := bChk_ok wx_ok btX1_solve (nds := [((nat_lit 12), [lcn_584, lcn_592, lcn_444, lcn_595], [], [], [], (19, [(1, 10)])), ((nat_lit 19), [lcn_584, lcn_592, lcn_444, lcn_438, lcn_450], [], [], [], (18, [(1, 10), (2, -3)])), ((nat_lit 46), [lcn_584, lcn_592, lcn_444, lcn_438, lcn_451, lcn_545, lcn_473], [], [], [], (17, [(1, 10), (2, -3), (4, -1)]))]) (fk := []) (rk := (90, [])) (sp := 70368744706048) (fuel := 3000) (by decide +kernel) (lk_d S_183 ml_1_28 (lk_d S_191 ml_1_44 (lk_d S_189 ml_1_34 lk_n))) odX1_solve
def ct_193 : aCt := (mX1_worth, [ag_582, ag_190, ag_535, ag_361], ([], []), [pon_130, pon_52], [], [], (nat_lit 0))
set_option maxRecDepth 100000 in
theorem S_193 : aSpec wd ct_193 := bChk_ok wx_ok btX1_worth (nds := []) (fk := []) (rk := (1, [])) (sp := 0) (fuel := 3000) (by decide +kernel) lk_n odX1_worth
def lcn_597 : Nat × aAg := ((nat_lit 2), .inl [((.ofNat (nat_lit 2)), (.ofNat (nat_lit 2)), (nat_lit 1))])
def ct_194 : aCt := (mX1_firstBest, [ag_582, ag_190, ag_22, ag_361], ([], []), [pon_453, pon_52], [], [], (nat_lit 1))
set_option maxRecDepth 100000 in
theorem S_194 : aSpec wd ct_194 := bChk_ok wx_ok btX1_firstBest (nds := [((nat_lit 3), [lcn_584, lcn_540, lcn_597, lcn_427, lcn_450], [], [], [], (2, [(2, -1)]))]) (fk := []) (rk := (3, [])) (sp := 8) (fuel := 3000) (by decide +kernel) (lk_d S_193 ml_1_34 lk_n) odX1_firstBest
def ct_195 : aCt := (mX1_choose, [ag_582, ag_590, ag_22], ([], []), [pon_49], mdn_591, [], (nat_lit 2))
set_option maxRecDepth 100000 in
theorem S_195 : aSpec wd ct_195 := bChk_ok wx_ok btX1_choose (nds := [((nat_lit 15), [lcn_584, lcn_592, lcn_597, lcn_427, lcn_593], [], [], [], (8, [(2, -1)]))]) (fk := []) (rk := (9, [])) (sp := 32768) (fuel := 3000) (by decide +kernel) (lk_d S_194 ml_1_49 lk_n) odX1_choose
def lcn_598 : Nat × aAg := ((nat_lit 6), .inl [((.ofNat (nat_lit 0)), (.ofNat (nat_lit 2)), (nat_lit 1))])
def ct_196 : aCt := (mX1_solve, [ag_582, ag_590, ag_22], ([], []), [pon_49], mdn_594, [], (nat_lit 3))
set_option maxRecDepth 100000 in
theorem S_196 : aSpec wd ct_196 := bChk_ok wx_ok btX1_solve (nds := [((nat_lit 12), [lcn_584, lcn_592, lcn_597, lcn_595], [], [], [], (41, [(1, 21)])), ((nat_lit 19), [lcn_584, lcn_592, lcn_597, lcn_438, lcn_448], [], [], [], (40, [(1, 21), (2, -4)])), ((nat_lit 46), [lcn_584, lcn_592, lcn_597, lcn_438, lcn_449, lcn_545, lcn_598], [], [], [], (39, [(1, 21), (2, -4), (4, -1)]))]) (fk := []) (rk := (189, [])) (sp := 70368744706048) (fuel := 3000) (by decide +kernel) (lk_d S_183 ml_1_28 (lk_d S_195 ml_1_44 (lk_d S_193 ml_1_34 lk_n))) odX1_solve
def ct_197 : aCt := (mX1_worth, [ag_582, ag_190, ag_402, ag_190], ([], []), [pon_130, pon_52], [], [], (nat_lit 0))
set_option maxRecDepth 100000 in
theorem S_197 : aSpec wd ct_197 := bChk_ok wx_ok btX1_worth (nds := []) (fk := []) (rk := (1, [])) (sp := 0) (fuel := 3000) (by decide +kernel) lk_n odX1_worth
def pon_599 : aPo := (some (.inl [((.ofNat (nat_lit 0)), (.ofNat (nat_lit 2)), (nat_lit 1))]), [], [], [])
def ct_198 : aCt := (mX1_firstBest, [ag_582, ag_190, ag_122, ag_190], ([], []), [pon_599, pon_52], [], [], (nat_lit 1))
set_option maxRecDepth 100000 in
theorem S_198 : aSpec wd ct_198 := bChk_ok wx_ok btX1_firstBest (nds := [((nat_lit 3), [lcn_584, lcn_540, lcn_176, lcn_438, lcn_449], [], [], [], (3, [(2, -1)]))]) (fk := []) (rk := (4, [])) (sp := 8) (fuel := 3000) (by decide +kernel) (lk_d S_197 ml_1_34 lk_n) odX1_firstBest
def ct_199 : aCt := (mX1_choose, [ag_582, ag_590, ag_122], ([], []), [pon_49], mdn_591, [], (nat_lit 2))
set_option maxRecDepth 100000 in
theorem S_199 : aSpec wd ct_199 := bChk_ok wx_ok btX1_choose (nds := [((nat_lit 15), [lcn_584, lcn_592, lcn_176, lcn_438, lcn_593], [], [], [], (8, [(2, -1)]))]) (fk := []) (rk := (9, [])) (sp := 32768) (fuel := 3000) (by decide +kernel) (lk_d S_198 ml_1_49 lk_n) odX1_choose
def lcn_600 : Nat × aAg := ((nat_lit 6), .inl [((.ofNat (nat_lit 0)), (.ofNat (nat_lit 3)), (nat_lit 1))])
def ct_200 : aCt := (mX1_solve, [ag_582, ag_590, ag_122], ([], []), [pon_49], mdn_594, [], (nat_lit 3))
set_option maxRecDepth 100000 in
theorem S_200 : aSpec wd ct_200 := bChk_ok wx_ok btX1_solve (nds := [((nat_lit 12), [lcn_584, lcn_592, lcn_176, lcn_595], [], [], [], (91, [(1, 46)])), ((nat_lit 19), [lcn_584, lcn_592, lcn_176, lcn_438, lcn_593], [], [], [], (90, [(1, 46), (2, -5)])), ((nat_lit 46), [lcn_584, lcn_592, lcn_176, lcn_438, lcn_445, lcn_545, lcn_600], [], [], [], (89, [(1, 46), (2, -5), (4, -1)]))]) (fk := []) (rk := (414, [])) (sp := 70368744706048) (fuel := 3000) (by decide +kernel) (lk_d S_183 ml_1_28 (lk_d S_199 ml_1_44 (lk_d S_197 ml_1_34 lk_n))) odX1_solve
def ag_601 : aAg := .inl [((.ofNat (nat_lit 0)), (.ofNat (nat_lit 15)), (nat_lit 1))]
def ct_201 : aCt := (mX1_worth, [ag_582, ag_190, ag_361, ag_601], ([], []), [pon_130, pon_52], [], [], (nat_lit 0))
set_option maxRecDepth 100000 in
theorem S_201 : aSpec wd ct_201 := bChk_ok wx_ok btX1_worth (nds := []) (fk := []) (rk := (1, [])) (sp := 0) (fuel := 3000) (by decide +kernel) lk_n odX1_worth
def ct_202 : aCt := (mX1_firstBest, [ag_582, ag_190, ag_159, ag_601], ([], []), [pon_346, pon_52], [], [], (nat_lit 1))
set_option maxRecDepth 100000 in
theorem S_202 : aSpec wd ct_202 := bChk_ok wx_ok btX1_firstBest (nds := [((nat_lit 3), [lcn_584, lcn_540, lcn_168, lcn_565, lcn_448], [], [], [], (4, [(2, -1)]))]) (fk := []) (rk := (5, [])) (sp := 8) (fuel := 3000) (by decide +kernel) (lk_d S_201 ml_1_34 lk_n) odX1_firstBest
def ct_203 : aCt := (mX1_choose, [ag_582, ag_590, ag_159], ([], []), [pon_49], mdn_591, [], (nat_lit 2))
set_option maxRecDepth 100000 in
theorem S_203 : aSpec wd ct_203 := bChk_ok wx_ok btX1_choose (nds := [((nat_lit 15), [lcn_584, lcn_592, lcn_168, lcn_565, lcn_593], [], [], [], (8, [(2, -1)]))]) (fk := []) (rk := (9, [])) (sp := 32768) (fuel := 3000) (by decide +kernel) (lk_d S_202 ml_1_49 lk_n) odX1_choose
def lcn_602 : Nat × aAg := ((nat_lit 4), .inl [((.ofNat (nat_lit 0)), (.ofNat (nat_lit 16)), (nat_lit 1))])
def lcn_603 : Nat × aAg := ((nat_lit 4), .inl [((.ofNat (nat_lit 0)), (.ofNat (nat_lit 15)), (nat_lit 1))])
def lcn_604 : Nat × aAg := ((nat_lit 6), .inl [((.ofNat (nat_lit 0)), (.ofNat (nat_lit 4)), (nat_lit 1))])
def ct_204 : aCt := (mX1_solve, [ag_582, ag_590, ag_159], ([], []), [pon_49], mdn_594, [], (nat_lit 3))
set_option maxRecDepth 100000 in
theorem S_204 : aSpec wd ct_204 := bChk_ok wx_ok btX1_solve (nds := [((nat_lit 12), [lcn_584, lcn_592, lcn_168, lcn_595], [], [], [], (205, [(1, 103)])), ((nat_lit 19), [lcn_584, lcn_592, lcn_168, lcn_438, lcn_602], [], [], [], (204, [(1, 103), (2, -6)])), ((nat_lit 46), [lcn_584, lcn_592, lcn_168, lcn_438, lcn_603, lcn_545, lcn_604], [], [], [], (203, [(1, 103), (2, -6), (4, -1)]))]) (fk := []) (rk := (927, [])) (sp := 70368744706048) (fuel := 3000) (by decide +kernel) (lk_d S_183 ml_1_28 (lk_d S_203 ml_1_44 (lk_d S_201 ml_1_34 lk_n))) odX1_solve
def ag_605 : aAg := .inl [((.ofNat (nat_lit 0)), (.ofNat (nat_lit 31)), (nat_lit 1))]
def ct_205 : aCt := (mX1_worth, [ag_582, ag_190, ag_217, ag_605], ([], []), [pon_130, pon_52], [], [], (nat_lit 0))
set_option maxRecDepth 100000 in
theorem S_205 : aSpec wd ct_205 := bChk_ok wx_ok btX1_worth (nds := []) (fk := []) (rk := (1, [])) (sp := 0) (fuel := 3000) (by decide +kernel) lk_n odX1_worth
def pon_606 : aPo := (some (.inl [((.ofNat (nat_lit 0)), (.ofNat (nat_lit 4)), (nat_lit 1))]), [], [], [])
def lcn_607 : Nat × aAg := ((nat_lit 2), .inl [((.ofNat (nat_lit 5)), (.ofNat (nat_lit 5)), (nat_lit 1))])
def ct_206 : aCt := (mX1_firstBest, [ag_582, ag_190, ag_150, ag_605], ([], []), [pon_606, pon_52], [], [], (nat_lit 1))
set_option maxRecDepth 100000 in
theorem S_206 : aSpec wd ct_206 := bChk_ok wx_ok btX1_firstBest (nds := [((nat_lit 3), [lcn_584, lcn_540, lcn_607, lcn_564, lcn_447], [], [], [], (5, [(2, -1)]))]) (fk := []) (rk := (6, [])) (sp := 8) (fuel := 3000) (by decide +kernel) (lk_d S_205 ml_1_34 lk_n) odX1_firstBest
def ct_207 : aCt := (mX1_choose, [ag_582, ag_590, ag_150], ([], []), [pon_49], mdn_591, [], (nat_lit 2))
set_option maxRecDepth 100000 in
theorem S_207 : aSpec wd ct_207 := bChk_ok wx_ok btX1_choose (nds := [((nat_lit 15), [lcn_584, lcn_592, lcn_607, lcn_564, lcn_593], [], [], [], (8, [(2, -1)]))]) (fk := []) (rk := (9, [])) (sp := 32768) (fuel := 3000) (by decide +kernel) (lk_d S_206 ml_1_49 lk_n) odX1_choose
def lcn_608 : Nat × aAg := ((nat_lit 4), .inl [((.ofNat (nat_lit 0)), (.ofNat (nat_lit 32)), (nat_lit 1))])
def lcn_609 : Nat × aAg := ((nat_lit 4), .inl [((.ofNat (nat_lit 0)), (.ofNat (nat_lit 31)), (nat_lit 1))])
def lcn_610 : Nat × aAg := ((nat_lit 6), .inl [((.ofNat (nat_lit 0)), (.ofNat (nat_lit 5)), (nat_lit 1))])
def ct_208 : aCt := (mX1_solve, [ag_582, ag_590, ag_150], ([], []), [pon_49], mdn_594, [], (nat_lit 3))
set_option maxRecDepth 100000 in
theorem S_208 : aSpec wd ct_208 := bChk_ok wx_ok btX1_solve (nds := [((nat_lit 12), [lcn_584, lcn_592, lcn_607, lcn_595], [], [], [], (463, [(1, 232)])), ((nat_lit 19), [lcn_584, lcn_592, lcn_607, lcn_438, lcn_608], [], [], [], (462, [(1, 232), (2, -7)])), ((nat_lit 46), [lcn_584, lcn_592, lcn_607, lcn_438, lcn_609, lcn_545, lcn_610], [], [], [], (461, [(1, 232), (2, -7), (4, -1)]))]) (fk := []) (rk := (2088, [])) (sp := 70368744706048) (fuel := 3000) (by decide +kernel) (lk_d S_183 ml_1_28 (lk_d S_207 ml_1_44 (lk_d S_205 ml_1_34 lk_n))) odX1_solve
def mdn_611 : List (Nat × Nat × Nat) := [((nat_lit 92), (nat_lit 2), (nat_lit 4)), ((nat_lit 94), (nat_lit 4), (nat_lit 7)), ((nat_lit 95), (nat_lit 0), (nat_lit 7)), ((nat_lit 100), (nat_lit 2), (nat_lit 4)), ((nat_lit 101), (nat_lit 0), (nat_lit 40)), ((nat_lit 102), (nat_lit 0), (nat_lit 8)), ((nat_lit 103), (nat_lit 0), (nat_lit 288))]
def lcn_612 : Nat × aAg := ((nat_lit 2), .inl [((.ofNat (nat_lit 0)), (.ofNat (nat_lit 4)), (nat_lit 1))])
def lcn_613 : Nat × aAg := ((nat_lit 2), .inl [((.ofNat (nat_lit 0)), (.ofNat (nat_lit 3)), (nat_lit 1))])
def lcn_614 : Nat × aAg := ((nat_lit 2), .inl [((.ofNat (nat_lit 0)), (.ofNat (nat_lit 2)), (nat_lit 1))])
def lcn_615 : Nat × aAg := ((nat_lit 2), .inl [((.ofNat (nat_lit 0)), (.ofNat (nat_lit 1)), (nat_lit 1))])
def lcn_616 : Nat × aAg := ((nat_lit 1), .inl [((.ofNat (nat_lit 1)), (.ofNat (nat_lit 7)), (nat_lit 1))])
def sl_617 : (Nat × Nat) × aI := (((nat_lit 2), (nat_lit 7)), [((.ofNat (nat_lit 2)), (.ofNat (nat_lit 8)), (nat_lit 1))])
set_option maxRecDepth 100000 in
theorem btX11_solveMatch : bTab oX11_solveMatch tX11_solveMatch := ⟨ofX11_solveMatch, by decide +kernel⟩
def ct_209 : aCt := (mX11_solveMatch, [ag_0], ([sl_341], [((0, 3), 2), ((92, 0), 2), ((94, 0), 2)]), [pon_49], mdn_611, [], (nat_lit 5))
set_option maxRecDepth 100000 in
theorem S_209 : aSpec wd ct_209 := bChk_ok wx_ok btX11_solveMatch (nds := [((nat_lit 2), [lcn_407, lcn_175], [], [sl_341], [((0, 3), 2), ((92, 0), 2), ((94, 0), 2)], (63, [])), ((nat_lit 15), [lcn_407, lcn_175, lcn_589], [], [sl_341, sl_338], [((0, 3), 2), ((92, 0), 2), ((94, 0), 2)], (62, [])), ((nat_lit 15), [lcn_407, lcn_540, lcn_293], [], [sl_341, sl_324, sl_338], [((0, 3), 2), ((92, 0), 2), ((94, 0), 2)], (61, [(0, -7), (1, -1)])), ((nat_lit 15), [lcn_407, lcn_540, lcn_612], [], [sl_341, sl_322, sl_338], [((0, 3), 2), ((92, 0), 2), ((94, 0), 2)], (52, [(0, -6), (1, -1)])), ((nat_lit 15), [lcn_407, lcn_540, lcn_613], [], [sl_341, sl_320, sl_338], [((0, 3), 2), ((92, 0), 2), ((94, 0), 2)], (43, [(0, -5), (1, -1)])), ((nat_lit 15), [lcn_407, lcn_540, lcn_614], [], [sl_341, sl_318, sl_338], [((0, 3), 2), ((92, 0), 2), ((94, 0), 2)], (34, [(0, -4), (1, -1)])), ((nat_lit 15), [lcn_407, lcn_540, lcn_615], [], [sl_341, sl_316, sl_338], [((0, 3), 2), ((92, 0), 2), ((94, 0), 2)], (25, [(0, -3), (1, -1)])), ((nat_lit 2), [lcn_407, lcn_592, lcn_589], [], [sl_341, sl_314, sl_338], [((0, 3), 2), ((92, 0), 2), ((94, 0), 2)], (17, [(0, -2)])), ((nat_lit 2), [lcn_407, lcn_592, lcn_444], [], [sl_341, sl_316, sl_338], [((0, 3), 2), ((92, 0), 2), ((94, 0), 2)], (26, [(0, -3)])), ((nat_lit 15), [lcn_407, lcn_616, lcn_589], [], [sl_341, sl_314, sl_617], [((0, 3), 2), ((92, 0), 2), ((94, 0), 2)], (16, [(0, -2)])), ((nat_lit 2), [lcn_407, lcn_592, lcn_597], [], [sl_341, sl_318, sl_338], [((0, 3), 2), ((92, 0), 2), ((94, 0), 2)], (35, [(0, -4)])), ((nat_lit 2), [lcn_407, lcn_592, lcn_176], [], [sl_341, sl_320, sl_338], [((0, 3), 2), ((92, 0), 2), ((94, 0), 2)], (44, [(0, -5)])), ((nat_lit 2), [lcn_407, lcn_592, lcn_168], [], [sl_341, sl_322, sl_338], [((0, 3), 2), ((92, 0), 2), ((94, 0), 2)], (53, [(0, -6)])), ((nat_lit 2), [lcn_407, lcn_592, lcn_607], [], [sl_341, sl_324, sl_338], [((0, 3), 2), ((92, 0), 2), ((94, 0), 2)], (62, [(0, -7)]))]) (fk := [23]) (rk := (64, [])) (sp := 32772) (fuel := 3000) (by decide +kernel) (lk_d S_185 ml_11_404 (lk_d S_171 ml_11_283 (lk_d S_188 ml_11_404 (lk_d S_192 ml_11_404 (lk_d S_196 ml_11_404 (lk_d S_200 ml_11_404 (lk_d S_204 ml_11_404 (lk_d S_208 ml_11_404 (lk_d S_170 ml_11_283 (lk_d S_169 ml_11_283 (lk_d S_168 ml_11_283 (lk_d S_167 ml_11_283 lk_n)))))))))))) odX11_solveMatch
def mdn_618 : List (Nat × Nat × Nat) := [((nat_lit 0), (nat_lit 2), (nat_lit 3)), ((nat_lit 92), (nat_lit 2), (nat_lit 4)), ((nat_lit 94), (nat_lit 4), (nat_lit 7)), ((nat_lit 95), (nat_lit 0), (nat_lit 7)), ((nat_lit 100), (nat_lit 2), (nat_lit 4)), ((nat_lit 101), (nat_lit 0), (nat_lit 40)), ((nat_lit 102), (nat_lit 0), (nat_lit 8)), ((nat_lit 103), (nat_lit 0), (nat_lit 288))]
set_option maxRecDepth 100000 in
theorem btX11_match : bTab oX11_match tX11_match := ⟨ofX11_match, by decide +kernel⟩
def ct_210 : aCt := (mX11_match, [ag_0], ([], [((0, 3), 2), ((92, 0), 2), ((94, 0), 2)]), [pon_406, pon_412], mdn_618, [], (nat_lit 6))
set_option maxRecDepth 100000 in
theorem S_210 : aSpec wd ct_210 := bChk_ok wx_ok btX11_match (nds := []) (fk := []) (rk := (1, [])) (sp := 0) (fuel := 3000) (by decide +kernel) (lk_d S_209 ml_11_298 (lk_d S_91 ml_11_222 (lk_d S_63 ml_11_98 (lk_d S_57 ml_11_112 lk_n)))) odX11_match
set_option maxRecDepth 100000 in
theorem btX11_matchDays : bTab oX11_matchDays tX11_matchDays := ⟨ofX11_matchDays, by decide +kernel⟩
def ct_211 : aCt := (mX11_matchDays, [ag_0], ([], [((0, 3), 2), ((92, 0), 2), ((94, 0), 2)]), [pon_406, pon_412], mdn_618, [], (nat_lit 6))
set_option maxRecDepth 100000 in
theorem S_211 : aSpec wd ct_211 := bChk_ok wx_ok btX11_matchDays (nds := []) (fk := []) (rk := (1, [])) (sp := 0) (fuel := 3000) (by decide +kernel) (lk_d S_209 ml_11_298 (lk_d S_91 ml_11_222 (lk_d S_63 ml_11_98 (lk_d S_57 ml_11_112 lk_n)))) odX11_matchDays
def ct_212 : aCt := (mX11_solveMatch, [ag_0], ([sl_338], [((0, 3), 2), ((92, 0), 2), ((94, 0), 2)]), [pon_49], mdn_611, [], (nat_lit 5))
set_option maxRecDepth 100000 in
theorem S_212 : aSpec wd ct_212 := bChk_ok wx_ok btX11_solveMatch (nds := [((nat_lit 2), [lcn_407, lcn_175], [], [sl_338], [((0, 3), 2), ((92, 0), 2), ((94, 0), 2)], (63, [])), ((nat_lit 15), [lcn_407, lcn_175, lcn_589], [], [sl_338], [((0, 3), 2), ((92, 0), 2), ((94, 0), 2)], (62, [])), ((nat_lit 15), [lcn_407, lcn_540, lcn_293], [], [sl_324, sl_338], [((0, 3), 2), ((92, 0), 2), ((94, 0), 2)], (61, [(0, -7), (1, -1)])), ((nat_lit 15), [lcn_407, lcn_540, lcn_612], [], [sl_322, sl_338], [((0, 3), 2), ((92, 0), 2), ((94, 0), 2)], (52, [(0, -6), (1, -1)])), ((nat_lit 15), [lcn_407, lcn_540, lcn_613], [], [sl_320, sl_338], [((0, 3), 2), ((92, 0), 2), ((94, 0), 2)], (43, [(0, -5), (1, -1)])), ((nat_lit 15), [lcn_407, lcn_540, lcn_614], [], [sl_318, sl_338], [((0, 3), 2), ((92, 0), 2), ((94, 0), 2)], (34, [(0, -4), (1, -1)])), ((nat_lit 15), [lcn_407, lcn_540, lcn_615], [], [sl_316, sl_338], [((0, 3), 2), ((92, 0), 2), ((94, 0), 2)], (25, [(0, -3), (1, -1)])), ((nat_lit 2), [lcn_407, lcn_592, lcn_589], [], [sl_314, sl_338], [((0, 3), 2), ((92, 0), 2), ((94, 0), 2)], (17, [(0, -2)])), ((nat_lit 2), [lcn_407, lcn_592, lcn_444], [], [sl_316, sl_338], [((0, 3), 2), ((92, 0), 2), ((94, 0), 2)], (26, [(0, -3)])), ((nat_lit 15), [lcn_407, lcn_616, lcn_589], [], [sl_314, sl_617], [((0, 3), 2), ((92, 0), 2), ((94, 0), 2)], (16, [(0, -2)])), ((nat_lit 2), [lcn_407, lcn_592, lcn_597], [], [sl_318, sl_338], [((0, 3), 2), ((92, 0), 2), ((94, 0), 2)], (35, [(0, -4)])), ((nat_lit 2), [lcn_407, lcn_592, lcn_176], [], [sl_320, sl_338], [((0, 3), 2), ((92, 0), 2), ((94, 0), 2)], (44, [(0, -5)])), ((nat_lit 2), [lcn_407, lcn_592, lcn_168], [], [sl_322, sl_338], [((0, 3), 2), ((92, 0), 2), ((94, 0), 2)], (53, [(0, -6)])), ((nat_lit 2), [lcn_407, lcn_592, lcn_607], [], [sl_324, sl_338], [((0, 3), 2), ((92, 0), 2), ((94, 0), 2)], (62, [(0, -7)]))]) (fk := [23]) (rk := (64, [])) (sp := 32772) (fuel := 3000) (by decide +kernel) (lk_d S_171 ml_11_283 (lk_d S_188 ml_11_404 (lk_d S_192 ml_11_404 (lk_d S_196 ml_11_404 (lk_d S_200 ml_11_404 (lk_d S_204 ml_11_404 (lk_d S_208 ml_11_404 (lk_d S_170 ml_11_283 (lk_d S_169 ml_11_283 (lk_d S_168 ml_11_283 (lk_d S_167 ml_11_283 lk_n))))))))))) odX11_solveMatch
set_option maxRecDepth 100000 in
theorem btX11_matchOf : bTab oX11_matchOf tX11_matchOf := ⟨ofX11_matchOf, by decide +kernel⟩
def ct_213 : aCt := (mX11_matchOf, [ag_0, ag_1], ([], [((0, 3), 2), ((92, 0), 2), ((94, 0), 2)]), [pon_371, pon_333], mdn_618, [], (nat_lit 6))
set_option maxRecDepth 100000 in
theorem S_213 : aSpec wd ct_213 := bChk_ok wx_ok btX11_matchOf (nds := []) (fk := []) (rk := (1, [])) (sp := 0) (fuel := 3000) (by decide +kernel) (lk_d S_212 ml_11_298 (lk_d S_63 ml_11_98 (lk_d S_65 ml_11_147 (lk_d S_57 ml_11_112 lk_n)))) odX11_matchOf
def pon_619 : aPo := (some (.inl [((.ofNat (nat_lit 1)), (.ofNat (nat_lit 1)), (nat_lit 1))]), [none, some [((.ofNat (nat_lit 0)), (.ofNat (nat_lit 7)), (nat_lit 1))]], [], [])
def ct_214 : aCt := (mX11_isBox, [ag_0, ag_1], ([sl_338], [((0, 3), 2)]), [pon_373, pon_619], [], [], (nat_lit 0))
set_option maxRecDepth 100000 in
theorem S_214 : aSpec wd ct_214 := bChk_ok wx_ok btX11_isBox (nds := []) (fk := []) (rk := (1, [])) (sp := 0) (fuel := 3000) (by decide +kernel) lk_n odX11_isBox
def pon_620 : aPo := (some (.inl [((.ofNat (nat_lit 0)), (.ofNat (nat_lit 0)), (nat_lit 1))]), [none, some [((.negSucc (nat_lit 2147483647)), (.negSucc (nat_lit 0)), (nat_lit 1)), ((.ofNat (nat_lit 5)), (.ofNat (nat_lit 2147483647)), (nat_lit 1))]], [], [])
def pon_621 : aPo := (some (.inl [((.ofNat (nat_lit 1)), (.ofNat (nat_lit 1)), (nat_lit 1))]), [none, some [((.ofNat (nat_lit 0)), (.ofNat (nat_lit 4)), (nat_lit 1))]], [], [])
def ct_215 : aCt := (mX11_isWhale, [ag_0, ag_1], ([sl_324], [((0, 3), 2)]), [pon_620, pon_621], [], [], (nat_lit 0))
set_option maxRecDepth 100000 in
theorem S_215 : aSpec wd ct_215 := bChk_ok wx_ok btX11_isWhale (nds := []) (fk := [12]) (rk := (1, [])) (sp := 0) (fuel := 3000) (by decide +kernel) lk_n odX11_isWhale
def pon_622 : aPo := (some (.inl [((.negSucc (nat_lit 2147483647)), (.ofNat (nat_lit 2147483646)), (nat_lit 1))]), [], [sl_532], [])
set_option maxRecDepth 100000 in
theorem btX6_dayOfMeeting : bTab oX6_dayOfMeeting tX6_dayOfMeeting := ⟨ofX6_dayOfMeeting, by decide +kernel⟩
def ct_216 : aCt := (mX6_dayOfMeeting, [ag_394, ag_190, ag_217, ag_190, ag_217], ([sl_324], [((92, 0), 2), ((94, 0), 2)]), [pon_622, pon_52], mdn_534, [], (nat_lit 5))
set_option maxRecDepth 100000 in
theorem S_216 : aSpec wd ct_216 := bChk_ok wx_ok btX6_dayOfMeeting (nds := []) (fk := []) (rk := (1, [])) (sp := 0) (fuel := 3000) (by decide +kernel) (lk_d S_167 ml_6_155 lk_n) odX6_dayOfMeeting
def pon_623 : aPo := (some (.inl [((.ofNat (nat_lit 0)), (.ofNat (nat_lit 0)), (nat_lit 1))]), [none, some [((.negSucc (nat_lit 2147483647)), (.negSucc (nat_lit 0)), (nat_lit 1)), ((.ofNat (nat_lit 4)), (.ofNat (nat_lit 2147483647)), (nat_lit 1))]], [], [])
def pon_624 : aPo := (some (.inl [((.ofNat (nat_lit 1)), (.ofNat (nat_lit 1)), (nat_lit 1))]), [none, some [((.ofNat (nat_lit 0)), (.ofNat (nat_lit 3)), (nat_lit 1))]], [], [])
def ct_217 : aCt := (mX11_isWhale, [ag_0, ag_1], ([sl_322], [((0, 3), 2)]), [pon_623, pon_624], [], [], (nat_lit 0))
set_option maxRecDepth 100000 in
theorem S_217 : aSpec wd ct_217 := bChk_ok wx_ok btX11_isWhale (nds := []) (fk := [12]) (rk := (1, [])) (sp := 0) (fuel := 3000) (by decide +kernel) lk_n odX11_isWhale
def ct_218 : aCt := (mX6_dayOfMeeting, [ag_394, ag_190, ag_361, ag_190, ag_361], ([sl_322], [((92, 0), 2), ((94, 0), 2)]), [pon_622, pon_52], mdn_534, [], (nat_lit 5))
set_option maxRecDepth 100000 in
theorem S_218 : aSpec wd ct_218 := bChk_ok wx_ok btX6_dayOfMeeting (nds := []) (fk := []) (rk := (1, [])) (sp := 0) (fuel := 3000) (by decide +kernel) (lk_d S_168 ml_6_155 lk_n) odX6_dayOfMeeting
def pon_625 : aPo := (some (.inl [((.ofNat (nat_lit 0)), (.ofNat (nat_lit 0)), (nat_lit 1))]), [none, some [((.negSucc (nat_lit 2147483647)), (.negSucc (nat_lit 0)), (nat_lit 1)), ((.ofNat (nat_lit 3)), (.ofNat (nat_lit 2147483647)), (nat_lit 1))]], [], [])
def pon_626 : aPo := (some (.inl [((.ofNat (nat_lit 1)), (.ofNat (nat_lit 1)), (nat_lit 1))]), [none, some [((.ofNat (nat_lit 0)), (.ofNat (nat_lit 2)), (nat_lit 1))]], [], [])
def ct_219 : aCt := (mX11_isWhale, [ag_0, ag_1], ([sl_320], [((0, 3), 2)]), [pon_625, pon_626], [], [], (nat_lit 0))
set_option maxRecDepth 100000 in
theorem S_219 : aSpec wd ct_219 := bChk_ok wx_ok btX11_isWhale (nds := []) (fk := [12]) (rk := (1, [])) (sp := 0) (fuel := 3000) (by decide +kernel) lk_n odX11_isWhale
def ct_220 : aCt := (mX6_dayOfMeeting, [ag_394, ag_190, ag_402, ag_190, ag_402], ([sl_320], [((92, 0), 2), ((94, 0), 2)]), [pon_622, pon_52], mdn_534, [], (nat_lit 5))
set_option maxRecDepth 100000 in
theorem S_220 : aSpec wd ct_220 := bChk_ok wx_ok btX6_dayOfMeeting (nds := []) (fk := []) (rk := (1, [])) (sp := 0) (fuel := 3000) (by decide +kernel) (lk_d S_169 ml_6_155 lk_n) odX6_dayOfMeeting
def pon_627 : aPo := (some (.inl [((.ofNat (nat_lit 0)), (.ofNat (nat_lit 0)), (nat_lit 1))]), [none, some [((.negSucc (nat_lit 2147483647)), (.negSucc (nat_lit 0)), (nat_lit 1)), ((.ofNat (nat_lit 2)), (.ofNat (nat_lit 2147483647)), (nat_lit 1))]], [], [])
def pon_628 : aPo := (some (.inl [((.ofNat (nat_lit 1)), (.ofNat (nat_lit 1)), (nat_lit 1))]), [none, some [((.ofNat (nat_lit 0)), (.ofNat (nat_lit 1)), (nat_lit 1))]], [], [])
def ct_221 : aCt := (mX11_isWhale, [ag_0, ag_1], ([sl_318], [((0, 3), 2)]), [pon_627, pon_628], [], [], (nat_lit 0))
set_option maxRecDepth 100000 in
theorem S_221 : aSpec wd ct_221 := bChk_ok wx_ok btX11_isWhale (nds := []) (fk := [12]) (rk := (1, [])) (sp := 0) (fuel := 3000) (by decide +kernel) lk_n odX11_isWhale
def ct_222 : aCt := (mX6_dayOfMeeting, [ag_394, ag_190, ag_535, ag_190, ag_535], ([sl_318], [((92, 0), 2), ((94, 0), 2)]), [pon_622, pon_52], mdn_534, [], (nat_lit 5))
set_option maxRecDepth 100000 in
theorem S_222 : aSpec wd ct_222 := bChk_ok wx_ok btX6_dayOfMeeting (nds := []) (fk := []) (rk := (1, [])) (sp := 0) (fuel := 3000) (by decide +kernel) (lk_d S_170 ml_6_155 lk_n) odX6_dayOfMeeting
def pon_629 : aPo := (some (.inl [((.ofNat (nat_lit 1)), (.ofNat (nat_lit 1)), (nat_lit 1))]), [none, some [((.ofNat (nat_lit 0)), (.ofNat (nat_lit 0)), (nat_lit 1))]], [], [])
def ct_223 : aCt := (mX11_isWhale, [ag_0, ag_1], ([sl_316], [((0, 3), 2)]), [pon_373, pon_629], [], [], (nat_lit 0))
set_option maxRecDepth 100000 in
theorem S_223 : aSpec wd ct_223 := bChk_ok wx_ok btX11_isWhale (nds := []) (fk := [12]) (rk := (1, [])) (sp := 0) (fuel := 3000) (by decide +kernel) lk_n odX11_isWhale
def sl_630 : (Nat × Nat) × aI := (((nat_lit 2), (nat_lit 6)), [((.ofNat (nat_lit 2)), (.ofNat (nat_lit 5)), (nat_lit 1))])
def pon_631 : aPo := (some (.inl aTop), [none, some [((.ofNat (nat_lit 0)), (.ofNat (nat_lit 7)), (nat_lit 1))], some [((.ofNat (nat_lit 0)), (.ofNat (nat_lit 4)), (nat_lit 1))], some [((.ofNat (nat_lit 0)), (.ofNat (nat_lit 7)), (nat_lit 1))], some [((.ofNat (nat_lit 0)), (.ofNat (nat_lit 4)), (nat_lit 1))]], [sl_301, sl_630, sl_338], [])
set_option maxRecDepth 100000 in
theorem btX11_meet : bTab oX11_meet tX11_meet := ⟨ofX11_meet, by decide +kernel⟩
def ct_224 : aCt := (mX11_meet, [ag_0, ag_1, ag_1, ag_1, ag_1], ([], [((0, 3), 2), ((92, 0), 2), ((94, 0), 2)]), [pon_631, pon_333], mdn_537, [], (nat_lit 6))
set_option maxRecDepth 100000 in
theorem S_224 : aSpec wd ct_224 := bChk_ok wx_ok btX11_meet (nds := []) (fk := []) (rk := (1, [])) (sp := 0) (fuel := 3000) (by decide +kernel) (lk_d S_63 ml_11_98 (lk_d S_222 ml_11_310 (lk_d S_220 ml_11_310 (lk_d S_218 ml_11_310 (lk_d S_216 ml_11_310 (lk_d S_215 ml_11_121 (lk_d S_217 ml_11_121 (lk_d S_219 ml_11_121 (lk_d S_221 ml_11_121 (lk_d S_223 ml_11_121 (lk_d S_214 ml_11_147 (lk_d S_65 ml_11_147 (lk_d S_62 ml_11_121 (lk_d S_57 ml_11_112 lk_n)))))))))))))) odX11_meet
def sl_632 : (Nat × Nat) × aI := (((nat_lit 2), (nat_lit 8)), [((.ofNat (nat_lit 1)), (.ofNat (nat_lit 8)), (nat_lit 1))])
def pon_633 : aPo := (some (.inl [((.ofNat (nat_lit 0)), (.ofNat (nat_lit 0)), (nat_lit 1))]), [], [sl_632], [])
set_option maxRecDepth 100000 in
theorem btX6_isFitting : bTab oX6_isFitting tX6_isFitting := ⟨ofX6_isFitting, by decide +kernel⟩
def ct_225 : aCt := (mX6_isFitting, [ag_394, ag_217], ([sl_341, sl_334], [((94, 0), 2)]), [pon_633, pon_38], mdn_514, [], (nat_lit 3))
set_option maxRecDepth 100000 in
theorem S_225 : aSpec wd ct_225 := bChk_ok wx_ok btX6_isFitting (nds := [((nat_lit 18), [lcn_396, lcn_265, lcn_250, lcn_517, lcn_593], [], [sl_341, sl_334], [((94, 0), 2)], (8, [(3, -1)]))]) (fk := []) (rk := (9, [])) (sp := 262144) (fuel := 3000) (by decide +kernel) (lk_d S_163 ml_6_84 lk_n) odX6_isFitting
def pon_634 : aPo := (some (.inl [((.ofNat (nat_lit 0)), (.ofNat (nat_lit 31)), (nat_lit 1))]), [], [], [])
def lcn_635 : Nat × aAg := ((nat_lit 1), .inl [((.ofNat (nat_lit 0)), (.ofNat (nat_lit 31)), (nat_lit 1))])
set_option maxRecDepth 100000 in
theorem btX6_fittingWhales : bTab oX6_fittingWhales tX6_fittingWhales := ⟨ofX6_fittingWhales, by decide +kernel⟩
def ct_226 : aCt := (mX6_fittingWhales, [ag_394], ([sl_341], [((94, 0), 2)]), [pon_634], mdn_514, [], (nat_lit 4))
set_option maxRecDepth 100000 in
theorem S_226 : aSpec wd ct_226 := bChk_ok wx_ok btX6_fittingWhales (nds := [((nat_lit 4), [lcn_396, lcn_635, lcn_293], [], [sl_341], [((94, 0), 2)], (5, [(1, -1)]))]) (fk := []) (rk := (6, [])) (sp := 16) (fuel := 3000) (by decide +kernel) (lk_d S_225 ml_6_164 lk_n) odX6_fittingWhales
set_option maxRecDepth 100000 in
theorem btX11_fits : bTab oX11_fits tX11_fits := ⟨ofX11_fits, by decide +kernel⟩
def ct_227 : aCt := (mX11_fits, [ag_0], ([], [((0, 3), 2), ((94, 0), 2)]), [pon_406, pon_412], mdn_531, [], (nat_lit 5))
set_option maxRecDepth 100000 in
theorem S_227 : aSpec wd ct_227 := bChk_ok wx_ok btX11_fits (nds := []) (fk := []) (rk := (1, [])) (sp := 0) (fuel := 3000) (by decide +kernel) (lk_d S_226 ml_11_313 (lk_d S_91 ml_11_222 (lk_d S_63 ml_11_98 (lk_d S_57 ml_11_112 lk_n)))) odX11_fits
def lcn_636 : Nat × aAg := ((nat_lit 2), .inl [((.negSucc (nat_lit 0)), (.ofNat (nat_lit 7)), (nat_lit 1))])
def ct_228 : aCt := (mX4_lastSpoutOf, [ag_357, ag_217], ([], []), [pon_417, pon_52], [], [], (nat_lit 0))
set_option maxRecDepth 100000 in
theorem S_228 : aSpec wd ct_228 := bChk_ok wx_ok btX4_lastSpoutOf (nds := [((nat_lit 7), [lcn_378, lcn_265, lcn_636], [], [], [], (1, [(1, 1)]))]) (fk := []) (rk := (9, [])) (sp := 128) (fuel := 3000) (by decide +kernel) lk_n odX4_lastSpoutOf
def pon_637 : aPo := (some (.inl [((.ofNat (nat_lit 0)), (.ofNat (nat_lit 127)), (nat_lit 1))]), [], [], [])
def lcn_638 : Nat × aAg := ((nat_lit 3), .inl [((.negSucc (nat_lit 1)), (.negSucc (nat_lit 1)), (nat_lit 1)), ((.ofNat (nat_lit 0)), (.ofNat (nat_lit 7)), (nat_lit 1))])
def lcn_639 : Nat × aAg := ((nat_lit 5), .inl [((.ofNat (nat_lit 0)), (.ofNat (nat_lit 127)), (nat_lit 1))])
set_option maxRecDepth 100000 in
theorem btX6_islandsReached : bTab oX6_islandsReached tX6_islandsReached := ⟨ofX6_islandsReached, by decide +kernel⟩
def ct_229 : aCt := (mX6_islandsReached, [ag_394, ag_217, ag_560], ([sl_324], [((94, 0), 2)]), [pon_637], mdn_514, [], (nat_lit 3))
set_option maxRecDepth 100000 in
theorem S_229 : aSpec wd ct_229 := bChk_ok wx_ok btX6_islandsReached (nds := [((nat_lit 90), [lcn_396, lcn_265, lcn_563, lcn_638, lcn_446, lcn_639, lcn_369], [], [sl_324], [((94, 0), 2)], (7, [(5, -1)]))]) (fk := []) (rk := (8, [])) (sp := 1237940039285380274899124224) (fuel := 3000) (by decide +kernel) (lk_d S_228 ml_6_185 (lk_d S_163 ml_6_84 lk_n)) odX6_islandsReached
def lcn_640 : Nat × aAg := ((nat_lit 1), .inl [((.ofNat (nat_lit 0)), (.ofNat (nat_lit 3)), (nat_lit 1))])
def ct_230 : aCt := (mX4_lastSpoutOf, [ag_357, ag_361], ([], []), [pon_417, pon_52], [], [], (nat_lit 0))
set_option maxRecDepth 100000 in
theorem S_230 : aSpec wd ct_230 := bChk_ok wx_ok btX4_lastSpoutOf (nds := [((nat_lit 7), [lcn_378, lcn_640, lcn_636], [], [], [], (1, [(1, 1)]))]) (fk := []) (rk := (9, [])) (sp := 128) (fuel := 3000) (by decide +kernel) lk_n odX4_lastSpoutOf
def ct_231 : aCt := (mX6_islandsReached, [ag_394, ag_361, ag_560], ([sl_322], [((94, 0), 2)]), [pon_637], mdn_514, [], (nat_lit 3))
set_option maxRecDepth 100000 in
theorem S_231 : aSpec wd ct_231 := bChk_ok wx_ok btX6_islandsReached (nds := [((nat_lit 90), [lcn_396, lcn_640, lcn_563, lcn_638, lcn_446, lcn_639, lcn_369], [], [sl_322], [((94, 0), 2)], (7, [(5, -1)]))]) (fk := []) (rk := (8, [])) (sp := 1237940039285380274899124224) (fuel := 3000) (by decide +kernel) (lk_d S_230 ml_6_185 (lk_d S_163 ml_6_84 lk_n)) odX6_islandsReached
def ct_232 : aCt := (mX4_lastSpoutOf, [ag_357, ag_402], ([], []), [pon_417, pon_52], [], [], (nat_lit 0))
set_option maxRecDepth 100000 in
theorem S_232 : aSpec wd ct_232 := bChk_ok wx_ok btX4_lastSpoutOf (nds := [((nat_lit 7), [lcn_378, lcn_397, lcn_636], [], [], [], (1, [(1, 1)]))]) (fk := []) (rk := (9, [])) (sp := 128) (fuel := 3000) (by decide +kernel) lk_n odX4_lastSpoutOf
def ct_233 : aCt := (mX6_islandsReached, [ag_394, ag_402, ag_560], ([sl_320], [((94, 0), 2)]), [pon_637], mdn_514, [], (nat_lit 3))
set_option maxRecDepth 100000 in
theorem S_233 : aSpec wd ct_233 := bChk_ok wx_ok btX6_islandsReached (nds := [((nat_lit 90), [lcn_396, lcn_397, lcn_563, lcn_638, lcn_446, lcn_639, lcn_369], [], [sl_320], [((94, 0), 2)], (7, [(5, -1)]))]) (fk := []) (rk := (8, [])) (sp := 1237940039285380274899124224) (fuel := 3000) (by decide +kernel) (lk_d S_232 ml_6_185 (lk_d S_163 ml_6_84 lk_n)) odX6_islandsReached
end Pk3
section Pk4
def lcn_641 : Nat × aAg := ((nat_lit 1), .inl [((.ofNat (nat_lit 0)), (.ofNat (nat_lit 1)), (nat_lit 1))])
def ct_234 : aCt := (mX4_lastSpoutOf, [ag_357, ag_535], ([], []), [pon_417, pon_52], [], [], (nat_lit 0))
set_option maxRecDepth 100000 in
theorem S_234 : aSpec wd ct_234 := bChk_ok wx_ok btX4_lastSpoutOf (nds := [((nat_lit 7), [lcn_378, lcn_641, lcn_636], [], [], [], (1, [(1, 1)]))]) (fk := []) (rk := (9, [])) (sp := 128) (fuel := 3000) (by decide +kernel) lk_n odX4_lastSpoutOf
def ct_235 : aCt := (mX6_islandsReached, [ag_394, ag_535, ag_560], ([sl_318], [((94, 0), 2)]), [pon_637], mdn_514, [], (nat_lit 3))
set_option maxRecDepth 100000 in
theorem S_235 : aSpec wd ct_235 := bChk_ok wx_ok btX6_islandsReached (nds := [((nat_lit 90), [lcn_396, lcn_641, lcn_563, lcn_638, lcn_446, lcn_639, lcn_369], [], [sl_318], [((94, 0), 2)], (7, [(5, -1)]))]) (fk := []) (rk := (8, [])) (sp := 1237940039285380274899124224) (fuel := 3000) (by decide +kernel) (lk_d S_234 ml_6_185 (lk_d S_163 ml_6_84 lk_n)) odX6_islandsReached
def ct_236 : aCt := (mX4_lastSpoutOf, [ag_357, ag_170], ([], []), [pon_417, pon_52], [], [], (nat_lit 0))
set_option maxRecDepth 100000 in
theorem S_236 : aSpec wd ct_236 := bChk_ok wx_ok btX4_lastSpoutOf (nds := [((nat_lit 7), [lcn_378, lcn_175, lcn_636], [], [], [], (1, [(0, 1)]))]) (fk := []) (rk := (9, [])) (sp := 128) (fuel := 3000) (by decide +kernel) lk_n odX4_lastSpoutOf
def sl_642 : (Nat × Nat) × aI := (((nat_lit 21), (nat_lit 0)), [((.ofNat (nat_lit 0)), (.ofNat (nat_lit 3)), (nat_lit 1))])
def ct_237 : aCt := (mX6_islandsReached, [ag_394, ag_170, ag_560], ([sl_316], [((94, 0), 2)]), [pon_637], mdn_514, [], (nat_lit 3))
set_option maxRecDepth 100000 in
theorem S_237 : aSpec wd ct_237 := bChk_ok wx_ok btX6_islandsReached (nds := [((nat_lit 90), [lcn_396, lcn_175, lcn_563, lcn_638, lcn_446, lcn_639, lcn_369], [], [sl_316, sl_642], [((94, 0), 2)], (7, [(4, -1)]))]) (fk := []) (rk := (8, [])) (sp := 1237940039285380274899124224) (fuel := 3000) (by decide +kernel) (lk_d S_236 ml_6_185 (lk_d S_163 ml_6_84 lk_n)) odX6_islandsReached
def pon_643 : aPo := (some (.inl aTop), [none, some [((.ofNat (nat_lit 0)), (.ofNat (nat_lit 4)), (nat_lit 1))], some [((.ofNat (nat_lit 0)), (.ofNat (nat_lit 99999)), (nat_lit 1))]], [sl_301, sl_334], [])
def pon_644 : aPo := (some (.inl [((.negSucc (nat_lit 0)), (.negSucc (nat_lit 0)), (nat_lit 1))]), [none, some aTop, none], [sl_389], [])
set_option maxRecDepth 100000 in
theorem btX11_reach : bTab oX11_reach tX11_reach := ⟨ofX11_reach, by decide +kernel⟩
def ct_238 : aCt := (mX11_reach, [ag_0, ag_1, ag_1], ([], [((0, 3), 2), ((94, 0), 2)]), [pon_643, pon_644], mdn_531, [], (nat_lit 4))
set_option maxRecDepth 100000 in
theorem S_238 : aSpec wd ct_238 := bChk_ok wx_ok btX11_reach (nds := []) (fk := []) (rk := (1, [])) (sp := 0) (fuel := 3000) (by decide +kernel) (lk_d S_6 ml_11_98 (lk_d S_63 ml_11_98 (lk_d S_237 ml_11_316 (lk_d S_235 ml_11_316 (lk_d S_233 ml_11_316 (lk_d S_231 ml_11_316 (lk_d S_229 ml_11_316 (lk_d S_62 ml_11_121 (lk_d S_92 ml_11_227 (lk_d S_57 ml_11_112 lk_n)))))))))) odX11_reach
def ct_239 : aCt := (mJ6_bitCount_0f7a4, [ag_605], ([], []), [pon_364], [], [], (nat_lit 0))
set_option maxRecDepth 100000 in
theorem S_239 : aSpec wd ct_239 := bChk_ok wx_ok btJ6_bitCount_0f7a4 (nds := []) (fk := []) (rk := (1, [])) (sp := 0) (fuel := 3000) (by decide +kernel) lk_n odJ6_bitCount_0f7a4
def ct_240 : aCt := (mX6_islandsReached, [ag_394, ag_217, ag_560], ([sl_341, sl_334], [((94, 0), 2)]), [pon_637], mdn_514, [], (nat_lit 3))
set_option maxRecDepth 100000 in
theorem S_240 : aSpec wd ct_240 := bChk_ok wx_ok btX6_islandsReached (nds := [((nat_lit 90), [lcn_396, lcn_265, lcn_563, lcn_638, lcn_446, lcn_639, lcn_369], [], [sl_341, sl_334], [((94, 0), 2)], (7, [(5, -1)]))]) (fk := []) (rk := (8, [])) (sp := 1237940039285380274899124224) (fuel := 3000) (by decide +kernel) (lk_d S_228 ml_6_185 (lk_d S_163 ml_6_84 lk_n)) odX6_islandsReached
set_option maxRecDepth 100000 in
theorem btX6_whalesReaching : bTab oX6_whalesReaching tX6_whalesReaching := ⟨ofX6_whalesReaching, by decide +kernel⟩
def ct_241 : aCt := (mX6_whalesReaching, [ag_394, ag_125, ag_560], ([sl_341], [((94, 0), 2)]), [pon_130], mdn_514, [], (nat_lit 4))
set_option maxRecDepth 100000 in
theorem S_241 : aSpec wd ct_241 := bChk_ok wx_ok btX6_whalesReaching (nds := [((nat_lit 5), [lcn_396, lcn_249, lcn_563, lcn_517, lcn_447], [], [sl_341], [((94, 0), 2)], (5, [(3, -1)]))]) (fk := []) (rk := (6, [])) (sp := 32) (fuel := 3000) (by decide +kernel) (lk_d S_240 ml_6_203 lk_n) odX6_whalesReaching
def lcn_645 : Nat × aAg := ((nat_lit 1), .inl [((.ofNat (nat_lit 0)), (.ofNat (nat_lit 99999)), (nat_lit 1))])
def lcn_646 : Nat × aAg := ((nat_lit 2), .inl [((.ofNat (nat_lit 0)), (.ofNat (nat_lit 63)), (nat_lit 1))])
def lcn_647 : Nat × aAg := ((nat_lit 3), .inl [((.negSucc (nat_lit 1)), (.negSucc (nat_lit 1)), (nat_lit 1)), ((.ofNat (nat_lit 0)), (.ofNat (nat_lit 6)), (nat_lit 1))])
def lcn_648 : Nat × aAg := ((nat_lit 5), .inl [((.ofNat (nat_lit 0)), (.ofNat (nat_lit 7)), (nat_lit 1))])
set_option maxRecDepth 100000 in
theorem btX6_bestPier : bTab oX6_bestPier tX6_bestPier := ⟨ofX6_bestPier, by decide +kernel⟩
def ct_242 : aCt := (mX6_bestPier, [ag_394, ag_560], ([sl_341], [((94, 0), 2)]), [pon_365], mdn_514, [], (nat_lit 5))
set_option maxRecDepth 100000 in
theorem S_242 : aSpec wd ct_242 := bChk_ok wx_ok btX6_bestPier (nds := [((nat_lit 17), [lcn_396, lcn_645, lcn_646, lcn_647, lcn_351, lcn_648], [], [sl_341], [((94, 0), 2)], (7, [(4, -1)]))]) (fk := []) (rk := (8, [])) (sp := 131072) (fuel := 3000) (by decide +kernel) (lk_d S_226 ml_6_188 (lk_d S_239 ml_6_192 (lk_d S_241 ml_6_197 lk_n))) odX6_bestPier
set_option maxRecDepth 100000 in
theorem btX11_pier : bTab oX11_pier tX11_pier := ⟨ofX11_pier, by decide +kernel⟩
def ct_243 : aCt := (mX11_pier, [ag_0, ag_1], ([], [((0, 3), 2), ((94, 0), 2)]), [pon_388, pon_390], mdn_531, [], (nat_lit 6))
set_option maxRecDepth 100000 in
theorem S_243 : aSpec wd ct_243 := bChk_ok wx_ok btX11_pier (nds := []) (fk := []) (rk := (1, [])) (sp := 0) (fuel := 3000) (by decide +kernel) (lk_d S_91 ml_11_222 (lk_d S_6 ml_11_98 (lk_d S_63 ml_11_98 (lk_d S_242 ml_11_319 (lk_d S_92 ml_11_227 (lk_d S_57 ml_11_112 lk_n)))))) odX11_pier
def ag_649 : aAg := .inr (.inl [(nat_lit 96)])
def ag_650 : aAg := .inl [((.ofNat (nat_lit 0)), (.ofNat (nat_lit 127)), (nat_lit 1))]
def pon_651 : aPo := (some (.inl [((.ofNat (nat_lit 0)), (.ofNat (nat_lit 4095)), (nat_lit 1))]), [], [], [])
def lcn_652 : Nat × aAg := ((nat_lit 0), .inr (.inl [(nat_lit 96)]))
def lcn_653 : Nat × aAg := ((nat_lit 1), .inl [((.ofNat (nat_lit 0)), (.ofNat (nat_lit 127)), (nat_lit 1))])
def lcn_654 : Nat × aAg := ((nat_lit 2), .inl [((.ofNat (nat_lit 0)), (.ofNat (nat_lit 4095)), (nat_lit 1))])
set_option maxRecDepth 100000 in
theorem btX3_waysOutOf : bTab oX3_waysOutOf tX3_waysOutOf := ⟨ofX3_waysOutOf, by decide +kernel⟩
def ct_244 : aCt := (mX3_waysOutOf, [ag_649, ag_650], ([], [((96, 0), 2)]), [pon_651], [], [], (nat_lit 0))
set_option maxRecDepth 100000 in
theorem S_244 : aSpec wd ct_244 := bChk_ok wx_ok btX3_waysOutOf (nds := [((nat_lit 4), [lcn_652, lcn_653, lcn_654, lcn_379], [], [], [((96, 0), 2)], (12, [(2, -1)]))]) (fk := []) (rk := (13, [])) (sp := 16) (fuel := 3000) (by decide +kernel) lk_n odX3_waysOutOf
def ag_655 : aAg := .inl [((.ofNat (nat_lit 0)), (.ofNat (nat_lit 4095)), (nat_lit 1))]
def ct_245 : aCt := (mJ6_bitCount_0f7a4, [ag_655], ([], []), [pon_364], [], [], (nat_lit 0))
set_option maxRecDepth 100000 in
theorem S_245 : aSpec wd ct_245 := bChk_ok wx_ok btJ6_bitCount_0f7a4 (nds := []) (fk := []) (rk := (1, [])) (sp := 0) (fuel := 3000) (by decide +kernel) lk_n odJ6_bitCount_0f7a4
def pon_656 : aPo := (some (.inl [((.negSucc (nat_lit 1)), (.negSucc (nat_lit 1)), (nat_lit 1)), ((.ofNat (nat_lit 0)), (.ofNat (nat_lit 4095)), (nat_lit 1))]), [], [], [])
def lcn_657 : Nat × aAg := ((nat_lit 4), .inl [((.negSucc (nat_lit 1)), (.negSucc (nat_lit 1)), (nat_lit 1)), ((.ofNat (nat_lit 0)), (.ofNat (nat_lit 4095)), (nat_lit 1))])
def lcn_658 : Nat × aAg := ((nat_lit 5), .inl [((.ofNat (nat_lit 0)), (.ofNat (nat_lit 13)), (nat_lit 1))])
def lcn_659 : Nat × aAg := ((nat_lit 6), .inl [((.ofNat (nat_lit 0)), (.ofNat (nat_lit 128)), (nat_lit 1))])
set_option maxRecDepth 100000 in
theorem btX3_fewestToWatch : bTab oX3_fewestToWatch tX3_fewestToWatch := ⟨ofX3_fewestToWatch, by decide +kernel⟩
def ct_246 : aCt := (mX3_fewestToWatch, [ag_649, ag_125, ag_125, ag_1], ([sl_341], [((96, 0), 2)]), [pon_656], [], [], (nat_lit 1))
set_option maxRecDepth 100000 in
theorem S_246 : aSpec wd ct_246 := bChk_ok wx_ok btX3_fewestToWatch (nds := [((nat_lit 11), [lcn_652, lcn_249, lcn_250, lcn_517, lcn_657, lcn_658, lcn_659], [], [sl_341], [((96, 0), 2)], (128, [(5, -1)]))]) (fk := []) (rk := (129, [])) (sp := 2048) (fuel := 3000) (by decide +kernel) (lk_d S_244 ml_3_31 (lk_d S_245 ml_3_35 lk_n)) odX3_fewestToWatch
set_option maxRecDepth 100000 in
theorem btX11_watch : bTab oX11_watch tX11_watch := ⟨ofX11_watch, by decide +kernel⟩
def ct_247 : aCt := (mX11_watch, [ag_0, ag_1, ag_1], ([], [((0, 3), 2), ((96, 0), 2)]), [pon_381, pon_333], mdn_25, [], (nat_lit 2))
set_option maxRecDepth 100000 in
theorem S_247 : aSpec wd ct_247 := bChk_ok wx_ok btX11_watch (nds := []) (fk := []) (rk := (1, [])) (sp := 0) (fuel := 3000) (by decide +kernel) (lk_d S_63 ml_11_98 (lk_d S_57 ml_11_112 (lk_d S_246 ml_11_325 (lk_d S_87 ml_11_204 lk_n)))) odX11_watch
def ag_660 : aAg := .inr (.inl [(nat_lit 98)])
def ag_661 : aAg := .inl [((.ofNat (nat_lit 1000000)), (.ofNat (nat_lit 1000000)), (nat_lit 1))]
def mdn_662 : List (Nat × Nat × Nat) := [((nat_lit 98), (nat_lit 0), (nat_lit 49))]
def lcn_663 : Nat × aAg := ((nat_lit 0), .inr (.inl [(nat_lit 98)]))
def lcn_664 : Nat × aAg := ((nat_lit 1), .inl [((.ofNat (nat_lit 1000000)), (.ofNat (nat_lit 1000000)), (nat_lit 1))])
def lcn_665 : Nat × aAg := ((nat_lit 3), .inl [((.ofNat (nat_lit 49)), (.ofNat (nat_lit 49)), (nat_lit 1))])
def ct_248 : aCt := (mJ7_fill_53178, [ag_660, ag_661], ([], []), [pon_49], mdn_662, [], (nat_lit 0))
set_option maxRecDepth 100000 in
theorem S_248 : aSpec wd ct_248 := bChk_ok wx_ok btJ7_fill_53178 (nds := [((nat_lit 5), [lcn_663, lcn_664, lcn_646, lcn_665], [], [], [], (63, [(0, -1)]))]) (fk := []) (rk := (64, [])) (sp := 32) (fuel := 3000) (by decide +kernel) lk_n odJ7_fill_53178
def lcn_666 : Nat × aAg := ((nat_lit 2), .inl [((.ofNat (nat_lit 0)), (.ofNat (nat_lit 12)), (nat_lit 1))])
set_option maxRecDepth 100000 in
theorem btX3_findShortest : bTab oX3_findShortest tX3_findShortest := ⟨ofX3_findShortest, by decide +kernel⟩
def ct_249 : aCt := (mX3_findShortest, [ag_649, ag_1], ([sl_341], [((96, 0), 2)]), [pon_49], mdn_662, [], (nat_lit 1))
set_option maxRecDepth 100000 in
theorem S_249 : aSpec wd ct_249 := bChk_ok wx_ok btX3_findShortest (nds := [((nat_lit 11), [lcn_652, lcn_271, lcn_666], [], [sl_341], [((96, 0), 2)], (596, [(1, -1)])), ((nat_lit 128), [lcn_652, lcn_271, lcn_411], [], [sl_341], [((96, 0), 2)], (583, [(1, -73)])), ((nat_lit 141), [lcn_652, lcn_271, lcn_250, lcn_438], [], [sl_341], [((96, 0), 2)], (582, [(1, -73), (2, -9)])), ((nat_lit 155), [lcn_652, lcn_271, lcn_250, lcn_144, lcn_445], [], [sl_341], [((96, 0), 2)], (581, [(1, -73), (2, -9), (3, -1)]))]) (fk := []) (rk := (597, [])) (sp := 45674714100022899442696306450542532841204353024) (fuel := 3000) (by decide +kernel) (lk_d S_248 ml_3_67 lk_n) odX3_findShortest
def ag_667 : aAg := .inl [((.ofNat (nat_lit 1)), (.ofNat (nat_lit 127)), (nat_lit 1))]
set_option maxRecDepth 100000 in
theorem btX3_daysOver : bTab oX3_daysOver tX3_daysOver := ⟨ofX3_daysOver, by decide +kernel⟩
def ct_250 : aCt := (mX3_daysOver, [ag_649, ag_667, ag_125, ag_125], ([], []), [pon_130], [], [], (nat_lit 0))
set_option maxRecDepth 100000 in
theorem S_250 : aSpec wd ct_250 := bChk_ok wx_ok btX3_daysOver (nds := []) (fk := []) (rk := (1, [])) (sp := 0) (fuel := 3000) (by decide +kernel) lk_n odX3_daysOver
def mdn_668 : List (Nat × Nat × Nat) := [((nat_lit 99), (nat_lit 7), (nat_lit 896))]
def lcn_669 : Nat × aAg := ((nat_lit 1), .inl [((.ofNat (nat_lit 1)), (.ofNat (nat_lit 127)), (nat_lit 1))])
def lcn_670 : Nat × aAg := ((nat_lit 2), .inl [((.ofNat (nat_lit 0)), (.ofNat (nat_lit 127)), (nat_lit 1))])
def lcn_671 : Nat × aAg := ((nat_lit 2), .inl [((.ofNat (nat_lit 1)), (.ofNat (nat_lit 127)), (nat_lit 1))])
def lcn_672 : Nat × aAg := ((nat_lit 4), .inl [((.negSucc (nat_lit 2147483647)), (.ofNat (nat_lit 1000000)), (nat_lit 1))])
set_option maxRecDepth 100000 in
theorem btX3_findRests : bTab oX3_findRests tX3_findRests := ⟨ofX3_findRests, by decide +kernel⟩
def ct_251 : aCt := (mX3_findRests, [ag_649], ([sl_341], [((96, 0), 2)]), [pon_49], mdn_668, [], (nat_lit 1))
set_option maxRecDepth 100000 in
theorem S_251 : aSpec wd ct_251 := bChk_ok wx_ok btX3_findRests (nds := [((nat_lit 14), [lcn_652, lcn_669, lcn_670], [], [sl_341], [((96, 0), 2)], (72, [(1, 73)])), ((nat_lit 20), [lcn_652, lcn_669, lcn_671, lcn_438], [], [sl_341], [((96, 0), 2)], (71, [(1, 73), (2, -9)])), ((nat_lit 47), [lcn_652, lcn_669, lcn_671, lcn_144, lcn_672, lcn_648], [], [sl_341], [((96, 0), 2)], (70, [(1, 73), (2, -9), (4, -1)]))]) (fk := []) (rk := (9344, [])) (sp := 140737489420288) (fuel := 3000) (by decide +kernel) (lk_d S_250 ml_3_81 lk_n) odX3_findRests
def ct_252 : aCt := (mX3_daysOver, [ag_649, ag_650, ag_125, ag_125], ([], []), [pon_130], [], [], (nat_lit 0))
set_option maxRecDepth 100000 in
theorem S_252 : aSpec wd ct_252 := bChk_ok wx_ok btX3_daysOver (nds := []) (fk := []) (rk := (1, [])) (sp := 0) (fuel := 3000) (by decide +kernel) lk_n odX3_daysOver
set_option maxRecDepth 100000 in
theorem btX3_nextOf : bTab oX3_nextOf tX3_nextOf := ⟨ofX3_nextOf, by decide +kernel⟩
def ct_253 : aCt := (mX3_nextOf, [ag_649, ag_650, ag_125], ([sl_426], [((96, 0), 2)]), [pon_264], [], [], (nat_lit 1))
set_option maxRecDepth 100000 in
theorem S_253 : aSpec wd ct_253 := bChk_ok wx_ok btX3_nextOf (nds := [((nat_lit 2), [lcn_652, lcn_653, lcn_250, lcn_438], [], [sl_426], [((96, 0), 2)], (7, [(2, -1)]))]) (fk := []) (rk := (8, [])) (sp := 4) (fuel := 3000) (by decide +kernel) (lk_d S_252 ml_3_81 lk_n) odX3_nextOf
def pon_673 : aPo := (some (.inl [((.negSucc (nat_lit 2147483647)), (.ofNat (nat_lit 999999)), (nat_lit 1))]), [], [], [])
def mdn_674 : List (Nat × Nat × Nat) := [((nat_lit 97), (nat_lit 0), (nat_lit 7)), ((nat_lit 98), (nat_lit 0), (nat_lit 49)), ((nat_lit 99), (nat_lit 7), (nat_lit 896))]
def lcn_675 : Nat × aAg := ((nat_lit 3), .inl [((.negSucc (nat_lit 2147483647)), (.ofNat (nat_lit 999999)), (nat_lit 1))])
def lcn_676 : Nat × aAg := ((nat_lit 4), .inl [((.ofNat (nat_lit 0)), (.ofNat (nat_lit 127)), (nat_lit 1))])
def lcn_677 : Nat × aAg := ((nat_lit 5), .inl [((.ofNat (nat_lit 1)), (.ofNat (nat_lit 7)), (nat_lit 1))])
set_option maxRecDepth 100000 in
theorem btX3_findRound : bTab oX3_findRound tX3_findRound := ⟨ofX3_findRound, by decide +kernel⟩
def ct_254 : aCt := (mX3_findRound, [ag_649, ag_125, ag_1], ([sl_341], [((96, 0), 2)]), [pon_673, pon_52], mdn_674, [], (nat_lit 2))
set_option maxRecDepth 100000 in
theorem S_254 : aSpec wd ct_254 := bChk_ok wx_ok btX3_findRound (nds := [((nat_lit 47), [lcn_652, lcn_249, lcn_132, lcn_675, lcn_676, lcn_677], [], [sl_341], [((96, 0), 2)], (7, [(4, -1)]))]) (fk := []) (rk := (7, [])) (sp := 140737488355328) (fuel := 3000) (by decide +kernel) (lk_d S_251 ml_3_59 (lk_d S_253 ml_3_63 (lk_d S_249 ml_3_55 lk_n))) odX3_findRound
def mdn_678 : List (Nat × Nat × Nat) := [((nat_lit 0), (nat_lit 2), (nat_lit 3)), ((nat_lit 97), (nat_lit 0), (nat_lit 7)), ((nat_lit 98), (nat_lit 0), (nat_lit 49)), ((nat_lit 99), (nat_lit 7), (nat_lit 896))]
set_option maxRecDepth 100000 in
theorem btX11_round : bTab oX11_round tX11_round := ⟨ofX11_round, by decide +kernel⟩
def ct_255 : aCt := (mX11_round, [ag_0, ag_1], ([], [((0, 3), 2), ((96, 0), 2)]), [pon_343, pon_333], mdn_678, [], (nat_lit 3))
set_option maxRecDepth 100000 in
theorem S_255 : aSpec wd ct_255 := bChk_ok wx_ok btX11_round (nds := []) (fk := []) (rk := (1, [])) (sp := 0) (fuel := 3000) (by decide +kernel) (lk_d S_63 ml_11_98 (lk_d S_67 ml_11_174 (lk_d S_57 ml_11_112 (lk_d S_254 ml_11_328 lk_n)))) odX11_round
def sl_679 : (Nat × Nat) × aI := (((nat_lit 0), (nat_lit 2)), [((.ofNat (nat_lit 1)), (.ofNat (nat_lit 1)), (nat_lit 1)), ((.ofNat (nat_lit 6)), (.ofNat (nat_lit 6)), (nat_lit 1))])
def pon_680 : aPo := (some (.inl [((.negSucc (nat_lit 0)), (.negSucc (nat_lit 0)), (nat_lit 1))]), [], [sl_679], [])
set_option maxRecDepth 100000 in
theorem btX11_roundAt : bTab oX11_roundAt tX11_roundAt := ⟨ofX11_roundAt, by decide +kernel⟩
def ct_256 : aCt := (mX11_roundAt, [ag_0, ag_1, ag_1], ([], [((0, 3), 2), ((96, 0), 2)]), [pon_381, pon_680], mdn_678, [], (nat_lit 3))
set_option maxRecDepth 100000 in
theorem S_256 : aSpec wd ct_256 := bChk_ok wx_ok btX11_roundAt (nds := []) (fk := []) (rk := (1, [])) (sp := 0) (fuel := 3000) (by decide +kernel) (lk_d S_179 ml_11_98 (lk_d S_63 ml_11_98 (lk_d S_86 ml_11_174 (lk_d S_67 ml_11_174 (lk_d S_57 ml_11_112 (lk_d S_254 ml_11_328 lk_n)))))) odX11_roundAt
def ag_681 : aAg := .inl [((.ofNat (nat_lit 65536)), (.ofNat (nat_lit 65536)), (nat_lit 1))]
def pon_682 : aPo := (some (.inl [((.ofNat (nat_lit 0)), (.ofNat (nat_lit 0)), (nat_lit 1))]), [some [((.negSucc (nat_lit 2147483647)), (.negSucc (nat_lit 0)), (nat_lit 1)), ((.ofNat (nat_lit 65537)), (.ofNat (nat_lit 2147483647)), (nat_lit 1))], none], [], [])
def pon_683 : aPo := (some (.inl [((.ofNat (nat_lit 1)), (.ofNat (nat_lit 1)), (nat_lit 1))]), [some [((.ofNat (nat_lit 0)), (.ofNat (nat_lit 65536)), (nat_lit 1))], none], [], [])
def ct_257 : aCt := (mX11_isWithin, [ag_1, ag_681], ([], []), [pon_682, pon_683], [], [], (nat_lit 0))
set_option maxRecDepth 100000 in
theorem S_257 : aSpec wd ct_257 := bChk_ok wx_ok btX11_isWithin (nds := []) (fk := []) (rk := (1, [])) (sp := 0) (fuel := 3000) (by decide +kernel) lk_n odX11_isWithin
def pon_684 : aPo := (some (.inl [((.ofNat (nat_lit 0)), (.ofNat (nat_lit 0)), (nat_lit 1))]), [some [((.negSucc (nat_lit 2147483647)), (.negSucc (nat_lit 0)), (nat_lit 1)), ((.ofNat (nat_lit 51)), (.ofNat (nat_lit 2147483647)), (nat_lit 1))], none], [], [])
def pon_685 : aPo := (some (.inl [((.ofNat (nat_lit 1)), (.ofNat (nat_lit 1)), (nat_lit 1))]), [some [((.ofNat (nat_lit 0)), (.ofNat (nat_lit 50)), (nat_lit 1))], none], [], [])
def ct_258 : aCt := (mX11_isWithin, [ag_1, ag_177], ([], []), [pon_684, pon_685], [], [], (nat_lit 0))
set_option maxRecDepth 100000 in
theorem S_258 : aSpec wd ct_258 := bChk_ok wx_ok btX11_isWithin (nds := []) (fk := []) (rk := (1, [])) (sp := 0) (fuel := 3000) (by decide +kernel) lk_n odX11_isWithin
def pon_686 : aPo := (some (.inl [((.negSucc (nat_lit 65535)), (.ofNat (nat_lit 65536)), (nat_lit 1))]), [], [], [])
def mdn_687 : List (Nat × Nat × Nat) := [((nat_lit 92), (nat_lit 1), (nat_lit 2))]
set_option maxRecDepth 100000 in
theorem btX7_draw : bTab oX7_draw tX7_draw := ⟨ofX7_draw, by decide +kernel⟩
def ct_259 : aCt := (mX7_draw, [ag_344], ([], []), [pon_686], mdn_687, [], (nat_lit 0))
set_option maxRecDepth 100000 in
theorem S_259 : aSpec wd ct_259 := bChk_ok wx_ok btX7_draw (nds := []) (fk := []) (rk := (1, [])) (sp := 0) (fuel := 3000) (by decide +kernel) lk_n odX7_draw
def ag_688 : aAg := .inl [((.negSucc (nat_lit 998)), (.ofNat (nat_lit 999)), (nat_lit 1))]
def ag_689 : aAg := .inl [((.negSucc (nat_lit 2)), (.ofNat (nat_lit 3)), (nat_lit 1))]
set_option maxRecDepth 100000 in
theorem btX11_withNote : bTab oX11_withNote tX11_withNote := ⟨ofX11_withNote, by decide +kernel⟩
def ct_260 : aCt := (mX11_withNote, [ag_1, ag_347, ag_688, ag_689], ([], []), [pon_130], [], [], (nat_lit 0))
set_option maxRecDepth 100000 in
theorem S_260 : aSpec wd ct_260 := bChk_ok wx_ok btX11_withNote (nds := []) (fk := []) (rk := (1, [])) (sp := 0) (fuel := 3000) (by decide +kernel) lk_n odX11_withNote
set_option maxRecDepth 100000 in
theorem btX7_slipped : bTab oX7_slipped tX7_slipped := ⟨ofX7_slipped, by decide +kernel⟩
def ct_261 : aCt := (mX7_slipped, [ag_344, ag_1, ag_137], ([], [((92, 0), 2)]), [pon_130], mdn_687, [], (nat_lit 1))
set_option maxRecDepth 100000 in
theorem S_261 : aSpec wd ct_261 := bChk_ok wx_ok btX7_slipped (nds := []) (fk := []) (rk := (1, [])) (sp := 0) (fuel := 3000) (by decide +kernel) (lk_d S_259 ml_7_85 (lk_d S_260 ml_7_92 lk_n)) odX7_slipped
def ag_690 : aAg := .inl [((.ofNat (nat_lit 0)), (.ofNat (nat_lit 10048)), (nat_lit 1))]
def ct_262 : aCt := (mX7_fallIn, [ag_344, ag_690], ([], [((92, 0), 2)]), [pon_346, pon_37], [], [], (nat_lit 0))
set_option maxRecDepth 100000 in
theorem S_262 : aSpec wd ct_262 := bChk_ok wx_ok btX7_fallIn (nds := []) (fk := []) (rk := (1, [])) (sp := 0) (fuel := 3000) (by decide +kernel) lk_n odX7_fallIn
def lcn_691 : Nat × aAg := ((nat_lit 3), .inl [((.ofNat (nat_lit 0)), (.ofNat (nat_lit 10048)), (nat_lit 1))])
def ct_263 : aCt := (mX7_hearerOf, [ag_344, ag_1, ag_137, ag_690], ([sl_341], [((92, 0), 2)]), [pon_365, pon_52], mdn_366, [], (nat_lit 2))
set_option maxRecDepth 100000 in
theorem S_263 : aSpec wd ct_263 := bChk_ok wx_ok btX7_hearerOf (nds := [((nat_lit 32), [lcn_349, lcn_271, lcn_143, lcn_691, lcn_351, lcn_368, lcn_369], [], [sl_341, sl_370], [((92, 0), 2)], (7, [(5, -1)]))]) (fk := []) (rk := (8, [])) (sp := 4294967296) (fuel := 3000) (by decide +kernel) (lk_d S_262 ml_7_50 (lk_d S_79 ml_7_54 (lk_d S_80 ml_7_54 (lk_d S_82 ml_7_60 lk_n)))) odX7_hearerOf
def mdn_692 : List (Nat × Nat × Nat) := [((nat_lit 92), (nat_lit 1), (nat_lit 4))]
def lcn_693 : Nat × aAg := ((nat_lit 1), .inl [((.ofNat (nat_lit 0)), (.ofNat (nat_lit 10048)), (nat_lit 1))])
set_option maxRecDepth 100000 in
theorem btX11_heardWithSlips : bTab oX11_heardWithSlips tX11_heardWithSlips := ⟨ofX11_heardWithSlips, by decide +kernel⟩
def ct_264 : aCt := (mX11_heardWithSlips, [ag_0, ag_690], ([sl_341], [((0, 3), 2), ((92, 0), 2)]), [pon_130], mdn_692, [], (nat_lit 3))
set_option maxRecDepth 100000 in
theorem S_264 : aSpec wd ct_264 := bChk_ok wx_ok btX11_heardWithSlips (nds := [((nat_lit 4), [lcn_407, lcn_693, lcn_132, lcn_408], [], [sl_341], [((0, 3), 2), ((92, 0), 2)], (8, [(2, -1)]))]) (fk := []) (rk := (9, [])) (sp := 16) (fuel := 3000) (by decide +kernel) (lk_d S_76 ml_11_198 (lk_d S_261 ml_11_399 (lk_d S_263 ml_11_277 lk_n))) odX11_heardWithSlips
def mdn_694 : List (Nat × Nat × Nat) := [((nat_lit 0), (nat_lit 2), (nat_lit 3)), ((nat_lit 92), (nat_lit 1), (nat_lit 4))]
def lcn_695 : Nat × aAg := ((nat_lit 1), .inl [((.ofNat (nat_lit 0)), (.ofNat (nat_lit 65536)), (nat_lit 1))])
def lcn_696 : Nat × aAg := ((nat_lit 2), .inl [((.ofNat (nat_lit 0)), (.ofNat (nat_lit 50)), (nat_lit 1))])
def lcn_697 : Nat × aAg := ((nat_lit 4), .inl [((.ofNat (nat_lit 0)), (.ofNat (nat_lit 63)), (nat_lit 1))])
set_option maxRecDepth 100000 in
theorem btX11_decade : bTab oX11_decade tX11_decade := ⟨ofX11_decade, by decide +kernel⟩
def ct_265 : aCt := (mX11_decade, [ag_0, ag_1, ag_1], ([], [((0, 3), 2), ((92, 0), 2)]), [pon_406, pon_390], mdn_694, [], (nat_lit 4))
set_option maxRecDepth 100000 in
theorem S_265 : aSpec wd ct_265 := bChk_ok wx_ok btX11_decade (nds := [((nat_lit 51), [lcn_407, lcn_695, lcn_696, lcn_517, lcn_697], [], [sl_341], [((0, 3), 2), ((92, 0), 2)], (63, [(3, -1)]))]) (fk := []) (rk := (64, [])) (sp := 2251799813685248) (fuel := 3000) (by decide +kernel) (lk_d S_91 ml_11_222 (lk_d S_6 ml_11_98 (lk_d S_63 ml_11_98 (lk_d S_264 ml_11_338 (lk_d S_257 ml_11_227 (lk_d S_258 ml_11_227 (lk_d S_57 ml_11_112 lk_n))))))) odX11_decade
def sl_698 : (Nat × Nat) × aI := (((nat_lit 0), (nat_lit 2)), [((.ofNat (nat_lit 5)), (.ofNat (nat_lit 5)), (nat_lit 1))])
def pon_699 : aPo := (some (.inl [((.negSucc (nat_lit 0)), (.negSucc (nat_lit 0)), (nat_lit 1))]), [], [sl_698], [])
def ct_266 : aCt := (mX11_refused, [ag_0, ag_150], ([], []), [pon_699], mdn_25, [], (nat_lit 0))
set_option maxRecDepth 100000 in
theorem S_266 : aSpec wd ct_266 := bChk_ok wx_ok btX11_refused (nds := []) (fk := []) (rk := (1, [])) (sp := 0) (fuel := 3000) (by decide +kernel) lk_n odX11_refused
def ag_700 : aAg := .inr (.inl [(nat_lit 106), (nat_lit 112), (nat_lit 118), (nat_lit 124), (nat_lit 130), (nat_lit 136), (nat_lit 142), (nat_lit 148), (nat_lit 154), (nat_lit 160), (nat_lit 166), (nat_lit 172)])
def mdn_701 : List (Nat × Nat × Nat) := [((nat_lit 106), (nat_lit 0), (nat_lit 2)), ((nat_lit 107), (nat_lit 0), (nat_lit 5)), ((nat_lit 108), (nat_lit 0), (nat_lit 5)), ((nat_lit 109), (nat_lit 0), (nat_lit 8)), ((nat_lit 110), (nat_lit 0), (nat_lit 8)), ((nat_lit 111), (nat_lit 0), (nat_lit 8)), ((nat_lit 112), (nat_lit 0), (nat_lit 2)), ((nat_lit 113), (nat_lit 0), (nat_lit 5)), ((nat_lit 114), (nat_lit 0), (nat_lit 5)), ((nat_lit 115), (nat_lit 0), (nat_lit 8)), ((nat_lit 116), (nat_lit 0), (nat_lit 8)), ((nat_lit 117), (nat_lit 0), (nat_lit 8)), ((nat_lit 118), (nat_lit 0), (nat_lit 2)), ((nat_lit 119), (nat_lit 0), (nat_lit 5)), ((nat_lit 120), (nat_lit 0), (nat_lit 5)), ((nat_lit 121), (nat_lit 0), (nat_lit 8)), ((nat_lit 122), (nat_lit 0), (nat_lit 8)), ((nat_lit 123), (nat_lit 0), (nat_lit 8)), ((nat_lit 124), (nat_lit 0), (nat_lit 2)), ((nat_lit 125), (nat_lit 0), (nat_lit 5)), ((nat_lit 126), (nat_lit 0), (nat_lit 5)), ((nat_lit 127), (nat_lit 0), (nat_lit 8)), ((nat_lit 128), (nat_lit 0), (nat_lit 8)), ((nat_lit 129), (nat_lit 0), (nat_lit 8)), ((nat_lit 130), (nat_lit 0), (nat_lit 2)), ((nat_lit 131), (nat_lit 0), (nat_lit 5)), ((nat_lit 132), (nat_lit 0), (nat_lit 5)), ((nat_lit 133), (nat_lit 0), (nat_lit 8)), ((nat_lit 134), (nat_lit 0), (nat_lit 8)), ((nat_lit 135), (nat_lit 0), (nat_lit 8)), ((nat_lit 136), (nat_lit 0), (nat_lit 2)), ((nat_lit 137), (nat_lit 0), (nat_lit 5)), ((nat_lit 138), (nat_lit 0), (nat_lit 5)), ((nat_lit 139), (nat_lit 0), (nat_lit 8)), ((nat_lit 140), (nat_lit 0), (nat_lit 8)), ((nat_lit 141), (nat_lit 0), (nat_lit 8)), ((nat_lit 142), (nat_lit 0), (nat_lit 2)), ((nat_lit 143), (nat_lit 0), (nat_lit 5)), ((nat_lit 144), (nat_lit 0), (nat_lit 5)), ((nat_lit 145), (nat_lit 0), (nat_lit 8)), ((nat_lit 146), (nat_lit 0), (nat_lit 8)), ((nat_lit 147), (nat_lit 0), (nat_lit 8)), ((nat_lit 148), (nat_lit 0), (nat_lit 2)), ((nat_lit 149), (nat_lit 0), (nat_lit 5)), ((nat_lit 150), (nat_lit 0), (nat_lit 5)), ((nat_lit 151), (nat_lit 0), (nat_lit 8)), ((nat_lit 152), (nat_lit 0), (nat_lit 8)), ((nat_lit 153), (nat_lit 0), (nat_lit 8)), ((nat_lit 154), (nat_lit 0), (nat_lit 2)), ((nat_lit 155), (nat_lit 0), (nat_lit 5)), ((nat_lit 156), (nat_lit 0), (nat_lit 5)), ((nat_lit 157), (nat_lit 0), (nat_lit 8)), ((nat_lit 158), (nat_lit 0), (nat_lit 8)), ((nat_lit 159), (nat_lit 0), (nat_lit 8)), ((nat_lit 160), (nat_lit 0), (nat_lit 2)), ((nat_lit 161), (nat_lit 0), (nat_lit 5)), ((nat_lit 162), (nat_lit 0), (nat_lit 5)), ((nat_lit 163), (nat_lit 0), (nat_lit 8)), ((nat_lit 164), (nat_lit 0), (nat_lit 8)), ((nat_lit 165), (nat_lit 0), (nat_lit 8)), ((nat_lit 166), (nat_lit 0), (nat_lit 2)), ((nat_lit 167), (nat_lit 0), (nat_lit 5)), ((nat_lit 168), (nat_lit 0), (nat_lit 5)), ((nat_lit 169), (nat_lit 0), (nat_lit 8)), ((nat_lit 170), (nat_lit 0), (nat_lit 8)), ((nat_lit 171), (nat_lit 0), (nat_lit 8)), ((nat_lit 172), (nat_lit 0), (nat_lit 2)), ((nat_lit 173), (nat_lit 0), (nat_lit 5)), ((nat_lit 174), (nat_lit 0), (nat_lit 5)), ((nat_lit 175), (nat_lit 0), (nat_lit 8)), ((nat_lit 176), (nat_lit 0), (nat_lit 8)), ((nat_lit 177), (nat_lit 0), (nat_lit 8))]
set_option maxRecDepth 100000 in
theorem btX2_copyFrom : bTab oX2_copyFrom tX2_copyFrom := ⟨ofX2_copyFrom, by decide +kernel⟩
def ct_267 : aCt := (mX2_copyFrom, [ag_700, ag_289], ([], []), [pon_49], mdn_701, [], (nat_lit 1))
set_option maxRecDepth 100000 in
theorem S_267 : aSpec wd ct_267 := bChk_ok wx_ok btX2_copyFrom (nds := []) (fk := []) (rk := (1, [])) (sp := 0) (fuel := 3000) (by decide +kernel) lk_n odX2_copyFrom
def mdn_702 : List (Nat × Nat × Nat) := [((nat_lit 0), (nat_lit 12), (nat_lit 14)), ((nat_lit 106), (nat_lit 0), (nat_lit 2)), ((nat_lit 107), (nat_lit 0), (nat_lit 5)), ((nat_lit 108), (nat_lit 0), (nat_lit 5)), ((nat_lit 109), (nat_lit 0), (nat_lit 8)), ((nat_lit 110), (nat_lit 0), (nat_lit 8)), ((nat_lit 111), (nat_lit 0), (nat_lit 8)), ((nat_lit 112), (nat_lit 0), (nat_lit 2)), ((nat_lit 113), (nat_lit 0), (nat_lit 5)), ((nat_lit 114), (nat_lit 0), (nat_lit 5)), ((nat_lit 115), (nat_lit 0), (nat_lit 8)), ((nat_lit 116), (nat_lit 0), (nat_lit 8)), ((nat_lit 117), (nat_lit 0), (nat_lit 8)), ((nat_lit 118), (nat_lit 0), (nat_lit 2)), ((nat_lit 119), (nat_lit 0), (nat_lit 5)), ((nat_lit 120), (nat_lit 0), (nat_lit 5)), ((nat_lit 121), (nat_lit 0), (nat_lit 8)), ((nat_lit 122), (nat_lit 0), (nat_lit 8)), ((nat_lit 123), (nat_lit 0), (nat_lit 8)), ((nat_lit 124), (nat_lit 0), (nat_lit 2)), ((nat_lit 125), (nat_lit 0), (nat_lit 5)), ((nat_lit 126), (nat_lit 0), (nat_lit 5)), ((nat_lit 127), (nat_lit 0), (nat_lit 8)), ((nat_lit 128), (nat_lit 0), (nat_lit 8)), ((nat_lit 129), (nat_lit 0), (nat_lit 8)), ((nat_lit 130), (nat_lit 0), (nat_lit 2)), ((nat_lit 131), (nat_lit 0), (nat_lit 5)), ((nat_lit 132), (nat_lit 0), (nat_lit 5)), ((nat_lit 133), (nat_lit 0), (nat_lit 8)), ((nat_lit 134), (nat_lit 0), (nat_lit 8)), ((nat_lit 135), (nat_lit 0), (nat_lit 8)), ((nat_lit 136), (nat_lit 0), (nat_lit 2)), ((nat_lit 137), (nat_lit 0), (nat_lit 5)), ((nat_lit 138), (nat_lit 0), (nat_lit 5)), ((nat_lit 139), (nat_lit 0), (nat_lit 8)), ((nat_lit 140), (nat_lit 0), (nat_lit 8)), ((nat_lit 141), (nat_lit 0), (nat_lit 8)), ((nat_lit 142), (nat_lit 0), (nat_lit 2)), ((nat_lit 143), (nat_lit 0), (nat_lit 5)), ((nat_lit 144), (nat_lit 0), (nat_lit 5)), ((nat_lit 145), (nat_lit 0), (nat_lit 8)), ((nat_lit 146), (nat_lit 0), (nat_lit 8)), ((nat_lit 147), (nat_lit 0), (nat_lit 8)), ((nat_lit 148), (nat_lit 0), (nat_lit 2)), ((nat_lit 149), (nat_lit 0), (nat_lit 5)), ((nat_lit 150), (nat_lit 0), (nat_lit 5)), ((nat_lit 151), (nat_lit 0), (nat_lit 8)), ((nat_lit 152), (nat_lit 0), (nat_lit 8)), ((nat_lit 153), (nat_lit 0), (nat_lit 8)), ((nat_lit 154), (nat_lit 0), (nat_lit 2)), ((nat_lit 155), (nat_lit 0), (nat_lit 5)), ((nat_lit 156), (nat_lit 0), (nat_lit 5)), ((nat_lit 157), (nat_lit 0), (nat_lit 8)), ((nat_lit 158), (nat_lit 0), (nat_lit 8)), ((nat_lit 159), (nat_lit 0), (nat_lit 8)), ((nat_lit 160), (nat_lit 0), (nat_lit 2)), ((nat_lit 161), (nat_lit 0), (nat_lit 5)), ((nat_lit 162), (nat_lit 0), (nat_lit 5)), ((nat_lit 163), (nat_lit 0), (nat_lit 8)), ((nat_lit 164), (nat_lit 0), (nat_lit 8)), ((nat_lit 165), (nat_lit 0), (nat_lit 8)), ((nat_lit 166), (nat_lit 0), (nat_lit 2)), ((nat_lit 167), (nat_lit 0), (nat_lit 5)), ((nat_lit 168), (nat_lit 0), (nat_lit 5)), ((nat_lit 169), (nat_lit 0), (nat_lit 8)), ((nat_lit 170), (nat_lit 0), (nat_lit 8)), ((nat_lit 171), (nat_lit 0), (nat_lit 8)), ((nat_lit 172), (nat_lit 0), (nat_lit 2)), ((nat_lit 173), (nat_lit 0), (nat_lit 5)), ((nat_lit 174), (nat_lit 0), (nat_lit 5)), ((nat_lit 175), (nat_lit 0), (nat_lit 8)), ((nat_lit 176), (nat_lit 0), (nat_lit 8)), ((nat_lit 177), (nat_lit 0), (nat_lit 8))]
set_option maxRecDepth 100000 in
theorem btX11_keepForUndo : bTab oX11_keepForUndo tX11_keepForUndo := ⟨ofX11_keepForUndo, by decide +kernel⟩
def ct_268 : aCt := (mX11_keepForUndo, [ag_0], ([], []), [pon_49], mdn_702, [], (nat_lit 2))
set_option maxRecDepth 100000 in
theorem S_268 : aSpec wd ct_268 := bChk_ok wx_ok btX11_keepForUndo (nds := []) (fk := []) (rk := (1, [])) (sp := 0) (fuel := 3000) (by decide +kernel) (lk_d S_267 ml_11_359 lk_n) odX11_keepForUndo
def pon_703 : aPo := (some (.inl aTop), [none, some [((.ofNat (nat_lit 0)), (.ofNat (nat_lit 4)), (nat_lit 1))], some [((.ofNat (nat_lit 0)), (.ofNat (nat_lit 7)), (nat_lit 1))]], [sl_301, sl_334, sl_338, sl_532], [])
def sl_704 : (Nat × Nat) × aI := (((nat_lit 0), (nat_lit 2)), [((.ofNat (nat_lit 1)), (.ofNat (nat_lit 1)), (nat_lit 1)), ((.ofNat (nat_lit 5)), (.ofNat (nat_lit 5)), (nat_lit 1))])
def pon_705 : aPo := (some (.inl [((.negSucc (nat_lit 0)), (.negSucc (nat_lit 0)), (nat_lit 1))]), [none, some aTop, none], [sl_704], [])
def mdn_706 : List (Nat × Nat × Nat) := [((nat_lit 0), (nat_lit 2), (nat_lit 3)), ((nat_lit 0), (nat_lit 12), (nat_lit 14)), ((nat_lit 87), (nat_lit 0), (nat_lit 5)), ((nat_lit 88), (nat_lit 0), (nat_lit 5)), ((nat_lit 89), (nat_lit 0), (nat_lit 8)), ((nat_lit 90), (nat_lit 0), (nat_lit 8)), ((nat_lit 92), (nat_lit 2), (nat_lit 4)), ((nat_lit 94), (nat_lit 4), (nat_lit 7)), ((nat_lit 95), (nat_lit 0), (nat_lit 7)), ((nat_lit 106), (nat_lit 0), (nat_lit 2)), ((nat_lit 107), (nat_lit 0), (nat_lit 5)), ((nat_lit 108), (nat_lit 0), (nat_lit 5)), ((nat_lit 109), (nat_lit 0), (nat_lit 8)), ((nat_lit 110), (nat_lit 0), (nat_lit 8)), ((nat_lit 111), (nat_lit 0), (nat_lit 8)), ((nat_lit 112), (nat_lit 0), (nat_lit 2)), ((nat_lit 113), (nat_lit 0), (nat_lit 5)), ((nat_lit 114), (nat_lit 0), (nat_lit 5)), ((nat_lit 115), (nat_lit 0), (nat_lit 8)), ((nat_lit 116), (nat_lit 0), (nat_lit 8)), ((nat_lit 117), (nat_lit 0), (nat_lit 8)), ((nat_lit 118), (nat_lit 0), (nat_lit 2)), ((nat_lit 119), (nat_lit 0), (nat_lit 5)), ((nat_lit 120), (nat_lit 0), (nat_lit 5)), ((nat_lit 121), (nat_lit 0), (nat_lit 8)), ((nat_lit 122), (nat_lit 0), (nat_lit 8)), ((nat_lit 123), (nat_lit 0), (nat_lit 8)), ((nat_lit 124), (nat_lit 0), (nat_lit 2)), ((nat_lit 125), (nat_lit 0), (nat_lit 5)), ((nat_lit 126), (nat_lit 0), (nat_lit 5)), ((nat_lit 127), (nat_lit 0), (nat_lit 8)), ((nat_lit 128), (nat_lit 0), (nat_lit 8)), ((nat_lit 129), (nat_lit 0), (nat_lit 8)), ((nat_lit 130), (nat_lit 0), (nat_lit 2)), ((nat_lit 131), (nat_lit 0), (nat_lit 5)), ((nat_lit 132), (nat_lit 0), (nat_lit 5)), ((nat_lit 133), (nat_lit 0), (nat_lit 8)), ((nat_lit 134), (nat_lit 0), (nat_lit 8)), ((nat_lit 135), (nat_lit 0), (nat_lit 8)), ((nat_lit 136), (nat_lit 0), (nat_lit 2)), ((nat_lit 137), (nat_lit 0), (nat_lit 5)), ((nat_lit 138), (nat_lit 0), (nat_lit 5)), ((nat_lit 139), (nat_lit 0), (nat_lit 8)), ((nat_lit 140), (nat_lit 0), (nat_lit 8)), ((nat_lit 141), (nat_lit 0), (nat_lit 8)), ((nat_lit 142), (nat_lit 0), (nat_lit 2)), ((nat_lit 143), (nat_lit 0), (nat_lit 5)), ((nat_lit 144), (nat_lit 0), (nat_lit 5)), ((nat_lit 145), (nat_lit 0), (nat_lit 8)), ((nat_lit 146), (nat_lit 0), (nat_lit 8)), ((nat_lit 147), (nat_lit 0), (nat_lit 8)), ((nat_lit 148), (nat_lit 0), (nat_lit 2)), ((nat_lit 149), (nat_lit 0), (nat_lit 5)), ((nat_lit 150), (nat_lit 0), (nat_lit 5)), ((nat_lit 151), (nat_lit 0), (nat_lit 8)), ((nat_lit 152), (nat_lit 0), (nat_lit 8)), ((nat_lit 153), (nat_lit 0), (nat_lit 8)), ((nat_lit 154), (nat_lit 0), (nat_lit 2)), ((nat_lit 155), (nat_lit 0), (nat_lit 5)), ((nat_lit 156), (nat_lit 0), (nat_lit 5)), ((nat_lit 157), (nat_lit 0), (nat_lit 8)), ((nat_lit 158), (nat_lit 0), (nat_lit 8)), ((nat_lit 159), (nat_lit 0), (nat_lit 8)), ((nat_lit 160), (nat_lit 0), (nat_lit 2)), ((nat_lit 161), (nat_lit 0), (nat_lit 5)), ((nat_lit 162), (nat_lit 0), (nat_lit 5)), ((nat_lit 163), (nat_lit 0), (nat_lit 8)), ((nat_lit 164), (nat_lit 0), (nat_lit 8)), ((nat_lit 165), (nat_lit 0), (nat_lit 8)), ((nat_lit 166), (nat_lit 0), (nat_lit 2)), ((nat_lit 167), (nat_lit 0), (nat_lit 5)), ((nat_lit 168), (nat_lit 0), (nat_lit 5)), ((nat_lit 169), (nat_lit 0), (nat_lit 8)), ((nat_lit 170), (nat_lit 0), (nat_lit 8)), ((nat_lit 171), (nat_lit 0), (nat_lit 8)), ((nat_lit 172), (nat_lit 0), (nat_lit 2)), ((nat_lit 173), (nat_lit 0), (nat_lit 5)), ((nat_lit 174), (nat_lit 0), (nat_lit 5)), ((nat_lit 175), (nat_lit 0), (nat_lit 8)), ((nat_lit 176), (nat_lit 0), (nat_lit 8)), ((nat_lit 177), (nat_lit 0), (nat_lit 8))]
set_option maxRecDepth 100000 in
theorem btX11_send : bTab oX11_send tX11_send := ⟨ofX11_send, by decide +kernel⟩
def ct_269 : aCt := (mX11_send, [ag_0, ag_1, ag_1], ([], [((0, 3), 2), ((92, 0), 2), ((94, 0), 2)]), [pon_703, pon_705], mdn_706, [], (nat_lit 5))
set_option maxRecDepth 100000 in
theorem S_269 : aSpec wd ct_269 := bChk_ok wx_ok btX11_send (nds := []) (fk := []) (rk := (1, [])) (sp := 0) (fuel := 3000) (by decide +kernel) (lk_d S_268 ml_11_341 (lk_d S_266 ml_11_98 (lk_d S_63 ml_11_98 (lk_d S_171 ml_11_283 (lk_d S_170 ml_11_283 (lk_d S_169 ml_11_283 (lk_d S_168 ml_11_283 (lk_d S_167 ml_11_283 (lk_d S_62 ml_11_121 (lk_d S_65 ml_11_147 (lk_d S_57 ml_11_112 lk_n))))))))))) odX11_send
def ag_707 : aAg := .inl [((.negSucc (nat_lit 0)), (.ofNat (nat_lit 3)), (nat_lit 1))]
def pon_708 : aPo := (some (.inl [((.ofNat (nat_lit 0)), (.ofNat (nat_lit 0)), (nat_lit 1))]), [some aTop, none], [], [])
def pon_709 : aPo := (some (.inl [((.ofNat (nat_lit 1)), (.ofNat (nat_lit 1)), (nat_lit 1))]), [some [((.ofNat (nat_lit 0)), (.ofNat (nat_lit 3)), (nat_lit 1))], some [((.ofNat (nat_lit 0)), (.ofNat (nat_lit 3)), (nat_lit 1))]], [], [])
def ct_270 : aCt := (mX11_isWithin, [ag_1, ag_707], ([], []), [pon_708, pon_709], [], [], (nat_lit 0))
set_option maxRecDepth 100000 in
theorem S_270 : aSpec wd ct_270 := bChk_ok wx_ok btX11_isWithin (nds := []) (fk := []) (rk := (1, [])) (sp := 0) (fuel := 3000) (by decide +kernel) lk_n odX11_isWithin
def ct_271 : aCt := (mX11_withNote, [ag_1, ag_137, ag_348, ag_361], ([], []), [pon_130], [], [], (nat_lit 0))
set_option maxRecDepth 100000 in
theorem S_271 : aSpec wd ct_271 := bChk_ok wx_ok btX11_withNote (nds := []) (fk := []) (rk := (1, [])) (sp := 0) (fuel := 3000) (by decide +kernel) lk_n odX11_withNote
def pon_710 : aPo := (some (.inl [((.ofNat (nat_lit 0)), (.ofNat (nat_lit 0)), (nat_lit 1))]), [], [sl_698], [])
set_option maxRecDepth 100000 in
theorem btX11_hasRefused : bTab oX11_hasRefused tX11_hasRefused := ⟨ofX11_hasRefused, by decide +kernel⟩
def ct_272 : aCt := (mX11_hasRefused, [ag_0, ag_150], ([], []), [pon_710], mdn_25, [], (nat_lit 0))
set_option maxRecDepth 100000 in
theorem S_272 : aSpec wd ct_272 := bChk_ok wx_ok btX11_hasRefused (nds := []) (fk := []) (rk := (1, [])) (sp := 0) (fuel := 3000) (by decide +kernel) lk_n odX11_hasRefused
def pon_711 : aPo := (some (.inl [((.ofNat (nat_lit 1)), (.ofNat (nat_lit 1)), (nat_lit 1))]), [], [sl_301], [])
set_option maxRecDepth 100000 in
theorem btX11_hasGranted : bTab oX11_hasGranted tX11_hasGranted := ⟨ofX11_hasGranted, by decide +kernel⟩
def ct_273 : aCt := (mX11_hasGranted, [ag_0], ([], []), [pon_711], mdn_25, [], (nat_lit 0))
set_option maxRecDepth 100000 in
theorem S_273 : aSpec wd ct_273 := bChk_ok wx_ok btX11_hasGranted (nds := []) (fk := []) (rk := (1, [])) (sp := 0) (fuel := 3000) (by decide +kernel) lk_n odX11_hasGranted
def pon_712 : aPo := (some (.inl [((.ofNat (nat_lit 0)), (.ofNat (nat_lit 0)), (nat_lit 1))]), [], [sl_23], [])
def ct_274 : aCt := (mX11_hasRefused, [ag_0, ag_22], ([], []), [pon_712], mdn_25, [], (nat_lit 0))
set_option maxRecDepth 100000 in
theorem S_274 : aSpec wd ct_274 := bChk_ok wx_ok btX11_hasRefused (nds := []) (fk := []) (rk := (1, [])) (sp := 0) (fuel := 3000) (by decide +kernel) lk_n odX11_hasRefused
def pon_713 : aPo := (some (.inl [((.ofNat (nat_lit 0)), (.ofNat (nat_lit 0)), (nat_lit 1))]), [], [sl_332], [])
def ct_275 : aCt := (mX11_hasRefused, [ag_0, ag_53], ([], []), [pon_713], mdn_25, [], (nat_lit 0))
set_option maxRecDepth 100000 in
theorem S_275 : aSpec wd ct_275 := bChk_ok wx_ok btX11_hasRefused (nds := []) (fk := []) (rk := (1, [])) (sp := 0) (fuel := 3000) (by decide +kernel) lk_n odX11_hasRefused
def sl_714 : (Nat × Nat) × aI := (((nat_lit 0), (nat_lit 2)), [((.ofNat (nat_lit 1)), (.ofNat (nat_lit 2)), (nat_lit 1)), ((.ofNat (nat_lit 5)), (.ofNat (nat_lit 5)), (nat_lit 1))])
def pon_715 : aPo := (some (.inl [((.ofNat (nat_lit 0)), (.ofNat (nat_lit 0)), (nat_lit 1))]), [], [sl_714], [])
def pon_716 : aPo := (some (.inl [((.ofNat (nat_lit 1)), (.ofNat (nat_lit 1)), (nat_lit 1))]), [none, some [((.ofNat (nat_lit 0)), (.ofNat (nat_lit 7)), (nat_lit 1))], some [((.ofNat (nat_lit 0)), (.ofNat (nat_lit 999)), (nat_lit 1))], some [((.ofNat (nat_lit 0)), (.ofNat (nat_lit 3)), (nat_lit 1))]], [sl_301, sl_338], [])
def mdn_717 : List (Nat × Nat × Nat) := [((nat_lit 0), (nat_lit 2), (nat_lit 3)), ((nat_lit 0), (nat_lit 12), (nat_lit 14)), ((nat_lit 91), (nat_lit 0), (nat_lit 8)), ((nat_lit 106), (nat_lit 0), (nat_lit 2)), ((nat_lit 107), (nat_lit 0), (nat_lit 5)), ((nat_lit 108), (nat_lit 0), (nat_lit 5)), ((nat_lit 109), (nat_lit 0), (nat_lit 8)), ((nat_lit 110), (nat_lit 0), (nat_lit 8)), ((nat_lit 111), (nat_lit 0), (nat_lit 8)), ((nat_lit 112), (nat_lit 0), (nat_lit 2)), ((nat_lit 113), (nat_lit 0), (nat_lit 5)), ((nat_lit 114), (nat_lit 0), (nat_lit 5)), ((nat_lit 115), (nat_lit 0), (nat_lit 8)), ((nat_lit 116), (nat_lit 0), (nat_lit 8)), ((nat_lit 117), (nat_lit 0), (nat_lit 8)), ((nat_lit 118), (nat_lit 0), (nat_lit 2)), ((nat_lit 119), (nat_lit 0), (nat_lit 5)), ((nat_lit 120), (nat_lit 0), (nat_lit 5)), ((nat_lit 121), (nat_lit 0), (nat_lit 8)), ((nat_lit 122), (nat_lit 0), (nat_lit 8)), ((nat_lit 123), (nat_lit 0), (nat_lit 8)), ((nat_lit 124), (nat_lit 0), (nat_lit 2)), ((nat_lit 125), (nat_lit 0), (nat_lit 5)), ((nat_lit 126), (nat_lit 0), (nat_lit 5)), ((nat_lit 127), (nat_lit 0), (nat_lit 8)), ((nat_lit 128), (nat_lit 0), (nat_lit 8)), ((nat_lit 129), (nat_lit 0), (nat_lit 8)), ((nat_lit 130), (nat_lit 0), (nat_lit 2)), ((nat_lit 131), (nat_lit 0), (nat_lit 5)), ((nat_lit 132), (nat_lit 0), (nat_lit 5)), ((nat_lit 133), (nat_lit 0), (nat_lit 8)), ((nat_lit 134), (nat_lit 0), (nat_lit 8)), ((nat_lit 135), (nat_lit 0), (nat_lit 8)), ((nat_lit 136), (nat_lit 0), (nat_lit 2)), ((nat_lit 137), (nat_lit 0), (nat_lit 5)), ((nat_lit 138), (nat_lit 0), (nat_lit 5)), ((nat_lit 139), (nat_lit 0), (nat_lit 8)), ((nat_lit 140), (nat_lit 0), (nat_lit 8)), ((nat_lit 141), (nat_lit 0), (nat_lit 8)), ((nat_lit 142), (nat_lit 0), (nat_lit 2)), ((nat_lit 143), (nat_lit 0), (nat_lit 5)), ((nat_lit 144), (nat_lit 0), (nat_lit 5)), ((nat_lit 145), (nat_lit 0), (nat_lit 8)), ((nat_lit 146), (nat_lit 0), (nat_lit 8)), ((nat_lit 147), (nat_lit 0), (nat_lit 8)), ((nat_lit 148), (nat_lit 0), (nat_lit 2)), ((nat_lit 149), (nat_lit 0), (nat_lit 5)), ((nat_lit 150), (nat_lit 0), (nat_lit 5)), ((nat_lit 151), (nat_lit 0), (nat_lit 8)), ((nat_lit 152), (nat_lit 0), (nat_lit 8)), ((nat_lit 153), (nat_lit 0), (nat_lit 8)), ((nat_lit 154), (nat_lit 0), (nat_lit 2)), ((nat_lit 155), (nat_lit 0), (nat_lit 5)), ((nat_lit 156), (nat_lit 0), (nat_lit 5)), ((nat_lit 157), (nat_lit 0), (nat_lit 8)), ((nat_lit 158), (nat_lit 0), (nat_lit 8)), ((nat_lit 159), (nat_lit 0), (nat_lit 8)), ((nat_lit 160), (nat_lit 0), (nat_lit 2)), ((nat_lit 161), (nat_lit 0), (nat_lit 5)), ((nat_lit 162), (nat_lit 0), (nat_lit 5)), ((nat_lit 163), (nat_lit 0), (nat_lit 8)), ((nat_lit 164), (nat_lit 0), (nat_lit 8)), ((nat_lit 165), (nat_lit 0), (nat_lit 8)), ((nat_lit 166), (nat_lit 0), (nat_lit 2)), ((nat_lit 167), (nat_lit 0), (nat_lit 5)), ((nat_lit 168), (nat_lit 0), (nat_lit 5)), ((nat_lit 169), (nat_lit 0), (nat_lit 8)), ((nat_lit 170), (nat_lit 0), (nat_lit 8)), ((nat_lit 171), (nat_lit 0), (nat_lit 8)), ((nat_lit 172), (nat_lit 0), (nat_lit 2)), ((nat_lit 173), (nat_lit 0), (nat_lit 5)), ((nat_lit 174), (nat_lit 0), (nat_lit 5)), ((nat_lit 175), (nat_lit 0), (nat_lit 8)), ((nat_lit 176), (nat_lit 0), (nat_lit 8)), ((nat_lit 177), (nat_lit 0), (nat_lit 8))]
set_option maxRecDepth 100000 in
theorem btX11_tune : bTab oX11_tune tX11_tune := ⟨ofX11_tune, by decide +kernel⟩
def ct_276 : aCt := (mX11_tune, [ag_0, ag_1, ag_1, ag_1], ([], [((0, 3), 2)]), [pon_715, pon_716], mdn_717, [], (nat_lit 3))
set_option maxRecDepth 100000 in
theorem S_276 : aSpec wd ct_276 := bChk_ok wx_ok btX11_tune (nds := []) (fk := []) (rk := (1, [])) (sp := 0) (fuel := 3000) (by decide +kernel) (lk_d S_268 ml_11_341 (lk_d S_273 ml_11_356 (lk_d S_272 ml_11_347 (lk_d S_274 ml_11_347 (lk_d S_275 ml_11_347 (lk_d S_76 ml_11_198 (lk_d S_98 ml_11_242 (lk_d S_270 ml_11_227 (lk_d S_271 ml_11_353 (lk_d S_77 ml_11_191 lk_n)))))))))) odX11_tune
def sl_718 : (Nat × Nat) × aI := (((nat_lit 0), (nat_lit 2)), [((.ofNat (nat_lit 3)), (.ofNat (nat_lit 3)), (nat_lit 1))])
def pon_719 : aPo := (some (.inl [((.negSucc (nat_lit 0)), (.negSucc (nat_lit 0)), (nat_lit 1))]), [], [sl_718], [])
def ct_277 : aCt := (mX11_refused, [ag_0, ag_122], ([], []), [pon_719], mdn_25, [], (nat_lit 0))
set_option maxRecDepth 100000 in
theorem S_277 : aSpec wd ct_277 := bChk_ok wx_ok btX11_refused (nds := []) (fk := []) (rk := (1, [])) (sp := 0) (fuel := 3000) (by decide +kernel) lk_n odX11_refused
def pon_720 : aPo := (some (.inl aTop), [none, some [((.ofNat (nat_lit 1)), (.ofNat (nat_lit 99)), (nat_lit 1))]], [sl_301, sl_341], [])
def sl_721 : (Nat × Nat) × aI := (((nat_lit 0), (nat_lit 2)), [((.ofNat (nat_lit 1)), (.ofNat (nat_lit 3)), (nat_lit 1))])
def pon_722 : aPo := (some (.inl [((.negSucc (nat_lit 0)), (.negSucc (nat_lit 0)), (nat_lit 1))]), [], [sl_721], [])
def mdn_723 : List (Nat × Nat × Nat) := [((nat_lit 0), (nat_lit 2), (nat_lit 3)), ((nat_lit 0), (nat_lit 12), (nat_lit 14)), ((nat_lit 86), (nat_lit 0), (nat_lit 1)), ((nat_lit 106), (nat_lit 0), (nat_lit 2)), ((nat_lit 107), (nat_lit 0), (nat_lit 5)), ((nat_lit 108), (nat_lit 0), (nat_lit 5)), ((nat_lit 109), (nat_lit 0), (nat_lit 8)), ((nat_lit 110), (nat_lit 0), (nat_lit 8)), ((nat_lit 111), (nat_lit 0), (nat_lit 8)), ((nat_lit 112), (nat_lit 0), (nat_lit 2)), ((nat_lit 113), (nat_lit 0), (nat_lit 5)), ((nat_lit 114), (nat_lit 0), (nat_lit 5)), ((nat_lit 115), (nat_lit 0), (nat_lit 8)), ((nat_lit 116), (nat_lit 0), (nat_lit 8)), ((nat_lit 117), (nat_lit 0), (nat_lit 8)), ((nat_lit 118), (nat_lit 0), (nat_lit 2)), ((nat_lit 119), (nat_lit 0), (nat_lit 5)), ((nat_lit 120), (nat_lit 0), (nat_lit 5)), ((nat_lit 121), (nat_lit 0), (nat_lit 8)), ((nat_lit 122), (nat_lit 0), (nat_lit 8)), ((nat_lit 123), (nat_lit 0), (nat_lit 8)), ((nat_lit 124), (nat_lit 0), (nat_lit 2)), ((nat_lit 125), (nat_lit 0), (nat_lit 5)), ((nat_lit 126), (nat_lit 0), (nat_lit 5)), ((nat_lit 127), (nat_lit 0), (nat_lit 8)), ((nat_lit 128), (nat_lit 0), (nat_lit 8)), ((nat_lit 129), (nat_lit 0), (nat_lit 8)), ((nat_lit 130), (nat_lit 0), (nat_lit 2)), ((nat_lit 131), (nat_lit 0), (nat_lit 5)), ((nat_lit 132), (nat_lit 0), (nat_lit 5)), ((nat_lit 133), (nat_lit 0), (nat_lit 8)), ((nat_lit 134), (nat_lit 0), (nat_lit 8)), ((nat_lit 135), (nat_lit 0), (nat_lit 8)), ((nat_lit 136), (nat_lit 0), (nat_lit 2)), ((nat_lit 137), (nat_lit 0), (nat_lit 5)), ((nat_lit 138), (nat_lit 0), (nat_lit 5)), ((nat_lit 139), (nat_lit 0), (nat_lit 8)), ((nat_lit 140), (nat_lit 0), (nat_lit 8)), ((nat_lit 141), (nat_lit 0), (nat_lit 8)), ((nat_lit 142), (nat_lit 0), (nat_lit 2)), ((nat_lit 143), (nat_lit 0), (nat_lit 5)), ((nat_lit 144), (nat_lit 0), (nat_lit 5)), ((nat_lit 145), (nat_lit 0), (nat_lit 8)), ((nat_lit 146), (nat_lit 0), (nat_lit 8)), ((nat_lit 147), (nat_lit 0), (nat_lit 8)), ((nat_lit 148), (nat_lit 0), (nat_lit 2)), ((nat_lit 149), (nat_lit 0), (nat_lit 5)), ((nat_lit 150), (nat_lit 0), (nat_lit 5)), ((nat_lit 151), (nat_lit 0), (nat_lit 8)), ((nat_lit 152), (nat_lit 0), (nat_lit 8)), ((nat_lit 153), (nat_lit 0), (nat_lit 8)), ((nat_lit 154), (nat_lit 0), (nat_lit 2)), ((nat_lit 155), (nat_lit 0), (nat_lit 5)), ((nat_lit 156), (nat_lit 0), (nat_lit 5)), ((nat_lit 157), (nat_lit 0), (nat_lit 8)), ((nat_lit 158), (nat_lit 0), (nat_lit 8)), ((nat_lit 159), (nat_lit 0), (nat_lit 8)), ((nat_lit 160), (nat_lit 0), (nat_lit 2)), ((nat_lit 161), (nat_lit 0), (nat_lit 5)), ((nat_lit 162), (nat_lit 0), (nat_lit 5)), ((nat_lit 163), (nat_lit 0), (nat_lit 8)), ((nat_lit 164), (nat_lit 0), (nat_lit 8)), ((nat_lit 165), (nat_lit 0), (nat_lit 8)), ((nat_lit 166), (nat_lit 0), (nat_lit 2)), ((nat_lit 167), (nat_lit 0), (nat_lit 5)), ((nat_lit 168), (nat_lit 0), (nat_lit 5)), ((nat_lit 169), (nat_lit 0), (nat_lit 8)), ((nat_lit 170), (nat_lit 0), (nat_lit 8)), ((nat_lit 171), (nat_lit 0), (nat_lit 8)), ((nat_lit 172), (nat_lit 0), (nat_lit 2)), ((nat_lit 173), (nat_lit 0), (nat_lit 5)), ((nat_lit 174), (nat_lit 0), (nat_lit 5)), ((nat_lit 175), (nat_lit 0), (nat_lit 8)), ((nat_lit 176), (nat_lit 0), (nat_lit 8)), ((nat_lit 177), (nat_lit 0), (nat_lit 8))]
set_option maxRecDepth 100000 in
theorem btX11_years : bTab oX11_years tX11_years := ⟨ofX11_years, by decide +kernel⟩
def ct_278 : aCt := (mX11_years, [ag_0, ag_1], ([], [((0, 3), 2)]), [pon_720, pon_722], mdn_723, [], (nat_lit 3))
set_option maxRecDepth 100000 in
theorem S_278 : aSpec wd ct_278 := bChk_ok wx_ok btX11_years (nds := []) (fk := [38]) (rk := (1, [])) (sp := 0) (fuel := 3000) (by decide +kernel) (lk_d S_91 ml_11_222 (lk_d S_268 ml_11_341 (lk_d S_6 ml_11_98 (lk_d S_277 ml_11_98 (lk_d S_63 ml_11_98 (lk_d S_57 ml_11_112 lk_n)))))) odX11_years
def pon_724 : aPo := (some (.inl [((.ofNat (nat_lit 0)), (.ofNat (nat_lit 0)), (nat_lit 1))]), [], [sl_704], [])
def pon_725 : aPo := (some (.inl [((.ofNat (nat_lit 1)), (.ofNat (nat_lit 1)), (nat_lit 1))]), [none, some [((.ofNat (nat_lit 0)), (.ofNat (nat_lit 11)), (nat_lit 1))], some [((.ofNat (nat_lit 0)), (.ofNat (nat_lit 1)), (nat_lit 1))]], [sl_301, sl_376], [])
def mdn_726 : List (Nat × Nat × Nat) := [((nat_lit 0), (nat_lit 2), (nat_lit 3)), ((nat_lit 0), (nat_lit 12), (nat_lit 14)), ((nat_lit 86), (nat_lit 1), (nat_lit 2)), ((nat_lit 106), (nat_lit 0), (nat_lit 2)), ((nat_lit 107), (nat_lit 0), (nat_lit 5)), ((nat_lit 108), (nat_lit 0), (nat_lit 5)), ((nat_lit 109), (nat_lit 0), (nat_lit 8)), ((nat_lit 110), (nat_lit 0), (nat_lit 8)), ((nat_lit 111), (nat_lit 0), (nat_lit 8)), ((nat_lit 112), (nat_lit 0), (nat_lit 2)), ((nat_lit 113), (nat_lit 0), (nat_lit 5)), ((nat_lit 114), (nat_lit 0), (nat_lit 5)), ((nat_lit 115), (nat_lit 0), (nat_lit 8)), ((nat_lit 116), (nat_lit 0), (nat_lit 8)), ((nat_lit 117), (nat_lit 0), (nat_lit 8)), ((nat_lit 118), (nat_lit 0), (nat_lit 2)), ((nat_lit 119), (nat_lit 0), (nat_lit 5)), ((nat_lit 120), (nat_lit 0), (nat_lit 5)), ((nat_lit 121), (nat_lit 0), (nat_lit 8)), ((nat_lit 122), (nat_lit 0), (nat_lit 8)), ((nat_lit 123), (nat_lit 0), (nat_lit 8)), ((nat_lit 124), (nat_lit 0), (nat_lit 2)), ((nat_lit 125), (nat_lit 0), (nat_lit 5)), ((nat_lit 126), (nat_lit 0), (nat_lit 5)), ((nat_lit 127), (nat_lit 0), (nat_lit 8)), ((nat_lit 128), (nat_lit 0), (nat_lit 8)), ((nat_lit 129), (nat_lit 0), (nat_lit 8)), ((nat_lit 130), (nat_lit 0), (nat_lit 2)), ((nat_lit 131), (nat_lit 0), (nat_lit 5)), ((nat_lit 132), (nat_lit 0), (nat_lit 5)), ((nat_lit 133), (nat_lit 0), (nat_lit 8)), ((nat_lit 134), (nat_lit 0), (nat_lit 8)), ((nat_lit 135), (nat_lit 0), (nat_lit 8)), ((nat_lit 136), (nat_lit 0), (nat_lit 2)), ((nat_lit 137), (nat_lit 0), (nat_lit 5)), ((nat_lit 138), (nat_lit 0), (nat_lit 5)), ((nat_lit 139), (nat_lit 0), (nat_lit 8)), ((nat_lit 140), (nat_lit 0), (nat_lit 8)), ((nat_lit 141), (nat_lit 0), (nat_lit 8)), ((nat_lit 142), (nat_lit 0), (nat_lit 2)), ((nat_lit 143), (nat_lit 0), (nat_lit 5)), ((nat_lit 144), (nat_lit 0), (nat_lit 5)), ((nat_lit 145), (nat_lit 0), (nat_lit 8)), ((nat_lit 146), (nat_lit 0), (nat_lit 8)), ((nat_lit 147), (nat_lit 0), (nat_lit 8)), ((nat_lit 148), (nat_lit 0), (nat_lit 2)), ((nat_lit 149), (nat_lit 0), (nat_lit 5)), ((nat_lit 150), (nat_lit 0), (nat_lit 5)), ((nat_lit 151), (nat_lit 0), (nat_lit 8)), ((nat_lit 152), (nat_lit 0), (nat_lit 8)), ((nat_lit 153), (nat_lit 0), (nat_lit 8)), ((nat_lit 154), (nat_lit 0), (nat_lit 2)), ((nat_lit 155), (nat_lit 0), (nat_lit 5)), ((nat_lit 156), (nat_lit 0), (nat_lit 5)), ((nat_lit 157), (nat_lit 0), (nat_lit 8)), ((nat_lit 158), (nat_lit 0), (nat_lit 8)), ((nat_lit 159), (nat_lit 0), (nat_lit 8)), ((nat_lit 160), (nat_lit 0), (nat_lit 2)), ((nat_lit 161), (nat_lit 0), (nat_lit 5)), ((nat_lit 162), (nat_lit 0), (nat_lit 5)), ((nat_lit 163), (nat_lit 0), (nat_lit 8)), ((nat_lit 164), (nat_lit 0), (nat_lit 8)), ((nat_lit 165), (nat_lit 0), (nat_lit 8)), ((nat_lit 166), (nat_lit 0), (nat_lit 2)), ((nat_lit 167), (nat_lit 0), (nat_lit 5)), ((nat_lit 168), (nat_lit 0), (nat_lit 5)), ((nat_lit 169), (nat_lit 0), (nat_lit 8)), ((nat_lit 170), (nat_lit 0), (nat_lit 8)), ((nat_lit 171), (nat_lit 0), (nat_lit 8)), ((nat_lit 172), (nat_lit 0), (nat_lit 2)), ((nat_lit 173), (nat_lit 0), (nat_lit 5)), ((nat_lit 174), (nat_lit 0), (nat_lit 5)), ((nat_lit 175), (nat_lit 0), (nat_lit 8)), ((nat_lit 176), (nat_lit 0), (nat_lit 8)), ((nat_lit 177), (nat_lit 0), (nat_lit 8))]
set_option maxRecDepth 100000 in
theorem btX11_close : bTab oX11_close tX11_close := ⟨ofX11_close, by decide +kernel⟩
def ct_279 : aCt := (mX11_close, [ag_0, ag_1, ag_535], ([], [((0, 3), 2)]), [pon_724, pon_725], mdn_726, [], (nat_lit 3))
set_option maxRecDepth 100000 in
theorem S_279 : aSpec wd ct_279 := bChk_ok wx_ok btX11_close (nds := []) (fk := []) (rk := (1, [])) (sp := 0) (fuel := 3000) (by decide +kernel) (lk_d S_268 ml_11_341 (lk_d S_273 ml_11_356 (lk_d S_272 ml_11_347 (lk_d S_275 ml_11_347 (lk_d S_89 ml_11_210 (lk_d S_94 ml_11_230 lk_n)))))) odX11_close
def pon_727 : aPo := (some (.inl [((.ofNat (nat_lit 0)), (.ofNat (nat_lit 0)), (nat_lit 1))]), [], [sl_567], [])
def ct_280 : aCt := (mX11_hasRefused, [ag_0, ag_153], ([], []), [pon_727], mdn_25, [], (nat_lit 0))
set_option maxRecDepth 100000 in
theorem S_280 : aSpec wd ct_280 := bChk_ok wx_ok btX11_hasRefused (nds := []) (fk := []) (rk := (1, [])) (sp := 0) (fuel := 3000) (by decide +kernel) lk_n odX11_hasRefused
def ct_281 : aCt := (mX2_copyFrom, [ag_289, ag_700], ([], []), [pon_49], mdn_290, [], (nat_lit 1))
set_option maxRecDepth 100000 in
theorem S_281 : aSpec wd ct_281 := bChk_ok wx_ok btX2_copyFrom (nds := []) (fk := []) (rk := (1, [])) (sp := 0) (fuel := 3000) (by decide +kernel) lk_n odX2_copyFrom
def mdn_728 : List (Nat × Nat × Nat) := [((nat_lit 0), (nat_lit 2), (nat_lit 3)), ((nat_lit 0), (nat_lit 12), (nat_lit 14)), ((nat_lit 86), (nat_lit 0), (nat_lit 2)), ((nat_lit 87), (nat_lit 0), (nat_lit 5)), ((nat_lit 88), (nat_lit 0), (nat_lit 5)), ((nat_lit 89), (nat_lit 0), (nat_lit 8)), ((nat_lit 90), (nat_lit 0), (nat_lit 8)), ((nat_lit 91), (nat_lit 0), (nat_lit 8))]
set_option maxRecDepth 100000 in
theorem btX11_undo : bTab oX11_undo tX11_undo := ⟨ofX11_undo, by decide +kernel⟩
def ct_282 : aCt := (mX11_undo, [ag_0], ([], []), [pon_727, pon_711], mdn_728, [], (nat_lit 2))
set_option maxRecDepth 100000 in
theorem S_282 : aSpec wd ct_282 := bChk_ok wx_ok btX11_undo (nds := []) (fk := []) (rk := (1, [])) (sp := 0) (fuel := 3000) (by decide +kernel) (lk_d S_273 ml_11_356 (lk_d S_280 ml_11_347 (lk_d S_281 ml_11_359 lk_n))) odX11_undo
def ag_729 : aAg := .inr (.inl [(nat_lit 178), (nat_lit 184), (nat_lit 190)])
def mdn_730 : List (Nat × Nat × Nat) := [((nat_lit 178), (nat_lit 0), (nat_lit 2)), ((nat_lit 179), (nat_lit 0), (nat_lit 5)), ((nat_lit 180), (nat_lit 0), (nat_lit 5)), ((nat_lit 181), (nat_lit 0), (nat_lit 8)), ((nat_lit 182), (nat_lit 0), (nat_lit 8)), ((nat_lit 183), (nat_lit 0), (nat_lit 8)), ((nat_lit 184), (nat_lit 0), (nat_lit 2)), ((nat_lit 185), (nat_lit 0), (nat_lit 5)), ((nat_lit 186), (nat_lit 0), (nat_lit 5)), ((nat_lit 187), (nat_lit 0), (nat_lit 8)), ((nat_lit 188), (nat_lit 0), (nat_lit 8)), ((nat_lit 189), (nat_lit 0), (nat_lit 8)), ((nat_lit 190), (nat_lit 0), (nat_lit 2)), ((nat_lit 191), (nat_lit 0), (nat_lit 5)), ((nat_lit 192), (nat_lit 0), (nat_lit 5)), ((nat_lit 193), (nat_lit 0), (nat_lit 8)), ((nat_lit 194), (nat_lit 0), (nat_lit 8)), ((nat_lit 195), (nat_lit 0), (nat_lit 8))]
def ct_283 : aCt := (mX2_copyFrom, [ag_729, ag_289], ([], []), [pon_49], mdn_730, [], (nat_lit 1))
set_option maxRecDepth 100000 in
theorem S_283 : aSpec wd ct_283 := bChk_ok wx_ok btX2_copyFrom (nds := []) (fk := []) (rk := (1, [])) (sp := 0) (fuel := 3000) (by decide +kernel) lk_n odX2_copyFrom
def sl_731 : (Nat × Nat) × aI := (((nat_lit 0), (nat_lit 15)), [((.ofNat (nat_lit 1)), (.ofNat (nat_lit 3)), (nat_lit 1))])
def pon_732 : aPo := (some (.inl aTop), [], [sl_301, sl_731, sl_341], [])
def sl_733 : (Nat × Nat) × aI := (((nat_lit 0), (nat_lit 2)), [((.ofNat (nat_lit 1)), (.ofNat (nat_lit 1)), (nat_lit 1)), ((.ofNat (nat_lit 3)), (.ofNat (nat_lit 3)), (nat_lit 1))])
def pon_734 : aPo := (some (.inl [((.negSucc (nat_lit 0)), (.negSucc (nat_lit 0)), (nat_lit 1))]), [], [sl_733], [])
def mdn_735 : List (Nat × Nat × Nat) := [((nat_lit 0), (nat_lit 2), (nat_lit 3)), ((nat_lit 0), (nat_lit 15), (nat_lit 16)), ((nat_lit 178), (nat_lit 0), (nat_lit 2)), ((nat_lit 179), (nat_lit 0), (nat_lit 5)), ((nat_lit 180), (nat_lit 0), (nat_lit 5)), ((nat_lit 181), (nat_lit 0), (nat_lit 8)), ((nat_lit 182), (nat_lit 0), (nat_lit 8)), ((nat_lit 183), (nat_lit 0), (nat_lit 8)), ((nat_lit 184), (nat_lit 0), (nat_lit 2)), ((nat_lit 185), (nat_lit 0), (nat_lit 5)), ((nat_lit 186), (nat_lit 0), (nat_lit 5)), ((nat_lit 187), (nat_lit 0), (nat_lit 8)), ((nat_lit 188), (nat_lit 0), (nat_lit 8)), ((nat_lit 189), (nat_lit 0), (nat_lit 8)), ((nat_lit 190), (nat_lit 0), (nat_lit 2)), ((nat_lit 191), (nat_lit 0), (nat_lit 5)), ((nat_lit 192), (nat_lit 0), (nat_lit 5)), ((nat_lit 193), (nat_lit 0), (nat_lit 8)), ((nat_lit 194), (nat_lit 0), (nat_lit 8)), ((nat_lit 195), (nat_lit 0), (nat_lit 8))]
set_option maxRecDepth 100000 in
theorem btX11_image : bTab oX11_image tX11_image := ⟨ofX11_image, by decide +kernel⟩
def ct_284 : aCt := (mX11_image, [ag_0], ([], [((0, 3), 2)]), [pon_732, pon_734], mdn_735, [], (nat_lit 2))
set_option maxRecDepth 100000 in
theorem S_284 : aSpec wd ct_284 := bChk_ok wx_ok btX11_image (nds := []) (fk := []) (rk := (1, [])) (sp := 0) (fuel := 3000) (by decide +kernel) (lk_d S_91 ml_11_222 (lk_d S_277 ml_11_98 (lk_d S_63 ml_11_98 (lk_d S_283 ml_11_359 (lk_d S_57 ml_11_112 lk_n))))) odX11_image
def ct_285 : aCt := (mX2_copyFrom, [ag_289, ag_729], ([], []), [pon_49], mdn_290, [], (nat_lit 1))
set_option maxRecDepth 100000 in
theorem S_285 : aSpec wd ct_285 := bChk_ok wx_ok btX2_copyFrom (nds := []) (fk := []) (rk := (1, [])) (sp := 0) (fuel := 3000) (by decide +kernel) lk_n odX2_copyFrom
def pon_736 : aPo := (some (.inl [((.ofNat (nat_lit 0)), (.ofNat (nat_lit 0)), (nat_lit 1))]), [none, some aTop], [sl_332], [])
def pon_737 : aPo := (some (.inl [((.ofNat (nat_lit 1)), (.ofNat (nat_lit 1)), (nat_lit 1))]), [none, some [((.ofNat (nat_lit 0)), (.ofNat (nat_lit 2)), (nat_lit 1))]], [sl_301, sl_731], [])
def mdn_738 : List (Nat × Nat × Nat) := [((nat_lit 0), (nat_lit 2), (nat_lit 3)), ((nat_lit 0), (nat_lit 13), (nat_lit 14)), ((nat_lit 86), (nat_lit 0), (nat_lit 2)), ((nat_lit 87), (nat_lit 0), (nat_lit 5)), ((nat_lit 88), (nat_lit 0), (nat_lit 5)), ((nat_lit 89), (nat_lit 0), (nat_lit 8)), ((nat_lit 90), (nat_lit 0), (nat_lit 8)), ((nat_lit 91), (nat_lit 0), (nat_lit 8))]
set_option maxRecDepth 100000 in
theorem btX11_back : bTab oX11_back tX11_back := ⟨ofX11_back, by decide +kernel⟩
def ct_286 : aCt := (mX11_back, [ag_0, ag_1], ([], []), [pon_736, pon_737], mdn_738, [], (nat_lit 2))
set_option maxRecDepth 100000 in
theorem S_286 : aSpec wd ct_286 := bChk_ok wx_ok btX11_back (nds := []) (fk := []) (rk := (1, [])) (sp := 0) (fuel := 3000) (by decide +kernel) (lk_d S_273 ml_11_356 (lk_d S_275 ml_11_347 (lk_d S_285 ml_11_359 lk_n))) odX11_back
def pon_739 : aPo := (some (.inl aTop), [none, some [((.ofNat (nat_lit 0)), (.ofNat (nat_lit 12)), (nat_lit 1))]], [], [])
def pon_740 : aPo := (some (.inl [((.negSucc (nat_lit 0)), (.negSucc (nat_lit 0)), (nat_lit 1))]), [none, some [((.negSucc (nat_lit 2147483647)), (.negSucc (nat_lit 0)), (nat_lit 1)), ((.ofNat (nat_lit 13)), (.ofNat (nat_lit 2147483647)), (nat_lit 1))]], [], [])
set_option maxRecDepth 100000 in
theorem btX11_size : bTab oX11_size tX11_size := ⟨ofX11_size, by decide +kernel⟩
def ct_287 : aCt := (mX11_size, [ag_0, ag_1], ([], [((0, 3), 2)]), [pon_739, pon_740], [], [], (nat_lit 0))
set_option maxRecDepth 100000 in
theorem S_287 : aSpec wd ct_287 := bChk_ok wx_ok btX11_size (nds := []) (fk := []) (rk := (1, [])) (sp := 0) (fuel := 3000) (by decide +kernel) lk_n odX11_size
set_option maxRecDepth 100000 in
theorem btX11_trouble : bTab oX11_trouble tX11_trouble := ⟨ofX11_trouble, by decide +kernel⟩
def ct_288 : aCt := (mX11_trouble, [ag_0], ([], []), [pon_264], [], [], (nat_lit 0))
set_option maxRecDepth 100000 in
theorem S_288 : aSpec wd ct_288 := bChk_ok wx_ok btX11_trouble (nds := []) (fk := []) (rk := (1, [])) (sp := 0) (fuel := 3000) (by decide +kernel) lk_n odX11_trouble
def ct_289 : aCt := (mX11_feed, [ag_0, ag_1, ag_1, ag_1, ag_1, ag_1], ([], []), [pon_18, pon_20], mdn_21, [], (nat_lit 1))
set_option maxRecDepth 100000 in
theorem S_289 : aSpec wd ct_289 := bChk_ok wx_ok btX11_feed (nds := []) (fk := []) (rk := (1, [])) (sp := 0) (fuel := 3000) (by decide +kernel) (lk_d S_0 ml_11_94 (lk_d S_1 ml_11_94 (lk_d S_2 ml_11_94 (lk_d S_3 ml_11_94 (lk_d S_4 ml_11_94 lk_n))))) odX11_feed
def sl_741 : (Nat × Nat) × aI := (((nat_lit 2), (nat_lit 5)), [((.ofNat (nat_lit 0)), (.ofNat (nat_lit 0)), (nat_lit 1))])
def sl_742 : (Nat × Nat) × aI := (((nat_lit 2), (nat_lit 7)), [((.ofNat (nat_lit 0)), (.ofNat (nat_lit 0)), (nat_lit 1))])
def sl_743 : (Nat × Nat) × aI := (((nat_lit 2), (nat_lit 8)), [((.ofNat (nat_lit 0)), (.ofNat (nat_lit 0)), (nat_lit 1))])
def pon_744 : aPo := (none, [], [sl_382, sl_741, sl_314, sl_742, sl_743], [])
def mdn_745 : List (Nat × Nat × Nat) := [((nat_lit 2), (nat_lit 0), (nat_lit 9))]
def ct_290 : aCt := (mX4_clear, [ag_357], ([], []), [pon_744], mdn_745, [], (nat_lit 0))
set_option maxRecDepth 100000 in
theorem S_290 : aSpec wd ct_290 := bChk_ok wx_ok btX4_clear (nds := []) (fk := []) (rk := (1, [])) (sp := 0) (fuel := 3000) (by decide +kernel) lk_n odX4_clear
end Pk4
section Pk5
def ct_291 : aCt := (mX5_songOfToken, [ag_34], ([], [((82, 6), 2)]), [pon_130, pon_52], [], [], (nat_lit 0))
set_option maxRecDepth 100000 in
theorem S_291 : aSpec wd ct_291 := bChk_ok wx_ok btX5_songOfToken (nds := [((nat_lit 31), [lcn_40, lcn_131, lcn_132, lcn_60], [], [], [((82, 6), 2)], (1000, [(2, -1)]))]) (fk := []) (rk := (1001, [])) (sp := 2147483648) (fuel := 3000) (by decide +kernel) lk_n odX5_songOfToken
def sl_746 : (Nat × Nat) × aI := (((nat_lit 2), (nat_lit 4)), [((.ofNat (nat_lit 0)), (.ofNat (nat_lit 6)), (nat_lit 1))])
def sl_747 : (Nat × Nat) × aI := (((nat_lit 2), (nat_lit 4)), [((.ofNat (nat_lit 1)), (.ofNat (nat_lit 6)), (nat_lit 1))])
def pon_748 : aPo := (some (.inl [((.ofNat (nat_lit 1)), (.ofNat (nat_lit 1)), (nat_lit 1))]), [], [sl_747], [])
def ct_292 : aCt := (mX4_hasSong, [ag_357, ag_136, ag_137], ([sl_746], []), [pon_37, pon_748], [], [], (nat_lit 0))
set_option maxRecDepth 100000 in
theorem S_292 : aSpec wd ct_292 := bChk_ok wx_ok btX4_hasSong (nds := [((nat_lit 2), [lcn_378, lcn_142, lcn_143, lcn_144], [], [sl_746], [], (6, [(2, -1)]))]) (fk := []) (rk := (7, [])) (sp := 4) (fuel := 3000) (by decide +kernel) lk_n odX4_hasSong
def pon_749 : aPo := (some (.inl [((.ofNat (nat_lit 0)), (.ofNat (nat_lit 0)), (nat_lit 1))]), [], [sl_746, sl_145], [])
def pon_750 : aPo := (some (.inl [((.ofNat (nat_lit 1)), (.ofNat (nat_lit 1)), (nat_lit 1))]), [], [sl_341, sl_61, sl_54], [])
def mdn_751 : List (Nat × Nat × Nat) := [((nat_lit 2), (nat_lit 4), (nat_lit 5)), ((nat_lit 3), (nat_lit 0), (nat_lit 7)), ((nat_lit 4), (nat_lit 0), (nat_lit 7)), ((nat_lit 82), (nat_lit 2), (nat_lit 5)), ((nat_lit 82), (nat_lit 10), (nat_lit 13)), ((nat_lit 84), (nat_lit 0), (nat_lit 20)), ((nat_lit 85), (nat_lit 0), (nat_lit 20))]
def ct_293 : aCt := (mX5_readIsland, [ag_34], ([sl_746, sl_54], [((82, 6), 2)]), [pon_749, pon_750], mdn_751, [], (nat_lit 3))
set_option maxRecDepth 100000 in
theorem S_293 : aSpec wd ct_293 := bChk_ok wx_ok btX5_readIsland (nds := []) (fk := []) (rk := (1, [])) (sp := 0) (fuel := 3000) (by decide +kernel) (lk_d S_291 ml_5_161 (lk_d S_10 ml_5_70 (lk_d S_12 ml_5_76 (lk_d S_18 ml_5_76 (lk_d S_15 ml_5_76 (lk_d S_16 ml_5_158 (lk_d S_292 ml_5_164 lk_n))))))) odX5_readIsland
def mdn_752 : List (Nat × Nat × Nat) := [((nat_lit 2), (nat_lit 0), (nat_lit 4)), ((nat_lit 82), (nat_lit 2), (nat_lit 6)), ((nat_lit 82), (nat_lit 11), (nat_lit 13))]
def ct_294 : aCt := (mX5_readHead, [ag_34], ([sl_54], [((82, 6), 2)]), [pon_163, pon_187], mdn_752, [], (nat_lit 3))
set_option maxRecDepth 100000 in
theorem S_294 : aSpec wd ct_294 := bChk_ok wx_ok btX5_readHead (nds := []) (fk := []) (rk := (1, [])) (sp := 0) (fuel := 3000) (by decide +kernel) (lk_d S_26 ml_5_142 (lk_d S_27 ml_5_142 (lk_d S_28 ml_5_142 (lk_d S_25 ml_5_142 (lk_d S_23 ml_5_138 lk_n))))) odX5_readHead
def ag_753 : aAg := .inr (.inl [(nat_lit 26), (nat_lit 27), (nat_lit 28), (nat_lit 29), (nat_lit 30), (nat_lit 31), (nat_lit 32), (nat_lit 33)])
def sl_754 : (Nat × Nat) × aI := (((nat_lit 2), (nat_lit 7)), [((.ofNat (nat_lit 0)), (.ofNat (nat_lit 7)), (nat_lit 1))])
def pon_755 : aPo := (some (.inl [((.ofNat (nat_lit 0)), (.ofNat (nat_lit 0)), (nat_lit 1))]), [], [sl_754, sl_212], [])
def pon_756 : aPo := (some (.inl [((.ofNat (nat_lit 1)), (.ofNat (nat_lit 1)), (nat_lit 1))]), [], [sl_338, sl_207, sl_61, sl_54], [])
def mdn_757 : List (Nat × Nat × Nat) := [((nat_lit 2), (nat_lit 7), (nat_lit 8)), ((nat_lit 26), (nat_lit 0), (nat_lit 4)), ((nat_lit 27), (nat_lit 0), (nat_lit 4)), ((nat_lit 28), (nat_lit 0), (nat_lit 4)), ((nat_lit 29), (nat_lit 0), (nat_lit 4)), ((nat_lit 30), (nat_lit 0), (nat_lit 4)), ((nat_lit 31), (nat_lit 0), (nat_lit 4)), ((nat_lit 32), (nat_lit 0), (nat_lit 4)), ((nat_lit 33), (nat_lit 0), (nat_lit 4)), ((nat_lit 82), (nat_lit 2), (nat_lit 6)), ((nat_lit 82), (nat_lit 10), (nat_lit 13)), ((nat_lit 84), (nat_lit 0), (nat_lit 20)), ((nat_lit 85), (nat_lit 0), (nat_lit 20))]
def ct_295 : aCt := (mX5_readBox, [ag_34, ag_753], ([sl_754, sl_54], [((82, 6), 2)]), [pon_755, pon_756], mdn_757, [], (nat_lit 3))
set_option maxRecDepth 100000 in
theorem S_295 : aSpec wd ct_295 := bChk_ok wx_ok btX5_readBox (nds := []) (fk := []) (rk := (1, [])) (sp := 0) (fuel := 3000) (by decide +kernel) (lk_d S_32 ml_5_173 (lk_d S_33 ml_5_142 (lk_d S_34 ml_5_142 (lk_d S_30 ml_5_158 (lk_d S_23 ml_5_138 lk_n))))) odX5_readBox
def ag_758 : aAg := .inr (.inl [(nat_lit 25)])
def pon_759 : aPo := (some (.inl [((.ofNat (nat_lit 0)), (.ofNat (nat_lit 0)), (nat_lit 1))]), [], [sl_322, sl_212], [])
def pon_760 : aPo := (some (.inl [((.ofNat (nat_lit 1)), (.ofNat (nat_lit 1)), (nat_lit 1))]), [], [sl_324, sl_219, sl_61, sl_54], [])
def mdn_761 : List (Nat × Nat × Nat) := [((nat_lit 2), (nat_lit 6), (nat_lit 7)), ((nat_lit 25), (nat_lit 0), (nat_lit 4)), ((nat_lit 82), (nat_lit 2), (nat_lit 6)), ((nat_lit 82), (nat_lit 10), (nat_lit 13)), ((nat_lit 84), (nat_lit 0), (nat_lit 20)), ((nat_lit 85), (nat_lit 0), (nat_lit 20))]
def ct_296 : aCt := (mX5_readWhale, [ag_34, ag_758], ([sl_322, sl_54], [((82, 6), 2)]), [pon_759, pon_760], mdn_761, [], (nat_lit 3))
set_option maxRecDepth 100000 in
theorem S_296 : aSpec wd ct_296 := bChk_ok wx_ok btX5_readWhale (nds := []) (fk := []) (rk := (1, [])) (sp := 0) (fuel := 3000) (by decide +kernel) (lk_d S_10 ml_5_70 (lk_d S_37 ml_5_195 (lk_d S_32 ml_5_173 (lk_d S_12 ml_5_76 (lk_d S_38 ml_5_142 (lk_d S_39 ml_5_142 (lk_d S_36 ml_5_158 (lk_d S_23 ml_5_138 lk_n)))))))) odX5_readWhale
def ag_762 : aAg := .inr (.inl [(nat_lit 24)])
def pon_763 : aPo := (some (.inl [((.ofNat (nat_lit 0)), (.ofNat (nat_lit 0)), (nat_lit 1))]), [], [sl_320, sl_212], [])
def pon_764 : aPo := (some (.inl [((.ofNat (nat_lit 1)), (.ofNat (nat_lit 1)), (nat_lit 1))]), [], [sl_322, sl_219, sl_61, sl_54], [])
def mdn_765 : List (Nat × Nat × Nat) := [((nat_lit 2), (nat_lit 6), (nat_lit 7)), ((nat_lit 24), (nat_lit 0), (nat_lit 4)), ((nat_lit 82), (nat_lit 2), (nat_lit 6)), ((nat_lit 82), (nat_lit 10), (nat_lit 13)), ((nat_lit 84), (nat_lit 0), (nat_lit 20)), ((nat_lit 85), (nat_lit 0), (nat_lit 20))]
def ct_297 : aCt := (mX5_readWhale, [ag_34, ag_762], ([sl_320, sl_54], [((82, 6), 2)]), [pon_763, pon_764], mdn_765, [], (nat_lit 3))
set_option maxRecDepth 100000 in
theorem S_297 : aSpec wd ct_297 := bChk_ok wx_ok btX5_readWhale (nds := []) (fk := []) (rk := (1, [])) (sp := 0) (fuel := 3000) (by decide +kernel) (lk_d S_10 ml_5_70 (lk_d S_37 ml_5_195 (lk_d S_32 ml_5_173 (lk_d S_12 ml_5_76 (lk_d S_38 ml_5_142 (lk_d S_39 ml_5_142 (lk_d S_36 ml_5_158 (lk_d S_23 ml_5_138 lk_n)))))))) odX5_readWhale
def ag_766 : aAg := .inr (.inl [(nat_lit 23)])
def pon_767 : aPo := (some (.inl [((.ofNat (nat_lit 0)), (.ofNat (nat_lit 0)), (nat_lit 1))]), [], [sl_318, sl_212], [])
def pon_768 : aPo := (some (.inl [((.ofNat (nat_lit 1)), (.ofNat (nat_lit 1)), (nat_lit 1))]), [], [sl_320, sl_219, sl_61, sl_54], [])
def mdn_769 : List (Nat × Nat × Nat) := [((nat_lit 2), (nat_lit 6), (nat_lit 7)), ((nat_lit 23), (nat_lit 0), (nat_lit 4)), ((nat_lit 82), (nat_lit 2), (nat_lit 6)), ((nat_lit 82), (nat_lit 10), (nat_lit 13)), ((nat_lit 84), (nat_lit 0), (nat_lit 20)), ((nat_lit 85), (nat_lit 0), (nat_lit 20))]
def ct_298 : aCt := (mX5_readWhale, [ag_34, ag_766], ([sl_318, sl_54], [((82, 6), 2)]), [pon_767, pon_768], mdn_769, [], (nat_lit 3))
set_option maxRecDepth 100000 in
theorem S_298 : aSpec wd ct_298 := bChk_ok wx_ok btX5_readWhale (nds := []) (fk := []) (rk := (1, [])) (sp := 0) (fuel := 3000) (by decide +kernel) (lk_d S_10 ml_5_70 (lk_d S_37 ml_5_195 (lk_d S_32 ml_5_173 (lk_d S_12 ml_5_76 (lk_d S_38 ml_5_142 (lk_d S_39 ml_5_142 (lk_d S_36 ml_5_158 (lk_d S_23 ml_5_138 lk_n)))))))) odX5_readWhale
def ag_770 : aAg := .inr (.inl [(nat_lit 22)])
def pon_771 : aPo := (some (.inl [((.ofNat (nat_lit 0)), (.ofNat (nat_lit 0)), (nat_lit 1))]), [], [sl_316, sl_212], [])
def pon_772 : aPo := (some (.inl [((.ofNat (nat_lit 1)), (.ofNat (nat_lit 1)), (nat_lit 1))]), [], [sl_318, sl_219, sl_61, sl_54], [])
def mdn_773 : List (Nat × Nat × Nat) := [((nat_lit 2), (nat_lit 6), (nat_lit 7)), ((nat_lit 22), (nat_lit 0), (nat_lit 4)), ((nat_lit 82), (nat_lit 2), (nat_lit 6)), ((nat_lit 82), (nat_lit 10), (nat_lit 13)), ((nat_lit 84), (nat_lit 0), (nat_lit 20)), ((nat_lit 85), (nat_lit 0), (nat_lit 20))]
def ct_299 : aCt := (mX5_readWhale, [ag_34, ag_770], ([sl_316, sl_54], [((82, 6), 2)]), [pon_771, pon_772], mdn_773, [], (nat_lit 3))
set_option maxRecDepth 100000 in
theorem S_299 : aSpec wd ct_299 := bChk_ok wx_ok btX5_readWhale (nds := []) (fk := []) (rk := (1, [])) (sp := 0) (fuel := 3000) (by decide +kernel) (lk_d S_10 ml_5_70 (lk_d S_37 ml_5_195 (lk_d S_32 ml_5_173 (lk_d S_12 ml_5_76 (lk_d S_38 ml_5_142 (lk_d S_39 ml_5_142 (lk_d S_36 ml_5_158 (lk_d S_23 ml_5_138 lk_n)))))))) odX5_readWhale
def ag_774 : aAg := .inr (.inl [(nat_lit 21)])
def pon_775 : aPo := (some (.inl [((.ofNat (nat_lit 0)), (.ofNat (nat_lit 0)), (nat_lit 1))]), [], [sl_314, sl_212], [])
def pon_776 : aPo := (some (.inl [((.ofNat (nat_lit 1)), (.ofNat (nat_lit 1)), (nat_lit 1))]), [], [sl_316, sl_219, sl_61, sl_54], [])
def mdn_777 : List (Nat × Nat × Nat) := [((nat_lit 2), (nat_lit 6), (nat_lit 7)), ((nat_lit 21), (nat_lit 0), (nat_lit 4)), ((nat_lit 82), (nat_lit 2), (nat_lit 6)), ((nat_lit 82), (nat_lit 10), (nat_lit 13)), ((nat_lit 84), (nat_lit 0), (nat_lit 20)), ((nat_lit 85), (nat_lit 0), (nat_lit 20))]
def ct_300 : aCt := (mX5_readWhale, [ag_34, ag_774], ([sl_314, sl_54], [((82, 6), 2)]), [pon_775, pon_776], mdn_777, [], (nat_lit 3))
set_option maxRecDepth 100000 in
theorem S_300 : aSpec wd ct_300 := bChk_ok wx_ok btX5_readWhale (nds := []) (fk := []) (rk := (1, [])) (sp := 0) (fuel := 3000) (by decide +kernel) (lk_d S_10 ml_5_70 (lk_d S_37 ml_5_195 (lk_d S_32 ml_5_173 (lk_d S_12 ml_5_76 (lk_d S_38 ml_5_142 (lk_d S_39 ml_5_142 (lk_d S_36 ml_5_158 (lk_d S_23 ml_5_138 lk_n)))))))) odX5_readWhale
def sl_778 : (Nat × Nat) × aI := (((nat_lit 2), (nat_lit 5)), [((.ofNat (nat_lit 0)), (.ofNat (nat_lit 11)), (nat_lit 1))])
def sl_779 : (Nat × Nat) × aI := (((nat_lit 2), (nat_lit 5)), [((.ofNat (nat_lit 1)), (.ofNat (nat_lit 11)), (nat_lit 1))])
def pon_780 : aPo := (some (.inl [((.ofNat (nat_lit 0)), (.ofNat (nat_lit 10)), (nat_lit 1))]), [], [sl_779], [])
def ct_301 : aCt := (mX4_wayBetween, [ag_357, ag_125, ag_125], ([sl_778], []), [pon_780, pon_52], [], [], (nat_lit 0))
set_option maxRecDepth 100000 in
theorem S_301 : aSpec wd ct_301 := bChk_ok wx_ok btX4_wayBetween (nds := [((nat_lit 2), [lcn_378, lcn_249, lcn_250, lcn_251], [], [sl_778], [], (11, [(2, -1)]))]) (fk := []) (rk := (12, [])) (sp := 4) (fuel := 3000) (by decide +kernel) lk_n odX4_wayBetween
def pon_781 : aPo := (some (.inl [((.ofNat (nat_lit 0)), (.ofNat (nat_lit 0)), (nat_lit 1))]), [], [sl_778, sl_212], [])
def pon_782 : aPo := (some (.inl [((.ofNat (nat_lit 1)), (.ofNat (nat_lit 1)), (nat_lit 1))]), [], [sl_376, sl_253, sl_61, sl_54], [])
def mdn_783 : List (Nat × Nat × Nat) := [((nat_lit 2), (nat_lit 5), (nat_lit 6)), ((nat_lit 9), (nat_lit 0), (nat_lit 4)), ((nat_lit 10), (nat_lit 0), (nat_lit 4)), ((nat_lit 11), (nat_lit 0), (nat_lit 4)), ((nat_lit 12), (nat_lit 0), (nat_lit 4)), ((nat_lit 13), (nat_lit 0), (nat_lit 4)), ((nat_lit 14), (nat_lit 0), (nat_lit 4)), ((nat_lit 15), (nat_lit 0), (nat_lit 4)), ((nat_lit 16), (nat_lit 0), (nat_lit 4)), ((nat_lit 17), (nat_lit 0), (nat_lit 4)), ((nat_lit 18), (nat_lit 0), (nat_lit 4)), ((nat_lit 19), (nat_lit 0), (nat_lit 4)), ((nat_lit 20), (nat_lit 0), (nat_lit 4)), ((nat_lit 82), (nat_lit 2), (nat_lit 6)), ((nat_lit 82), (nat_lit 11), (nat_lit 13))]
def ct_302 : aCt := (mX5_readWay, [ag_34, ag_518], ([sl_778, sl_54], [((82, 6), 2)]), [pon_781, pon_782], mdn_783, [], (nat_lit 3))
set_option maxRecDepth 100000 in
theorem S_302 : aSpec wd ct_302 := bChk_ok wx_ok btX5_readWay (nds := []) (fk := []) (rk := (1, [])) (sp := 0) (fuel := 3000) (by decide +kernel) (lk_d S_32 ml_5_173 (lk_d S_15 ml_5_76 (lk_d S_33 ml_5_142 (lk_d S_46 ml_5_142 (lk_d S_301 ml_5_184 (lk_d S_23 ml_5_138 lk_n)))))) odX5_readWay
def sl_784 : (Nat × Nat) × aI := (((nat_lit 2), (nat_lit 8)), [((.ofNat (nat_lit 0)), (.ofNat (nat_lit 7)), (nat_lit 1))])
def ct_303 : aCt := (mX4_lastSpoutOf, [ag_357, ag_217], ([sl_784], []), [pon_264, pon_52], [], [], (nat_lit 0))
set_option maxRecDepth 100000 in
theorem S_303 : aSpec wd ct_303 := bChk_ok wx_ok btX4_lastSpoutOf (nds := [((nat_lit 7), [lcn_378, lcn_265, lcn_266], [], [sl_784], [], (1, [(1, 1)]))]) (fk := []) (rk := (8, [])) (sp := 128) (fuel := 3000) (by decide +kernel) lk_n odX4_lastSpoutOf
def ag_785 : aAg := .inr (.inl [(nat_lit 34), (nat_lit 35), (nat_lit 36), (nat_lit 37), (nat_lit 38), (nat_lit 39), (nat_lit 40), (nat_lit 41)])
def pon_786 : aPo := (some (.inl [((.ofNat (nat_lit 0)), (.ofNat (nat_lit 0)), (nat_lit 1))]), [], [sl_784, sl_273], [])
def pon_787 : aPo := (some (.inl [((.ofNat (nat_lit 1)), (.ofNat (nat_lit 1)), (nat_lit 1))]), [], [sl_632, sl_269, sl_61, sl_54], [])
def mdn_788 : List (Nat × Nat × Nat) := [((nat_lit 2), (nat_lit 8), (nat_lit 9)), ((nat_lit 34), (nat_lit 0), (nat_lit 3)), ((nat_lit 35), (nat_lit 0), (nat_lit 3)), ((nat_lit 36), (nat_lit 0), (nat_lit 3)), ((nat_lit 37), (nat_lit 0), (nat_lit 3)), ((nat_lit 38), (nat_lit 0), (nat_lit 3)), ((nat_lit 39), (nat_lit 0), (nat_lit 3)), ((nat_lit 40), (nat_lit 0), (nat_lit 3)), ((nat_lit 41), (nat_lit 0), (nat_lit 3)), ((nat_lit 82), (nat_lit 2), (nat_lit 6)), ((nat_lit 82), (nat_lit 11), (nat_lit 13))]
def ct_304 : aCt := (mX5_readSpout, [ag_34, ag_785], ([sl_784, sl_54], [((82, 6), 2)]), [pon_786, pon_787], mdn_788, [], (nat_lit 3))
set_option maxRecDepth 100000 in
theorem S_304 : aSpec wd ct_304 := bChk_ok wx_ok btX5_readSpout (nds := []) (fk := []) (rk := (1, [])) (sp := 0) (fuel := 3000) (by decide +kernel) (lk_d S_48 ml_5_173 (lk_d S_32 ml_5_173 (lk_d S_50 ml_5_142 (lk_d S_303 ml_5_240 (lk_d S_23 ml_5_138 (lk_d S_51 ml_5_142 lk_n)))))) odX5_readSpout
def mdn_789 : List (Nat × Nat × Nat) := [((nat_lit 2), (nat_lit 0), (nat_lit 9)), ((nat_lit 3), (nat_lit 0), (nat_lit 7)), ((nat_lit 4), (nat_lit 0), (nat_lit 7)), ((nat_lit 9), (nat_lit 0), (nat_lit 4)), ((nat_lit 10), (nat_lit 0), (nat_lit 4)), ((nat_lit 11), (nat_lit 0), (nat_lit 4)), ((nat_lit 12), (nat_lit 0), (nat_lit 4)), ((nat_lit 13), (nat_lit 0), (nat_lit 4)), ((nat_lit 14), (nat_lit 0), (nat_lit 4)), ((nat_lit 15), (nat_lit 0), (nat_lit 4)), ((nat_lit 16), (nat_lit 0), (nat_lit 4)), ((nat_lit 17), (nat_lit 0), (nat_lit 4)), ((nat_lit 18), (nat_lit 0), (nat_lit 4)), ((nat_lit 19), (nat_lit 0), (nat_lit 4)), ((nat_lit 20), (nat_lit 0), (nat_lit 4)), ((nat_lit 21), (nat_lit 0), (nat_lit 4)), ((nat_lit 22), (nat_lit 0), (nat_lit 4)), ((nat_lit 23), (nat_lit 0), (nat_lit 4)), ((nat_lit 24), (nat_lit 0), (nat_lit 4)), ((nat_lit 25), (nat_lit 0), (nat_lit 4)), ((nat_lit 26), (nat_lit 0), (nat_lit 4)), ((nat_lit 27), (nat_lit 0), (nat_lit 4)), ((nat_lit 28), (nat_lit 0), (nat_lit 4)), ((nat_lit 29), (nat_lit 0), (nat_lit 4)), ((nat_lit 30), (nat_lit 0), (nat_lit 4)), ((nat_lit 31), (nat_lit 0), (nat_lit 4)), ((nat_lit 32), (nat_lit 0), (nat_lit 4)), ((nat_lit 33), (nat_lit 0), (nat_lit 4)), ((nat_lit 34), (nat_lit 0), (nat_lit 3)), ((nat_lit 35), (nat_lit 0), (nat_lit 3)), ((nat_lit 36), (nat_lit 0), (nat_lit 3)), ((nat_lit 37), (nat_lit 0), (nat_lit 3)), ((nat_lit 38), (nat_lit 0), (nat_lit 3)), ((nat_lit 39), (nat_lit 0), (nat_lit 3)), ((nat_lit 40), (nat_lit 0), (nat_lit 3)), ((nat_lit 41), (nat_lit 0), (nat_lit 3)), ((nat_lit 82), (nat_lit 2), (nat_lit 6)), ((nat_lit 82), (nat_lit 10), (nat_lit 13)), ((nat_lit 84), (nat_lit 0), (nat_lit 20)), ((nat_lit 85), (nat_lit 0), (nat_lit 20))]
def ct_305 : aCt := (mX5_readLine, [ag_34], ([sl_54], [((82, 6), 2)]), [pon_279, pon_157], mdn_789, [], (nat_lit 4))
set_option maxRecDepth 100000 in
theorem S_305 : aSpec wd ct_305 := bChk_ok wx_ok btX5_readLine (nds := []) (fk := [172]) (rk := (1, [])) (sp := 0) (fuel := 3000) (by decide +kernel) (lk_d S_293 ml_5_90 (lk_d S_294 ml_5_87 (lk_d S_10 ml_5_70 (lk_d S_11 ml_5_80 (lk_d S_296 ml_5_111 (lk_d S_297 ml_5_111 (lk_d S_298 ml_5_111 (lk_d S_299 ml_5_111 (lk_d S_300 ml_5_111 (lk_d S_21 ml_5_76 (lk_d S_22 ml_5_76 (lk_d S_15 ml_5_76 (lk_d S_12 ml_5_76 (lk_d S_295 ml_5_122 (lk_d S_304 ml_5_133 (lk_d S_302 ml_5_100 lk_n)))))))))))))))) odX5_readLine
def pon_790 : aPo := (some (.inl [((.ofNat (nat_lit 0)), (.ofNat (nat_lit 0)), (nat_lit 1))]), [], [sl_278], [((82, 6), 2)])
def pon_791 : aPo := (some (.inl [((.ofNat (nat_lit 1)), (.ofNat (nat_lit 1)), (nat_lit 1))]), [], [sl_341, sl_54], [((82, 6), 2)])
def mdn_792 : List (Nat × Nat × Nat) := [((nat_lit 2), (nat_lit 0), (nat_lit 9)), ((nat_lit 3), (nat_lit 0), (nat_lit 7)), ((nat_lit 4), (nat_lit 0), (nat_lit 7)), ((nat_lit 9), (nat_lit 0), (nat_lit 4)), ((nat_lit 10), (nat_lit 0), (nat_lit 4)), ((nat_lit 11), (nat_lit 0), (nat_lit 4)), ((nat_lit 12), (nat_lit 0), (nat_lit 4)), ((nat_lit 13), (nat_lit 0), (nat_lit 4)), ((nat_lit 14), (nat_lit 0), (nat_lit 4)), ((nat_lit 15), (nat_lit 0), (nat_lit 4)), ((nat_lit 16), (nat_lit 0), (nat_lit 4)), ((nat_lit 17), (nat_lit 0), (nat_lit 4)), ((nat_lit 18), (nat_lit 0), (nat_lit 4)), ((nat_lit 19), (nat_lit 0), (nat_lit 4)), ((nat_lit 20), (nat_lit 0), (nat_lit 4)), ((nat_lit 21), (nat_lit 0), (nat_lit 4)), ((nat_lit 22), (nat_lit 0), (nat_lit 4)), ((nat_lit 23), (nat_lit 0), (nat_lit 4)), ((nat_lit 24), (nat_lit 0), (nat_lit 4)), ((nat_lit 25), (nat_lit 0), (nat_lit 4)), ((nat_lit 26), (nat_lit 0), (nat_lit 4)), ((nat_lit 27), (nat_lit 0), (nat_lit 4)), ((nat_lit 28), (nat_lit 0), (nat_lit 4)), ((nat_lit 29), (nat_lit 0), (nat_lit 4)), ((nat_lit 30), (nat_lit 0), (nat_lit 4)), ((nat_lit 31), (nat_lit 0), (nat_lit 4)), ((nat_lit 32), (nat_lit 0), (nat_lit 4)), ((nat_lit 33), (nat_lit 0), (nat_lit 4)), ((nat_lit 34), (nat_lit 0), (nat_lit 3)), ((nat_lit 35), (nat_lit 0), (nat_lit 3)), ((nat_lit 36), (nat_lit 0), (nat_lit 3)), ((nat_lit 37), (nat_lit 0), (nat_lit 3)), ((nat_lit 38), (nat_lit 0), (nat_lit 3)), ((nat_lit 39), (nat_lit 0), (nat_lit 3)), ((nat_lit 40), (nat_lit 0), (nat_lit 3)), ((nat_lit 41), (nat_lit 0), (nat_lit 3)), ((nat_lit 82), (nat_lit 1), (nat_lit 6)), ((nat_lit 82), (nat_lit 10), (nat_lit 13)), ((nat_lit 84), (nat_lit 0), (nat_lit 20)), ((nat_lit 85), (nat_lit 0), (nat_lit 20))]
def lcn_793 : Nat × aAg := ((nat_lit 2), .inr (.inl [(nat_lit 2)]))
def ct_306 : aCt := (mX5_readPost, [ag_34, ag_281, ag_357], ([], []), [pon_790, pon_791], mdn_792, mdn_285, (nat_lit 5))
set_option maxRecDepth 100000 in
theorem S_306 : aSpec wd ct_306 := bChk_ok wx_ok btX5_readPost (nds := [((nat_lit 47), [lcn_40, lcn_286, lcn_793, lcn_288], [], [sl_54], [((82, 6), 2)], (1023, [(1, -1)]))]) (fk := []) (rk := (1024, [])) (sp := 140737488355328) (fuel := 3000) (by decide +kernel) (lk_d S_305 ml_5_66 (lk_d S_290 ml_5_55 (lk_d S_10 ml_5_70 (lk_d S_22 ml_5_76 (lk_d S_12 ml_5_76 lk_n))))) odX5_readPost
def lcn_794 : Nat × aAg := ((nat_lit 1), .inr (.inl [(nat_lit 2)]))
def ct_307 : aCt := (mX2_begin, [ag_289, ag_357], ([], []), [pon_49], mdn_290, [], (nat_lit 0))
set_option maxRecDepth 100000 in
theorem S_307 : aSpec wd ct_307 := bChk_ok wx_ok btX2_begin (nds := [((nat_lit 12), [lcn_291, lcn_794, lcn_293], [], [sl_294, sl_295], [], (14, [(0, -1)])), ((nat_lit 50), [lcn_291, lcn_794, lcn_296], [], [sl_294, sl_295], [], (8, [(0, -1)]))]) (fk := []) (rk := (15, [])) (sp := 1125899906846720) (fuel := 3000) (by decide +kernel) lk_n odX2_begin
def pon_795 : aPo := (none, [], [sl_297], [((0, 3), 2), ((0, 4), 42), ((92, 0), 2), ((94, 0), 2), ((96, 0), 2)])
def ct_308 : aCt := (mX11_takeDraft, [ag_0], ([], [((0, 3), 42), ((0, 4), 2), ((92, 0), 42), ((94, 0), 42), ((96, 0), 42)]), [pon_795], mdn_299, mdn_300, (nat_lit 1))
set_option maxRecDepth 100000 in
theorem S_308 : aSpec wd ct_308 := bChk_ok wx_ok btX11_takeDraft (nds := []) (fk := []) (rk := (1, [])) (sp := 0) (fuel := 3000) (by decide +kernel) (lk_d S_307 ml_11_391 lk_n) odX11_takeDraft
def pon_796 : aPo := (some (.inl aTop), [none, some [((.ofNat (nat_lit 0)), (.ofNat (nat_lit 1000)), (nat_lit 1))]], [sl_305, sl_301, sl_297, sl_341, sl_54], [((0, 3), 2), ((0, 4), 42), ((82, 6), 2), ((92, 0), 2), ((94, 0), 2), ((96, 0), 2)])
def pon_797 : aPo := (some (.inl [((.negSucc (nat_lit 0)), (.negSucc (nat_lit 0)), (nat_lit 1))]), [none, some [((.ofNat (nat_lit 0)), (.ofNat (nat_lit 1000)), (nat_lit 1))]], [sl_305, sl_303, sl_278], [((0, 3), 42), ((0, 4), 2), ((82, 6), 2), ((92, 0), 42), ((94, 0), 42), ((96, 0), 42)])
def pon_798 : aPo := (some (.inl [((.negSucc (nat_lit 0)), (.negSucc (nat_lit 0)), (nat_lit 1))]), [none, some [((.negSucc (nat_lit 2147483647)), (.negSucc (nat_lit 0)), (nat_lit 1)), ((.ofNat (nat_lit 1)), (.ofNat (nat_lit 2147483647)), (nat_lit 1))]], [sl_23], [((0, 3), 42), ((0, 4), 2), ((92, 0), 42), ((94, 0), 42), ((96, 0), 42)])
def mdn_799 : List (Nat × Nat × Nat) := [((nat_lit 0), (nat_lit 1), (nat_lit 3)), ((nat_lit 0), (nat_lit 13), (nat_lit 14)), ((nat_lit 0), (nat_lit 15), (nat_lit 16)), ((nat_lit 2), (nat_lit 0), (nat_lit 9)), ((nat_lit 3), (nat_lit 0), (nat_lit 7)), ((nat_lit 4), (nat_lit 0), (nat_lit 7)), ((nat_lit 9), (nat_lit 0), (nat_lit 4)), ((nat_lit 10), (nat_lit 0), (nat_lit 4)), ((nat_lit 11), (nat_lit 0), (nat_lit 4)), ((nat_lit 12), (nat_lit 0), (nat_lit 4)), ((nat_lit 13), (nat_lit 0), (nat_lit 4)), ((nat_lit 14), (nat_lit 0), (nat_lit 4)), ((nat_lit 15), (nat_lit 0), (nat_lit 4)), ((nat_lit 16), (nat_lit 0), (nat_lit 4)), ((nat_lit 17), (nat_lit 0), (nat_lit 4)), ((nat_lit 18), (nat_lit 0), (nat_lit 4)), ((nat_lit 19), (nat_lit 0), (nat_lit 4)), ((nat_lit 20), (nat_lit 0), (nat_lit 4)), ((nat_lit 21), (nat_lit 0), (nat_lit 4)), ((nat_lit 22), (nat_lit 0), (nat_lit 4)), ((nat_lit 23), (nat_lit 0), (nat_lit 4)), ((nat_lit 24), (nat_lit 0), (nat_lit 4)), ((nat_lit 25), (nat_lit 0), (nat_lit 4)), ((nat_lit 26), (nat_lit 0), (nat_lit 4)), ((nat_lit 27), (nat_lit 0), (nat_lit 4)), ((nat_lit 28), (nat_lit 0), (nat_lit 4)), ((nat_lit 29), (nat_lit 0), (nat_lit 4)), ((nat_lit 30), (nat_lit 0), (nat_lit 4)), ((nat_lit 31), (nat_lit 0), (nat_lit 4)), ((nat_lit 32), (nat_lit 0), (nat_lit 4)), ((nat_lit 33), (nat_lit 0), (nat_lit 4)), ((nat_lit 34), (nat_lit 0), (nat_lit 3)), ((nat_lit 35), (nat_lit 0), (nat_lit 3)), ((nat_lit 36), (nat_lit 0), (nat_lit 3)), ((nat_lit 37), (nat_lit 0), (nat_lit 3)), ((nat_lit 38), (nat_lit 0), (nat_lit 3)), ((nat_lit 39), (nat_lit 0), (nat_lit 3)), ((nat_lit 40), (nat_lit 0), (nat_lit 3)), ((nat_lit 41), (nat_lit 0), (nat_lit 3)), ((nat_lit 82), (nat_lit 1), (nat_lit 6)), ((nat_lit 82), (nat_lit 10), (nat_lit 13)), ((nat_lit 84), (nat_lit 0), (nat_lit 20)), ((nat_lit 85), (nat_lit 0), (nat_lit 20)), ((nat_lit 86), (nat_lit 0), (nat_lit 2)), ((nat_lit 87), (nat_lit 0), (nat_lit 5)), ((nat_lit 88), (nat_lit 0), (nat_lit 5)), ((nat_lit 89), (nat_lit 0), (nat_lit 8)), ((nat_lit 90), (nat_lit 0), (nat_lit 8)), ((nat_lit 91), (nat_lit 0), (nat_lit 8))]
def ct_309 : aCt := (mX11_post, [ag_0, ag_1], ([], [((0, 3), 42), ((0, 4), 2), ((92, 0), 42), ((94, 0), 42), ((96, 0), 42)]), [pon_796, pon_797, pon_798], mdn_799, mdn_310, (nat_lit 6))
set_option maxRecDepth 100000 in
theorem S_309 : aSpec wd ct_309 := bChk_ok wx_ok btX11_post (nds := []) (fk := []) (rk := (1, [])) (sp := 0) (fuel := 3000) (by decide +kernel) (lk_d S_308 ml_11_106 (lk_d S_6 ml_11_98 (lk_d S_58 ml_11_98 (lk_d S_306 ml_11_102 (lk_d S_57 ml_11_112 lk_n))))) odX11_post
def ct_310 : aCt := (mX11_fault, [ag_0], ([], []), [pon_130], [], [], (nat_lit 0))
set_option maxRecDepth 100000 in
theorem S_310 : aSpec wd ct_310 := bChk_ok wx_ok btX11_fault (nds := []) (fk := []) (rk := (1, [])) (sp := 0) (fuel := 3000) (by decide +kernel) lk_n odX11_fault
def ct_311 : aCt := (mX11_where, [ag_0], ([], []), [pon_311, pon_313], [], [], (nat_lit 0))
set_option maxRecDepth 100000 in
theorem S_311 : aSpec wd ct_311 := bChk_ok wx_ok btX11_where (nds := []) (fk := []) (rk := (1, [])) (sp := 0) (fuel := 3000) (by decide +kernel) lk_n odX11_where
def pon_800 : aPo := (some (.inl [((.ofNat (nat_lit 0)), (.ofNat (nat_lit 0)), (nat_lit 1))]), [none, some [((.ofNat (nat_lit 0)), (.ofNat (nat_lit 2147483647)), (nat_lit 1))]], [sl_29], [])
def pon_801 : aPo := (some (.inl [((.ofNat (nat_lit 0)), (.ofNat (nat_lit 0)), (nat_lit 1))]), [none, some [((.ofNat (nat_lit 1)), (.ofNat (nat_lit 2147483647)), (nat_lit 1))]], [sl_238], [])
def pon_802 : aPo := (some (.inl [((.ofNat (nat_lit 0)), (.ofNat (nat_lit 0)), (nat_lit 1))]), [none, some [((.ofNat (nat_lit 2)), (.ofNat (nat_lit 2147483647)), (nat_lit 1))]], [sl_233], [])
def pon_803 : aPo := (some (.inl [((.ofNat (nat_lit 0)), (.ofNat (nat_lit 0)), (nat_lit 1))]), [none, some [((.ofNat (nat_lit 3)), (.ofNat (nat_lit 2147483647)), (nat_lit 1))]], [sl_228], [])
def pon_804 : aPo := (some (.inl [((.ofNat (nat_lit 0)), (.ofNat (nat_lit 0)), (nat_lit 1))]), [none, some [((.ofNat (nat_lit 4)), (.ofNat (nat_lit 2147483647)), (nat_lit 1))]], [sl_222], [])
def pon_805 : aPo := (some (.inl [((.ofNat (nat_lit 0)), (.ofNat (nat_lit 0)), (nat_lit 1))]), [none, some [((.ofNat (nat_lit 5)), (.ofNat (nat_lit 2147483647)), (nat_lit 1))]], [sl_224], [])
def pon_806 : aPo := (some (.inl [((.ofNat (nat_lit 1)), (.ofNat (nat_lit 1)), (nat_lit 1))]), [none, some [((.ofNat (nat_lit 0)), (.ofNat (nat_lit 0)), (nat_lit 1))]], [sl_238], [])
def pon_807 : aPo := (some (.inl [((.ofNat (nat_lit 1)), (.ofNat (nat_lit 1)), (nat_lit 1))]), [none, some [((.ofNat (nat_lit 0)), (.ofNat (nat_lit 1)), (nat_lit 1))]], [sl_233], [])
def pon_808 : aPo := (some (.inl [((.ofNat (nat_lit 1)), (.ofNat (nat_lit 1)), (nat_lit 1))]), [none, some [((.ofNat (nat_lit 0)), (.ofNat (nat_lit 2)), (nat_lit 1))]], [sl_228], [])
def pon_809 : aPo := (some (.inl [((.ofNat (nat_lit 1)), (.ofNat (nat_lit 1)), (nat_lit 1))]), [none, some [((.ofNat (nat_lit 0)), (.ofNat (nat_lit 3)), (nat_lit 1))]], [sl_222], [])
def pon_810 : aPo := (some (.inl [((.ofNat (nat_lit 1)), (.ofNat (nat_lit 1)), (nat_lit 1))]), [none, some [((.ofNat (nat_lit 0)), (.ofNat (nat_lit 4)), (nat_lit 1))]], [sl_224], [])
def ct_312 : aCt := (mX11_isWhale, [ag_0, ag_1], ([], [((0, 3), 42)]), [pon_800, pon_801, pon_802, pon_803, pon_804, pon_805, pon_326, pon_806, pon_807, pon_808, pon_809, pon_810], [], [], (nat_lit 0))
set_option maxRecDepth 100000 in
theorem S_312 : aSpec wd ct_312 := bChk_ok wx_ok btX11_isWhale (nds := []) (fk := [12]) (rk := (1, [])) (sp := 0) (fuel := 3000) (by decide +kernel) lk_n odX11_isWhale
def sl_811 : (Nat × Nat) × aI := (((nat_lit 42), (nat_lit 6)), [((.ofNat (nat_lit 1)), (.ofNat (nat_lit 5)), (nat_lit 1))])
def pon_812 : aPo := (some (.inl aTop), [none, some [((.ofNat (nat_lit 0)), (.ofNat (nat_lit 4)), (nat_lit 1))], some [((.ofNat (nat_lit 0)), (.ofNat (nat_lit 4)), (nat_lit 1))]], [sl_301, sl_811], [])
def ct_313 : aCt := (mX11_whale, [ag_0, ag_1, ag_1], ([], [((0, 3), 42)]), [pon_812, pon_336], mdn_25, [], (nat_lit 1))
set_option maxRecDepth 100000 in
theorem S_313 : aSpec wd ct_313 := bChk_ok wx_ok btX11_whale (nds := []) (fk := []) (rk := (1, [])) (sp := 0) (fuel := 3000) (by decide +kernel) (lk_d S_63 ml_11_98 (lk_d S_312 ml_11_121 (lk_d S_57 ml_11_112 lk_n))) odX11_whale
def pon_813 : aPo := (some (.inl [((.ofNat (nat_lit 1)), (.ofNat (nat_lit 1)), (nat_lit 1))]), [none, some [((.ofNat (nat_lit 0)), (.ofNat (nat_lit 7)), (nat_lit 1))]], [sl_214], [])
def ct_314 : aCt := (mX11_isBox, [ag_0, ag_1], ([], [((0, 3), 42)]), [pon_337, pon_813], [], [], (nat_lit 0))
set_option maxRecDepth 100000 in
theorem S_314 : aSpec wd ct_314 := bChk_ok wx_ok btX11_isBox (nds := []) (fk := []) (rk := (1, [])) (sp := 0) (fuel := 3000) (by decide +kernel) lk_n odX11_isBox
def pon_814 : aPo := (some (.inl aTop), [none, some [((.ofNat (nat_lit 0)), (.ofNat (nat_lit 7)), (nat_lit 1))], some [((.ofNat (nat_lit 0)), (.ofNat (nat_lit 5)), (nat_lit 1))]], [sl_301, sl_214], [])
def ct_315 : aCt := (mX11_box, [ag_0, ag_1, ag_1], ([], [((0, 3), 42)]), [pon_814, pon_333], mdn_25, [], (nat_lit 1))
set_option maxRecDepth 100000 in
theorem S_315 : aSpec wd ct_315 := bChk_ok wx_ok btX11_box (nds := []) (fk := []) (rk := (1, [])) (sp := 0) (fuel := 3000) (by decide +kernel) (lk_d S_63 ml_11_98 (lk_d S_314 ml_11_147 (lk_d S_57 ml_11_112 lk_n))) odX11_box
def pon_815 : aPo := (some (.inl [((.ofNat (nat_lit 1)), (.ofNat (nat_lit 1)), (nat_lit 1))]), [none, some [((.ofNat (nat_lit 0)), (.ofNat (nat_lit 6)), (nat_lit 1))]], [sl_147], [])
def ct_316 : aCt := (mX11_isIsland, [ag_0, ag_1], ([], [((0, 3), 42)]), [pon_337, pon_815], [], [], (nat_lit 0))
set_option maxRecDepth 100000 in
theorem S_316 : aSpec wd ct_316 := bChk_ok wx_ok btX11_isIsland (nds := []) (fk := []) (rk := (1, [])) (sp := 0) (fuel := 3000) (by decide +kernel) lk_n odX11_isIsland
def pon_816 : aPo := (some (.inl aTop), [none, some [((.ofNat (nat_lit 0)), (.ofNat (nat_lit 6)), (nat_lit 1))]], [sl_301, sl_147], [])
def ct_317 : aCt := (mX11_length, [ag_0, ag_1], ([], [((0, 3), 42)]), [pon_816, pon_333], mdn_25, [], (nat_lit 1))
set_option maxRecDepth 100000 in
theorem S_317 : aSpec wd ct_317 := bChk_ok wx_ok btX11_length (nds := []) (fk := []) (rk := (1, [])) (sp := 0) (fuel := 3000) (by decide +kernel) (lk_d S_63 ml_11_98 (lk_d S_316 ml_11_174 (lk_d S_57 ml_11_112 lk_n))) odX11_length
def ct_318 : aCt := (mX7_fallIn, [ag_344, ag_345], ([], [((92, 0), 42)]), [pon_346, pon_37], [], [], (nat_lit 0))
set_option maxRecDepth 100000 in
theorem S_318 : aSpec wd ct_318 := bChk_ok wx_ok btX7_fallIn (nds := []) (fk := []) (rk := (1, [])) (sp := 0) (fuel := 3000) (by decide +kernel) lk_n odX7_fallIn
def sl_817 : (Nat × Nat) × aI := (((nat_lit 42), (nat_lit 0)), [((.ofNat (nat_lit 1)), (.ofNat (nat_lit 4)), (nat_lit 1))])
def ct_319 : aCt := (mX7_raised, [ag_344, ag_1, ag_137, ag_217], ([], [((92, 0), 42)]), [pon_130], [], [], (nat_lit 1))
set_option maxRecDepth 100000 in
theorem S_319 : aSpec wd ct_319 := bChk_ok wx_ok btX7_raised (nds := [((nat_lit 22), [lcn_349, lcn_271, lcn_143, lcn_350, lcn_351, lcn_352], [], [sl_817], [((92, 0), 42)], (1000, [(4, -1)]))]) (fk := []) (rk := (1001, [])) (sp := 4194304) (fuel := 3000) (by decide +kernel) (lk_d S_70 ml_7_40 lk_n) odX7_raised
def ct_320 : aCt := (mX7_raised, [ag_344, ag_1, ag_137, ag_354], ([], [((92, 0), 42)]), [pon_130], [], [], (nat_lit 1))
set_option maxRecDepth 100000 in
theorem S_320 : aSpec wd ct_320 := bChk_ok wx_ok btX7_raised (nds := [((nat_lit 22), [lcn_349, lcn_271, lcn_143, lcn_355, lcn_351, lcn_352], [], [sl_817], [((92, 0), 42)], (1000, [(4, -1)]))]) (fk := []) (rk := (1001, [])) (sp := 4194304) (fuel := 3000) (by decide +kernel) (lk_d S_70 ml_7_40 lk_n) odX7_raised
def ct_321 : aCt := (mX7_songIn, [ag_344, ag_125, ag_345], ([], [((92, 0), 42)]), [pon_130], [], [], (nat_lit 2))
set_option maxRecDepth 100000 in
theorem S_321 : aSpec wd ct_321 := bChk_ok wx_ok btX7_songIn (nds := []) (fk := []) (rk := (1, [])) (sp := 0) (fuel := 3000) (by decide +kernel) (lk_d S_318 ml_7_50 (lk_d S_319 ml_7_54 (lk_d S_320 ml_7_54 lk_n))) odX7_songIn
def pon_818 : aPo := (some (.inl aTop), [none, some [((.ofNat (nat_lit 0)), (.ofNat (nat_lit 6)), (nat_lit 1))], some [((.ofNat (nat_lit 0)), (.ofNat (nat_lit 999)), (nat_lit 1))]], [sl_301, sl_147], [])
def ct_322 : aCt := (mX11_note, [ag_0, ag_1, ag_1], ([], [((0, 3), 42), ((92, 0), 42)]), [pon_818, pon_333], mdn_25, [], (nat_lit 3))
set_option maxRecDepth 100000 in
theorem S_322 : aSpec wd ct_322 := bChk_ok wx_ok btX11_note (nds := []) (fk := []) (rk := (1, [])) (sp := 0) (fuel := 3000) (by decide +kernel) (lk_d S_63 ml_11_98 (lk_d S_321 ml_11_183 (lk_d S_316 ml_11_174 (lk_d S_57 ml_11_112 (lk_d S_74 ml_11_187 lk_n))))) odX11_note
def ct_323 : aCt := (mX4_boxLength, [ag_26, ag_190], ([], []), [pon_358], [], [], (nat_lit 0))
set_option maxRecDepth 100000 in
theorem S_323 : aSpec wd ct_323 := bChk_ok wx_ok btX4_boxLength (nds := []) (fk := []) (rk := (1, [])) (sp := 0) (fuel := 3000) (by decide +kernel) lk_n odX4_boxLength
def pon_819 : aPo := (some (.inl [((.ofNat (nat_lit 1)), (.ofNat (nat_lit 1)), (nat_lit 1))]), [none, some [((.ofNat (nat_lit 0)), (.ofNat (nat_lit 7)), (nat_lit 1))], some [((.ofNat (nat_lit 0)), (.ofNat (nat_lit 999)), (nat_lit 1))]], [sl_214], [])
def ct_324 : aCt := (mX11_isNoteOfBox, [ag_0, ag_1, ag_1], ([], [((0, 3), 42)]), [pon_37, pon_819], [], [], (nat_lit 1))
set_option maxRecDepth 100000 in
theorem S_324 : aSpec wd ct_324 := bChk_ok wx_ok btX11_isNoteOfBox (nds := []) (fk := []) (rk := (1, [])) (sp := 0) (fuel := 3000) (by decide +kernel) (lk_d S_323 ml_11_198 (lk_d S_314 ml_11_147 lk_n)) odX11_isNoteOfBox
def pon_820 : aPo := (some (.inl aTop), [none, some [((.ofNat (nat_lit 0)), (.ofNat (nat_lit 7)), (nat_lit 1))], some [((.ofNat (nat_lit 0)), (.ofNat (nat_lit 999)), (nat_lit 1))]], [sl_301, sl_214], [])
def ct_325 : aCt := (mX11_sung, [ag_0, ag_1, ag_1], ([], [((0, 3), 42)]), [pon_820, pon_333], mdn_25, [], (nat_lit 2))
set_option maxRecDepth 100000 in
theorem S_325 : aSpec wd ct_325 := bChk_ok wx_ok btX11_sung (nds := []) (fk := []) (rk := (1, [])) (sp := 0) (fuel := 3000) (by decide +kernel) (lk_d S_63 ml_11_98 (lk_d S_323 ml_11_198 (lk_d S_57 ml_11_112 (lk_d S_74 ml_11_187 (lk_d S_324 ml_11_191 lk_n))))) odX11_sung
def ct_326 : aCt := (mX7_raised, [ag_344, ag_1, ag_137, ag_170], ([], [((92, 0), 42)]), [pon_130], [], [], (nat_lit 0))
set_option maxRecDepth 100000 in
theorem S_326 : aSpec wd ct_326 := bChk_ok wx_ok btX7_raised (nds := []) (fk := []) (rk := (1, [])) (sp := 0) (fuel := 3000) (by decide +kernel) lk_n odX7_raised
def ct_327 : aCt := (mX7_raised, [ag_344, ag_1, ag_137, ag_361], ([], [((92, 0), 42)]), [pon_130], [], [], (nat_lit 1))
set_option maxRecDepth 100000 in
theorem S_327 : aSpec wd ct_327 := bChk_ok wx_ok btX7_raised (nds := [((nat_lit 22), [lcn_349, lcn_271, lcn_143, lcn_362, lcn_351, lcn_352], [], [sl_817], [((92, 0), 42)], (1000, [(4, -1)]))]) (fk := []) (rk := (1001, [])) (sp := 4194304) (fuel := 3000) (by decide +kernel) (lk_d S_70 ml_7_40 lk_n) odX7_raised
def ct_328 : aCt := (mX7_hearerOf, [ag_344, ag_1, ag_137, ag_345], ([], [((92, 0), 42)]), [pon_365, pon_52], mdn_366, [], (nat_lit 2))
set_option maxRecDepth 100000 in
theorem S_328 : aSpec wd ct_328 := bChk_ok wx_ok btX7_hearerOf (nds := [((nat_lit 32), [lcn_349, lcn_271, lcn_143, lcn_367, lcn_351, lcn_368, lcn_369], [], [sl_370], [((92, 0), 42)], (7, [(5, -1)]))]) (fk := []) (rk := (8, [])) (sp := 4294967296) (fuel := 3000) (by decide +kernel) (lk_d S_318 ml_7_50 (lk_d S_326 ml_7_54 (lk_d S_327 ml_7_54 (lk_d S_82 ml_7_60 lk_n)))) odX7_hearerOf
def ct_329 : aCt := (mX11_hearerIn, [ag_0, ag_190, ag_345], ([], [((0, 3), 42), ((92, 0), 42)]), [pon_365, pon_52], mdn_366, [], (nat_lit 3))
set_option maxRecDepth 100000 in
theorem S_329 : aSpec wd ct_329 := bChk_ok wx_ok btX11_hearerIn (nds := []) (fk := []) (rk := (1, [])) (sp := 0) (fuel := 3000) (by decide +kernel) (lk_d S_323 ml_11_198 (lk_d S_328 ml_11_277 lk_n)) odX11_hearerIn
def pon_821 : aPo := (some (.inl aTop), [none, some [((.ofNat (nat_lit 0)), (.ofNat (nat_lit 7)), (nat_lit 1))]], [sl_301, sl_214], [])
def ct_330 : aCt := (mX11_heard, [ag_0, ag_1], ([], [((0, 3), 42), ((92, 0), 42)]), [pon_821, pon_333], mdn_372, [], (nat_lit 4))
set_option maxRecDepth 100000 in
theorem S_330 : aSpec wd ct_330 := bChk_ok wx_ok btX11_heard (nds := []) (fk := []) (rk := (1, [])) (sp := 0) (fuel := 3000) (by decide +kernel) (lk_d S_63 ml_11_98 (lk_d S_329 ml_11_201 (lk_d S_314 ml_11_147 (lk_d S_57 ml_11_112 lk_n)))) odX11_heard
def ct_331 : aCt := (mX11_isIsland, [ag_0, ag_1], ([sl_147], [((0, 3), 42)]), [pon_373, pon_374], [], [], (nat_lit 0))
set_option maxRecDepth 100000 in
theorem S_331 : aSpec wd ct_331 := bChk_ok wx_ok btX11_isIsland (nds := []) (fk := []) (rk := (1, [])) (sp := 0) (fuel := 3000) (by decide +kernel) lk_n odX11_isIsland
def pon_822 : aPo := (some (.inl [((.ofNat (nat_lit 1)), (.ofNat (nat_lit 1)), (nat_lit 1))]), [none, some [((.ofNat (nat_lit 0)), (.ofNat (nat_lit 6)), (nat_lit 1))], some [((.ofNat (nat_lit 0)), (.ofNat (nat_lit 6)), (nat_lit 1))]], [sl_147], [])
def ct_332 : aCt := (mX11_areTwoIslands, [ag_0, ag_1, ag_1], ([], [((0, 3), 42)]), [pon_37, pon_822], [], [], (nat_lit 1))
set_option maxRecDepth 100000 in
theorem S_332 : aSpec wd ct_332 := bChk_ok wx_ok btX11_areTwoIslands (nds := []) (fk := []) (rk := (1, [])) (sp := 0) (fuel := 3000) (by decide +kernel) (lk_d S_331 ml_11_174 (lk_d S_316 ml_11_174 lk_n)) odX11_areTwoIslands
def pon_823 : aPo := (some (.inl [((.ofNat (nat_lit 0)), (.ofNat (nat_lit 11)), (nat_lit 1))]), [], [sl_258], [])
def ct_333 : aCt := (mX4_wayBetween, [ag_26, ag_125, ag_125], ([], []), [pon_823, pon_52], [], [], (nat_lit 0))
set_option maxRecDepth 100000 in
theorem S_333 : aSpec wd ct_333 := bChk_ok wx_ok btX4_wayBetween (nds := [((nat_lit 2), [lcn_141, lcn_249, lcn_250, lcn_379], [], [], [], (12, [(2, -1)]))]) (fk := []) (rk := (13, [])) (sp := 4) (fuel := 3000) (by decide +kernel) lk_n odX4_wayBetween
def pon_824 : aPo := (some (.inl aTop), [none, some [((.ofNat (nat_lit 0)), (.ofNat (nat_lit 6)), (nat_lit 1))], some [((.ofNat (nat_lit 0)), (.ofNat (nat_lit 6)), (nat_lit 1))]], [sl_301, sl_147], [])
def ct_334 : aCt := (mX11_way, [ag_0, ag_1, ag_1], ([], [((0, 3), 42)]), [pon_824, pon_333], mdn_25, [], (nat_lit 2))
set_option maxRecDepth 100000 in
theorem S_334 : aSpec wd ct_334 := bChk_ok wx_ok btX11_way (nds := []) (fk := []) (rk := (1, [])) (sp := 0) (fuel := 3000) (by decide +kernel) (lk_d S_63 ml_11_98 (lk_d S_89 ml_11_210 (lk_d S_333 ml_11_207 (lk_d S_57 ml_11_112 (lk_d S_332 ml_11_204 lk_n))))) odX11_way
def pon_825 : aPo := (some (.inl [((.ofNat (nat_lit 0)), (.ofNat (nat_lit 0)), (nat_lit 1))]), [], [sl_27], [])
def pon_826 : aPo := (some (.inl [((.ofNat (nat_lit 1)), (.ofNat (nat_lit 1)), (nat_lit 1))]), [], [sl_147], [])
def ct_335 : aCt := (mX11_hasPost, [ag_0], ([], [((0, 3), 42)]), [pon_825, pon_826], [], [], (nat_lit 0))
set_option maxRecDepth 100000 in
theorem S_335 : aSpec wd ct_335 := bChk_ok wx_ok btX11_hasPost (nds := []) (fk := []) (rk := (1, [])) (sp := 0) (fuel := 3000) (by decide +kernel) lk_n odX11_hasPost
def pon_827 : aPo := (some (.inl aTop), [none, some [((.ofNat (nat_lit 0)), (.ofNat (nat_lit 99999)), (nat_lit 1))]], [sl_301, sl_147], [])
def ct_336 : aCt := (mX11_season, [ag_0, ag_1], ([], [((0, 3), 42)]), [pon_827, pon_390], mdn_25, [], (nat_lit 1))
set_option maxRecDepth 100000 in
theorem S_336 : aSpec wd ct_336 := bChk_ok wx_ok btX11_season (nds := []) (fk := []) (rk := (1, [])) (sp := 0) (fuel := 3000) (by decide +kernel) (lk_d S_335 ml_11_222 (lk_d S_6 ml_11_98 (lk_d S_63 ml_11_98 (lk_d S_92 ml_11_227 (lk_d S_57 ml_11_112 lk_n))))) odX11_season
def pon_828 : aPo := (some (.inl [((.ofNat (nat_lit 1)), (.ofNat (nat_lit 1)), (nat_lit 1))]), [none, some [((.ofNat (nat_lit 0)), (.ofNat (nat_lit 11)), (nat_lit 1))]], [sl_258], [])
def ct_337 : aCt := (mX11_isWay, [ag_0, ag_1], ([], [((0, 3), 42)]), [pon_337, pon_828], [], [], (nat_lit 0))
set_option maxRecDepth 100000 in
theorem S_337 : aSpec wd ct_337 := bChk_ok wx_ok btX11_isWay (nds := []) (fk := []) (rk := (1, [])) (sp := 0) (fuel := 3000) (by decide +kernel) lk_n odX11_isWay
def pon_829 : aPo := (some (.inl aTop), [none, some [((.ofNat (nat_lit 0)), (.ofNat (nat_lit 4)), (nat_lit 1))], some [((.ofNat (nat_lit 0)), (.ofNat (nat_lit 11)), (nat_lit 1))], some [((.ofNat (nat_lit 0)), (.ofNat (nat_lit 9999)), (nat_lit 1))]], [sl_301, sl_258, sl_811], [])
def ct_338 : aCt := (mX11_sets, [ag_0, ag_1, ag_1, ag_1], ([], [((0, 3), 42)]), [pon_829, pon_401], mdn_25, [], (nat_lit 1))
set_option maxRecDepth 100000 in
theorem S_338 : aSpec wd ct_338 := bChk_ok wx_ok btX11_sets (nds := []) (fk := []) (rk := (1, [])) (sp := 0) (fuel := 3000) (by decide +kernel) (lk_d S_6 ml_11_98 (lk_d S_63 ml_11_98 (lk_d S_89 ml_11_210 (lk_d S_312 ml_11_121 (lk_d S_337 ml_11_230 (lk_d S_95 ml_11_227 (lk_d S_57 ml_11_112 (lk_d S_96 ml_11_236 lk_n)))))))) odX11_sets
def ct_339 : aCt := (mX11_sentPart, [ag_0, ag_190, ag_402], ([], [((0, 3), 42)]), [pon_403, pon_404, pon_405], [], [], (nat_lit 0))
set_option maxRecDepth 100000 in
theorem S_339 : aSpec wd ct_339 := bChk_ok wx_ok btX11_sentPart (nds := []) (fk := []) (rk := (1, [])) (sp := 0) (fuel := 3000) (by decide +kernel) lk_n odX11_sentPart
def pon_830 : aPo := (some (.inl aTop), [], [sl_301, sl_147], [])
def ct_340 : aCt := (mX11_sent, [ag_0, ag_1], ([], [((0, 3), 42)]), [pon_830, pon_333], mdn_25, [], (nat_lit 1))
set_option maxRecDepth 100000 in
theorem S_340 : aSpec wd ct_340 := bChk_ok wx_ok btX11_sent (nds := [((nat_lit 26), [lcn_407, lcn_397, lcn_132, lcn_408], [], [sl_147], [((0, 3), 42)], (8, [(2, -1)]))]) (fk := []) (rk := (9, [])) (sp := 67108864) (fuel := 3000) (by decide +kernel) (lk_d S_335 ml_11_222 (lk_d S_63 ml_11_98 (lk_d S_98 ml_11_242 (lk_d S_339 ml_11_245 (lk_d S_57 ml_11_112 lk_n))))) odX11_sent
def ct_341 : aCt := (mX7_apartness, [ag_344, ag_125, ag_125], ([], [((92, 0), 42)]), [pon_364, pon_52], [], [], (nat_lit 2))
set_option maxRecDepth 100000 in
theorem S_341 : aSpec wd ct_341 := bChk_ok wx_ok btX7_apartness (nds := []) (fk := []) (rk := (1, [])) (sp := 0) (fuel := 3000) (by decide +kernel) (lk_d S_82 ml_7_60 lk_n) odX7_apartness
def ct_342 : aCt := (mX11_apart, [ag_0, ag_1, ag_1], ([], [((0, 3), 42), ((92, 0), 42)]), [pon_824, pon_333], mdn_25, [], (nat_lit 3))
set_option maxRecDepth 100000 in
theorem S_342 : aSpec wd ct_342 := bChk_ok wx_ok btX11_apart (nds := []) (fk := []) (rk := (1, [])) (sp := 0) (fuel := 3000) (by decide +kernel) (lk_d S_63 ml_11_98 (lk_d S_341 ml_11_248 (lk_d S_331 ml_11_174 (lk_d S_316 ml_11_174 (lk_d S_57 ml_11_112 lk_n))))) odX11_apart
def ct_343 : aCt := (mX7_apartness, [ag_344, ag_409, ag_410], ([], [((92, 0), 42)]), [pon_364, pon_52], [], [], (nat_lit 2))
set_option maxRecDepth 100000 in
theorem S_343 : aSpec wd ct_343 := bChk_ok wx_ok btX7_apartness (nds := []) (fk := []) (rk := (1, [])) (sp := 0) (fuel := 3000) (by decide +kernel) (lk_d S_82 ml_7_60 lk_n) odX7_apartness
def ct_344 : aCt := (mX7_bearable, [ag_344], ([sl_147], [((92, 0), 42)]), [pon_130], [], [], (nat_lit 3))
set_option maxRecDepth 100000 in
theorem S_344 : aSpec wd ct_344 := bChk_ok wx_ok btX7_bearable (nds := [((nat_lit 5), [lcn_349, lcn_271, lcn_411], [], [sl_147], [((92, 0), 42)], (63, [(1, -8)])), ((nat_lit 18), [lcn_349, lcn_271, lcn_250, lcn_144], [], [sl_147], [((92, 0), 42)], (62, [(1, -8), (2, -1)]))]) (fk := []) (rk := (64, [])) (sp := 262176) (fuel := 3000) (by decide +kernel) (lk_d S_343 ml_7_67 lk_n) odX7_bearable
def pon_831 : aPo := (some (.inl [((.negSucc (nat_lit 0)), (.negSucc (nat_lit 0)), (nat_lit 1))]), [], [sl_332, sl_27], [])
def ct_345 : aCt := (mX11_bear, [ag_0], ([], [((0, 3), 42), ((92, 0), 42)]), [pon_830, pon_831], mdn_25, [], (nat_lit 4))
set_option maxRecDepth 100000 in
theorem S_345 : aSpec wd ct_345 := bChk_ok wx_ok btX11_bear (nds := []) (fk := []) (rk := (1, [])) (sp := 0) (fuel := 3000) (by decide +kernel) (lk_d S_344 ml_11_251 (lk_d S_335 ml_11_222 (lk_d S_63 ml_11_98 (lk_d S_57 ml_11_112 lk_n)))) odX11_bear
def ct_346 : aCt := (mX7_mixedPairs, [ag_344], ([sl_147], [((92, 0), 42)]), [pon_130], [], [], (nat_lit 3))
set_option maxRecDepth 100000 in
theorem S_346 : aSpec wd ct_346 := bChk_ok wx_ok btX7_mixedPairs (nds := [((nat_lit 4), [lcn_349, lcn_271, lcn_411], [], [sl_147], [((92, 0), 42)], (63, [(1, -8)])), ((nat_lit 17), [lcn_349, lcn_271, lcn_250, lcn_144], [], [sl_147], [((92, 0), 42)], (62, [(1, -8), (2, -1)]))]) (fk := []) (rk := (64, [])) (sp := 131088) (fuel := 3000) (by decide +kernel) (lk_d S_343 ml_7_67 lk_n) odX7_mixedPairs
def ct_347 : aCt := (mX11_mixed, [ag_0], ([], [((0, 3), 42), ((92, 0), 42)]), [pon_830, pon_831], mdn_25, [], (nat_lit 4))
set_option maxRecDepth 100000 in
theorem S_347 : aSpec wd ct_347 := bChk_ok wx_ok btX11_mixed (nds := []) (fk := []) (rk := (1, [])) (sp := 0) (fuel := 3000) (by decide +kernel) (lk_d S_346 ml_11_255 (lk_d S_335 ml_11_222 (lk_d S_63 ml_11_98 (lk_d S_57 ml_11_112 lk_n)))) odX11_mixed
def pon_832 : aPo := (some (.inl [((.ofNat (nat_lit 2)), (.ofNat (nat_lit 2)), (nat_lit 1))]), [none, some aTop, none], [sl_147], [])
def pon_833 : aPo := (some (.inl [((.ofNat (nat_lit 0)), (.ofNat (nat_lit 0)), (nat_lit 1))]), [none, some [((.ofNat (nat_lit 2)), (.ofNat (nat_lit 5)), (nat_lit 1))], some [((.ofNat (nat_lit 1)), (.ofNat (nat_lit 5)), (nat_lit 1))]], [sl_147], [])
def pon_834 : aPo := (some (.inl [((.ofNat (nat_lit 1)), (.ofNat (nat_lit 1)), (nat_lit 1))]), [], [sl_27], [])
def ct_348 : aCt := (mX11_refusalOfNewSong, [ag_0, ag_1, ag_1], ([], [((0, 3), 42)]), [pon_832, pon_833, pon_834], [], [], (nat_lit 1))
set_option maxRecDepth 100000 in
theorem S_348 : aSpec wd ct_348 := bChk_ok wx_ok btX11_refusalOfNewSong (nds := []) (fk := []) (rk := (1, [])) (sp := 0) (fuel := 3000) (by decide +kernel) (lk_d S_335 ml_11_222 lk_n) odX11_refusalOfNewSong
def ct_349 : aCt := (mX7_songIn, [ag_344, ag_170, ag_345], ([], [((92, 0), 42)]), [pon_130], [], [], (nat_lit 2))
set_option maxRecDepth 100000 in
theorem S_349 : aSpec wd ct_349 := bChk_ok wx_ok btX7_songIn (nds := []) (fk := []) (rk := (1, [])) (sp := 0) (fuel := 3000) (by decide +kernel) (lk_d S_318 ml_7_50 (lk_d S_319 ml_7_54 (lk_d S_320 ml_7_54 lk_n))) odX7_songIn
def ct_350 : aCt := (mX7_songIn, [ag_344, ag_53, ag_345], ([], [((92, 0), 42)]), [pon_130], [], [], (nat_lit 2))
set_option maxRecDepth 100000 in
theorem S_350 : aSpec wd ct_350 := bChk_ok wx_ok btX7_songIn (nds := []) (fk := []) (rk := (1, [])) (sp := 0) (fuel := 3000) (by decide +kernel) (lk_d S_318 ml_7_50 (lk_d S_319 ml_7_54 (lk_d S_320 ml_7_54 lk_n))) odX7_songIn
def ct_351 : aCt := (mX7_songIn, [ag_344, ag_22, ag_345], ([], [((92, 0), 42)]), [pon_130], [], [], (nat_lit 2))
set_option maxRecDepth 100000 in
theorem S_351 : aSpec wd ct_351 := bChk_ok wx_ok btX7_songIn (nds := []) (fk := []) (rk := (1, [])) (sp := 0) (fuel := 3000) (by decide +kernel) (lk_d S_318 ml_7_50 (lk_d S_319 ml_7_54 (lk_d S_320 ml_7_54 lk_n))) odX7_songIn
def ct_352 : aCt := (mX7_songIn, [ag_344, ag_122, ag_345], ([], [((92, 0), 42)]), [pon_130], [], [], (nat_lit 2))
set_option maxRecDepth 100000 in
theorem S_352 : aSpec wd ct_352 := bChk_ok wx_ok btX7_songIn (nds := []) (fk := []) (rk := (1, [])) (sp := 0) (fuel := 3000) (by decide +kernel) (lk_d S_318 ml_7_50 (lk_d S_319 ml_7_54 (lk_d S_320 ml_7_54 lk_n))) odX7_songIn
def ct_353 : aCt := (mX7_songIn, [ag_344, ag_159, ag_345], ([], [((92, 0), 42)]), [pon_130], [], [], (nat_lit 2))
set_option maxRecDepth 100000 in
theorem S_353 : aSpec wd ct_353 := bChk_ok wx_ok btX7_songIn (nds := []) (fk := []) (rk := (1, [])) (sp := 0) (fuel := 3000) (by decide +kernel) (lk_d S_318 ml_7_50 (lk_d S_319 ml_7_54 (lk_d S_320 ml_7_54 lk_n))) odX7_songIn
def ct_354 : aCt := (mX7_songIn, [ag_344, ag_150, ag_345], ([], [((92, 0), 42)]), [pon_130], [], [], (nat_lit 2))
set_option maxRecDepth 100000 in
theorem S_354 : aSpec wd ct_354 := bChk_ok wx_ok btX7_songIn (nds := []) (fk := []) (rk := (1, [])) (sp := 0) (fuel := 3000) (by decide +kernel) (lk_d S_318 ml_7_50 (lk_d S_319 ml_7_54 (lk_d S_320 ml_7_54 lk_n))) odX7_songIn
def ct_355 : aCt := (mX7_songIn, [ag_344, ag_153, ag_345], ([], [((92, 0), 42)]), [pon_130], [], [], (nat_lit 2))
set_option maxRecDepth 100000 in
theorem S_355 : aSpec wd ct_355 := bChk_ok wx_ok btX7_songIn (nds := []) (fk := []) (rk := (1, [])) (sp := 0) (fuel := 3000) (by decide +kernel) (lk_d S_318 ml_7_50 (lk_d S_319 ml_7_54 (lk_d S_320 ml_7_54 lk_n))) odX7_songIn
def sl_835 : (Nat × Nat) × aI := (((nat_lit 42), (nat_lit 4)), [((.ofNat (nat_lit 2)), (.ofNat (nat_lit 7)), (nat_lit 1))])
def sl_836 : (Nat × Nat) × aI := (((nat_lit 42), (nat_lit 4)), [((.ofNat (nat_lit 3)), (.ofNat (nat_lit 7)), (nat_lit 1))])
def sl_837 : (Nat × Nat) × aI := (((nat_lit 42), (nat_lit 4)), [((.ofNat (nat_lit 4)), (.ofNat (nat_lit 7)), (nat_lit 1))])
def sl_838 : (Nat × Nat) × aI := (((nat_lit 42), (nat_lit 4)), [((.ofNat (nat_lit 5)), (.ofNat (nat_lit 7)), (nat_lit 1))])
def sl_839 : (Nat × Nat) × aI := (((nat_lit 42), (nat_lit 4)), [((.ofNat (nat_lit 6)), (.ofNat (nat_lit 7)), (nat_lit 1))])
def sl_840 : (Nat × Nat) × aI := (((nat_lit 42), (nat_lit 4)), [((.ofNat (nat_lit 7)), (.ofNat (nat_lit 7)), (nat_lit 1))])
def ct_356 : aCt := (mX7_keepSongsOf, [ag_344, ag_416, ag_345], ([sl_147], [((92, 0), 42)]), [pon_417], mdn_418, [], (nat_lit 3))
set_option maxRecDepth 100000 in
theorem S_356 : aSpec wd ct_356 := bChk_ok wx_ok btX7_keepSongsOf (nds := [((nat_lit 5), [lcn_349, lcn_419, lcn_420, lcn_101, lcn_421], [], [sl_147], [((92, 0), 42)], (7, [])), ((nat_lit 5), [lcn_349, lcn_419, lcn_420, lcn_422, lcn_423], [], [sl_147], [((92, 0), 42)], (6, [])), ((nat_lit 5), [lcn_349, lcn_419, lcn_420, lcn_424, lcn_425], [], [sl_835], [((92, 0), 42)], (5, [])), ((nat_lit 5), [lcn_349, lcn_419, lcn_420, lcn_427, lcn_428], [], [sl_836], [((92, 0), 42)], (4, [])), ((nat_lit 5), [lcn_349, lcn_419, lcn_420, lcn_430, lcn_431], [], [sl_837], [((92, 0), 42)], (3, [])), ((nat_lit 5), [lcn_349, lcn_419, lcn_420, lcn_433, lcn_434], [], [sl_838], [((92, 0), 42)], (2, [])), ((nat_lit 5), [lcn_349, lcn_419, lcn_420, lcn_144, lcn_436], [], [sl_839], [((92, 0), 42)], (1, [])), ((nat_lit 5), [lcn_349, lcn_419, lcn_420, lcn_438, lcn_439], [], [sl_840], [((92, 0), 42)], (0, []))]) (fk := []) (rk := (8, [])) (sp := 32) (fuel := 3000) (by decide +kernel) (lk_d S_349 ml_7_81 (lk_d S_350 ml_7_81 (lk_d S_351 ml_7_81 (lk_d S_352 ml_7_81 (lk_d S_353 ml_7_81 (lk_d S_354 ml_7_81 (lk_d S_355 ml_7_81 lk_n))))))) odX7_keepSongsOf
def ct_357 : aCt := (mX7_isOfNotes, [ag_344, ag_441, ag_416], ([], [((92, 0), 42)]), [pon_37, pon_38], [], [], (nat_lit 1))
set_option maxRecDepth 100000 in
theorem S_357 : aSpec wd ct_357 := bChk_ok wx_ok btX7_isOfNotes (nds := [((nat_lit 2), [lcn_349, lcn_442, lcn_443, lcn_433], [], [], [((92, 0), 42)], (5, [(2, -1)]))]) (fk := []) (rk := (6, [])) (sp := 4) (fuel := 3000) (by decide +kernel) (lk_d S_117 ml_7_40 lk_n) odX7_isOfNotes
def ct_358 : aCt := (mX7_findNew, [ag_344, ag_416, ag_452, ag_345, ag_53], ([sl_147], [((92, 0), 42)]), [pon_453, pon_38], mdn_454, [], (nat_lit 4))
set_option maxRecDepth 100000 in
theorem S_358 : aSpec wd ct_358 := bChk_ok wx_ok btX7_findNew (nds := [((nat_lit 24), [lcn_349, lcn_419, lcn_455, lcn_367, lcn_423, lcn_456, lcn_457, lcn_458, lcn_459], [], [sl_147], [((92, 0), 42)], (9224, [(3, -1025), (5, -1)])), ((nat_lit 24), [lcn_349, lcn_419, lcn_455, lcn_367, lcn_423, lcn_460, lcn_461, lcn_458, lcn_459], [], [sl_147], [((92, 0), 42)], (8199, [(3, -1025), (5, -1)])), ((nat_lit 24), [lcn_349, lcn_419, lcn_455, lcn_367, lcn_423, lcn_462, lcn_463, lcn_458, lcn_459], [], [sl_147], [((92, 0), 42)], (7174, [(3, -1025), (5, -1)])), ((nat_lit 24), [lcn_349, lcn_419, lcn_455, lcn_367, lcn_423, lcn_464, lcn_465, lcn_458, lcn_459], [], [sl_147], [((92, 0), 42)], (6149, [(3, -1025), (5, -1)])), ((nat_lit 24), [lcn_349, lcn_419, lcn_455, lcn_367, lcn_423, lcn_466, lcn_467, lcn_458, lcn_459], [], [sl_147], [((92, 0), 42)], (5124, [(3, -1025), (5, -1)])), ((nat_lit 24), [lcn_349, lcn_419, lcn_455, lcn_367, lcn_423, lcn_468, lcn_469, lcn_458, lcn_459], [], [sl_147], [((92, 0), 42)], (4099, [(3, -1025), (5, -1)])), ((nat_lit 24), [lcn_349, lcn_419, lcn_455, lcn_367, lcn_423, lcn_470, lcn_471, lcn_458, lcn_459], [], [sl_147], [((92, 0), 42)], (3074, [(3, -1025), (5, -1)])), ((nat_lit 24), [lcn_349, lcn_419, lcn_455, lcn_367, lcn_423, lcn_472, lcn_473, lcn_458, lcn_459], [], [sl_147], [((92, 0), 42)], (2049, [(3, -1025), (5, -1)]))]) (fk := [6]) (rk := (2050, [])) (sp := 16777216) (fuel := 3000) (by decide +kernel) (lk_d S_120 ml_7_77 (lk_d S_122 ml_7_77 (lk_d S_124 ml_7_77 (lk_d S_126 ml_7_77 (lk_d S_128 ml_7_77 (lk_d S_130 ml_7_77 (lk_d S_132 ml_7_77 (lk_d S_134 ml_7_77 (lk_d S_357 ml_7_73 (lk_d S_121 ml_7_77 (lk_d S_123 ml_7_77 (lk_d S_125 ml_7_77 (lk_d S_127 ml_7_77 (lk_d S_129 ml_7_77 (lk_d S_131 ml_7_77 (lk_d S_133 ml_7_77 (lk_d S_135 ml_7_77 (lk_d S_356 ml_7_70 lk_n)))))))))))))))))) odX7_findNew
end Pk5
