section Pk0
def pon_866 : aPo := (some (.inl [((.ofNat (nat_lit 1)), (.ofNat (nat_lit 1)), (nat_lit 1))]), [none, some [((.ofNat (nat_lit 0)), (.ofNat (nat_lit 11)), (nat_lit 1))], some [((.ofNat (nat_lit 0)), (.ofNat (nat_lit 1)), (nat_lit 1))]], [sl_304, sl_259], [])
def ct_461 : aCt := (mX11_close, [ag_0, ag_1, ag_536], ([], [((0, 3), 42)]), [pon_731, pon_866], mdn_733, [], (nat_lit 3))
set_option maxRecDepth 100000 in
theorem S_461 : aSpec wd ct_461 := bChk_ok wx_ok btX11_close (nds := []) (fk := []) (rk := (1, [])) (sp := 0) (fuel := 3000) (by decide +kernel) (lk_d S_283 ml_11_341 (lk_d S_288 ml_11_356 (lk_d S_287 ml_11_347 (lk_d S_290 ml_11_347 (lk_d S_97 ml_11_210 (lk_d S_352 ml_11_230 lk_n)))))) odX11_close
def ct_462 : aCt := (mX11_undo, [ag_0], ([], []), [pon_734, pon_718], mdn_735, [], (nat_lit 2))
set_option maxRecDepth 100000 in
theorem S_462 : aSpec wd ct_462 := bChk_ok wx_ok btX11_undo (nds := []) (fk := []) (rk := (1, [])) (sp := 0) (fuel := 3000) (by decide +kernel) (lk_d S_288 ml_11_356 (lk_d S_295 ml_11_347 (lk_d S_296 ml_11_359 lk_n))) odX11_undo
def pon_867 : aPo := (some (.inl aTop), [], [sl_304, sl_738, sl_147], [])
def ct_463 : aCt := (mX11_image, [ag_0], ([], [((0, 3), 42)]), [pon_867, pon_741], mdn_742, [], (nat_lit 2))
set_option maxRecDepth 100000 in
theorem S_463 : aSpec wd ct_463 := bChk_ok wx_ok btX11_image (nds := []) (fk := []) (rk := (1, [])) (sp := 0) (fuel := 3000) (by decide +kernel) (lk_d S_350 ml_11_222 (lk_d S_292 ml_11_98 (lk_d S_71 ml_11_98 (lk_d S_298 ml_11_359 (lk_d S_65 ml_11_112 lk_n))))) odX11_image
def ct_464 : aCt := (mX11_back, [ag_0, ag_1], ([], []), [pon_743, pon_744], mdn_745, [], (nat_lit 2))
set_option maxRecDepth 100000 in
theorem S_464 : aSpec wd ct_464 := bChk_ok wx_ok btX11_back (nds := []) (fk := []) (rk := (1, [])) (sp := 0) (fuel := 3000) (by decide +kernel) (lk_d S_288 ml_11_356 (lk_d S_290 ml_11_347 (lk_d S_300 ml_11_359 lk_n))) odX11_back
def ct_465 : aCt := (mX11_size, [ag_0, ag_1], ([], [((0, 3), 42)]), [pon_746, pon_747], [], [], (nat_lit 0))
set_option maxRecDepth 100000 in
theorem S_465 : aSpec wd ct_465 := bChk_ok wx_ok btX11_size (nds := []) (fk := []) (rk := (1, [])) (sp := 0) (fuel := 3000) (by decide +kernel) lk_n odX11_size
def ct_466 : aCt := (mX11_trouble, [ag_0], ([], []), [pon_267], [], [], (nat_lit 0))
set_option maxRecDepth 100000 in
theorem S_466 : aSpec wd ct_466 := bChk_ok wx_ok btX11_trouble (nds := []) (fk := []) (rk := (1, [])) (sp := 0) (fuel := 3000) (by decide +kernel) lk_n odX11_trouble
def ag_868 : aAg := .inr (.inl [(nat_lit 196)])
def sl_869 : (Nat × Nat) × aI := (((nat_lit 196), (nat_lit 2)), [((.ofNat (nat_lit 20)), (.ofNat (nat_lit 1000)), (nat_lit 1))])
def pon_870 : aPo := (some (.inl [((.ofNat (nat_lit 20)), (.ofNat (nat_lit 1000)), (nat_lit 1))]), [], [sl_869], [])
def sl_871 : (Nat × Nat) × aI := (((nat_lit 196), (nat_lit 2)), [((.ofNat (nat_lit 981)), (.ofNat (nat_lit 1000)), (nat_lit 1))])
def pon_872 : aPo := (some (.inl [((.negSucc (nat_lit 0)), (.negSucc (nat_lit 0)), (nat_lit 1))]), [], [sl_871], [])
def mdn_873 : List (Nat × Nat × Nat) := [((nat_lit 196), (nat_lit 0), (nat_lit 1)), ((nat_lit 196), (nat_lit 2), (nat_lit 3)), ((nat_lit 197), (nat_lit 0), (nat_lit 1000))]
set_option maxRecDepth 100000 in
theorem btX12_feed : bTab oX12_feed tX12_feed := ⟨ofX12_feed, by decide +kernel⟩
def ct_467 : aCt := (mX12_feed, [ag_868, ag_1, ag_1, ag_1, ag_1, ag_1], ([], []), [pon_870, pon_872], mdn_873, [], (nat_lit 0))
set_option maxRecDepth 100000 in
theorem S_467 : aSpec wd ct_467 := bChk_ok wx_ok btX12_feed (nds := []) (fk := []) (rk := (1, [])) (sp := 0) (fuel := 3000) (by decide +kernel) lk_n odX12_feed
def sl_874 : (Nat × Nat) × aI := (((nat_lit 196), (nat_lit 11)), [((.ofNat (nat_lit 0)), (.ofNat (nat_lit 0)), (nat_lit 1))])
def pon_875 : aPo := (none, [], [sl_874], [])
def mdn_876 : List (Nat × Nat × Nat) := [((nat_lit 196), (nat_lit 0), (nat_lit 1)), ((nat_lit 196), (nat_lit 11), (nat_lit 12))]
set_option maxRecDepth 100000 in
theorem btX12_good : bTab oX12_good tX12_good := ⟨ofX12_good, by decide +kernel⟩
def ct_468 : aCt := (mX12_good, [ag_868], ([], []), [pon_875], mdn_876, [], (nat_lit 0))
set_option maxRecDepth 100000 in
theorem S_468 : aSpec wd ct_468 := bChk_ok wx_ok btX12_good (nds := []) (fk := []) (rk := (1, [])) (sp := 0) (fuel := 3000) (by decide +kernel) lk_n odX12_good
def pon_877 : aPo := (some (.inl [((.ofNat (nat_lit 0)), (.ofNat (nat_lit 0)), (nat_lit 1))]), [some [((.negSucc (nat_lit 2147483647)), (.negSucc (nat_lit 0)), (nat_lit 1)), ((.ofNat (nat_lit 1)), (.ofNat (nat_lit 2147483647)), (nat_lit 1))], none, none], [], [])
def pon_878 : aPo := (some (.inl [((.ofNat (nat_lit 1)), (.ofNat (nat_lit 1)), (nat_lit 1))]), [some [((.ofNat (nat_lit 0)), (.ofNat (nat_lit 1000)), (nat_lit 1))], none, none], [], [])
def mdn_879 : List (Nat × Nat × Nat) := [((nat_lit 1000002), (nat_lit 0), (nat_lit 0))]
set_option maxRecDepth 100000 in
theorem btX12_in : bTab oX12_in tX12_in := ⟨ofX12_in, by decide +kernel⟩
def ct_469 : aCt := (mX12_in, [ag_1, ag_170, ag_284], ([], []), [pon_877, pon_878], mdn_879, [], (nat_lit 0))
set_option maxRecDepth 100000 in
theorem S_469 : aSpec wd ct_469 := bChk_ok wx_ok btX12_in (nds := []) (fk := []) (rk := (1, [])) (sp := 0) (fuel := 3000) (by decide +kernel) lk_n odX12_in
def sl_880 : (Nat × Nat) × aI := (((nat_lit 196), (nat_lit 11)), [((.ofNat (nat_lit 2)), (.ofNat (nat_lit 2)), (nat_lit 1))])
def pon_881 : aPo := (some (.inl [((.negSucc (nat_lit 0)), (.negSucc (nat_lit 0)), (nat_lit 1))]), [], [sl_880], [])
def mdn_882 : List (Nat × Nat × Nat) := [((nat_lit 196), (nat_lit 11), (nat_lit 12))]
set_option maxRecDepth 100000 in
theorem btX12_no : bTab oX12_no tX12_no := ⟨ofX12_no, by decide +kernel⟩
def ct_470 : aCt := (mX12_no, [ag_868, ag_22], ([sl_874], []), [pon_881], mdn_882, [], (nat_lit 0))
set_option maxRecDepth 100000 in
theorem S_470 : aSpec wd ct_470 := bChk_ok wx_ok btX12_no (nds := []) (fk := []) (rk := (1, [])) (sp := 0) (fuel := 3000) (by decide +kernel) lk_n odX12_no
def ag_883 : aAg := .inl [((.ofNat (nat_lit 0)), (.ofNat (nat_lit 1001)), (nat_lit 1))]
def pon_884 : aPo := (some (.inl [((.ofNat (nat_lit 0)), (.ofNat (nat_lit 255)), (nat_lit 1))]), [none, some [((.ofNat (nat_lit 0)), (.ofNat (nat_lit 999)), (nat_lit 1))]], [], [])
def pon_885 : aPo := (some (.inl [((.negSucc (nat_lit 0)), (.negSucc (nat_lit 0)), (nat_lit 1))]), [], [], [])
set_option maxRecDepth 100000 in
theorem btX12_look : bTab oX12_look tX12_look := ⟨ofX12_look, by decide +kernel⟩
def ct_471 : aCt := (mX12_look, [ag_868, ag_883], ([], []), [pon_884, pon_885], mdn_879, [], (nat_lit 0))
set_option maxRecDepth 100000 in
theorem S_471 : aSpec wd ct_471 := bChk_ok wx_ok btX12_look (nds := []) (fk := []) (rk := (1, [])) (sp := 0) (fuel := 3000) (by decide +kernel) lk_n odX12_look
def ag_886 : aAg := .inl [((.ofNat (nat_lit 0)), (.ofNat (nat_lit 255)), (nat_lit 1))]
def pon_887 : aPo := (some (.inl [((.ofNat (nat_lit 0)), (.ofNat (nat_lit 0)), (nat_lit 1))]), [some [((.ofNat (nat_lit 0)), (.ofNat (nat_lit 96)), (nat_lit 1)), ((.ofNat (nat_lit 123)), (.ofNat (nat_lit 255)), (nat_lit 1))]], [], [])
def pon_888 : aPo := (some (.inl [((.ofNat (nat_lit 1)), (.ofNat (nat_lit 1)), (nat_lit 1))]), [some [((.ofNat (nat_lit 97)), (.ofNat (nat_lit 122)), (nat_lit 1))]], [], [])
set_option maxRecDepth 100000 in
theorem btX12_isSmall : bTab oX12_isSmall tX12_isSmall := ⟨ofX12_isSmall, by decide +kernel⟩
def ct_472 : aCt := (mX12_isSmall, [ag_886], ([], []), [pon_887, pon_888], mdn_879, [], (nat_lit 0))
set_option maxRecDepth 100000 in
theorem S_472 : aSpec wd ct_472 := bChk_ok wx_ok btX12_isSmall (nds := []) (fk := []) (rk := (1, [])) (sp := 0) (fuel := 3000) (by decide +kernel) lk_n odX12_isSmall
def pon_889 : aPo := (some (.inl [((.ofNat (nat_lit 0)), (.ofNat (nat_lit 0)), (nat_lit 1))]), [some [((.ofNat (nat_lit 0)), (.ofNat (nat_lit 47)), (nat_lit 1)), ((.ofNat (nat_lit 58)), (.ofNat (nat_lit 255)), (nat_lit 1))]], [], [])
def pon_890 : aPo := (some (.inl [((.ofNat (nat_lit 1)), (.ofNat (nat_lit 1)), (nat_lit 1))]), [some [((.ofNat (nat_lit 48)), (.ofNat (nat_lit 57)), (nat_lit 1))]], [], [])
set_option maxRecDepth 100000 in
theorem btX12_isDigit : bTab oX12_isDigit tX12_isDigit := ⟨ofX12_isDigit, by decide +kernel⟩
def ct_473 : aCt := (mX12_isDigit, [ag_886], ([], []), [pon_889, pon_890], mdn_879, [], (nat_lit 0))
set_option maxRecDepth 100000 in
theorem S_473 : aSpec wd ct_473 := bChk_ok wx_ok btX12_isDigit (nds := []) (fk := []) (rk := (1, [])) (sp := 0) (fuel := 3000) (by decide +kernel) lk_n odX12_isDigit
def pon_891 : aPo := (some (.inl [((.ofNat (nat_lit 0)), (.ofNat (nat_lit 255)), (nat_lit 1))]), [], [], [])
def ct_474 : aCt := (mX12_look, [ag_868, ag_351], ([], []), [pon_891, pon_885], mdn_879, [], (nat_lit 0))
set_option maxRecDepth 100000 in
theorem S_474 : aSpec wd ct_474 := bChk_ok wx_ok btX12_look (nds := []) (fk := []) (rk := (1, [])) (sp := 0) (fuel := 3000) (by decide +kernel) lk_n odX12_look
def ct_475 : aCt := (mX12_look, [ag_868, ag_284], ([], []), [pon_884, pon_885], mdn_879, [], (nat_lit 0))
set_option maxRecDepth 100000 in
theorem S_475 : aSpec wd ct_475 := bChk_ok wx_ok btX12_look (nds := []) (fk := []) (rk := (1, [])) (sp := 0) (fuel := 3000) (by decide +kernel) lk_n odX12_look
def ag_892 : aAg := .inl [((.negSucc (nat_lit 0)), (.negSucc (nat_lit 0)), (nat_lit 1))]
def ct_476 : aCt := (mX12_isSmall, [ag_892], ([], []), [pon_37], mdn_879, [], (nat_lit 0))
set_option maxRecDepth 100000 in
theorem S_476 : aSpec wd ct_476 := bChk_ok wx_ok btX12_isSmall (nds := []) (fk := []) (rk := (1, [])) (sp := 0) (fuel := 3000) (by decide +kernel) lk_n odX12_isSmall
def ct_477 : aCt := (mX12_isDigit, [ag_892], ([], []), [pon_37], mdn_879, [], (nat_lit 0))
set_option maxRecDepth 100000 in
theorem S_477 : aSpec wd ct_477 := bChk_ok wx_ok btX12_isDigit (nds := []) (fk := []) (rk := (1, [])) (sp := 0) (fuel := 3000) (by decide +kernel) lk_n odX12_isDigit
def sl_893 : (Nat × Nat) × aI := (((nat_lit 196), (nat_lit 6)), [((.ofNat (nat_lit 0)), (.ofNat (nat_lit 0)), (nat_lit 1))])
def sl_894 : (Nat × Nat) × aI := (((nat_lit 196), (nat_lit 8)), [((.ofNat (nat_lit 0)), (.ofNat (nat_lit 0)), (nat_lit 1))])
def pon_895 : aPo := (none, [], [sl_893, sl_894], [])
def sl_896 : (Nat × Nat) × aI := (((nat_lit 196), (nat_lit 6)), [((.ofNat (nat_lit 59)), (.ofNat (nat_lit 59)), (nat_lit 1))])
def pon_897 : aPo := (none, [], [sl_896, sl_894], [])
def sl_898 : (Nat × Nat) × aI := (((nat_lit 196), (nat_lit 6)), [((.ofNat (nat_lit 1)), (.ofNat (nat_lit 1)), (nat_lit 1)), ((.ofNat (nat_lit 3)), (.ofNat (nat_lit 3)), (nat_lit 1))])
def sl_899 : (Nat × Nat) × aI := (((nat_lit 196), (nat_lit 8)), [((.ofNat (nat_lit 0)), (.ofNat (nat_lit 0)), (nat_lit 1)), ((.ofNat (nat_lit 9)), (.ofNat (nat_lit 1000)), (nat_lit 1))])
def pon_900 : aPo := (none, [], [sl_898, sl_899], [])
def sl_901 : (Nat × Nat) × aI := (((nat_lit 196), (nat_lit 6)), [((.ofNat (nat_lit 2)), (.ofNat (nat_lit 2)), (nat_lit 1))])
def sl_902 : (Nat × Nat) × aI := (((nat_lit 196), (nat_lit 8)), [((.ofNat (nat_lit 0)), (.ofNat (nat_lit 8)), (nat_lit 1))])
def pon_903 : aPo := (none, [], [sl_901, sl_902], [])
def mdn_904 : List (Nat × Nat × Nat) := [((nat_lit 196), (nat_lit 4), (nat_lit 9)), ((nat_lit 198), (nat_lit 0), (nat_lit 8))]
def lcn_905 : Nat × aAg := ((nat_lit 0), .inr (.inl [(nat_lit 196)]))
def lcn_906 : Nat × aAg := ((nat_lit 1), .inl [((.ofNat (nat_lit 0)), (.ofNat (nat_lit 1001)), (nat_lit 1))])
def lcn_907 : Nat × aAg := ((nat_lit 2), .inl [((.ofNat (nat_lit 97)), (.ofNat (nat_lit 122)), (nat_lit 1))])
def sl_908 : (Nat × Nat) × aI := (((nat_lit 196), (nat_lit 4)), [((.ofNat (nat_lit 0)), (.ofNat (nat_lit 999)), (nat_lit 1))])
def sl_909 : (Nat × Nat) × aI := (((nat_lit 196), (nat_lit 7)), [((.ofNat (nat_lit 0)), (.ofNat (nat_lit 0)), (nat_lit 1))])
def sl_910 : (Nat × Nat) × aI := (((nat_lit 196), (nat_lit 8)), [((.ofNat (nat_lit 0)), (.ofNat (nat_lit 1000)), (nat_lit 1))])
def lcn_911 : Nat × aAg := ((nat_lit 2), .inl [((.ofNat (nat_lit 48)), (.ofNat (nat_lit 57)), (nat_lit 1))])
set_option maxRecDepth 100000 in
theorem btX12_next : bTab oX12_next tX12_next := ⟨ofX12_next, by decide +kernel⟩
def ct_478 : aCt := (mX12_next, [ag_868], ([], []), [pon_895, pon_897, pon_900, pon_903], mdn_904, [], (nat_lit 1))
set_option maxRecDepth 100000 in
theorem S_478 : aSpec wd ct_478 := aChkF_ok (lk := [(93, 1, 1, ct_476), (97, 1, 1, ct_477), (93, 1, 1, ct_472), (97, 1, 1, ct_473), (77, 0, 2, ct_474), (77, 0, 2, ct_475), (77, 0, 2, ct_471)]) (cd := oX12_next) (nds := [(((nat_lit 5), [lcn_905, lcn_906], [], [], [], (2002, [(0, -1)])), []), (((nat_lit 67), [lcn_905, lcn_289, lcn_907], [], [sl_908, sl_909, sl_910], [], (1000, [(0, -1)])), [(.inl 1, .inr (196, 8), 0)]), (((nat_lit 152), [lcn_905, lcn_289, lcn_911, lcn_520], [], [sl_908, sl_894], [], (1000, [(0, -1)])), [])]) (fk := []) (rk := (2003, [])) (fuel := 3000) (by decide +kernel) (List.forall_mem_cons.mpr ⟨⟨ml_12_93, S_476⟩, List.forall_mem_cons.mpr ⟨⟨ml_12_97, S_477⟩, List.forall_mem_cons.mpr ⟨⟨ml_12_93, S_472⟩, List.forall_mem_cons.mpr ⟨⟨ml_12_97, S_473⟩, List.forall_mem_cons.mpr ⟨⟨ml_12_77, S_474⟩, List.forall_mem_cons.mpr ⟨⟨ml_12_77, S_475⟩, List.forall_mem_cons.mpr ⟨⟨ml_12_77, S_471⟩, fun _ h => nomatch h⟩⟩⟩⟩⟩⟩⟩) odX12_next
def ct_X12_next_0 : aCt := (mX12_next, [.inr (.inl [196])], ([], []), [(none, [], [((196, 6), [(0, 0, 1)]), ((196, 8), [(0, 0, 1)])], []), (none, [], [((196, 6), [(59, 59, 1)]), ((196, 8), [(0, 0, 1)])], []), (none, [], [((196, 6), [(1, 1, 1), (3, 3, 1)]), ((196, 8), [(0, 0, 1), (9, 1000, 1)])], []), (none, [], [((196, 6), [(2, 2, 1)]), ((196, 8), [(0, 8, 1)])], [])], [(196, 4, 9), (198, 0, 8), (1000002, 0, 0)], [], 1)
theorem S_X12_next_0 : aSpec wd ct_X12_next_0 := S_nxt (md := [(196, 4, 9), (198, 0, 8)]) (by decide) S_478
def ag_912 : aAg := .inr (.inl [(nat_lit 1000034), (nat_lit 1000035), (nat_lit 1000036), (nat_lit 1000037), (nat_lit 1000038), (nat_lit 1000039), (nat_lit 1000040), (nat_lit 1000041), (nat_lit 1000042), (nat_lit 1000043), (nat_lit 1000044), (nat_lit 1000045), (nat_lit 1000046), (nat_lit 1000047), (nat_lit 1000048), (nat_lit 1000049), (nat_lit 1000050), (nat_lit 1000051), (nat_lit 1000052), (nat_lit 1000053), (nat_lit 1000054), (nat_lit 1000055), (nat_lit 1000056)])
def sl_913 : (Nat × Nat) × aI := (((nat_lit 196), (nat_lit 13)), [((.ofNat (nat_lit 0)), (.ofNat (nat_lit 0)), (nat_lit 1))])
def pon_914 : aPo := (some (.inl [((.ofNat (nat_lit 0)), (.ofNat (nat_lit 0)), (nat_lit 1))]), [], [sl_901, sl_902], [])
def sl_915 : (Nat × Nat) × aI := (((nat_lit 196), (nat_lit 6)), [((.ofNat (nat_lit 0)), (.ofNat (nat_lit 1)), (nat_lit 1)), ((.ofNat (nat_lit 3)), (.ofNat (nat_lit 3)), (nat_lit 1)), ((.ofNat (nat_lit 59)), (.ofNat (nat_lit 59)), (nat_lit 1))])
def pon_916 : aPo := (some (.inl [((.ofNat (nat_lit 1)), (.ofNat (nat_lit 1)), (nat_lit 1))]), [], [sl_915, sl_899], [])
def pon_917 : aPo := (some (.inl [((.ofNat (nat_lit 1)), (.ofNat (nat_lit 1)), (nat_lit 1))]), [], [sl_901, sl_902], [])
def mdn_918 : List (Nat × Nat × Nat) := [((nat_lit 196), (nat_lit 4), (nat_lit 9)), ((nat_lit 198), (nat_lit 0), (nat_lit 8)), ((nat_lit 1000002), (nat_lit 0), (nat_lit 0))]
set_option maxRecDepth 100000 in
theorem btX12_takesWord : bTab oX12_takesWord tX12_takesWord := ⟨ofX12_takesWord, by decide +kernel⟩
def ct_480 : aCt := (mX12_takesWord, [ag_868, ag_912], ([sl_901, sl_902, sl_913], []), [pon_914, pon_916, pon_917], mdn_918, [], (nat_lit 2))
set_option maxRecDepth 100000 in
theorem S_480 : aSpec wd ct_480 := bChk_ok wx_ok btX12_takesWord (nds := []) (fk := []) (rk := (1, [])) (sp := 0) (fuel := 3000) (by decide +kernel) (lk_d S_X12_next_0 ml_12_121 (lk_d S_X12_isWord_0 ml_12_117 lk_n)) odX12_takesWord
def sl_919 : (Nat × Nat) × aI := (((nat_lit 196), (nat_lit 13)), [((.ofNat (nat_lit 1)), (.ofNat (nat_lit 1)), (nat_lit 1))])
def pon_920 : aPo := (none, [], [sl_919], [])
def mdn_921 : List (Nat × Nat × Nat) := [((nat_lit 196), (nat_lit 9), (nat_lit 11)), ((nat_lit 196), (nat_lit 13), (nat_lit 14)), ((nat_lit 1000002), (nat_lit 0), (nat_lit 0))]
set_option maxRecDepth 100000 in
theorem btX12_wrong : bTab oX12_wrong tX12_wrong := ⟨ofX12_wrong, by decide +kernel⟩
def ct_481 : aCt := (mX12_wrong, [ag_868, ag_53, ag_883], ([sl_913], []), [pon_920], mdn_921, [], (nat_lit 0))
set_option maxRecDepth 100000 in
theorem S_481 : aSpec wd ct_481 := bChk_ok wx_ok btX12_wrong (nds := []) (fk := []) (rk := (1, [])) (sp := 0) (fuel := 3000) (by decide +kernel) lk_n odX12_wrong
def pon_922 : aPo := (none, [], [sl_901, sl_902, sl_919], [])
def pon_923 : aPo := (none, [], [sl_915, sl_899, sl_913], [])
def pon_924 : aPo := (none, [], [sl_901, sl_902, sl_913], [])
def mdn_925 : List (Nat × Nat × Nat) := [((nat_lit 196), (nat_lit 4), (nat_lit 11)), ((nat_lit 196), (nat_lit 13), (nat_lit 14)), ((nat_lit 198), (nat_lit 0), (nat_lit 8)), ((nat_lit 1000002), (nat_lit 0), (nat_lit 0))]
set_option maxRecDepth 100000 in
theorem btX12_must : bTab oX12_must tX12_must := ⟨ofX12_must, by decide +kernel⟩
def ct_482 : aCt := (mX12_must, [ag_868, ag_912], ([sl_901, sl_902, sl_913], []), [pon_922, pon_923, pon_924], mdn_925, [], (nat_lit 3))
set_option maxRecDepth 100000 in
theorem S_482 : aSpec wd ct_482 := bChk_ok wx_ok btX12_must (nds := []) (fk := []) (rk := (1, [])) (sp := 0) (fuel := 3000) (by decide +kernel) (lk_d S_480 ml_12_124 (lk_d S_481 ml_12_127 lk_n)) odX12_must
def pon_926 : aPo := (some (.inl [((.ofNat (nat_lit 2)), (.ofNat (nat_lit 2)), (nat_lit 1))]), [], [sl_919], [])
set_option maxRecDepth 100000 in
theorem btX12_number : bTab oX12_number tX12_number := ⟨ofX12_number, by decide +kernel⟩
def ct_483 : aCt := (mX12_number, [ag_868, ag_22, ag_159], ([sl_901, sl_902, sl_913], []), [pon_926], mdn_921, [], (nat_lit 1))
set_option maxRecDepth 100000 in
theorem S_483 : aSpec wd ct_483 := bChk_ok wx_ok btX12_number (nds := []) (fk := []) (rk := (1, [])) (sp := 0) (fuel := 3000) (by decide +kernel) (lk_d S_481 ml_12_127 lk_n) odX12_number
def pon_927 : aPo := (some (.inl [((.ofNat (nat_lit 0)), (.ofNat (nat_lit 0)), (nat_lit 1))]), [some [((.negSucc (nat_lit 2147483647)), (.ofNat (nat_lit 1)), (nat_lit 1)), ((.ofNat (nat_lit 5)), (.ofNat (nat_lit 2147483647)), (nat_lit 1))], none, none], [], [])
def pon_928 : aPo := (some (.inl [((.ofNat (nat_lit 1)), (.ofNat (nat_lit 1)), (nat_lit 1))]), [some [((.ofNat (nat_lit 2)), (.ofNat (nat_lit 4)), (nat_lit 1))], none, none], [], [])
def ct_484 : aCt := (mX12_in, [ag_1, ag_22, ag_159], ([], []), [pon_927, pon_928], mdn_879, [], (nat_lit 0))
set_option maxRecDepth 100000 in
theorem S_484 : aSpec wd ct_484 := bChk_ok wx_ok btX12_in (nds := []) (fk := []) (rk := (1, [])) (sp := 0) (fuel := 3000) (by decide +kernel) lk_n odX12_in
def ct_485 : aCt := (mX12_wrong, [ag_868, ag_159, ag_883], ([sl_913], []), [pon_920], mdn_921, [], (nat_lit 0))
set_option maxRecDepth 100000 in
theorem S_485 : aSpec wd ct_485 := bChk_ok wx_ok btX12_wrong (nds := []) (fk := []) (rk := (1, [])) (sp := 0) (fuel := 3000) (by decide +kernel) lk_n odX12_wrong
def pon_929 : aPo := (some (.inl [((.ofNat (nat_lit 2)), (.ofNat (nat_lit 2)), (nat_lit 1))]), [], [sl_915, sl_899, sl_919], [])
def pon_930 : aPo := (some (.inl [((.ofNat (nat_lit 2)), (.ofNat (nat_lit 4)), (nat_lit 1))]), [], [sl_915, sl_899, sl_913], [])
def pon_931 : aPo := (some (.inl [((.ofNat (nat_lit 2)), (.ofNat (nat_lit 4)), (nat_lit 1))]), [], [sl_901, sl_902, sl_913], [])
def ct_486 : aCt := (mX12_number, [ag_868, ag_22, ag_159], ([sl_915, sl_899, sl_913], []), [pon_929, pon_930, pon_931], mdn_925, [], (nat_lit 2))
set_option maxRecDepth 100000 in
theorem S_486 : aSpec wd ct_486 := bChk_ok wx_ok btX12_number (nds := []) (fk := []) (rk := (1, [])) (sp := 0) (fuel := 3000) (by decide +kernel) (lk_d S_X12_next_0 ml_12_121 (lk_d S_481 ml_12_127 (lk_d S_485 ml_12_127 (lk_d S_484 ml_12_149 lk_n)))) odX12_number
def pon_932 : aPo := (some (.inl [((.ofNat (nat_lit 2)), (.ofNat (nat_lit 2)), (nat_lit 1))]), [], [], [])
def ct_487 : aCt := (mX12_number, [ag_868, ag_22, ag_159], ([sl_901, sl_902, sl_919], []), [pon_932], mdn_879, [], (nat_lit 0))
set_option maxRecDepth 100000 in
theorem S_487 : aSpec wd ct_487 := bChk_ok wx_ok btX12_number (nds := []) (fk := []) (rk := (1, [])) (sp := 0) (fuel := 3000) (by decide +kernel) lk_n odX12_number
def sl_933 : (Nat × Nat) × aI := (((nat_lit 196), (nat_lit 6)), [((.ofNat (nat_lit 0)), (.ofNat (nat_lit 3)), (nat_lit 1)), ((.ofNat (nat_lit 59)), (.ofNat (nat_lit 59)), (nat_lit 1))])
def pon_934 : aPo := (some (.inl [((.ofNat (nat_lit 2)), (.ofNat (nat_lit 2)), (nat_lit 1))]), [], [sl_933, sl_910, sl_919], [])
set_option maxRecDepth 100000 in
theorem btX12_after : bTab oX12_after tX12_after := ⟨ofX12_after, by decide +kernel⟩
def ct_488 : aCt := (mX12_after, [ag_868, ag_912, ag_22, ag_159], ([sl_901, sl_902, sl_913], []), [pon_934, pon_930, pon_931], mdn_925, [], (nat_lit 4))
set_option maxRecDepth 100000 in
theorem S_488 : aSpec wd ct_488 := bChk_ok wx_ok btX12_after (nds := []) (fk := []) (rk := (1, [])) (sp := 0) (fuel := 3000) (by decide +kernel) (lk_d S_483 ml_12_164 (lk_d S_487 ml_12_164 (lk_d S_486 ml_12_164 (lk_d S_482 ml_12_157 lk_n)))) odX12_after
def pon_935 : aPo := (some (.inl [((.ofNat (nat_lit 0)), (.ofNat (nat_lit 0)), (nat_lit 1))]), [], [sl_919], [])
def ct_489 : aCt := (mX12_number, [ag_868, ag_170, ag_122], ([sl_901, sl_902, sl_913], []), [pon_935], mdn_921, [], (nat_lit 1))
set_option maxRecDepth 100000 in
theorem S_489 : aSpec wd ct_489 := bChk_ok wx_ok btX12_number (nds := []) (fk := []) (rk := (1, [])) (sp := 0) (fuel := 3000) (by decide +kernel) (lk_d S_481 ml_12_127 lk_n) odX12_number
def pon_936 : aPo := (some (.inl [((.ofNat (nat_lit 0)), (.ofNat (nat_lit 0)), (nat_lit 1))]), [some [((.negSucc (nat_lit 2147483647)), (.negSucc (nat_lit 0)), (nat_lit 1)), ((.ofNat (nat_lit 4)), (.ofNat (nat_lit 2147483647)), (nat_lit 1))], none, none], [], [])
def pon_937 : aPo := (some (.inl [((.ofNat (nat_lit 1)), (.ofNat (nat_lit 1)), (nat_lit 1))]), [some [((.ofNat (nat_lit 0)), (.ofNat (nat_lit 3)), (nat_lit 1))], none, none], [], [])
def ct_490 : aCt := (mX12_in, [ag_1, ag_170, ag_122], ([], []), [pon_936, pon_937], mdn_879, [], (nat_lit 0))
set_option maxRecDepth 100000 in
theorem S_490 : aSpec wd ct_490 := bChk_ok wx_ok btX12_in (nds := []) (fk := []) (rk := (1, [])) (sp := 0) (fuel := 3000) (by decide +kernel) lk_n odX12_in
def pon_938 : aPo := (some (.inl [((.ofNat (nat_lit 0)), (.ofNat (nat_lit 0)), (nat_lit 1))]), [], [sl_915, sl_899, sl_919], [])
def pon_939 : aPo := (some (.inl [((.ofNat (nat_lit 0)), (.ofNat (nat_lit 3)), (nat_lit 1))]), [], [sl_915, sl_899, sl_913], [])
def pon_940 : aPo := (some (.inl [((.ofNat (nat_lit 0)), (.ofNat (nat_lit 3)), (nat_lit 1))]), [], [sl_901, sl_902, sl_913], [])
def ct_491 : aCt := (mX12_number, [ag_868, ag_170, ag_122], ([sl_915, sl_899, sl_913], []), [pon_938, pon_939, pon_940], mdn_925, [], (nat_lit 2))
set_option maxRecDepth 100000 in
theorem S_491 : aSpec wd ct_491 := bChk_ok wx_ok btX12_number (nds := []) (fk := []) (rk := (1, [])) (sp := 0) (fuel := 3000) (by decide +kernel) (lk_d S_X12_next_0 ml_12_121 (lk_d S_481 ml_12_127 (lk_d S_485 ml_12_127 (lk_d S_490 ml_12_149 lk_n)))) odX12_number
def ct_492 : aCt := (mX12_number, [ag_868, ag_170, ag_122], ([sl_901, sl_902, sl_919], []), [pon_37], mdn_879, [], (nat_lit 0))
set_option maxRecDepth 100000 in
theorem S_492 : aSpec wd ct_492 := bChk_ok wx_ok btX12_number (nds := []) (fk := []) (rk := (1, [])) (sp := 0) (fuel := 3000) (by decide +kernel) lk_n odX12_number
def pon_941 : aPo := (some (.inl [((.ofNat (nat_lit 0)), (.ofNat (nat_lit 0)), (nat_lit 1))]), [], [sl_933, sl_910, sl_919], [])
def ct_493 : aCt := (mX12_after, [ag_868, ag_912, ag_170, ag_122], ([sl_901, sl_902, sl_913], []), [pon_941, pon_939, pon_940], mdn_925, [], (nat_lit 4))
set_option maxRecDepth 100000 in
theorem S_493 : aSpec wd ct_493 := bChk_ok wx_ok btX12_after (nds := []) (fk := []) (rk := (1, [])) (sp := 0) (fuel := 3000) (by decide +kernel) (lk_d S_489 ml_12_164 (lk_d S_492 ml_12_164 (lk_d S_491 ml_12_164 (lk_d S_482 ml_12_157 lk_n)))) odX12_after
def ct_494 : aCt := (mX12_number, [ag_868, ag_170, ag_177], ([sl_901, sl_902, sl_913], []), [pon_935], mdn_921, [], (nat_lit 1))
set_option maxRecDepth 100000 in
theorem S_494 : aSpec wd ct_494 := bChk_ok wx_ok btX12_number (nds := []) (fk := []) (rk := (1, [])) (sp := 0) (fuel := 3000) (by decide +kernel) (lk_d S_481 ml_12_127 lk_n) odX12_number
def pon_942 : aPo := (some (.inl [((.ofNat (nat_lit 0)), (.ofNat (nat_lit 0)), (nat_lit 1))]), [some [((.negSucc (nat_lit 2147483647)), (.negSucc (nat_lit 0)), (nat_lit 1)), ((.ofNat (nat_lit 51)), (.ofNat (nat_lit 2147483647)), (nat_lit 1))], none, none], [], [])
def pon_943 : aPo := (some (.inl [((.ofNat (nat_lit 1)), (.ofNat (nat_lit 1)), (nat_lit 1))]), [some [((.ofNat (nat_lit 0)), (.ofNat (nat_lit 50)), (nat_lit 1))], none, none], [], [])
def ct_495 : aCt := (mX12_in, [ag_1, ag_170, ag_177], ([], []), [pon_942, pon_943], mdn_879, [], (nat_lit 0))
set_option maxRecDepth 100000 in
theorem S_495 : aSpec wd ct_495 := bChk_ok wx_ok btX12_in (nds := []) (fk := []) (rk := (1, [])) (sp := 0) (fuel := 3000) (by decide +kernel) lk_n odX12_in
def pon_944 : aPo := (some (.inl [((.ofNat (nat_lit 0)), (.ofNat (nat_lit 50)), (nat_lit 1))]), [], [sl_915, sl_899, sl_913], [])
def pon_945 : aPo := (some (.inl [((.ofNat (nat_lit 0)), (.ofNat (nat_lit 50)), (nat_lit 1))]), [], [sl_901, sl_902, sl_913], [])
def ct_496 : aCt := (mX12_number, [ag_868, ag_170, ag_177], ([sl_915, sl_899, sl_913], []), [pon_938, pon_944, pon_945], mdn_925, [], (nat_lit 2))
set_option maxRecDepth 100000 in
theorem S_496 : aSpec wd ct_496 := bChk_ok wx_ok btX12_number (nds := []) (fk := []) (rk := (1, [])) (sp := 0) (fuel := 3000) (by decide +kernel) (lk_d S_X12_next_0 ml_12_121 (lk_d S_481 ml_12_127 (lk_d S_485 ml_12_127 (lk_d S_495 ml_12_149 lk_n)))) odX12_number
def ct_497 : aCt := (mX12_number, [ag_868, ag_170, ag_177], ([sl_901, sl_902, sl_919], []), [pon_37], mdn_879, [], (nat_lit 0))
set_option maxRecDepth 100000 in
theorem S_497 : aSpec wd ct_497 := bChk_ok wx_ok btX12_number (nds := []) (fk := []) (rk := (1, [])) (sp := 0) (fuel := 3000) (by decide +kernel) lk_n odX12_number
def ct_498 : aCt := (mX12_after, [ag_868, ag_912, ag_170, ag_177], ([sl_901, sl_902, sl_913], []), [pon_941, pon_944, pon_945], mdn_925, [], (nat_lit 4))
set_option maxRecDepth 100000 in
theorem S_498 : aSpec wd ct_498 := bChk_ok wx_ok btX12_after (nds := []) (fk := []) (rk := (1, [])) (sp := 0) (fuel := 3000) (by decide +kernel) (lk_d S_494 ml_12_164 (lk_d S_497 ml_12_164 (lk_d S_496 ml_12_164 (lk_d S_482 ml_12_157 lk_n)))) odX12_after
def ct_499 : aCt := (mX12_number, [ag_868, ag_170, ag_183], ([sl_901, sl_902, sl_913], []), [pon_935], mdn_921, [], (nat_lit 1))
set_option maxRecDepth 100000 in
theorem S_499 : aSpec wd ct_499 := bChk_ok wx_ok btX12_number (nds := []) (fk := []) (rk := (1, [])) (sp := 0) (fuel := 3000) (by decide +kernel) (lk_d S_481 ml_12_127 lk_n) odX12_number
def pon_946 : aPo := (some (.inl [((.ofNat (nat_lit 0)), (.ofNat (nat_lit 0)), (nat_lit 1))]), [some [((.negSucc (nat_lit 2147483647)), (.negSucc (nat_lit 0)), (nat_lit 1)), ((.ofNat (nat_lit 101)), (.ofNat (nat_lit 2147483647)), (nat_lit 1))], none, none], [], [])
def pon_947 : aPo := (some (.inl [((.ofNat (nat_lit 1)), (.ofNat (nat_lit 1)), (nat_lit 1))]), [some [((.ofNat (nat_lit 0)), (.ofNat (nat_lit 100)), (nat_lit 1))], none, none], [], [])
def ct_500 : aCt := (mX12_in, [ag_1, ag_170, ag_183], ([], []), [pon_946, pon_947], mdn_879, [], (nat_lit 0))
set_option maxRecDepth 100000 in
theorem S_500 : aSpec wd ct_500 := bChk_ok wx_ok btX12_in (nds := []) (fk := []) (rk := (1, [])) (sp := 0) (fuel := 3000) (by decide +kernel) lk_n odX12_in
def pon_948 : aPo := (some (.inl [((.ofNat (nat_lit 0)), (.ofNat (nat_lit 100)), (nat_lit 1))]), [], [sl_915, sl_899, sl_913], [])
def pon_949 : aPo := (some (.inl [((.ofNat (nat_lit 0)), (.ofNat (nat_lit 100)), (nat_lit 1))]), [], [sl_901, sl_902, sl_913], [])
def ct_501 : aCt := (mX12_number, [ag_868, ag_170, ag_183], ([sl_915, sl_899, sl_913], []), [pon_938, pon_948, pon_949], mdn_925, [], (nat_lit 2))
set_option maxRecDepth 100000 in
theorem S_501 : aSpec wd ct_501 := bChk_ok wx_ok btX12_number (nds := []) (fk := []) (rk := (1, [])) (sp := 0) (fuel := 3000) (by decide +kernel) (lk_d S_X12_next_0 ml_12_121 (lk_d S_481 ml_12_127 (lk_d S_485 ml_12_127 (lk_d S_500 ml_12_149 lk_n)))) odX12_number
def ct_502 : aCt := (mX12_number, [ag_868, ag_170, ag_183], ([sl_901, sl_902, sl_919], []), [pon_37], mdn_879, [], (nat_lit 0))
set_option maxRecDepth 100000 in
theorem S_502 : aSpec wd ct_502 := bChk_ok wx_ok btX12_number (nds := []) (fk := []) (rk := (1, [])) (sp := 0) (fuel := 3000) (by decide +kernel) lk_n odX12_number
def ct_503 : aCt := (mX12_after, [ag_868, ag_912, ag_170, ag_183], ([sl_901, sl_902, sl_913], []), [pon_941, pon_948, pon_949], mdn_925, [], (nat_lit 4))
set_option maxRecDepth 100000 in
theorem S_503 : aSpec wd ct_503 := bChk_ok wx_ok btX12_after (nds := []) (fk := []) (rk := (1, [])) (sp := 0) (fuel := 3000) (by decide +kernel) (lk_d S_499 ml_12_164 (lk_d S_502 ml_12_164 (lk_d S_501 ml_12_164 (lk_d S_482 ml_12_157 lk_n)))) odX12_after
def ct_504 : aCt := (mX12_takesWord, [ag_868, ag_912], ([sl_915, sl_899, sl_913], []), [pon_37], mdn_879, [], (nat_lit 1))
set_option maxRecDepth 100000 in
theorem S_504 : aSpec wd ct_504 := bChk_ok wx_ok btX12_takesWord (nds := []) (fk := []) (rk := (1, [])) (sp := 0) (fuel := 3000) (by decide +kernel) (lk_d S_X12_isWord_1 ml_12_117 lk_n) odX12_takesWord
def ct_505 : aCt := (mX12_must, [ag_868, ag_912], ([sl_915, sl_899, sl_913], []), [pon_920], mdn_921, [], (nat_lit 2))
set_option maxRecDepth 100000 in
theorem S_505 : aSpec wd ct_505 := bChk_ok wx_ok btX12_must (nds := []) (fk := []) (rk := (1, [])) (sp := 0) (fuel := 3000) (by decide +kernel) (lk_d S_504 ml_12_124 (lk_d S_481 ml_12_127 lk_n)) odX12_must
def ct_506 : aCt := (mX12_number, [ag_868, ag_170, ag_183], ([sl_915, sl_899, sl_919], []), [pon_37], mdn_879, [], (nat_lit 0))
set_option maxRecDepth 100000 in
theorem S_506 : aSpec wd ct_506 := bChk_ok wx_ok btX12_number (nds := []) (fk := []) (rk := (1, [])) (sp := 0) (fuel := 3000) (by decide +kernel) lk_n odX12_number
def ct_507 : aCt := (mX12_after, [ag_868, ag_912, ag_170, ag_183], ([sl_915, sl_899, sl_913], []), [pon_935], mdn_921, [], (nat_lit 3))
set_option maxRecDepth 100000 in
theorem S_507 : aSpec wd ct_507 := bChk_ok wx_ok btX12_after (nds := []) (fk := []) (rk := (1, [])) (sp := 0) (fuel := 3000) (by decide +kernel) (lk_d S_506 ml_12_164 (lk_d S_505 ml_12_157 lk_n)) odX12_after
def ct_508 : aCt := (mX12_must, [ag_868, ag_912], ([sl_933, sl_910, sl_919], []), [pon_49], mdn_879, [], (nat_lit 0))
set_option maxRecDepth 100000 in
theorem S_508 : aSpec wd ct_508 := bChk_ok wx_ok btX12_must (nds := []) (fk := []) (rk := (1, [])) (sp := 0) (fuel := 3000) (by decide +kernel) lk_n odX12_must
def ct_509 : aCt := (mX12_number, [ag_868, ag_170, ag_183], ([sl_933, sl_910, sl_919], []), [pon_37], mdn_879, [], (nat_lit 0))
set_option maxRecDepth 100000 in
theorem S_509 : aSpec wd ct_509 := bChk_ok wx_ok btX12_number (nds := []) (fk := []) (rk := (1, [])) (sp := 0) (fuel := 3000) (by decide +kernel) lk_n odX12_number
def ct_510 : aCt := (mX12_after, [ag_868, ag_912, ag_170, ag_183], ([sl_933, sl_910, sl_919], []), [pon_37], mdn_879, [], (nat_lit 1))
set_option maxRecDepth 100000 in
theorem S_510 : aSpec wd ct_510 := bChk_ok wx_ok btX12_after (nds := []) (fk := []) (rk := (1, [])) (sp := 0) (fuel := 3000) (by decide +kernel) (lk_d S_509 ml_12_164 (lk_d S_508 ml_12_157 lk_n)) odX12_after
def ct_511 : aCt := (mX12_number, [ag_868, ag_170, ag_177], ([sl_915, sl_899, sl_919], []), [pon_37], mdn_879, [], (nat_lit 0))
set_option maxRecDepth 100000 in
theorem S_511 : aSpec wd ct_511 := bChk_ok wx_ok btX12_number (nds := []) (fk := []) (rk := (1, [])) (sp := 0) (fuel := 3000) (by decide +kernel) lk_n odX12_number
def ct_512 : aCt := (mX12_after, [ag_868, ag_912, ag_170, ag_177], ([sl_915, sl_899, sl_913], []), [pon_935], mdn_921, [], (nat_lit 3))
set_option maxRecDepth 100000 in
theorem S_512 : aSpec wd ct_512 := bChk_ok wx_ok btX12_after (nds := []) (fk := []) (rk := (1, [])) (sp := 0) (fuel := 3000) (by decide +kernel) (lk_d S_511 ml_12_164 (lk_d S_505 ml_12_157 lk_n)) odX12_after
def ct_513 : aCt := (mX12_must, [ag_868, ag_912], ([sl_915, sl_899, sl_919], []), [pon_49], mdn_879, [], (nat_lit 0))
set_option maxRecDepth 100000 in
theorem S_513 : aSpec wd ct_513 := bChk_ok wx_ok btX12_must (nds := []) (fk := []) (rk := (1, [])) (sp := 0) (fuel := 3000) (by decide +kernel) lk_n odX12_must
def ct_514 : aCt := (mX12_after, [ag_868, ag_912, ag_170, ag_183], ([sl_915, sl_899, sl_919], []), [pon_37], mdn_879, [], (nat_lit 1))
set_option maxRecDepth 100000 in
theorem S_514 : aSpec wd ct_514 := bChk_ok wx_ok btX12_after (nds := []) (fk := []) (rk := (1, [])) (sp := 0) (fuel := 3000) (by decide +kernel) (lk_d S_506 ml_12_164 (lk_d S_513 ml_12_157 lk_n)) odX12_after
def ct_515 : aCt := (mX12_number, [ag_868, ag_170, ag_177], ([sl_933, sl_910, sl_919], []), [pon_37], mdn_879, [], (nat_lit 0))
set_option maxRecDepth 100000 in
theorem S_515 : aSpec wd ct_515 := bChk_ok wx_ok btX12_number (nds := []) (fk := []) (rk := (1, [])) (sp := 0) (fuel := 3000) (by decide +kernel) lk_n odX12_number
def ct_516 : aCt := (mX12_after, [ag_868, ag_912, ag_170, ag_177], ([sl_933, sl_910, sl_919], []), [pon_37], mdn_879, [], (nat_lit 1))
set_option maxRecDepth 100000 in
theorem S_516 : aSpec wd ct_516 := bChk_ok wx_ok btX12_after (nds := []) (fk := []) (rk := (1, [])) (sp := 0) (fuel := 3000) (by decide +kernel) (lk_d S_515 ml_12_164 (lk_d S_508 ml_12_157 lk_n)) odX12_after
def ct_517 : aCt := (mX12_number, [ag_868, ag_170, ag_122], ([sl_915, sl_899, sl_919], []), [pon_37], mdn_879, [], (nat_lit 0))
set_option maxRecDepth 100000 in
theorem S_517 : aSpec wd ct_517 := bChk_ok wx_ok btX12_number (nds := []) (fk := []) (rk := (1, [])) (sp := 0) (fuel := 3000) (by decide +kernel) lk_n odX12_number
def ct_518 : aCt := (mX12_after, [ag_868, ag_912, ag_170, ag_122], ([sl_915, sl_899, sl_913], []), [pon_935], mdn_921, [], (nat_lit 3))
set_option maxRecDepth 100000 in
theorem S_518 : aSpec wd ct_518 := bChk_ok wx_ok btX12_after (nds := []) (fk := []) (rk := (1, [])) (sp := 0) (fuel := 3000) (by decide +kernel) (lk_d S_517 ml_12_164 (lk_d S_505 ml_12_157 lk_n)) odX12_after
def ct_519 : aCt := (mX12_after, [ag_868, ag_912, ag_170, ag_177], ([sl_915, sl_899, sl_919], []), [pon_37], mdn_879, [], (nat_lit 1))
set_option maxRecDepth 100000 in
theorem S_519 : aSpec wd ct_519 := bChk_ok wx_ok btX12_after (nds := []) (fk := []) (rk := (1, [])) (sp := 0) (fuel := 3000) (by decide +kernel) (lk_d S_511 ml_12_164 (lk_d S_513 ml_12_157 lk_n)) odX12_after
def ct_520 : aCt := (mX12_number, [ag_868, ag_170, ag_122], ([sl_933, sl_910, sl_919], []), [pon_37], mdn_879, [], (nat_lit 0))
set_option maxRecDepth 100000 in
theorem S_520 : aSpec wd ct_520 := bChk_ok wx_ok btX12_number (nds := []) (fk := []) (rk := (1, [])) (sp := 0) (fuel := 3000) (by decide +kernel) lk_n odX12_number
def ct_521 : aCt := (mX12_after, [ag_868, ag_912, ag_170, ag_122], ([sl_933, sl_910, sl_919], []), [pon_37], mdn_879, [], (nat_lit 1))
set_option maxRecDepth 100000 in
theorem S_521 : aSpec wd ct_521 := bChk_ok wx_ok btX12_after (nds := []) (fk := []) (rk := (1, [])) (sp := 0) (fuel := 3000) (by decide +kernel) (lk_d S_520 ml_12_164 (lk_d S_508 ml_12_157 lk_n)) odX12_after
def ct_522 : aCt := (mX12_takesWord, [ag_868, ag_912], ([sl_898, sl_899, sl_913], []), [pon_37], mdn_879, [], (nat_lit 1))
set_option maxRecDepth 100000 in
theorem S_522 : aSpec wd ct_522 := bChk_ok wx_ok btX12_takesWord (nds := []) (fk := []) (rk := (1, [])) (sp := 0) (fuel := 3000) (by decide +kernel) (lk_d S_X12_isWord_2 ml_12_117 lk_n) odX12_takesWord
def ct_523 : aCt := (mX12_must, [ag_868, ag_912], ([sl_898, sl_899, sl_913], []), [pon_920], mdn_921, [], (nat_lit 2))
set_option maxRecDepth 100000 in
theorem S_523 : aSpec wd ct_523 := bChk_ok wx_ok btX12_must (nds := []) (fk := []) (rk := (1, [])) (sp := 0) (fuel := 3000) (by decide +kernel) (lk_d S_522 ml_12_124 (lk_d S_481 ml_12_127 lk_n)) odX12_must
def ct_524 : aCt := (mX12_number, [ag_868, ag_22, ag_159], ([sl_898, sl_899, sl_919], []), [pon_932], mdn_879, [], (nat_lit 0))
set_option maxRecDepth 100000 in
theorem S_524 : aSpec wd ct_524 := bChk_ok wx_ok btX12_number (nds := []) (fk := []) (rk := (1, [])) (sp := 0) (fuel := 3000) (by decide +kernel) lk_n odX12_number
def ct_525 : aCt := (mX12_after, [ag_868, ag_912, ag_22, ag_159], ([sl_898, sl_899, sl_913], []), [pon_926], mdn_921, [], (nat_lit 3))
set_option maxRecDepth 100000 in
theorem S_525 : aSpec wd ct_525 := bChk_ok wx_ok btX12_after (nds := []) (fk := []) (rk := (1, [])) (sp := 0) (fuel := 3000) (by decide +kernel) (lk_d S_524 ml_12_164 (lk_d S_523 ml_12_157 lk_n)) odX12_after
def ct_526 : aCt := (mX12_must, [ag_868, ag_912], ([sl_898, sl_899, sl_919], []), [pon_49], mdn_879, [], (nat_lit 0))
set_option maxRecDepth 100000 in
theorem S_526 : aSpec wd ct_526 := bChk_ok wx_ok btX12_must (nds := []) (fk := []) (rk := (1, [])) (sp := 0) (fuel := 3000) (by decide +kernel) lk_n odX12_must
def ct_527 : aCt := (mX12_number, [ag_868, ag_170, ag_122], ([sl_898, sl_899, sl_919], []), [pon_37], mdn_879, [], (nat_lit 0))
set_option maxRecDepth 100000 in
theorem S_527 : aSpec wd ct_527 := bChk_ok wx_ok btX12_number (nds := []) (fk := []) (rk := (1, [])) (sp := 0) (fuel := 3000) (by decide +kernel) lk_n odX12_number
def ct_528 : aCt := (mX12_after, [ag_868, ag_912, ag_170, ag_122], ([sl_898, sl_899, sl_919], []), [pon_37], mdn_879, [], (nat_lit 1))
set_option maxRecDepth 100000 in
theorem S_528 : aSpec wd ct_528 := bChk_ok wx_ok btX12_after (nds := []) (fk := []) (rk := (1, [])) (sp := 0) (fuel := 3000) (by decide +kernel) (lk_d S_527 ml_12_164 (lk_d S_526 ml_12_157 lk_n)) odX12_after
def ct_529 : aCt := (mX12_number, [ag_868, ag_170, ag_177], ([sl_898, sl_899, sl_919], []), [pon_37], mdn_879, [], (nat_lit 0))
set_option maxRecDepth 100000 in
theorem S_529 : aSpec wd ct_529 := bChk_ok wx_ok btX12_number (nds := []) (fk := []) (rk := (1, [])) (sp := 0) (fuel := 3000) (by decide +kernel) lk_n odX12_number
def ct_530 : aCt := (mX12_after, [ag_868, ag_912, ag_170, ag_177], ([sl_898, sl_899, sl_919], []), [pon_37], mdn_879, [], (nat_lit 1))
set_option maxRecDepth 100000 in
theorem S_530 : aSpec wd ct_530 := bChk_ok wx_ok btX12_after (nds := []) (fk := []) (rk := (1, [])) (sp := 0) (fuel := 3000) (by decide +kernel) (lk_d S_529 ml_12_164 (lk_d S_526 ml_12_157 lk_n)) odX12_after
def ct_531 : aCt := (mX12_number, [ag_868, ag_170, ag_183], ([sl_898, sl_899, sl_919], []), [pon_37], mdn_879, [], (nat_lit 0))
set_option maxRecDepth 100000 in
theorem S_531 : aSpec wd ct_531 := bChk_ok wx_ok btX12_number (nds := []) (fk := []) (rk := (1, [])) (sp := 0) (fuel := 3000) (by decide +kernel) lk_n odX12_number
def ct_532 : aCt := (mX12_after, [ag_868, ag_912, ag_170, ag_183], ([sl_898, sl_899, sl_919], []), [pon_37], mdn_879, [], (nat_lit 1))
set_option maxRecDepth 100000 in
theorem S_532 : aSpec wd ct_532 := bChk_ok wx_ok btX12_after (nds := []) (fk := []) (rk := (1, [])) (sp := 0) (fuel := 3000) (by decide +kernel) (lk_d S_531 ml_12_164 (lk_d S_526 ml_12_157 lk_n)) odX12_after
def ct_533 : aCt := (mX12_takesWord, [ag_868, ag_912], ([sl_896, sl_894, sl_913], []), [pon_37], mdn_879, [], (nat_lit 1))
set_option maxRecDepth 100000 in
theorem S_533 : aSpec wd ct_533 := bChk_ok wx_ok btX12_takesWord (nds := []) (fk := []) (rk := (1, [])) (sp := 0) (fuel := 3000) (by decide +kernel) (lk_d S_X12_isWord_3 ml_12_117 lk_n) odX12_takesWord
def ct_534 : aCt := (mX12_must, [ag_868, ag_912], ([sl_896, sl_894, sl_913], []), [pon_920], mdn_921, [], (nat_lit 2))
set_option maxRecDepth 100000 in
theorem S_534 : aSpec wd ct_534 := bChk_ok wx_ok btX12_must (nds := []) (fk := []) (rk := (1, [])) (sp := 0) (fuel := 3000) (by decide +kernel) (lk_d S_533 ml_12_124 (lk_d S_481 ml_12_127 lk_n)) odX12_must
def ct_535 : aCt := (mX12_number, [ag_868, ag_22, ag_159], ([sl_896, sl_894, sl_919], []), [pon_932], mdn_879, [], (nat_lit 0))
set_option maxRecDepth 100000 in
theorem S_535 : aSpec wd ct_535 := bChk_ok wx_ok btX12_number (nds := []) (fk := []) (rk := (1, [])) (sp := 0) (fuel := 3000) (by decide +kernel) lk_n odX12_number
def ct_536 : aCt := (mX12_after, [ag_868, ag_912, ag_22, ag_159], ([sl_896, sl_894, sl_913], []), [pon_926], mdn_921, [], (nat_lit 3))
set_option maxRecDepth 100000 in
theorem S_536 : aSpec wd ct_536 := bChk_ok wx_ok btX12_after (nds := []) (fk := []) (rk := (1, [])) (sp := 0) (fuel := 3000) (by decide +kernel) (lk_d S_535 ml_12_164 (lk_d S_534 ml_12_157 lk_n)) odX12_after
def ct_537 : aCt := (mX12_must, [ag_868, ag_912], ([sl_896, sl_894, sl_919], []), [pon_49], mdn_879, [], (nat_lit 0))
set_option maxRecDepth 100000 in
theorem S_537 : aSpec wd ct_537 := bChk_ok wx_ok btX12_must (nds := []) (fk := []) (rk := (1, [])) (sp := 0) (fuel := 3000) (by decide +kernel) lk_n odX12_must
def ct_538 : aCt := (mX12_number, [ag_868, ag_170, ag_122], ([sl_896, sl_894, sl_919], []), [pon_37], mdn_879, [], (nat_lit 0))
set_option maxRecDepth 100000 in
theorem S_538 : aSpec wd ct_538 := bChk_ok wx_ok btX12_number (nds := []) (fk := []) (rk := (1, [])) (sp := 0) (fuel := 3000) (by decide +kernel) lk_n odX12_number
def ct_539 : aCt := (mX12_after, [ag_868, ag_912, ag_170, ag_122], ([sl_896, sl_894, sl_919], []), [pon_37], mdn_879, [], (nat_lit 1))
set_option maxRecDepth 100000 in
theorem S_539 : aSpec wd ct_539 := bChk_ok wx_ok btX12_after (nds := []) (fk := []) (rk := (1, [])) (sp := 0) (fuel := 3000) (by decide +kernel) (lk_d S_538 ml_12_164 (lk_d S_537 ml_12_157 lk_n)) odX12_after
def ct_540 : aCt := (mX12_number, [ag_868, ag_170, ag_177], ([sl_896, sl_894, sl_919], []), [pon_37], mdn_879, [], (nat_lit 0))
set_option maxRecDepth 100000 in
theorem S_540 : aSpec wd ct_540 := bChk_ok wx_ok btX12_number (nds := []) (fk := []) (rk := (1, [])) (sp := 0) (fuel := 3000) (by decide +kernel) lk_n odX12_number
def ct_541 : aCt := (mX12_after, [ag_868, ag_912, ag_170, ag_177], ([sl_896, sl_894, sl_919], []), [pon_37], mdn_879, [], (nat_lit 1))
set_option maxRecDepth 100000 in
theorem S_541 : aSpec wd ct_541 := bChk_ok wx_ok btX12_after (nds := []) (fk := []) (rk := (1, [])) (sp := 0) (fuel := 3000) (by decide +kernel) (lk_d S_540 ml_12_164 (lk_d S_537 ml_12_157 lk_n)) odX12_after
def ct_542 : aCt := (mX12_number, [ag_868, ag_170, ag_183], ([sl_896, sl_894, sl_919], []), [pon_37], mdn_879, [], (nat_lit 0))
set_option maxRecDepth 100000 in
theorem S_542 : aSpec wd ct_542 := bChk_ok wx_ok btX12_number (nds := []) (fk := []) (rk := (1, [])) (sp := 0) (fuel := 3000) (by decide +kernel) lk_n odX12_number
def ct_543 : aCt := (mX12_after, [ag_868, ag_912, ag_170, ag_183], ([sl_896, sl_894, sl_919], []), [pon_37], mdn_879, [], (nat_lit 1))
set_option maxRecDepth 100000 in
theorem S_543 : aSpec wd ct_543 := bChk_ok wx_ok btX12_after (nds := []) (fk := []) (rk := (1, [])) (sp := 0) (fuel := 3000) (by decide +kernel) (lk_d S_542 ml_12_164 (lk_d S_537 ml_12_157 lk_n)) odX12_after
def ct_544 : aCt := (mX12_takesWord, [ag_868, ag_912], ([sl_893, sl_894, sl_913], []), [pon_37], mdn_879, [], (nat_lit 1))
set_option maxRecDepth 100000 in
theorem S_544 : aSpec wd ct_544 := bChk_ok wx_ok btX12_takesWord (nds := []) (fk := []) (rk := (1, [])) (sp := 0) (fuel := 3000) (by decide +kernel) (lk_d S_X12_isWord_4 ml_12_117 lk_n) odX12_takesWord
def ct_545 : aCt := (mX12_must, [ag_868, ag_912], ([sl_893, sl_894, sl_913], []), [pon_920], mdn_921, [], (nat_lit 2))
set_option maxRecDepth 100000 in
theorem S_545 : aSpec wd ct_545 := bChk_ok wx_ok btX12_must (nds := []) (fk := []) (rk := (1, [])) (sp := 0) (fuel := 3000) (by decide +kernel) (lk_d S_544 ml_12_124 (lk_d S_481 ml_12_127 lk_n)) odX12_must
def ct_546 : aCt := (mX12_number, [ag_868, ag_22, ag_159], ([sl_893, sl_894, sl_919], []), [pon_932], mdn_879, [], (nat_lit 0))
set_option maxRecDepth 100000 in
theorem S_546 : aSpec wd ct_546 := bChk_ok wx_ok btX12_number (nds := []) (fk := []) (rk := (1, [])) (sp := 0) (fuel := 3000) (by decide +kernel) lk_n odX12_number
def ct_547 : aCt := (mX12_after, [ag_868, ag_912, ag_22, ag_159], ([sl_893, sl_894, sl_913], []), [pon_926], mdn_921, [], (nat_lit 3))
set_option maxRecDepth 100000 in
theorem S_547 : aSpec wd ct_547 := bChk_ok wx_ok btX12_after (nds := []) (fk := []) (rk := (1, [])) (sp := 0) (fuel := 3000) (by decide +kernel) (lk_d S_546 ml_12_164 (lk_d S_545 ml_12_157 lk_n)) odX12_after
def ct_548 : aCt := (mX12_must, [ag_868, ag_912], ([sl_893, sl_894, sl_919], []), [pon_49], mdn_879, [], (nat_lit 0))
set_option maxRecDepth 100000 in
theorem S_548 : aSpec wd ct_548 := bChk_ok wx_ok btX12_must (nds := []) (fk := []) (rk := (1, [])) (sp := 0) (fuel := 3000) (by decide +kernel) lk_n odX12_must
def ct_549 : aCt := (mX12_number, [ag_868, ag_170, ag_122], ([sl_893, sl_894, sl_919], []), [pon_37], mdn_879, [], (nat_lit 0))
set_option maxRecDepth 100000 in
theorem S_549 : aSpec wd ct_549 := bChk_ok wx_ok btX12_number (nds := []) (fk := []) (rk := (1, [])) (sp := 0) (fuel := 3000) (by decide +kernel) lk_n odX12_number
def ct_550 : aCt := (mX12_after, [ag_868, ag_912, ag_170, ag_122], ([sl_893, sl_894, sl_919], []), [pon_37], mdn_879, [], (nat_lit 1))
set_option maxRecDepth 100000 in
theorem S_550 : aSpec wd ct_550 := bChk_ok wx_ok btX12_after (nds := []) (fk := []) (rk := (1, [])) (sp := 0) (fuel := 3000) (by decide +kernel) (lk_d S_549 ml_12_164 (lk_d S_548 ml_12_157 lk_n)) odX12_after
def ct_551 : aCt := (mX12_number, [ag_868, ag_170, ag_177], ([sl_893, sl_894, sl_919], []), [pon_37], mdn_879, [], (nat_lit 0))
set_option maxRecDepth 100000 in
theorem S_551 : aSpec wd ct_551 := bChk_ok wx_ok btX12_number (nds := []) (fk := []) (rk := (1, [])) (sp := 0) (fuel := 3000) (by decide +kernel) lk_n odX12_number
def ct_552 : aCt := (mX12_after, [ag_868, ag_912, ag_170, ag_177], ([sl_893, sl_894, sl_919], []), [pon_37], mdn_879, [], (nat_lit 1))
set_option maxRecDepth 100000 in
theorem S_552 : aSpec wd ct_552 := bChk_ok wx_ok btX12_after (nds := []) (fk := []) (rk := (1, [])) (sp := 0) (fuel := 3000) (by decide +kernel) (lk_d S_551 ml_12_164 (lk_d S_548 ml_12_157 lk_n)) odX12_after
def ct_553 : aCt := (mX12_number, [ag_868, ag_170, ag_183], ([sl_893, sl_894, sl_919], []), [pon_37], mdn_879, [], (nat_lit 0))
set_option maxRecDepth 100000 in
theorem S_553 : aSpec wd ct_553 := bChk_ok wx_ok btX12_number (nds := []) (fk := []) (rk := (1, [])) (sp := 0) (fuel := 3000) (by decide +kernel) lk_n odX12_number
def ct_554 : aCt := (mX12_after, [ag_868, ag_912, ag_170, ag_183], ([sl_893, sl_894, sl_919], []), [pon_37], mdn_879, [], (nat_lit 1))
set_option maxRecDepth 100000 in
theorem S_554 : aSpec wd ct_554 := bChk_ok wx_ok btX12_after (nds := []) (fk := []) (rk := (1, [])) (sp := 0) (fuel := 3000) (by decide +kernel) (lk_d S_553 ml_12_164 (lk_d S_548 ml_12_157 lk_n)) odX12_after
def sl_950 : (Nat × Nat) × aI := (((nat_lit 196), (nat_lit 8)), [((.ofNat (nat_lit 1)), (.ofNat (nat_lit 8)), (nat_lit 1))])
def sl_951 : (Nat × Nat) × aI := (((nat_lit 200), (nat_lit 0)), [((.ofNat (nat_lit 0)), (.ofNat (nat_lit 0)), (nat_lit 1))])
def sl_952 : (Nat × Nat) × aI := (((nat_lit 200), (nat_lit 4)), [((.ofNat (nat_lit 0)), (.ofNat (nat_lit 0)), (nat_lit 1))])
def sl_953 : (Nat × Nat) × aI := (((nat_lit 200), (nat_lit 7)), [((.ofNat (nat_lit 0)), (.ofNat (nat_lit 0)), (nat_lit 1))])
def sl_954 : (Nat × Nat) × aI := (((nat_lit 200), (nat_lit 9)), [((.ofNat (nat_lit 0)), (.ofNat (nat_lit 0)), (nat_lit 1))])
def sl_955 : (Nat × Nat) × aI := (((nat_lit 200), (nat_lit 183)), [((.ofNat (nat_lit 0)), (.ofNat (nat_lit 0)), (nat_lit 1))])
def sl_956 : (Nat × Nat) × aI := (((nat_lit 200), (nat_lit 184)), [((.ofNat (nat_lit 0)), (.ofNat (nat_lit 0)), (nat_lit 1))])
def sl_957 : (Nat × Nat) × aI := (((nat_lit 200), (nat_lit 185)), [((.ofNat (nat_lit 0)), (.ofNat (nat_lit 0)), (nat_lit 1))])
def sl_958 : (Nat × Nat) × aI := (((nat_lit 200), (nat_lit 186)), [((.ofNat (nat_lit 0)), (.ofNat (nat_lit 0)), (nat_lit 1))])
def sl_959 : (Nat × Nat) × aI := (((nat_lit 200), (nat_lit 187)), [((.ofNat (nat_lit 0)), (.ofNat (nat_lit 0)), (nat_lit 1))])
def sl_960 : (Nat × Nat) × aI := (((nat_lit 200), (nat_lit 188)), [((.ofNat (nat_lit 0)), (.ofNat (nat_lit 0)), (nat_lit 1))])
def sl_961 : (Nat × Nat) × aI := (((nat_lit 200), (nat_lit 189)), [((.ofNat (nat_lit 0)), (.ofNat (nat_lit 0)), (nat_lit 1))])
def sl_962 : (Nat × Nat) × aI := (((nat_lit 200), (nat_lit 0)), [((.ofNat (nat_lit 2)), (.ofNat (nat_lit 4)), (nat_lit 1))])
def pon_963 : aPo := (none, [], [sl_933, sl_910, sl_919, sl_962, sl_954], [])
def sl_964 : (Nat × Nat) × aI := (((nat_lit 200), (nat_lit 9)), [((.ofNat (nat_lit 1)), (.ofNat (nat_lit 1)), (nat_lit 1))])
def pon_965 : aPo := (none, [], [sl_915, sl_899, sl_913, sl_962, sl_964], [])
def pon_966 : aPo := (none, [], [sl_901, sl_902, sl_913, sl_962, sl_964], [])
def mdn_967 : List (Nat × Nat × Nat) := [((nat_lit 196), (nat_lit 4), (nat_lit 11)), ((nat_lit 196), (nat_lit 13), (nat_lit 14)), ((nat_lit 198), (nat_lit 0), (nat_lit 8)), ((nat_lit 200), (nat_lit 0), (nat_lit 4)), ((nat_lit 200), (nat_lit 9), (nat_lit 10)), ((nat_lit 1000002), (nat_lit 0), (nat_lit 0))]
set_option maxRecDepth 100000 in
theorem btX12_postLine : bTab oX12_postLine tX12_postLine := ⟨ofX12_postLine, by decide +kernel⟩
def ct_555 : aCt := (mX12_postLine, [ag_868], ([sl_901, sl_950, sl_913, sl_951, sl_952, sl_953, sl_954, sl_955, sl_956, sl_957, sl_958, sl_959, sl_960, sl_961], []), [pon_963, pon_965, pon_966], mdn_967, [], (nat_lit 5))
set_option maxRecDepth 100000 in
theorem S_555 : aSpec wd ct_555 := bChk_ok wx_ok btX12_postLine (nds := []) (fk := []) (rk := (1, [])) (sp := 0) (fuel := 3000) (by decide +kernel) (lk_d S_X12_next_0 ml_12_121 (lk_d S_536 ml_12_213 (lk_d S_539 ml_12_213 (lk_d S_541 ml_12_213 (lk_d S_543 ml_12_213 (lk_d S_547 ml_12_213 (lk_d S_550 ml_12_213 (lk_d S_552 ml_12_213 (lk_d S_554 ml_12_213 (lk_d S_488 ml_12_213 (lk_d S_493 ml_12_213 (lk_d S_498 ml_12_213 (lk_d S_503 ml_12_213 (lk_d S_525 ml_12_213 (lk_d S_528 ml_12_213 (lk_d S_530 ml_12_213 (lk_d S_532 ml_12_213 (lk_d S_507 ml_12_213 (lk_d S_512 ml_12_213 (lk_d S_514 ml_12_213 (lk_d S_518 ml_12_213 (lk_d S_519 ml_12_213 (lk_d S_510 ml_12_213 (lk_d S_516 ml_12_213 (lk_d S_521 ml_12_213 lk_n))))))))))))))))))))))))) odX12_postLine
def ct_556 : aCt := (mX12_wrong, [ag_868, ag_153, ag_883], ([sl_913], []), [pon_920], mdn_921, [], (nat_lit 0))
set_option maxRecDepth 100000 in
theorem S_556 : aSpec wd ct_556 := bChk_ok wx_ok btX12_wrong (nds := []) (fk := []) (rk := (1, [])) (sp := 0) (fuel := 3000) (by decide +kernel) lk_n odX12_wrong
def pon_968 : aPo := (some (.inl [((.ofNat (nat_lit 0)), (.ofNat (nat_lit 0)), (nat_lit 1))]), [], [sl_913], [])
def pon_969 : aPo := (some (.inl [((.ofNat (nat_lit 1)), (.ofNat (nat_lit 1)), (nat_lit 1))]), [], [sl_950, sl_919], [])
set_option maxRecDepth 100000 in
theorem btX12_begins : bTab oX12_begins tX12_begins := ⟨ofX12_begins, by decide +kernel⟩
def ct_557 : aCt := (mX12_begins, [ag_868, ag_912, ag_53], ([sl_901, sl_902, sl_913, sl_954], []), [pon_968, pon_969], mdn_921, [], (nat_lit 1))
set_option maxRecDepth 100000 in
theorem S_557 : aSpec wd ct_557 := bChk_ok wx_ok btX12_begins (nds := []) (fk := []) (rk := (1, [])) (sp := 0) (fuel := 3000) (by decide +kernel) (lk_d S_X12_isWord_0 ml_12_117 (lk_d S_556 ml_12_127 lk_n)) odX12_begins
set_option maxRecDepth 100000 in
theorem btX12_islandLine : bTab oX12_islandLine tX12_islandLine := ⟨ofX12_islandLine, by decide +kernel⟩
def ct_558 : aCt := (mX12_islandLine, [ag_868], ([sl_901, sl_950, sl_919, sl_951, sl_952], []), [pon_49], mdn_879, [], (nat_lit 0))
set_option maxRecDepth 100000 in
theorem S_558 : aSpec wd ct_558 := bChk_ok wx_ok btX12_islandLine (nds := []) (fk := [14]) (rk := (1, [])) (sp := 0) (fuel := 3000) (by decide +kernel) lk_n odX12_islandLine
def sl_970 : (Nat × Nat) × aI := (((nat_lit 200), (nat_lit 5)), [((.ofNat (nat_lit 0)), (.ofNat (nat_lit 11)), (nat_lit 1))])
set_option maxRecDepth 100000 in
theorem btX12_wayLine : bTab oX12_wayLine tX12_wayLine := ⟨ofX12_wayLine, by decide +kernel⟩
def ct_559 : aCt := (mX12_wayLine, [ag_868], ([sl_901, sl_950, sl_919, sl_970], []), [pon_49], mdn_879, [], (nat_lit 0))
set_option maxRecDepth 100000 in
theorem S_559 : aSpec wd ct_559 := bChk_ok wx_ok btX12_wayLine (nds := []) (fk := [17]) (rk := (1, [])) (sp := 0) (fuel := 3000) (by decide +kernel) lk_n odX12_wayLine
def sl_971 : (Nat × Nat) × aI := (((nat_lit 200), (nat_lit 6)), [((.ofNat (nat_lit 0)), (.ofNat (nat_lit 4)), (nat_lit 1))])
set_option maxRecDepth 100000 in
theorem btX12_whaleLine : bTab oX12_whaleLine tX12_whaleLine := ⟨ofX12_whaleLine, by decide +kernel⟩
def ct_560 : aCt := (mX12_whaleLine, [ag_868], ([sl_901, sl_950, sl_919, sl_971], []), [pon_49], mdn_879, [], (nat_lit 0))
set_option maxRecDepth 100000 in
theorem S_560 : aSpec wd ct_560 := bChk_ok wx_ok btX12_whaleLine (nds := []) (fk := []) (rk := (1, [])) (sp := 0) (fuel := 3000) (by decide +kernel) lk_n odX12_whaleLine
set_option maxRecDepth 100000 in
theorem btX12_boxLine : bTab oX12_boxLine tX12_boxLine := ⟨ofX12_boxLine, by decide +kernel⟩
def ct_561 : aCt := (mX12_boxLine, [ag_868], ([sl_901, sl_950, sl_919, sl_951, sl_952, sl_953, sl_954, sl_955, sl_956, sl_957, sl_958, sl_959, sl_960, sl_961], []), [pon_49], mdn_879, [], (nat_lit 0))
set_option maxRecDepth 100000 in
theorem S_561 : aSpec wd ct_561 := bChk_ok wx_ok btX12_boxLine (nds := []) (fk := [18]) (rk := (1, [])) (sp := 0) (fuel := 3000) (by decide +kernel) lk_n odX12_boxLine
def sl_972 : (Nat × Nat) × aI := (((nat_lit 200), (nat_lit 8)), [((.ofNat (nat_lit 0)), (.ofNat (nat_lit 7)), (nat_lit 1))])
set_option maxRecDepth 100000 in
theorem btX12_spoutLine : bTab oX12_spoutLine tX12_spoutLine := ⟨ofX12_spoutLine, by decide +kernel⟩
def ct_562 : aCt := (mX12_spoutLine, [ag_868], ([sl_901, sl_950, sl_919, sl_972], []), [pon_49], mdn_879, [], (nat_lit 0))
set_option maxRecDepth 100000 in
theorem S_562 : aSpec wd ct_562 := bChk_ok wx_ok btX12_spoutLine (nds := []) (fk := []) (rk := (1, [])) (sp := 0) (fuel := 3000) (by decide +kernel) lk_n odX12_spoutLine
def ct_563 : aCt := (mX12_wrong, [ag_868, ag_150, ag_883], ([sl_913], []), [pon_920], mdn_921, [], (nat_lit 0))
set_option maxRecDepth 100000 in
theorem S_563 : aSpec wd ct_563 := bChk_ok wx_ok btX12_wrong (nds := []) (fk := []) (rk := (1, [])) (sp := 0) (fuel := 3000) (by decide +kernel) lk_n odX12_wrong
def ct_564 : aCt := (mX12_wrong, [ag_868, ag_153, ag_883], ([sl_919], []), [pon_49], mdn_879, [], (nat_lit 0))
set_option maxRecDepth 100000 in
theorem S_564 : aSpec wd ct_564 := bChk_ok wx_ok btX12_wrong (nds := []) (fk := []) (rk := (1, [])) (sp := 0) (fuel := 3000) (by decide +kernel) lk_n odX12_wrong
def ct_565 : aCt := (mX12_begins, [ag_868, ag_912, ag_170], ([sl_901, sl_902, sl_913, sl_954], []), [pon_968, pon_969], mdn_921, [], (nat_lit 1))
set_option maxRecDepth 100000 in
theorem S_565 : aSpec wd ct_565 := bChk_ok wx_ok btX12_begins (nds := []) (fk := []) (rk := (1, [])) (sp := 0) (fuel := 3000) (by decide +kernel) (lk_d S_X12_isWord_0 ml_12_117 (lk_d S_563 ml_12_127 (lk_d S_564 ml_12_127 lk_n))) odX12_begins
def sl_973 : (Nat × Nat) × aI := (((nat_lit 200), (nat_lit 8)), [((.ofNat (nat_lit 8)), (.ofNat (nat_lit 8)), (nat_lit 1))])
def ct_566 : aCt := (mX12_spoutLine, [ag_868], ([sl_901, sl_950, sl_919, sl_973], []), [pon_49], mdn_879, [], (nat_lit 0))
set_option maxRecDepth 100000 in
theorem S_566 : aSpec wd ct_566 := bChk_ok wx_ok btX12_spoutLine (nds := []) (fk := []) (rk := (1, [])) (sp := 0) (fuel := 3000) (by decide +kernel) lk_n odX12_spoutLine
def sl_974 : (Nat × Nat) × aI := (((nat_lit 200), (nat_lit 6)), [((.ofNat (nat_lit 5)), (.ofNat (nat_lit 5)), (nat_lit 1))])
def ct_567 : aCt := (mX12_whaleLine, [ag_868], ([sl_901, sl_950, sl_919, sl_974], []), [pon_49], mdn_879, [], (nat_lit 0))
set_option maxRecDepth 100000 in
theorem S_567 : aSpec wd ct_567 := bChk_ok wx_ok btX12_whaleLine (nds := []) (fk := []) (rk := (1, [])) (sp := 0) (fuel := 3000) (by decide +kernel) lk_n odX12_whaleLine
def sl_975 : (Nat × Nat) × aI := (((nat_lit 200), (nat_lit 5)), [((.ofNat (nat_lit 12)), (.ofNat (nat_lit 12)), (nat_lit 1))])
def ct_568 : aCt := (mX12_wayLine, [ag_868], ([sl_901, sl_950, sl_919, sl_975], []), [pon_49], mdn_879, [], (nat_lit 0))
set_option maxRecDepth 100000 in
theorem S_568 : aSpec wd ct_568 := bChk_ok wx_ok btX12_wayLine (nds := []) (fk := [17]) (rk := (1, [])) (sp := 0) (fuel := 3000) (by decide +kernel) lk_n odX12_wayLine
def sl_976 : (Nat × Nat) × aI := (((nat_lit 200), (nat_lit 0)), [((.ofNat (nat_lit 0)), (.ofNat (nat_lit 0)), (nat_lit 1)), ((.ofNat (nat_lit 2)), (.ofNat (nat_lit 4)), (nat_lit 1))])
def pon_977 : aPo := (none, [], [sl_933, sl_910, sl_919, sl_976, sl_954], [])
set_option maxRecDepth 100000 in
theorem btX12_readLine : bTab oX12_readLine tX12_readLine := ⟨ofX12_readLine, by decide +kernel⟩
def ct_569 : aCt := (mX12_readLine, [ag_868], ([sl_901, sl_902, sl_913, sl_951, sl_952, sl_954, sl_955, sl_956, sl_957, sl_958, sl_959, sl_960, sl_961], []), [pon_977, pon_965, pon_966], mdn_967, [], (nat_lit 6))
set_option maxRecDepth 100000 in
theorem S_569 : aSpec wd ct_569 := bChk_ok wx_ok btX12_readLine (nds := []) (fk := []) (rk := (1, [])) (sp := 0) (fuel := 3000) (by decide +kernel) (lk_d S_555 ml_12_189 (lk_d S_561 ml_12_205 (lk_d S_558 ml_12_196 (lk_d S_566 ml_12_208 (lk_d S_567 ml_12_202 (lk_d S_568 ml_12_199 (lk_d S_560 ml_12_202 (lk_d S_562 ml_12_208 (lk_d S_559 ml_12_199 (lk_d S_X12_isWord_0 ml_12_117 (lk_d S_557 ml_12_192 (lk_d S_565 ml_12_192 (lk_d S_481 ml_12_127 lk_n))))))))))))) odX12_readLine
def sl_978 : (Nat × Nat) × aI := (((nat_lit 196), (nat_lit 11)), [((.ofNat (nat_lit 4)), (.ofNat (nat_lit 4)), (nat_lit 1))])
def pon_979 : aPo := (some (.inl [((.negSucc (nat_lit 0)), (.negSucc (nat_lit 0)), (nat_lit 1))]), [], [sl_978], [])
def ct_570 : aCt := (mX12_no, [ag_868, ag_159], ([sl_874], []), [pon_979], mdn_882, [], (nat_lit 0))
set_option maxRecDepth 100000 in
theorem S_570 : aSpec wd ct_570 := bChk_ok wx_ok btX12_no (nds := []) (fk := []) (rk := (1, [])) (sp := 0) (fuel := 3000) (by decide +kernel) lk_n odX12_no
end Pk0
section Pk1
def ct_571 : aCt := (mX12_begins, [ag_868, ag_912, ag_53], ([sl_898, sl_899, sl_913, sl_954], []), [pon_37], mdn_879, [], (nat_lit 1))
set_option maxRecDepth 100000 in
theorem S_571 : aSpec wd ct_571 := bChk_ok wx_ok btX12_begins (nds := []) (fk := []) (rk := (1, [])) (sp := 0) (fuel := 3000) (by decide +kernel) (lk_d S_X12_isWord_2 ml_12_117 lk_n) odX12_begins
def ct_572 : aCt := (mX12_begins, [ag_868, ag_912, ag_170], ([sl_898, sl_899, sl_913, sl_954], []), [pon_37], mdn_879, [], (nat_lit 1))
set_option maxRecDepth 100000 in
theorem S_572 : aSpec wd ct_572 := bChk_ok wx_ok btX12_begins (nds := []) (fk := []) (rk := (1, [])) (sp := 0) (fuel := 3000) (by decide +kernel) (lk_d S_X12_isWord_2 ml_12_117 lk_n) odX12_begins
def ct_573 : aCt := (mX12_readLine, [ag_868], ([sl_898, sl_899, sl_913, sl_951, sl_952, sl_954, sl_955, sl_956, sl_957, sl_958, sl_959, sl_960, sl_961], []), [pon_920], mdn_921, [], (nat_lit 2))
set_option maxRecDepth 100000 in
theorem S_573 : aSpec wd ct_573 := bChk_ok wx_ok btX12_readLine (nds := []) (fk := []) (rk := (1, [])) (sp := 0) (fuel := 3000) (by decide +kernel) (lk_d S_X12_isWord_2 ml_12_117 (lk_d S_571 ml_12_192 (lk_d S_572 ml_12_192 (lk_d S_481 ml_12_127 lk_n)))) odX12_readLine
def ct_574 : aCt := (mX12_begins, [ag_868, ag_912, ag_53], ([sl_896, sl_894, sl_913, sl_954], []), [pon_37], mdn_879, [], (nat_lit 1))
set_option maxRecDepth 100000 in
theorem S_574 : aSpec wd ct_574 := bChk_ok wx_ok btX12_begins (nds := []) (fk := []) (rk := (1, [])) (sp := 0) (fuel := 3000) (by decide +kernel) (lk_d S_X12_isWord_3 ml_12_117 lk_n) odX12_begins
def ct_575 : aCt := (mX12_begins, [ag_868, ag_912, ag_170], ([sl_896, sl_894, sl_913, sl_954], []), [pon_37], mdn_879, [], (nat_lit 1))
set_option maxRecDepth 100000 in
theorem S_575 : aSpec wd ct_575 := bChk_ok wx_ok btX12_begins (nds := []) (fk := []) (rk := (1, [])) (sp := 0) (fuel := 3000) (by decide +kernel) (lk_d S_X12_isWord_3 ml_12_117 lk_n) odX12_begins
def ct_576 : aCt := (mX12_readLine, [ag_868], ([sl_896, sl_894, sl_913, sl_951, sl_952, sl_954, sl_955, sl_956, sl_957, sl_958, sl_959, sl_960, sl_961], []), [pon_920], mdn_921, [], (nat_lit 2))
set_option maxRecDepth 100000 in
theorem S_576 : aSpec wd ct_576 := bChk_ok wx_ok btX12_readLine (nds := []) (fk := []) (rk := (1, [])) (sp := 0) (fuel := 3000) (by decide +kernel) (lk_d S_X12_isWord_3 ml_12_117 (lk_d S_574 ml_12_192 (lk_d S_575 ml_12_192 (lk_d S_481 ml_12_127 lk_n)))) odX12_readLine
def ct_577 : aCt := (mX12_begins, [ag_868, ag_912, ag_53], ([sl_893, sl_894, sl_913, sl_954], []), [pon_37], mdn_879, [], (nat_lit 1))
set_option maxRecDepth 100000 in
theorem S_577 : aSpec wd ct_577 := bChk_ok wx_ok btX12_begins (nds := []) (fk := []) (rk := (1, [])) (sp := 0) (fuel := 3000) (by decide +kernel) (lk_d S_X12_isWord_4 ml_12_117 lk_n) odX12_begins
def ct_578 : aCt := (mX12_begins, [ag_868, ag_912, ag_170], ([sl_893, sl_894, sl_913, sl_954], []), [pon_37], mdn_879, [], (nat_lit 1))
set_option maxRecDepth 100000 in
theorem S_578 : aSpec wd ct_578 := bChk_ok wx_ok btX12_begins (nds := []) (fk := []) (rk := (1, [])) (sp := 0) (fuel := 3000) (by decide +kernel) (lk_d S_X12_isWord_4 ml_12_117 lk_n) odX12_begins
def ct_579 : aCt := (mX12_readLine, [ag_868], ([sl_893, sl_894, sl_913, sl_951, sl_952, sl_954, sl_955, sl_956, sl_957, sl_958, sl_959, sl_960, sl_961], []), [pon_920], mdn_921, [], (nat_lit 2))
set_option maxRecDepth 100000 in
theorem S_579 : aSpec wd ct_579 := bChk_ok wx_ok btX12_readLine (nds := []) (fk := []) (rk := (1, [])) (sp := 0) (fuel := 3000) (by decide +kernel) (lk_d S_X12_isWord_4 ml_12_117 (lk_d S_577 ml_12_192 (lk_d S_578 ml_12_192 (lk_d S_481 ml_12_127 lk_n)))) odX12_readLine
def ct_580 : aCt := (mX12_wrong, [ag_868, ag_122, ag_883], ([sl_913], []), [pon_920], mdn_921, [], (nat_lit 0))
set_option maxRecDepth 100000 in
theorem S_580 : aSpec wd ct_580 := bChk_ok wx_ok btX12_wrong (nds := []) (fk := []) (rk := (1, [])) (sp := 0) (fuel := 3000) (by decide +kernel) lk_n odX12_wrong
def ct_581 : aCt := (mX12_postLine, [ag_868], ([sl_901, sl_950, sl_913, sl_962, sl_952, sl_964, sl_955, sl_956, sl_957, sl_958, sl_959, sl_960, sl_961], []), [pon_920], mdn_921, [], (nat_lit 1))
set_option maxRecDepth 100000 in
theorem S_581 : aSpec wd ct_581 := bChk_ok wx_ok btX12_postLine (nds := []) (fk := []) (rk := (1, [])) (sp := 0) (fuel := 3000) (by decide +kernel) (lk_d S_580 ml_12_127 lk_n) odX12_postLine
def ct_582 : aCt := (mX12_begins, [ag_868, ag_912, ag_53], ([sl_901, sl_902, sl_913, sl_964], []), [pon_914, pon_916, pon_917], mdn_918, [], (nat_lit 2))
set_option maxRecDepth 100000 in
theorem S_582 : aSpec wd ct_582 := bChk_ok wx_ok btX12_begins (nds := []) (fk := []) (rk := (1, [])) (sp := 0) (fuel := 3000) (by decide +kernel) (lk_d S_X12_next_0 ml_12_121 (lk_d S_X12_isWord_0 ml_12_117 lk_n)) odX12_begins
def pon_980 : aPo := (none, [], [sl_950, sl_919], [])
def pon_981 : aPo := (none, [], [sl_913], [])
set_option maxRecDepth 100000 in
theorem btX12_mustName : bTab oX12_mustName tX12_mustName := ⟨ofX12_mustName, by decide +kernel⟩
def ct_583 : aCt := (mX12_mustName, [ag_868], ([sl_901, sl_902, sl_913], []), [pon_980, pon_981], mdn_921, [], (nat_lit 1))
set_option maxRecDepth 100000 in
theorem S_583 : aSpec wd ct_583 := bChk_ok wx_ok btX12_mustName (nds := []) (fk := []) (rk := (1, [])) (sp := 0) (fuel := 3000) (by decide +kernel) (lk_d S_X12_isWord_0 ml_12_117 (lk_d S_481 ml_12_127 lk_n)) odX12_mustName
def pon_982 : aPo := (some (.inl [((.negSucc (nat_lit 0)), (.ofNat (nat_lit 19)), (nat_lit 1))]), [], [], [])
def lcn_983 : Nat × aAg := ((nat_lit 1), .inl [((.ofNat (nat_lit 3)), (.ofNat (nat_lit 3)), (nat_lit 1))])
def lcn_984 : Nat × aAg := ((nat_lit 1), .inl [((.ofNat (nat_lit 4)), (.ofNat (nat_lit 4)), (nat_lit 1))])
def lcn_985 : Nat × aAg := ((nat_lit 1), .inl [((.ofNat (nat_lit 5)), (.ofNat (nat_lit 5)), (nat_lit 1))])
def lcn_986 : Nat × aAg := ((nat_lit 1), .inl [((.ofNat (nat_lit 6)), (.ofNat (nat_lit 6)), (nat_lit 1))])
def lcn_987 : Nat × aAg := ((nat_lit 1), .inl [((.ofNat (nat_lit 7)), (.ofNat (nat_lit 20)), (nat_lit 1))])
def lcn_988 : Nat × aAg := ((nat_lit 1), .inl [((.ofNat (nat_lit 7)), (.ofNat (nat_lit 19)), (nat_lit 1))])
set_option maxRecDepth 100000 in
theorem btX12_find : bTab oX12_find tX12_find := ⟨ofX12_find, by decide +kernel⟩
def ct_584 : aCt := (mX12_find, [ag_868], ([sl_902], []), [pon_982], mdn_879, [], (nat_lit 0))
set_option maxRecDepth 100000 in
theorem S_584 : aSpec wd ct_584 := bChk_ok wx_ok btX12_find (nds := [((nat_lit 2), [lcn_905, lcn_175], [], [sl_902], [], (230, [])), ((nat_lit 46), [lcn_905, lcn_175, lcn_447, lcn_411], [], [sl_950], [], (229, [(0, -1)])), ((nat_lit 46), [lcn_905, lcn_175, lcn_592, lcn_411], [], [sl_902], [], (220, [])), ((nat_lit 2), [lcn_905, lcn_203, lcn_592, lcn_411], [], [sl_902], [], (219, [])), ((nat_lit 46), [lcn_905, lcn_203, lcn_447, lcn_411], [], [sl_950], [], (218, [(0, -1)])), ((nat_lit 46), [lcn_905, lcn_203, lcn_592, lcn_411], [], [sl_902], [], (209, [])), ((nat_lit 2), [lcn_905, lcn_167, lcn_592, lcn_411], [], [sl_902], [], (208, [])), ((nat_lit 46), [lcn_905, lcn_167, lcn_447, lcn_411], [], [sl_950], [], (207, [(0, -1)])), ((nat_lit 46), [lcn_905, lcn_167, lcn_592, lcn_411], [], [sl_902], [], (198, [])), ((nat_lit 2), [lcn_905, lcn_983, lcn_592, lcn_411], [], [sl_902], [], (197, [])), ((nat_lit 46), [lcn_905, lcn_983, lcn_447, lcn_411], [], [sl_950], [], (196, [(0, -1)])), ((nat_lit 46), [lcn_905, lcn_983, lcn_592, lcn_411], [], [sl_902], [], (187, [])), ((nat_lit 2), [lcn_905, lcn_984, lcn_592, lcn_411], [], [sl_902], [], (186, [])), ((nat_lit 46), [lcn_905, lcn_984, lcn_447, lcn_411], [], [sl_950], [], (185, [(0, -1)])), ((nat_lit 46), [lcn_905, lcn_984, lcn_592, lcn_411], [], [sl_902], [], (176, [])), ((nat_lit 2), [lcn_905, lcn_985, lcn_592, lcn_411], [], [sl_902], [], (175, [])), ((nat_lit 46), [lcn_905, lcn_985, lcn_447, lcn_411], [], [sl_950], [], (174, [(0, -1)])), ((nat_lit 46), [lcn_905, lcn_985, lcn_592, lcn_411], [], [sl_902], [], (165, [])), ((nat_lit 2), [lcn_905, lcn_986, lcn_592, lcn_411], [], [sl_902], [], (164, [])), ((nat_lit 46), [lcn_905, lcn_986, lcn_447, lcn_411], [], [sl_950], [], (163, [(0, -1)])), ((nat_lit 46), [lcn_905, lcn_986, lcn_592, lcn_411], [], [sl_902], [], (154, [])), ((nat_lit 2), [lcn_905, lcn_987, lcn_592, lcn_411], [], [sl_902], [], (230, [(0, -11)])), ((nat_lit 46), [lcn_905, lcn_988, lcn_447, lcn_411], [], [sl_902], [], (229, [(0, -11), (1, -1)])), ((nat_lit 46), [lcn_905, lcn_988, lcn_592, lcn_411], [], [sl_902], [], (220, [(0, -11)]))]) (fk := []) (rk := (231, [])) (sp := 70368744177668) (fuel := 3000) (by decide +kernel) lk_n odX12_find
def mdn_989 : List (Nat × Nat × Nat) := [((nat_lit 196), (nat_lit 4), (nat_lit 11)), ((nat_lit 196), (nat_lit 13), (nat_lit 14)), ((nat_lit 198), (nat_lit 0), (nat_lit 8)), ((nat_lit 200), (nat_lit 183), (nat_lit 184)), ((nat_lit 200), (nat_lit 203), (nat_lit 211)), ((nat_lit 1000002), (nat_lit 0), (nat_lit 0))]
set_option maxRecDepth 100000 in
theorem btX12_newName : bTab oX12_newName tX12_newName := ⟨ofX12_newName, by decide +kernel⟩
def ct_585 : aCt := (mX12_newName, [ag_868, ag_170], ([sl_901, sl_902, sl_913], []), [pon_922, pon_923, pon_924], mdn_989, [], (nat_lit 2))
set_option maxRecDepth 100000 in
theorem S_585 : aSpec wd ct_585 := bChk_ok wx_ok btX12_newName (nds := [((nat_lit 45), [lcn_905, lcn_175, lcn_299], [], [sl_901, sl_902, sl_913], [], (8, [(0, -1)]))]) (fk := []) (rk := (9, [])) (sp := 35184372088832) (fuel := 3000) (by decide +kernel) (lk_d S_583 ml_12_143 (lk_d S_584 ml_12_146 (lk_d S_X12_next_0 ml_12_121 (lk_d S_580 ml_12_127 lk_n)))) odX12_newName
def ag_990 : aAg := .inl [((.ofNat (nat_lit 0)), (.ofNat (nat_lit 8)), (nat_lit 1))]
def pon_991 : aPo := (some (.inl [((.ofNat (nat_lit 0)), (.ofNat (nat_lit 0)), (nat_lit 1))]), [some [((.ofNat (nat_lit 0)), (.ofNat (nat_lit 1)), (nat_lit 1)), ((.ofNat (nat_lit 7)), (.ofNat (nat_lit 8)), (nat_lit 1))], none, none], [], [])
def pon_992 : aPo := (some (.inl [((.ofNat (nat_lit 1)), (.ofNat (nat_lit 1)), (nat_lit 1))]), [some [((.ofNat (nat_lit 2)), (.ofNat (nat_lit 6)), (nat_lit 1))], none, none], [], [])
def ct_586 : aCt := (mX12_in, [ag_990, ag_22, ag_153], ([], []), [pon_991, pon_992], mdn_879, [], (nat_lit 0))
set_option maxRecDepth 100000 in
theorem S_586 : aSpec wd ct_586 := bChk_ok wx_ok btX12_in (nds := []) (fk := []) (rk := (1, [])) (sp := 0) (fuel := 3000) (by decide +kernel) lk_n odX12_in
def ct_587 : aCt := (mX12_wrong, [ag_868, ag_133, ag_883], ([sl_913], []), [pon_920], mdn_921, [], (nat_lit 0))
set_option maxRecDepth 100000 in
theorem S_587 : aSpec wd ct_587 := bChk_ok wx_ok btX12_wrong (nds := []) (fk := []) (rk := (1, [])) (sp := 0) (fuel := 3000) (by decide +kernel) lk_n odX12_wrong
def pon_993 : aPo := (none, [], [sl_933, sl_910, sl_919, sl_952], [])
def sl_994 : (Nat × Nat) × aI := (((nat_lit 200), (nat_lit 4)), [((.ofNat (nat_lit 1)), (.ofNat (nat_lit 1)), (nat_lit 1))])
def pon_995 : aPo := (none, [], [sl_915, sl_899, sl_913, sl_994], [])
def pon_996 : aPo := (none, [], [sl_901, sl_902, sl_913, sl_994], [])
def mdn_997 : List (Nat × Nat × Nat) := [((nat_lit 196), (nat_lit 4), (nat_lit 11)), ((nat_lit 196), (nat_lit 13), (nat_lit 14)), ((nat_lit 198), (nat_lit 0), (nat_lit 8)), ((nat_lit 200), (nat_lit 4), (nat_lit 5)), ((nat_lit 200), (nat_lit 10), (nat_lit 17)), ((nat_lit 200), (nat_lit 183), (nat_lit 184)), ((nat_lit 200), (nat_lit 203), (nat_lit 211)), ((nat_lit 1000002), (nat_lit 0), (nat_lit 0))]
def sl_998 : (Nat × Nat) × aI := (((nat_lit 196), (nat_lit 8)), [((.ofNat (nat_lit 2)), (.ofNat (nat_lit 6)), (nat_lit 1))])
def lcn_999 : Nat × aAg := ((nat_lit 4), .inl [((.ofNat (nat_lit 10)), (.ofNat (nat_lit 10)), (nat_lit 1))])
def lcn_1000 : Nat × aAg := ((nat_lit 5), .inl [((.ofNat (nat_lit 0)), (.ofNat (nat_lit 6)), (nat_lit 1))])
def sl_1001 : (Nat × Nat) × aI := (((nat_lit 200), (nat_lit 10)), [((.ofNat (nat_lit 2)), (.ofNat (nat_lit 6)), (nat_lit 1))])
def ct_588 : aCt := (mX12_islandLine, [ag_868], ([sl_901, sl_902, sl_913, sl_962, sl_952], []), [pon_993, pon_995, pon_996], mdn_997, [], (nat_lit 3))
set_option maxRecDepth 100000 in
theorem S_588 : aSpec wd ct_588 := bChk_ok wx_ok btX12_islandLine (nds := [((nat_lit 65), [lcn_905, lcn_175, lcn_447, lcn_144], [], [sl_901, sl_998, sl_913, sl_962, sl_952], [], (16, [(0, -1)])), ((nat_lit 65), [lcn_905, lcn_175, lcn_592, lcn_411], [], [sl_901, sl_902, sl_913, sl_962, sl_952], [], (9, [(0, -1)])), ((nat_lit 112), [lcn_905, lcn_175, lcn_592, lcn_101, lcn_424], [], [sl_901, sl_902, sl_913, sl_962, sl_952], [], (0, [])), ((nat_lit 112), [lcn_905, lcn_175, lcn_447, lcn_101, lcn_424], [], [sl_901, sl_998, sl_913, sl_962, sl_952], [], (7, [])), ((nat_lit 204), [lcn_905, lcn_175, lcn_447, lcn_101, lcn_999, lcn_1000], [], [sl_901, sl_998, sl_913, sl_962, sl_952, sl_1001], [], (6, [(0, -1)]))]) (fk := [14]) (rk := (17, [])) (sp := 25711008708143844408671393482650898498890112422543329113145344) (fuel := 3000) (by decide +kernel) (lk_d S_X12_next_0 ml_12_121 (lk_d S_585 ml_12_223 (lk_d S_586 ml_12_149 (lk_d S_481 ml_12_127 (lk_d S_587 ml_12_127 lk_n))))) odX12_islandLine
def ct_589 : aCt := (mX12_mustName, [ag_868], ([sl_915, sl_899, sl_913], []), [pon_920], mdn_921, [], (nat_lit 1))
set_option maxRecDepth 100000 in
theorem S_589 : aSpec wd ct_589 := bChk_ok wx_ok btX12_mustName (nds := []) (fk := []) (rk := (1, [])) (sp := 0) (fuel := 3000) (by decide +kernel) (lk_d S_481 ml_12_127 lk_n) odX12_mustName
def ct_590 : aCt := (mX12_newName, [ag_868, ag_170], ([sl_915, sl_899, sl_913], []), [pon_920], mdn_921, [], (nat_lit 2))
set_option maxRecDepth 100000 in
theorem S_590 : aSpec wd ct_590 := bChk_ok wx_ok btX12_newName (nds := []) (fk := []) (rk := (1, [])) (sp := 0) (fuel := 3000) (by decide +kernel) (lk_d S_589 ml_12_143 lk_n) odX12_newName
def ct_591 : aCt := (mX12_islandLine, [ag_868], ([sl_915, sl_899, sl_913, sl_962, sl_952], []), [pon_920], mdn_921, [], (nat_lit 3))
set_option maxRecDepth 100000 in
theorem S_591 : aSpec wd ct_591 := bChk_ok wx_ok btX12_islandLine (nds := []) (fk := [14]) (rk := (1, [])) (sp := 0) (fuel := 3000) (by decide +kernel) (lk_d S_590 ml_12_223 lk_n) odX12_islandLine
def ag_1002 : aAg := .inl [((.negSucc (nat_lit 0)), (.ofNat (nat_lit 19)), (nat_lit 1))]
def pon_1003 : aPo := (some (.inl [((.ofNat (nat_lit 0)), (.ofNat (nat_lit 0)), (nat_lit 1))]), [some [((.negSucc (nat_lit 0)), (.negSucc (nat_lit 0)), (nat_lit 1)), ((.ofNat (nat_lit 7)), (.ofNat (nat_lit 19)), (nat_lit 1))], none, none], [], [])
def pon_1004 : aPo := (some (.inl [((.ofNat (nat_lit 1)), (.ofNat (nat_lit 1)), (nat_lit 1))]), [some [((.ofNat (nat_lit 0)), (.ofNat (nat_lit 6)), (nat_lit 1))], none, none], [], [])
def ct_592 : aCt := (mX12_in, [ag_1002, ag_170, ag_153], ([], []), [pon_1003, pon_1004], mdn_879, [], (nat_lit 0))
set_option maxRecDepth 100000 in
theorem S_592 : aSpec wd ct_592 := bChk_ok wx_ok btX12_in (nds := []) (fk := []) (rk := (1, [])) (sp := 0) (fuel := 3000) (by decide +kernel) lk_n odX12_in
def ct_593 : aCt := (mX12_wrong, [ag_868, ag_22, ag_883], ([sl_913], []), [pon_920], mdn_921, [], (nat_lit 0))
set_option maxRecDepth 100000 in
theorem S_593 : aSpec wd ct_593 := bChk_ok wx_ok btX12_wrong (nds := []) (fk := []) (rk := (1, [])) (sp := 0) (fuel := 3000) (by decide +kernel) lk_n odX12_wrong
def pon_1005 : aPo := (some (.inl [((.ofNat (nat_lit 0)), (.ofNat (nat_lit 6)), (nat_lit 1))]), [], [sl_913], [])
set_option maxRecDepth 100000 in
theorem btX12_named : bTab oX12_named tX12_named := ⟨ofX12_named, by decide +kernel⟩
def ct_594 : aCt := (mX12_named, [ag_868, ag_170, ag_153], ([sl_901, sl_902, sl_913], []), [pon_935, pon_1005], mdn_921, [], (nat_lit 2))
set_option maxRecDepth 100000 in
theorem S_594 : aSpec wd ct_594 := bChk_ok wx_ok btX12_named (nds := []) (fk := []) (rk := (1, [])) (sp := 0) (fuel := 3000) (by decide +kernel) (lk_d S_583 ml_12_143 (lk_d S_584 ml_12_146 (lk_d S_592 ml_12_149 (lk_d S_593 ml_12_127 lk_n)))) odX12_named
def pon_1006 : aPo := (some (.inl [((.ofNat (nat_lit 0)), (.ofNat (nat_lit 0)), (nat_lit 1))]), [], [sl_901, sl_902, sl_919], [])
def pon_1007 : aPo := (some (.inl [((.ofNat (nat_lit 0)), (.ofNat (nat_lit 6)), (nat_lit 1))]), [], [sl_915, sl_899, sl_913], [])
def pon_1008 : aPo := (some (.inl [((.ofNat (nat_lit 0)), (.ofNat (nat_lit 6)), (nat_lit 1))]), [], [sl_901, sl_902, sl_913], [])
set_option maxRecDepth 100000 in
theorem btX12_islandPassed : bTab oX12_islandPassed tX12_islandPassed := ⟨ofX12_islandPassed, by decide +kernel⟩
def ct_595 : aCt := (mX12_islandPassed, [ag_868], ([sl_901, sl_902, sl_913], []), [pon_1006, pon_1007, pon_1008], mdn_925, [], (nat_lit 3))
set_option maxRecDepth 100000 in
theorem S_595 : aSpec wd ct_595 := bChk_ok wx_ok btX12_islandPassed (nds := []) (fk := []) (rk := (1, [])) (sp := 0) (fuel := 3000) (by decide +kernel) (lk_d S_X12_next_0 ml_12_121 (lk_d S_594 ml_12_153 lk_n)) odX12_islandPassed
def ct_596 : aCt := (mX12_named, [ag_868, ag_170, ag_153], ([sl_915, sl_899, sl_913], []), [pon_935], mdn_921, [], (nat_lit 2))
set_option maxRecDepth 100000 in
theorem S_596 : aSpec wd ct_596 := bChk_ok wx_ok btX12_named (nds := []) (fk := []) (rk := (1, [])) (sp := 0) (fuel := 3000) (by decide +kernel) (lk_d S_589 ml_12_143 lk_n) odX12_named
def ct_597 : aCt := (mX12_named, [ag_868, ag_170, ag_153], ([sl_901, sl_902, sl_919], []), [pon_37], mdn_879, [], (nat_lit 0))
set_option maxRecDepth 100000 in
theorem S_597 : aSpec wd ct_597 := bChk_ok wx_ok btX12_named (nds := []) (fk := []) (rk := (1, [])) (sp := 0) (fuel := 3000) (by decide +kernel) lk_n odX12_named
def ag_1009 : aAg := .inr (.inl [(nat_lit 200)])
def ag_1010 : aAg := .inl [((.ofNat (nat_lit 0)), (.ofNat (nat_lit 10)), (nat_lit 1))]
set_option maxRecDepth 100000 in
theorem btX12_joins : bTab oX12_joins tX12_joins := ⟨ofX12_joins, by decide +kernel⟩
def ct_598 : aCt := (mX12_joins, [ag_1009, ag_1010, ag_125, ag_125], ([], []), [pon_37, pon_38], mdn_879, [], (nat_lit 0))
set_option maxRecDepth 100000 in
theorem S_598 : aSpec wd ct_598 := bChk_ok wx_ok btX12_joins (nds := []) (fk := []) (rk := (1, [])) (sp := 0) (fuel := 3000) (by decide +kernel) lk_n odX12_joins
def ag_1011 : aAg := .inl [((.ofNat (nat_lit 0)), (.ofNat (nat_lit 9)), (nat_lit 1))]
def ct_599 : aCt := (mX12_joins, [ag_1009, ag_1011, ag_125, ag_125], ([], []), [pon_37, pon_38], mdn_879, [], (nat_lit 0))
set_option maxRecDepth 100000 in
theorem S_599 : aSpec wd ct_599 := bChk_ok wx_ok btX12_joins (nds := []) (fk := []) (rk := (1, [])) (sp := 0) (fuel := 3000) (by decide +kernel) lk_n odX12_joins
def ct_600 : aCt := (mX12_joins, [ag_1009, ag_990, ag_125, ag_125], ([], []), [pon_37, pon_38], mdn_879, [], (nat_lit 0))
set_option maxRecDepth 100000 in
theorem S_600 : aSpec wd ct_600 := bChk_ok wx_ok btX12_joins (nds := []) (fk := []) (rk := (1, [])) (sp := 0) (fuel := 3000) (by decide +kernel) lk_n odX12_joins
def ct_601 : aCt := (mX12_joins, [ag_1009, ag_190, ag_125, ag_125], ([], []), [pon_37, pon_38], mdn_879, [], (nat_lit 0))
set_option maxRecDepth 100000 in
theorem S_601 : aSpec wd ct_601 := bChk_ok wx_ok btX12_joins (nds := []) (fk := []) (rk := (1, [])) (sp := 0) (fuel := 3000) (by decide +kernel) lk_n odX12_joins
def ct_602 : aCt := (mX12_joins, [ag_1009, ag_125, ag_125, ag_125], ([], []), [pon_37, pon_38], mdn_879, [], (nat_lit 0))
set_option maxRecDepth 100000 in
theorem S_602 : aSpec wd ct_602 := bChk_ok wx_ok btX12_joins (nds := []) (fk := []) (rk := (1, [])) (sp := 0) (fuel := 3000) (by decide +kernel) lk_n odX12_joins
def ct_603 : aCt := (mX12_joins, [ag_1009, ag_413, ag_125, ag_125], ([], []), [pon_37, pon_38], mdn_879, [], (nat_lit 0))
set_option maxRecDepth 100000 in
theorem S_603 : aSpec wd ct_603 := bChk_ok wx_ok btX12_joins (nds := []) (fk := []) (rk := (1, [])) (sp := 0) (fuel := 3000) (by decide +kernel) lk_n odX12_joins
def ct_604 : aCt := (mX12_joins, [ag_1009, ag_265, ag_125, ag_125], ([], []), [pon_37, pon_38], mdn_879, [], (nat_lit 0))
set_option maxRecDepth 100000 in
theorem S_604 : aSpec wd ct_604 := bChk_ok wx_ok btX12_joins (nds := []) (fk := []) (rk := (1, [])) (sp := 0) (fuel := 3000) (by decide +kernel) lk_n odX12_joins
def ct_605 : aCt := (mX12_joins, [ag_1009, ag_364, ag_125, ag_125], ([], []), [pon_37, pon_38], mdn_879, [], (nat_lit 0))
set_option maxRecDepth 100000 in
theorem S_605 : aSpec wd ct_605 := bChk_ok wx_ok btX12_joins (nds := []) (fk := []) (rk := (1, [])) (sp := 0) (fuel := 3000) (by decide +kernel) lk_n odX12_joins
def ct_606 : aCt := (mX12_joins, [ag_1009, ag_405, ag_125, ag_125], ([], []), [pon_37, pon_38], mdn_879, [], (nat_lit 0))
set_option maxRecDepth 100000 in
theorem S_606 : aSpec wd ct_606 := bChk_ok wx_ok btX12_joins (nds := []) (fk := []) (rk := (1, [])) (sp := 0) (fuel := 3000) (by decide +kernel) lk_n odX12_joins
def ct_607 : aCt := (mX12_joins, [ag_1009, ag_536, ag_125, ag_125], ([], []), [pon_37, pon_38], mdn_879, [], (nat_lit 0))
set_option maxRecDepth 100000 in
theorem S_607 : aSpec wd ct_607 := bChk_ok wx_ok btX12_joins (nds := []) (fk := []) (rk := (1, [])) (sp := 0) (fuel := 3000) (by decide +kernel) lk_n odX12_joins
def ct_608 : aCt := (mX12_joins, [ag_1009, ag_170, ag_125, ag_125], ([], []), [pon_37, pon_38], mdn_879, [], (nat_lit 0))
set_option maxRecDepth 100000 in
theorem S_608 : aSpec wd ct_608 := bChk_ok wx_ok btX12_joins (nds := []) (fk := []) (rk := (1, [])) (sp := 0) (fuel := 3000) (by decide +kernel) lk_n odX12_joins
def pon_1012 : aPo := (some (.inl [((.ofNat (nat_lit 1)), (.ofNat (nat_lit 1)), (nat_lit 1))]), [], [sl_919], [])
def ct_609 : aCt := (mX12_number, [ag_868, ag_53, ag_198], ([sl_901, sl_902, sl_913], []), [pon_1012], mdn_921, [], (nat_lit 1))
set_option maxRecDepth 100000 in
theorem S_609 : aSpec wd ct_609 := bChk_ok wx_ok btX12_number (nds := []) (fk := []) (rk := (1, [])) (sp := 0) (fuel := 3000) (by decide +kernel) (lk_d S_481 ml_12_127 lk_n) odX12_number
def pon_1013 : aPo := (some (.inl [((.ofNat (nat_lit 0)), (.ofNat (nat_lit 0)), (nat_lit 1))]), [some [((.negSucc (nat_lit 2147483647)), (.ofNat (nat_lit 0)), (nat_lit 1)), ((.ofNat (nat_lit 100)), (.ofNat (nat_lit 2147483647)), (nat_lit 1))], none, none], [], [])
def pon_1014 : aPo := (some (.inl [((.ofNat (nat_lit 1)), (.ofNat (nat_lit 1)), (nat_lit 1))]), [some [((.ofNat (nat_lit 1)), (.ofNat (nat_lit 99)), (nat_lit 1))], none, none], [], [])
def ct_610 : aCt := (mX12_in, [ag_1, ag_53, ag_198], ([], []), [pon_1013, pon_1014], mdn_879, [], (nat_lit 0))
set_option maxRecDepth 100000 in
theorem S_610 : aSpec wd ct_610 := bChk_ok wx_ok btX12_in (nds := []) (fk := []) (rk := (1, [])) (sp := 0) (fuel := 3000) (by decide +kernel) lk_n odX12_in
def pon_1015 : aPo := (some (.inl [((.ofNat (nat_lit 1)), (.ofNat (nat_lit 1)), (nat_lit 1))]), [], [sl_915, sl_899, sl_919], [])
def pon_1016 : aPo := (some (.inl [((.ofNat (nat_lit 1)), (.ofNat (nat_lit 99)), (nat_lit 1))]), [], [sl_915, sl_899, sl_913], [])
def pon_1017 : aPo := (some (.inl [((.ofNat (nat_lit 1)), (.ofNat (nat_lit 99)), (nat_lit 1))]), [], [sl_901, sl_902, sl_913], [])
def ct_611 : aCt := (mX12_number, [ag_868, ag_53, ag_198], ([sl_915, sl_899, sl_913], []), [pon_1015, pon_1016, pon_1017], mdn_925, [], (nat_lit 2))
set_option maxRecDepth 100000 in
theorem S_611 : aSpec wd ct_611 := bChk_ok wx_ok btX12_number (nds := []) (fk := []) (rk := (1, [])) (sp := 0) (fuel := 3000) (by decide +kernel) (lk_d S_X12_next_0 ml_12_121 (lk_d S_481 ml_12_127 (lk_d S_485 ml_12_127 (lk_d S_610 ml_12_149 lk_n)))) odX12_number
def ct_612 : aCt := (mX12_number, [ag_868, ag_53, ag_198], ([sl_901, sl_902, sl_919], []), [pon_38], mdn_879, [], (nat_lit 0))
set_option maxRecDepth 100000 in
theorem S_612 : aSpec wd ct_612 := bChk_ok wx_ok btX12_number (nds := []) (fk := []) (rk := (1, [])) (sp := 0) (fuel := 3000) (by decide +kernel) lk_n odX12_number
def pon_1018 : aPo := (some (.inl [((.ofNat (nat_lit 1)), (.ofNat (nat_lit 1)), (nat_lit 1))]), [], [sl_933, sl_910, sl_919], [])
def ct_613 : aCt := (mX12_after, [ag_868, ag_912, ag_53, ag_198], ([sl_901, sl_902, sl_913], []), [pon_1018, pon_1016, pon_1017], mdn_925, [], (nat_lit 4))
set_option maxRecDepth 100000 in
theorem S_613 : aSpec wd ct_613 := bChk_ok wx_ok btX12_after (nds := []) (fk := []) (rk := (1, [])) (sp := 0) (fuel := 3000) (by decide +kernel) (lk_d S_609 ml_12_164 (lk_d S_612 ml_12_164 (lk_d S_611 ml_12_164 (lk_d S_482 ml_12_157 lk_n)))) odX12_after
def ct_614 : aCt := (mX12_number, [ag_868, ag_53, ag_198], ([sl_915, sl_899, sl_919], []), [pon_38], mdn_879, [], (nat_lit 0))
set_option maxRecDepth 100000 in
theorem S_614 : aSpec wd ct_614 := bChk_ok wx_ok btX12_number (nds := []) (fk := []) (rk := (1, [])) (sp := 0) (fuel := 3000) (by decide +kernel) lk_n odX12_number
def ct_615 : aCt := (mX12_after, [ag_868, ag_912, ag_53, ag_198], ([sl_915, sl_899, sl_913], []), [pon_1012], mdn_921, [], (nat_lit 3))
set_option maxRecDepth 100000 in
theorem S_615 : aSpec wd ct_615 := bChk_ok wx_ok btX12_after (nds := []) (fk := []) (rk := (1, [])) (sp := 0) (fuel := 3000) (by decide +kernel) (lk_d S_614 ml_12_164 (lk_d S_505 ml_12_157 lk_n)) odX12_after
def ct_616 : aCt := (mX12_number, [ag_868, ag_53, ag_253], ([sl_901, sl_902, sl_913], []), [pon_1012], mdn_921, [], (nat_lit 1))
set_option maxRecDepth 100000 in
theorem S_616 : aSpec wd ct_616 := bChk_ok wx_ok btX12_number (nds := []) (fk := []) (rk := (1, [])) (sp := 0) (fuel := 3000) (by decide +kernel) (lk_d S_481 ml_12_127 lk_n) odX12_number
def pon_1019 : aPo := (some (.inl [((.ofNat (nat_lit 0)), (.ofNat (nat_lit 0)), (nat_lit 1))]), [some [((.negSucc (nat_lit 2147483647)), (.ofNat (nat_lit 0)), (nat_lit 1)), ((.ofNat (nat_lit 16)), (.ofNat (nat_lit 2147483647)), (nat_lit 1))], none, none], [], [])
def pon_1020 : aPo := (some (.inl [((.ofNat (nat_lit 1)), (.ofNat (nat_lit 1)), (nat_lit 1))]), [some [((.ofNat (nat_lit 1)), (.ofNat (nat_lit 15)), (nat_lit 1))], none, none], [], [])
def ct_617 : aCt := (mX12_in, [ag_1, ag_53, ag_253], ([], []), [pon_1019, pon_1020], mdn_879, [], (nat_lit 0))
set_option maxRecDepth 100000 in
theorem S_617 : aSpec wd ct_617 := bChk_ok wx_ok btX12_in (nds := []) (fk := []) (rk := (1, [])) (sp := 0) (fuel := 3000) (by decide +kernel) lk_n odX12_in
def pon_1021 : aPo := (some (.inl [((.ofNat (nat_lit 1)), (.ofNat (nat_lit 15)), (nat_lit 1))]), [], [sl_915, sl_899, sl_913], [])
def pon_1022 : aPo := (some (.inl [((.ofNat (nat_lit 1)), (.ofNat (nat_lit 15)), (nat_lit 1))]), [], [sl_901, sl_902, sl_913], [])
def ct_618 : aCt := (mX12_number, [ag_868, ag_53, ag_253], ([sl_915, sl_899, sl_913], []), [pon_1015, pon_1021, pon_1022], mdn_925, [], (nat_lit 2))
set_option maxRecDepth 100000 in
theorem S_618 : aSpec wd ct_618 := bChk_ok wx_ok btX12_number (nds := []) (fk := []) (rk := (1, [])) (sp := 0) (fuel := 3000) (by decide +kernel) (lk_d S_X12_next_0 ml_12_121 (lk_d S_481 ml_12_127 (lk_d S_485 ml_12_127 (lk_d S_617 ml_12_149 lk_n)))) odX12_number
def ct_619 : aCt := (mX12_number, [ag_868, ag_53, ag_253], ([sl_901, sl_902, sl_919], []), [pon_38], mdn_879, [], (nat_lit 0))
set_option maxRecDepth 100000 in
theorem S_619 : aSpec wd ct_619 := bChk_ok wx_ok btX12_number (nds := []) (fk := []) (rk := (1, [])) (sp := 0) (fuel := 3000) (by decide +kernel) lk_n odX12_number
def ct_620 : aCt := (mX12_after, [ag_868, ag_912, ag_53, ag_253], ([sl_901, sl_902, sl_913], []), [pon_1018, pon_1021, pon_1022], mdn_925, [], (nat_lit 4))
set_option maxRecDepth 100000 in
theorem S_620 : aSpec wd ct_620 := bChk_ok wx_ok btX12_after (nds := []) (fk := []) (rk := (1, [])) (sp := 0) (fuel := 3000) (by decide +kernel) (lk_d S_616 ml_12_164 (lk_d S_619 ml_12_164 (lk_d S_618 ml_12_164 (lk_d S_482 ml_12_157 lk_n)))) odX12_after
def ct_621 : aCt := (mX12_number, [ag_868, ag_53, ag_253], ([sl_915, sl_899, sl_919], []), [pon_38], mdn_879, [], (nat_lit 0))
set_option maxRecDepth 100000 in
theorem S_621 : aSpec wd ct_621 := bChk_ok wx_ok btX12_number (nds := []) (fk := []) (rk := (1, [])) (sp := 0) (fuel := 3000) (by decide +kernel) lk_n odX12_number
def ct_622 : aCt := (mX12_after, [ag_868, ag_912, ag_53, ag_253], ([sl_915, sl_899, sl_913], []), [pon_1012], mdn_921, [], (nat_lit 3))
set_option maxRecDepth 100000 in
theorem S_622 : aSpec wd ct_622 := bChk_ok wx_ok btX12_after (nds := []) (fk := []) (rk := (1, [])) (sp := 0) (fuel := 3000) (by decide +kernel) (lk_d S_621 ml_12_164 (lk_d S_505 ml_12_157 lk_n)) odX12_after
def ct_623 : aCt := (mX12_number, [ag_868, ag_53, ag_253], ([sl_933, sl_910, sl_919], []), [pon_38], mdn_879, [], (nat_lit 0))
set_option maxRecDepth 100000 in
theorem S_623 : aSpec wd ct_623 := bChk_ok wx_ok btX12_number (nds := []) (fk := []) (rk := (1, [])) (sp := 0) (fuel := 3000) (by decide +kernel) lk_n odX12_number
def ct_624 : aCt := (mX12_after, [ag_868, ag_912, ag_53, ag_253], ([sl_933, sl_910, sl_919], []), [pon_38], mdn_879, [], (nat_lit 1))
set_option maxRecDepth 100000 in
theorem S_624 : aSpec wd ct_624 := bChk_ok wx_ok btX12_after (nds := []) (fk := []) (rk := (1, [])) (sp := 0) (fuel := 3000) (by decide +kernel) (lk_d S_623 ml_12_164 (lk_d S_508 ml_12_157 lk_n)) odX12_after
def pon_1023 : aPo := (none, [], [sl_933, sl_910, sl_919, sl_970], [])
def sl_1024 : (Nat × Nat) × aI := (((nat_lit 200), (nat_lit 5)), [((.ofNat (nat_lit 1)), (.ofNat (nat_lit 12)), (nat_lit 1))])
def pon_1025 : aPo := (none, [], [sl_915, sl_899, sl_913, sl_1024], [])
def pon_1026 : aPo := (none, [], [sl_901, sl_902, sl_913, sl_1024], [])
def mdn_1027 : List (Nat × Nat × Nat) := [((nat_lit 196), (nat_lit 4), (nat_lit 11)), ((nat_lit 196), (nat_lit 13), (nat_lit 14)), ((nat_lit 198), (nat_lit 0), (nat_lit 8)), ((nat_lit 200), (nat_lit 5), (nat_lit 6)), ((nat_lit 200), (nat_lit 59), (nat_lit 107)), ((nat_lit 1000002), (nat_lit 0), (nat_lit 0))]
def lcn_1028 : Nat × aAg := ((nat_lit 1), .inl [((.ofNat (nat_lit 103)), (.ofNat (nat_lit 103)), (nat_lit 1))])
def lcn_1029 : Nat × aAg := ((nat_lit 5), .inl [((.ofNat (nat_lit 0)), (.ofNat (nat_lit 11)), (nat_lit 1))])
def sl_1030 : (Nat × Nat) × aI := (((nat_lit 200), (nat_lit 5)), [((.ofNat (nat_lit 11)), (.ofNat (nat_lit 11)), (nat_lit 1))])
def lcn_1031 : Nat × aAg := ((nat_lit 1), .inl [((.ofNat (nat_lit 99)), (.ofNat (nat_lit 99)), (nat_lit 1))])
def sl_1032 : (Nat × Nat) × aI := (((nat_lit 200), (nat_lit 5)), [((.ofNat (nat_lit 10)), (.ofNat (nat_lit 10)), (nat_lit 1))])
def lcn_1033 : Nat × aAg := ((nat_lit 1), .inl [((.ofNat (nat_lit 95)), (.ofNat (nat_lit 95)), (nat_lit 1))])
def lcn_1034 : Nat × aAg := ((nat_lit 5), .inl [((.ofNat (nat_lit 0)), (.ofNat (nat_lit 9)), (nat_lit 1))])
def sl_1035 : (Nat × Nat) × aI := (((nat_lit 200), (nat_lit 5)), [((.ofNat (nat_lit 9)), (.ofNat (nat_lit 9)), (nat_lit 1))])
def lcn_1036 : Nat × aAg := ((nat_lit 1), .inl [((.ofNat (nat_lit 91)), (.ofNat (nat_lit 91)), (nat_lit 1))])
def lcn_1037 : Nat × aAg := ((nat_lit 5), .inl [((.ofNat (nat_lit 0)), (.ofNat (nat_lit 8)), (nat_lit 1))])
def sl_1038 : (Nat × Nat) × aI := (((nat_lit 200), (nat_lit 5)), [((.ofNat (nat_lit 8)), (.ofNat (nat_lit 8)), (nat_lit 1))])
def lcn_1039 : Nat × aAg := ((nat_lit 1), .inl [((.ofNat (nat_lit 87)), (.ofNat (nat_lit 87)), (nat_lit 1))])
def sl_1040 : (Nat × Nat) × aI := (((nat_lit 200), (nat_lit 5)), [((.ofNat (nat_lit 7)), (.ofNat (nat_lit 7)), (nat_lit 1))])
def lcn_1041 : Nat × aAg := ((nat_lit 1), .inl [((.ofNat (nat_lit 83)), (.ofNat (nat_lit 83)), (nat_lit 1))])
def sl_1042 : (Nat × Nat) × aI := (((nat_lit 200), (nat_lit 5)), [((.ofNat (nat_lit 6)), (.ofNat (nat_lit 6)), (nat_lit 1))])
def lcn_1043 : Nat × aAg := ((nat_lit 1), .inl [((.ofNat (nat_lit 79)), (.ofNat (nat_lit 79)), (nat_lit 1))])
def lcn_1044 : Nat × aAg := ((nat_lit 5), .inl [((.ofNat (nat_lit 0)), (.ofNat (nat_lit 5)), (nat_lit 1))])
def sl_1045 : (Nat × Nat) × aI := (((nat_lit 200), (nat_lit 5)), [((.ofNat (nat_lit 5)), (.ofNat (nat_lit 5)), (nat_lit 1))])
def lcn_1046 : Nat × aAg := ((nat_lit 1), .inl [((.ofNat (nat_lit 75)), (.ofNat (nat_lit 75)), (nat_lit 1))])
def sl_1047 : (Nat × Nat) × aI := (((nat_lit 200), (nat_lit 5)), [((.ofNat (nat_lit 4)), (.ofNat (nat_lit 4)), (nat_lit 1))])
def lcn_1048 : Nat × aAg := ((nat_lit 1), .inl [((.ofNat (nat_lit 71)), (.ofNat (nat_lit 71)), (nat_lit 1))])
def lcn_1049 : Nat × aAg := ((nat_lit 5), .inl [((.ofNat (nat_lit 0)), (.ofNat (nat_lit 3)), (nat_lit 1))])
def sl_1050 : (Nat × Nat) × aI := (((nat_lit 200), (nat_lit 5)), [((.ofNat (nat_lit 3)), (.ofNat (nat_lit 3)), (nat_lit 1))])
def lcn_1051 : Nat × aAg := ((nat_lit 1), .inl [((.ofNat (nat_lit 67)), (.ofNat (nat_lit 67)), (nat_lit 1))])
def lcn_1052 : Nat × aAg := ((nat_lit 5), .inl [((.ofNat (nat_lit 0)), (.ofNat (nat_lit 2)), (nat_lit 1))])
def sl_1053 : (Nat × Nat) × aI := (((nat_lit 200), (nat_lit 5)), [((.ofNat (nat_lit 2)), (.ofNat (nat_lit 2)), (nat_lit 1))])
def lcn_1054 : Nat × aAg := ((nat_lit 1), .inl [((.ofNat (nat_lit 63)), (.ofNat (nat_lit 63)), (nat_lit 1))])
def sl_1055 : (Nat × Nat) × aI := (((nat_lit 200), (nat_lit 5)), [((.ofNat (nat_lit 1)), (.ofNat (nat_lit 1)), (nat_lit 1))])
def lcn_1056 : Nat × aAg := ((nat_lit 1), .inl [((.ofNat (nat_lit 59)), (.ofNat (nat_lit 59)), (nat_lit 1))])
def sl_1057 : (Nat × Nat) × aI := (((nat_lit 200), (nat_lit 5)), [((.ofNat (nat_lit 0)), (.ofNat (nat_lit 0)), (nat_lit 1))])
def sl_1058 : (Nat × Nat) × aI := (((nat_lit 200), (nat_lit 61)), [((.ofNat (nat_lit 1)), (.ofNat (nat_lit 99)), (nat_lit 1))])
def sl_1059 : (Nat × Nat) × aI := (((nat_lit 200), (nat_lit 61)), [((.ofNat (nat_lit 1)), (.ofNat (nat_lit 1)), (nat_lit 1))])
def sl_1060 : (Nat × Nat) × aI := (((nat_lit 200), (nat_lit 65)), [((.ofNat (nat_lit 1)), (.ofNat (nat_lit 99)), (nat_lit 1))])
def sl_1061 : (Nat × Nat) × aI := (((nat_lit 200), (nat_lit 65)), [((.ofNat (nat_lit 1)), (.ofNat (nat_lit 1)), (nat_lit 1))])
def sl_1062 : (Nat × Nat) × aI := (((nat_lit 200), (nat_lit 62)), [((.ofNat (nat_lit 1)), (.ofNat (nat_lit 15)), (nat_lit 1))])
def sl_1063 : (Nat × Nat) × aI := (((nat_lit 200), (nat_lit 62)), [((.ofNat (nat_lit 1)), (.ofNat (nat_lit 1)), (nat_lit 1))])
def sl_1064 : (Nat × Nat) × aI := (((nat_lit 200), (nat_lit 69)), [((.ofNat (nat_lit 1)), (.ofNat (nat_lit 99)), (nat_lit 1))])
def sl_1065 : (Nat × Nat) × aI := (((nat_lit 200), (nat_lit 69)), [((.ofNat (nat_lit 1)), (.ofNat (nat_lit 1)), (nat_lit 1))])
def sl_1066 : (Nat × Nat) × aI := (((nat_lit 200), (nat_lit 66)), [((.ofNat (nat_lit 1)), (.ofNat (nat_lit 15)), (nat_lit 1))])
def sl_1067 : (Nat × Nat) × aI := (((nat_lit 200), (nat_lit 66)), [((.ofNat (nat_lit 1)), (.ofNat (nat_lit 1)), (nat_lit 1))])
def sl_1068 : (Nat × Nat) × aI := (((nat_lit 200), (nat_lit 73)), [((.ofNat (nat_lit 1)), (.ofNat (nat_lit 99)), (nat_lit 1))])
def sl_1069 : (Nat × Nat) × aI := (((nat_lit 200), (nat_lit 73)), [((.ofNat (nat_lit 1)), (.ofNat (nat_lit 1)), (nat_lit 1))])
def sl_1070 : (Nat × Nat) × aI := (((nat_lit 200), (nat_lit 70)), [((.ofNat (nat_lit 1)), (.ofNat (nat_lit 15)), (nat_lit 1))])
def sl_1071 : (Nat × Nat) × aI := (((nat_lit 200), (nat_lit 70)), [((.ofNat (nat_lit 1)), (.ofNat (nat_lit 1)), (nat_lit 1))])
def sl_1072 : (Nat × Nat) × aI := (((nat_lit 200), (nat_lit 77)), [((.ofNat (nat_lit 1)), (.ofNat (nat_lit 99)), (nat_lit 1))])
def sl_1073 : (Nat × Nat) × aI := (((nat_lit 200), (nat_lit 77)), [((.ofNat (nat_lit 1)), (.ofNat (nat_lit 1)), (nat_lit 1))])
def sl_1074 : (Nat × Nat) × aI := (((nat_lit 200), (nat_lit 74)), [((.ofNat (nat_lit 1)), (.ofNat (nat_lit 15)), (nat_lit 1))])
def sl_1075 : (Nat × Nat) × aI := (((nat_lit 200), (nat_lit 74)), [((.ofNat (nat_lit 1)), (.ofNat (nat_lit 1)), (nat_lit 1))])
def sl_1076 : (Nat × Nat) × aI := (((nat_lit 200), (nat_lit 81)), [((.ofNat (nat_lit 1)), (.ofNat (nat_lit 99)), (nat_lit 1))])
def sl_1077 : (Nat × Nat) × aI := (((nat_lit 200), (nat_lit 81)), [((.ofNat (nat_lit 1)), (.ofNat (nat_lit 1)), (nat_lit 1))])
def sl_1078 : (Nat × Nat) × aI := (((nat_lit 200), (nat_lit 78)), [((.ofNat (nat_lit 1)), (.ofNat (nat_lit 15)), (nat_lit 1))])
def sl_1079 : (Nat × Nat) × aI := (((nat_lit 200), (nat_lit 78)), [((.ofNat (nat_lit 1)), (.ofNat (nat_lit 1)), (nat_lit 1))])
def lcn_1080 : Nat × aAg := ((nat_lit 5), .inl [((.ofNat (nat_lit 8)), (.ofNat (nat_lit 8)), (nat_lit 1))])
def sl_1081 : (Nat × Nat) × aI := (((nat_lit 200), (nat_lit 85)), [((.ofNat (nat_lit 1)), (.ofNat (nat_lit 99)), (nat_lit 1))])
def sl_1082 : (Nat × Nat) × aI := (((nat_lit 200), (nat_lit 85)), [((.ofNat (nat_lit 1)), (.ofNat (nat_lit 1)), (nat_lit 1))])
def sl_1083 : (Nat × Nat) × aI := (((nat_lit 200), (nat_lit 82)), [((.ofNat (nat_lit 1)), (.ofNat (nat_lit 15)), (nat_lit 1))])
def sl_1084 : (Nat × Nat) × aI := (((nat_lit 200), (nat_lit 82)), [((.ofNat (nat_lit 1)), (.ofNat (nat_lit 1)), (nat_lit 1))])
def lcn_1085 : Nat × aAg := ((nat_lit 5), .inl [((.ofNat (nat_lit 9)), (.ofNat (nat_lit 9)), (nat_lit 1))])
def sl_1086 : (Nat × Nat) × aI := (((nat_lit 200), (nat_lit 89)), [((.ofNat (nat_lit 1)), (.ofNat (nat_lit 99)), (nat_lit 1))])
def sl_1087 : (Nat × Nat) × aI := (((nat_lit 200), (nat_lit 89)), [((.ofNat (nat_lit 1)), (.ofNat (nat_lit 1)), (nat_lit 1))])
def sl_1088 : (Nat × Nat) × aI := (((nat_lit 200), (nat_lit 86)), [((.ofNat (nat_lit 1)), (.ofNat (nat_lit 15)), (nat_lit 1))])
def sl_1089 : (Nat × Nat) × aI := (((nat_lit 200), (nat_lit 86)), [((.ofNat (nat_lit 1)), (.ofNat (nat_lit 1)), (nat_lit 1))])
def lcn_1090 : Nat × aAg := ((nat_lit 5), .inl [((.ofNat (nat_lit 11)), (.ofNat (nat_lit 11)), (nat_lit 1))])
def lcn_1091 : Nat × aAg := ((nat_lit 5), .inl [((.ofNat (nat_lit 10)), (.ofNat (nat_lit 11)), (nat_lit 1))])
def sl_1092 : (Nat × Nat) × aI := (((nat_lit 200), (nat_lit 93)), [((.ofNat (nat_lit 1)), (.ofNat (nat_lit 99)), (nat_lit 1))])
def sl_1093 : (Nat × Nat) × aI := (((nat_lit 200), (nat_lit 93)), [((.ofNat (nat_lit 1)), (.ofNat (nat_lit 1)), (nat_lit 1))])
def sl_1094 : (Nat × Nat) × aI := (((nat_lit 200), (nat_lit 90)), [((.ofNat (nat_lit 1)), (.ofNat (nat_lit 15)), (nat_lit 1))])
def sl_1095 : (Nat × Nat) × aI := (((nat_lit 200), (nat_lit 90)), [((.ofNat (nat_lit 1)), (.ofNat (nat_lit 1)), (nat_lit 1))])
def sl_1096 : (Nat × Nat) × aI := (((nat_lit 200), (nat_lit 97)), [((.ofNat (nat_lit 1)), (.ofNat (nat_lit 99)), (nat_lit 1))])
def sl_1097 : (Nat × Nat) × aI := (((nat_lit 200), (nat_lit 97)), [((.ofNat (nat_lit 1)), (.ofNat (nat_lit 1)), (nat_lit 1))])
def sl_1098 : (Nat × Nat) × aI := (((nat_lit 200), (nat_lit 94)), [((.ofNat (nat_lit 1)), (.ofNat (nat_lit 15)), (nat_lit 1))])
def sl_1099 : (Nat × Nat) × aI := (((nat_lit 200), (nat_lit 94)), [((.ofNat (nat_lit 1)), (.ofNat (nat_lit 1)), (nat_lit 1))])
def sl_1100 : (Nat × Nat) × aI := (((nat_lit 200), (nat_lit 105)), [((.ofNat (nat_lit 1)), (.ofNat (nat_lit 99)), (nat_lit 1))])
def sl_1101 : (Nat × Nat) × aI := (((nat_lit 200), (nat_lit 105)), [((.ofNat (nat_lit 1)), (.ofNat (nat_lit 1)), (nat_lit 1))])
def sl_1102 : (Nat × Nat) × aI := (((nat_lit 200), (nat_lit 101)), [((.ofNat (nat_lit 1)), (.ofNat (nat_lit 99)), (nat_lit 1))])
def sl_1103 : (Nat × Nat) × aI := (((nat_lit 200), (nat_lit 101)), [((.ofNat (nat_lit 1)), (.ofNat (nat_lit 1)), (nat_lit 1))])
def sl_1104 : (Nat × Nat) × aI := (((nat_lit 200), (nat_lit 98)), [((.ofNat (nat_lit 1)), (.ofNat (nat_lit 15)), (nat_lit 1))])
def sl_1105 : (Nat × Nat) × aI := (((nat_lit 200), (nat_lit 98)), [((.ofNat (nat_lit 1)), (.ofNat (nat_lit 1)), (nat_lit 1))])
def sl_1106 : (Nat × Nat) × aI := (((nat_lit 200), (nat_lit 106)), [((.ofNat (nat_lit 1)), (.ofNat (nat_lit 15)), (nat_lit 1))])
def sl_1107 : (Nat × Nat) × aI := (((nat_lit 200), (nat_lit 106)), [((.ofNat (nat_lit 1)), (.ofNat (nat_lit 1)), (nat_lit 1))])
def sl_1108 : (Nat × Nat) × aI := (((nat_lit 200), (nat_lit 102)), [((.ofNat (nat_lit 1)), (.ofNat (nat_lit 15)), (nat_lit 1))])
def sl_1109 : (Nat × Nat) × aI := (((nat_lit 200), (nat_lit 102)), [((.ofNat (nat_lit 1)), (.ofNat (nat_lit 1)), (nat_lit 1))])
def ct_625 : aCt := (mX12_wayLine, [ag_868], ([sl_901, sl_902, sl_913, sl_970], []), [pon_1023, pon_1025, pon_1026], mdn_1027, [], (nat_lit 5))
set_option maxRecDepth 100000 in
theorem S_625 : aSpec wd ct_625 := bChk_ok wx_ok btX12_wayLine (nds := [((nat_lit 48), [lcn_905, lcn_1028, lcn_251, lcn_144, lcn_454, lcn_1029], [], [sl_933, sl_910, sl_1030], [], (28, [(2, -12), (3, -1)])), ((nat_lit 48), [lcn_905, lcn_1031, lcn_251, lcn_144, lcn_454, lcn_1029], [], [sl_933, sl_910, sl_1032], [], (28, [(2, -12), (3, -1)])), ((nat_lit 48), [lcn_905, lcn_1033, lcn_251, lcn_144, lcn_454, lcn_1034], [], [sl_933, sl_910, sl_1035], [], (24, [(2, -10), (3, -1)])), ((nat_lit 48), [lcn_905, lcn_1036, lcn_251, lcn_144, lcn_454, lcn_1037], [], [sl_933, sl_910, sl_1038], [], (22, [(2, -9), (3, -1)])), ((nat_lit 48), [lcn_905, lcn_1039, lcn_251, lcn_144, lcn_454, lcn_655], [], [sl_933, sl_910, sl_1040], [], (20, [(2, -8), (3, -1)])), ((nat_lit 48), [lcn_905, lcn_1041, lcn_251, lcn_144, lcn_454, lcn_1000], [], [sl_933, sl_910, sl_1042], [], (18, [(2, -7), (3, -1)])), ((nat_lit 48), [lcn_905, lcn_1043, lcn_251, lcn_144, lcn_454, lcn_1044], [], [sl_933, sl_910, sl_1045], [], (16, [(2, -6), (3, -1)])), ((nat_lit 48), [lcn_905, lcn_1046, lcn_251, lcn_144, lcn_454, lcn_402], [], [sl_933, sl_910, sl_1047], [], (14, [(2, -5), (3, -1)])), ((nat_lit 48), [lcn_905, lcn_1048, lcn_251, lcn_144, lcn_454, lcn_1049], [], [sl_933, sl_910, sl_1050], [], (12, [(2, -4), (3, -1)])), ((nat_lit 48), [lcn_905, lcn_1051, lcn_251, lcn_144, lcn_454, lcn_1052], [], [sl_933, sl_910, sl_1053], [], (10, [(2, -3), (3, -1)])), ((nat_lit 48), [lcn_905, lcn_1054, lcn_251, lcn_144, lcn_454, lcn_527], [], [sl_933, sl_910, sl_1055], [], (8, [(2, -2), (3, -1)])), ((nat_lit 48), [lcn_905, lcn_1056, lcn_251, lcn_144, lcn_454, lcn_475], [], [sl_933, sl_910, sl_1057], [], (5, [])), ((nat_lit 131), [lcn_905, lcn_1056, lcn_251, lcn_144, lcn_424, lcn_475], [], [sl_901, sl_902, sl_913, sl_1057], [], (4, [])), ((nat_lit 131), [lcn_905, lcn_1056, lcn_251, lcn_144, lcn_424, lcn_475], [], [sl_915, sl_899, sl_913, sl_1057], [], (4, [])), ((nat_lit 131), [lcn_905, lcn_1054, lcn_251, lcn_144, lcn_424, lcn_473], [], [sl_901, sl_902, sl_913, sl_1055], [], (4, [])), ((nat_lit 131), [lcn_905, lcn_1054, lcn_251, lcn_144, lcn_424, lcn_473], [], [sl_915, sl_899, sl_913, sl_1055], [], (4, [])), ((nat_lit 140), [lcn_905, lcn_1056, lcn_251, lcn_144, lcn_424, lcn_475], [], [sl_901, sl_902, sl_913, sl_1057], [], (3, [])), ((nat_lit 140), [lcn_905, lcn_1056, lcn_251, lcn_144, lcn_424, lcn_475], [], [sl_915, sl_899, sl_913, sl_1057], [], (3, [])), ((nat_lit 131), [lcn_905, lcn_1051, lcn_251, lcn_144, lcn_424, lcn_471], [], [sl_901, sl_902, sl_913, sl_1053], [], (4, [])), ((nat_lit 131), [lcn_905, lcn_1051, lcn_251, lcn_144, lcn_424, lcn_471], [], [sl_915, sl_899, sl_913, sl_1053], [], (4, [])), ((nat_lit 140), [lcn_905, lcn_1054, lcn_251, lcn_144, lcn_424, lcn_473], [], [sl_901, sl_902, sl_913, sl_1055], [], (3, [])), ((nat_lit 140), [lcn_905, lcn_1054, lcn_251, lcn_144, lcn_424, lcn_473], [], [sl_915, sl_899, sl_913, sl_1055], [], (3, [])), ((nat_lit 157), [lcn_905, lcn_1056, lcn_251, lcn_144, lcn_424, lcn_475], [], [sl_901, sl_902, sl_913, sl_1057, sl_1058], [], (2, [])), ((nat_lit 157), [lcn_905, lcn_1056, lcn_251, lcn_144, lcn_424, lcn_475], [], [sl_915, sl_899, sl_913, sl_1057, sl_1058], [], (2, [])), ((nat_lit 157), [lcn_905, lcn_1056, lcn_251, lcn_144, lcn_424, lcn_475], [], [sl_933, sl_910, sl_919, sl_1057, sl_1059], [], (2, [])), ((nat_lit 131), [lcn_905, lcn_1048, lcn_251, lcn_144, lcn_424, lcn_469], [], [sl_901, sl_902, sl_913, sl_1050], [], (4, [])), ((nat_lit 131), [lcn_905, lcn_1048, lcn_251, lcn_144, lcn_424, lcn_469], [], [sl_915, sl_899, sl_913, sl_1050], [], (4, [])), ((nat_lit 140), [lcn_905, lcn_1051, lcn_251, lcn_144, lcn_424, lcn_471], [], [sl_901, sl_902, sl_913, sl_1053], [], (3, [])), ((nat_lit 140), [lcn_905, lcn_1051, lcn_251, lcn_144, lcn_424, lcn_471], [], [sl_915, sl_899, sl_913, sl_1053], [], (3, [])), ((nat_lit 157), [lcn_905, lcn_1054, lcn_251, lcn_144, lcn_424, lcn_473], [], [sl_901, sl_902, sl_913, sl_1055, sl_1060], [], (2, [])), ((nat_lit 157), [lcn_905, lcn_1054, lcn_251, lcn_144, lcn_424, lcn_473], [], [sl_915, sl_899, sl_913, sl_1055, sl_1060], [], (2, [])), ((nat_lit 157), [lcn_905, lcn_1054, lcn_251, lcn_144, lcn_424, lcn_473], [], [sl_933, sl_910, sl_919, sl_1055, sl_1061], [], (2, [])), ((nat_lit 174), [lcn_905, lcn_1056, lcn_251, lcn_144, lcn_424, lcn_475], [], [sl_901, sl_902, sl_913, sl_1057, sl_1058, sl_1062], [], (1, [])), ((nat_lit 174), [lcn_905, lcn_1056, lcn_251, lcn_144, lcn_424, lcn_475], [], [sl_915, sl_899, sl_913, sl_1057, sl_1058, sl_1062], [], (1, [])), ((nat_lit 174), [lcn_905, lcn_1056, lcn_251, lcn_144, lcn_424, lcn_475], [], [sl_933, sl_910, sl_919, sl_1057, sl_1058, sl_1063], [], (1, [])), ((nat_lit 131), [lcn_905, lcn_1046, lcn_251, lcn_144, lcn_424, lcn_467], [], [sl_901, sl_902, sl_913, sl_1047], [], (4, [])), ((nat_lit 131), [lcn_905, lcn_1046, lcn_251, lcn_144, lcn_424, lcn_467], [], [sl_915, sl_899, sl_913, sl_1047], [], (4, [])), ((nat_lit 140), [lcn_905, lcn_1048, lcn_251, lcn_144, lcn_424, lcn_469], [], [sl_901, sl_902, sl_913, sl_1050], [], (3, [])), ((nat_lit 140), [lcn_905, lcn_1048, lcn_251, lcn_144, lcn_424, lcn_469], [], [sl_915, sl_899, sl_913, sl_1050], [], (3, [])), ((nat_lit 157), [lcn_905, lcn_1051, lcn_251, lcn_144, lcn_424, lcn_471], [], [sl_901, sl_902, sl_913, sl_1053, sl_1064], [], (2, [])), ((nat_lit 157), [lcn_905, lcn_1051, lcn_251, lcn_144, lcn_424, lcn_471], [], [sl_915, sl_899, sl_913, sl_1053, sl_1064], [], (2, [])), ((nat_lit 157), [lcn_905, lcn_1051, lcn_251, lcn_144, lcn_424, lcn_471], [], [sl_933, sl_910, sl_919, sl_1053, sl_1065], [], (2, [])), ((nat_lit 174), [lcn_905, lcn_1054, lcn_251, lcn_144, lcn_424, lcn_473], [], [sl_901, sl_902, sl_913, sl_1055, sl_1060, sl_1066], [], (1, [])), ((nat_lit 174), [lcn_905, lcn_1054, lcn_251, lcn_144, lcn_424, lcn_473], [], [sl_915, sl_899, sl_913, sl_1055, sl_1060, sl_1066], [], (1, [])), ((nat_lit 174), [lcn_905, lcn_1054, lcn_251, lcn_144, lcn_424, lcn_473], [], [sl_933, sl_910, sl_919, sl_1055, sl_1060, sl_1067], [], (1, [])), ((nat_lit 191), [lcn_905, lcn_1056, lcn_251, lcn_144, lcn_424, lcn_475], [], [sl_901, sl_902, sl_913, sl_1055, sl_1058, sl_1062], [], (0, [])), ((nat_lit 191), [lcn_905, lcn_1056, lcn_251, lcn_144, lcn_424, lcn_475], [], [sl_915, sl_899, sl_913, sl_1055, sl_1058, sl_1062], [], (0, [])), ((nat_lit 191), [lcn_905, lcn_1056, lcn_251, lcn_144, lcn_424, lcn_475], [], [sl_933, sl_910, sl_919, sl_1057, sl_1058, sl_1063], [], (0, [])), ((nat_lit 131), [lcn_905, lcn_1043, lcn_251, lcn_144, lcn_424, lcn_465], [], [sl_901, sl_902, sl_913, sl_1045], [], (4, [])), ((nat_lit 131), [lcn_905, lcn_1043, lcn_251, lcn_144, lcn_424, lcn_465], [], [sl_915, sl_899, sl_913, sl_1045], [], (4, [])), ((nat_lit 140), [lcn_905, lcn_1046, lcn_251, lcn_144, lcn_424, lcn_467], [], [sl_901, sl_902, sl_913, sl_1047], [], (3, [])), ((nat_lit 140), [lcn_905, lcn_1046, lcn_251, lcn_144, lcn_424, lcn_467], [], [sl_915, sl_899, sl_913, sl_1047], [], (3, [])), ((nat_lit 157), [lcn_905, lcn_1048, lcn_251, lcn_144, lcn_424, lcn_469], [], [sl_901, sl_902, sl_913, sl_1050, sl_1068], [], (2, [])), ((nat_lit 157), [lcn_905, lcn_1048, lcn_251, lcn_144, lcn_424, lcn_469], [], [sl_915, sl_899, sl_913, sl_1050, sl_1068], [], (2, [])), ((nat_lit 157), [lcn_905, lcn_1048, lcn_251, lcn_144, lcn_424, lcn_469], [], [sl_933, sl_910, sl_919, sl_1050, sl_1069], [], (2, [])), ((nat_lit 174), [lcn_905, lcn_1051, lcn_251, lcn_144, lcn_424, lcn_471], [], [sl_901, sl_902, sl_913, sl_1053, sl_1064, sl_1070], [], (1, [])), ((nat_lit 174), [lcn_905, lcn_1051, lcn_251, lcn_144, lcn_424, lcn_471], [], [sl_915, sl_899, sl_913, sl_1053, sl_1064, sl_1070], [], (1, [])), ((nat_lit 174), [lcn_905, lcn_1051, lcn_251, lcn_144, lcn_424, lcn_471], [], [sl_933, sl_910, sl_919, sl_1053, sl_1064, sl_1071], [], (1, [])), ((nat_lit 191), [lcn_905, lcn_1054, lcn_251, lcn_144, lcn_424, lcn_473], [], [sl_901, sl_902, sl_913, sl_1053, sl_1060, sl_1066], [], (0, [])), ((nat_lit 191), [lcn_905, lcn_1054, lcn_251, lcn_144, lcn_424, lcn_473], [], [sl_915, sl_899, sl_913, sl_1053, sl_1060, sl_1066], [], (0, [])), ((nat_lit 191), [lcn_905, lcn_1054, lcn_251, lcn_144, lcn_424, lcn_473], [], [sl_933, sl_910, sl_919, sl_1055, sl_1060, sl_1067], [], (0, [])), ((nat_lit 131), [lcn_905, lcn_1041, lcn_251, lcn_144, lcn_424, lcn_463], [], [sl_901, sl_902, sl_913, sl_1042], [], (4, [])), ((nat_lit 131), [lcn_905, lcn_1041, lcn_251, lcn_144, lcn_424, lcn_463], [], [sl_915, sl_899, sl_913, sl_1042], [], (4, [])), ((nat_lit 140), [lcn_905, lcn_1043, lcn_251, lcn_144, lcn_424, lcn_465], [], [sl_901, sl_902, sl_913, sl_1045], [], (3, [])), ((nat_lit 140), [lcn_905, lcn_1043, lcn_251, lcn_144, lcn_424, lcn_465], [], [sl_915, sl_899, sl_913, sl_1045], [], (3, [])), ((nat_lit 157), [lcn_905, lcn_1046, lcn_251, lcn_144, lcn_424, lcn_467], [], [sl_901, sl_902, sl_913, sl_1047, sl_1072], [], (2, [])), ((nat_lit 157), [lcn_905, lcn_1046, lcn_251, lcn_144, lcn_424, lcn_467], [], [sl_915, sl_899, sl_913, sl_1047, sl_1072], [], (2, [])), ((nat_lit 157), [lcn_905, lcn_1046, lcn_251, lcn_144, lcn_424, lcn_467], [], [sl_933, sl_910, sl_919, sl_1047, sl_1073], [], (2, [])), ((nat_lit 174), [lcn_905, lcn_1048, lcn_251, lcn_144, lcn_424, lcn_469], [], [sl_901, sl_902, sl_913, sl_1050, sl_1068, sl_1074], [], (1, [])), ((nat_lit 174), [lcn_905, lcn_1048, lcn_251, lcn_144, lcn_424, lcn_469], [], [sl_915, sl_899, sl_913, sl_1050, sl_1068, sl_1074], [], (1, [])), ((nat_lit 174), [lcn_905, lcn_1048, lcn_251, lcn_144, lcn_424, lcn_469], [], [sl_933, sl_910, sl_919, sl_1050, sl_1068, sl_1075], [], (1, [])), ((nat_lit 191), [lcn_905, lcn_1051, lcn_251, lcn_144, lcn_424, lcn_471], [], [sl_901, sl_902, sl_913, sl_1050, sl_1064, sl_1070], [], (0, [])), ((nat_lit 191), [lcn_905, lcn_1051, lcn_251, lcn_144, lcn_424, lcn_471], [], [sl_915, sl_899, sl_913, sl_1050, sl_1064, sl_1070], [], (0, [])), ((nat_lit 191), [lcn_905, lcn_1051, lcn_251, lcn_144, lcn_424, lcn_471], [], [sl_933, sl_910, sl_919, sl_1053, sl_1064, sl_1071], [], (0, [])), ((nat_lit 131), [lcn_905, lcn_1039, lcn_251, lcn_144, lcn_424, lcn_459], [], [sl_901, sl_902, sl_913, sl_1040], [], (4, [])), ((nat_lit 131), [lcn_905, lcn_1039, lcn_251, lcn_144, lcn_424, lcn_459], [], [sl_915, sl_899, sl_913, sl_1040], [], (4, [])), ((nat_lit 140), [lcn_905, lcn_1041, lcn_251, lcn_144, lcn_424, lcn_463], [], [sl_901, sl_902, sl_913, sl_1042], [], (3, [])), ((nat_lit 140), [lcn_905, lcn_1041, lcn_251, lcn_144, lcn_424, lcn_463], [], [sl_915, sl_899, sl_913, sl_1042], [], (3, [])), ((nat_lit 157), [lcn_905, lcn_1043, lcn_251, lcn_144, lcn_424, lcn_465], [], [sl_901, sl_902, sl_913, sl_1045, sl_1076], [], (2, [])), ((nat_lit 157), [lcn_905, lcn_1043, lcn_251, lcn_144, lcn_424, lcn_465], [], [sl_915, sl_899, sl_913, sl_1045, sl_1076], [], (2, [])), ((nat_lit 157), [lcn_905, lcn_1043, lcn_251, lcn_144, lcn_424, lcn_465], [], [sl_933, sl_910, sl_919, sl_1045, sl_1077], [], (2, [])), ((nat_lit 174), [lcn_905, lcn_1046, lcn_251, lcn_144, lcn_424, lcn_467], [], [sl_901, sl_902, sl_913, sl_1047, sl_1072, sl_1078], [], (1, [])), ((nat_lit 174), [lcn_905, lcn_1046, lcn_251, lcn_144, lcn_424, lcn_467], [], [sl_915, sl_899, sl_913, sl_1047, sl_1072, sl_1078], [], (1, [])), ((nat_lit 174), [lcn_905, lcn_1046, lcn_251, lcn_144, lcn_424, lcn_467], [], [sl_933, sl_910, sl_919, sl_1047, sl_1072, sl_1079], [], (1, [])), ((nat_lit 191), [lcn_905, lcn_1048, lcn_251, lcn_144, lcn_424, lcn_469], [], [sl_901, sl_902, sl_913, sl_1047, sl_1068, sl_1074], [], (0, [])), ((nat_lit 191), [lcn_905, lcn_1048, lcn_251, lcn_144, lcn_424, lcn_469], [], [sl_915, sl_899, sl_913, sl_1047, sl_1068, sl_1074], [], (0, [])), ((nat_lit 191), [lcn_905, lcn_1048, lcn_251, lcn_144, lcn_424, lcn_469], [], [sl_933, sl_910, sl_919, sl_1050, sl_1068, sl_1075], [], (0, [])), ((nat_lit 131), [lcn_905, lcn_1036, lcn_251, lcn_144, lcn_424, lcn_1080], [], [sl_901, sl_902, sl_913, sl_1038], [], (4, [])), ((nat_lit 131), [lcn_905, lcn_1036, lcn_251, lcn_144, lcn_424, lcn_1080], [], [sl_915, sl_899, sl_913, sl_1038], [], (4, [])), ((nat_lit 140), [lcn_905, lcn_1039, lcn_251, lcn_144, lcn_424, lcn_459], [], [sl_901, sl_902, sl_913, sl_1040], [], (3, [])), ((nat_lit 140), [lcn_905, lcn_1039, lcn_251, lcn_144, lcn_424, lcn_459], [], [sl_915, sl_899, sl_913, sl_1040], [], (3, [])), ((nat_lit 157), [lcn_905, lcn_1041, lcn_251, lcn_144, lcn_424, lcn_463], [], [sl_901, sl_902, sl_913, sl_1042, sl_1081], [], (2, [])), ((nat_lit 157), [lcn_905, lcn_1041, lcn_251, lcn_144, lcn_424, lcn_463], [], [sl_915, sl_899, sl_913, sl_1042, sl_1081], [], (2, [])), ((nat_lit 157), [lcn_905, lcn_1041, lcn_251, lcn_144, lcn_424, lcn_463], [], [sl_933, sl_910, sl_919, sl_1042, sl_1082], [], (2, [])), ((nat_lit 174), [lcn_905, lcn_1043, lcn_251, lcn_144, lcn_424, lcn_465], [], [sl_901, sl_902, sl_913, sl_1045, sl_1076, sl_1083], [], (1, [])), ((nat_lit 174), [lcn_905, lcn_1043, lcn_251, lcn_144, lcn_424, lcn_465], [], [sl_915, sl_899, sl_913, sl_1045, sl_1076, sl_1083], [], (1, [])), ((nat_lit 174), [lcn_905, lcn_1043, lcn_251, lcn_144, lcn_424, lcn_465], [], [sl_933, sl_910, sl_919, sl_1045, sl_1076, sl_1084], [], (1, [])), ((nat_lit 191), [lcn_905, lcn_1046, lcn_251, lcn_144, lcn_424, lcn_467], [], [sl_901, sl_902, sl_913, sl_1045, sl_1072, sl_1078], [], (0, [])), ((nat_lit 191), [lcn_905, lcn_1046, lcn_251, lcn_144, lcn_424, lcn_467], [], [sl_915, sl_899, sl_913, sl_1045, sl_1072, sl_1078], [], (0, [])), ((nat_lit 191), [lcn_905, lcn_1046, lcn_251, lcn_144, lcn_424, lcn_467], [], [sl_933, sl_910, sl_919, sl_1047, sl_1072, sl_1079], [], (0, [])), ((nat_lit 131), [lcn_905, lcn_1033, lcn_251, lcn_144, lcn_424, lcn_1085], [], [sl_901, sl_902, sl_913, sl_1035], [], (4, [])), ((nat_lit 131), [lcn_905, lcn_1033, lcn_251, lcn_144, lcn_424, lcn_1085], [], [sl_915, sl_899, sl_913, sl_1035], [], (4, [])), ((nat_lit 140), [lcn_905, lcn_1036, lcn_251, lcn_144, lcn_424, lcn_1080], [], [sl_901, sl_902, sl_913, sl_1038], [], (3, [])), ((nat_lit 140), [lcn_905, lcn_1036, lcn_251, lcn_144, lcn_424, lcn_1080], [], [sl_915, sl_899, sl_913, sl_1038], [], (3, [])), ((nat_lit 157), [lcn_905, lcn_1039, lcn_251, lcn_144, lcn_424, lcn_459], [], [sl_901, sl_902, sl_913, sl_1040, sl_1086], [], (2, [])), ((nat_lit 157), [lcn_905, lcn_1039, lcn_251, lcn_144, lcn_424, lcn_459], [], [sl_915, sl_899, sl_913, sl_1040, sl_1086], [], (2, [])), ((nat_lit 157), [lcn_905, lcn_1039, lcn_251, lcn_144, lcn_424, lcn_459], [], [sl_933, sl_910, sl_919, sl_1040, sl_1087], [], (2, [])), ((nat_lit 174), [lcn_905, lcn_1041, lcn_251, lcn_144, lcn_424, lcn_463], [], [sl_901, sl_902, sl_913, sl_1042, sl_1081, sl_1088], [], (1, [])), ((nat_lit 174), [lcn_905, lcn_1041, lcn_251, lcn_144, lcn_424, lcn_463], [], [sl_915, sl_899, sl_913, sl_1042, sl_1081, sl_1088], [], (1, [])), ((nat_lit 174), [lcn_905, lcn_1041, lcn_251, lcn_144, lcn_424, lcn_463], [], [sl_933, sl_910, sl_919, sl_1042, sl_1081, sl_1089], [], (1, [])), ((nat_lit 191), [lcn_905, lcn_1043, lcn_251, lcn_144, lcn_424, lcn_465], [], [sl_901, sl_902, sl_913, sl_1042, sl_1076, sl_1083], [], (0, [])), ((nat_lit 191), [lcn_905, lcn_1043, lcn_251, lcn_144, lcn_424, lcn_465], [], [sl_915, sl_899, sl_913, sl_1042, sl_1076, sl_1083], [], (0, [])), ((nat_lit 191), [lcn_905, lcn_1043, lcn_251, lcn_144, lcn_424, lcn_465], [], [sl_933, sl_910, sl_919, sl_1045, sl_1076, sl_1084], [], (0, [])), ((nat_lit 131), [lcn_905, lcn_1028, lcn_251, lcn_144, lcn_424, lcn_1090], [], [sl_901, sl_902, sl_913, sl_1030], [], (4, [])), ((nat_lit 131), [lcn_905, lcn_1028, lcn_251, lcn_144, lcn_424, lcn_1090], [], [sl_915, sl_899, sl_913, sl_1030], [], (4, [])), ((nat_lit 131), [lcn_905, lcn_1031, lcn_251, lcn_144, lcn_424, lcn_1091], [], [sl_901, sl_902, sl_913, sl_1032], [], (4, [])), ((nat_lit 131), [lcn_905, lcn_1031, lcn_251, lcn_144, lcn_424, lcn_1091], [], [sl_915, sl_899, sl_913, sl_1032], [], (4, [])), ((nat_lit 140), [lcn_905, lcn_1033, lcn_251, lcn_144, lcn_424, lcn_1085], [], [sl_901, sl_902, sl_913, sl_1035], [], (3, [])), ((nat_lit 140), [lcn_905, lcn_1033, lcn_251, lcn_144, lcn_424, lcn_1085], [], [sl_915, sl_899, sl_913, sl_1035], [], (3, [])), ((nat_lit 157), [lcn_905, lcn_1036, lcn_251, lcn_144, lcn_424, lcn_1080], [], [sl_901, sl_902, sl_913, sl_1038, sl_1092], [], (2, [])), ((nat_lit 157), [lcn_905, lcn_1036, lcn_251, lcn_144, lcn_424, lcn_1080], [], [sl_915, sl_899, sl_913, sl_1038, sl_1092], [], (2, [])), ((nat_lit 157), [lcn_905, lcn_1036, lcn_251, lcn_144, lcn_424, lcn_1080], [], [sl_933, sl_910, sl_919, sl_1038, sl_1093], [], (2, [])), ((nat_lit 174), [lcn_905, lcn_1039, lcn_251, lcn_144, lcn_424, lcn_459], [], [sl_901, sl_902, sl_913, sl_1040, sl_1086, sl_1094], [], (1, [])), ((nat_lit 174), [lcn_905, lcn_1039, lcn_251, lcn_144, lcn_424, lcn_459], [], [sl_915, sl_899, sl_913, sl_1040, sl_1086, sl_1094], [], (1, [])), ((nat_lit 174), [lcn_905, lcn_1039, lcn_251, lcn_144, lcn_424, lcn_459], [], [sl_933, sl_910, sl_919, sl_1040, sl_1086, sl_1095], [], (1, [])), ((nat_lit 191), [lcn_905, lcn_1041, lcn_251, lcn_144, lcn_424, lcn_463], [], [sl_901, sl_902, sl_913, sl_1040, sl_1081, sl_1088], [], (0, [])), ((nat_lit 191), [lcn_905, lcn_1041, lcn_251, lcn_144, lcn_424, lcn_463], [], [sl_915, sl_899, sl_913, sl_1040, sl_1081, sl_1088], [], (0, [])), ((nat_lit 191), [lcn_905, lcn_1041, lcn_251, lcn_144, lcn_424, lcn_463], [], [sl_933, sl_910, sl_919, sl_1042, sl_1081, sl_1089], [], (0, [])), ((nat_lit 140), [lcn_905, lcn_1028, lcn_251, lcn_144, lcn_424, lcn_1090], [], [sl_901, sl_902, sl_913, sl_1030], [], (3, [])), ((nat_lit 140), [lcn_905, lcn_1028, lcn_251, lcn_144, lcn_424, lcn_1090], [], [sl_915, sl_899, sl_913, sl_1030], [], (3, [])), ((nat_lit 140), [lcn_905, lcn_1031, lcn_251, lcn_144, lcn_424, lcn_1091], [], [sl_901, sl_902, sl_913, sl_1032], [], (3, [])), ((nat_lit 140), [lcn_905, lcn_1031, lcn_251, lcn_144, lcn_424, lcn_1091], [], [sl_915, sl_899, sl_913, sl_1032], [], (3, [])), ((nat_lit 157), [lcn_905, lcn_1033, lcn_251, lcn_144, lcn_424, lcn_1085], [], [sl_901, sl_902, sl_913, sl_1035, sl_1096], [], (2, [])), ((nat_lit 157), [lcn_905, lcn_1033, lcn_251, lcn_144, lcn_424, lcn_1085], [], [sl_915, sl_899, sl_913, sl_1035, sl_1096], [], (2, [])), ((nat_lit 157), [lcn_905, lcn_1033, lcn_251, lcn_144, lcn_424, lcn_1085], [], [sl_933, sl_910, sl_919, sl_1035, sl_1097], [], (2, [])), ((nat_lit 174), [lcn_905, lcn_1036, lcn_251, lcn_144, lcn_424, lcn_1080], [], [sl_901, sl_902, sl_913, sl_1038, sl_1092, sl_1098], [], (1, [])), ((nat_lit 174), [lcn_905, lcn_1036, lcn_251, lcn_144, lcn_424, lcn_1080], [], [sl_915, sl_899, sl_913, sl_1038, sl_1092, sl_1098], [], (1, [])), ((nat_lit 174), [lcn_905, lcn_1036, lcn_251, lcn_144, lcn_424, lcn_1080], [], [sl_933, sl_910, sl_919, sl_1038, sl_1092, sl_1099], [], (1, [])), ((nat_lit 191), [lcn_905, lcn_1039, lcn_251, lcn_144, lcn_424, lcn_459], [], [sl_901, sl_902, sl_913, sl_1038, sl_1086, sl_1094], [], (0, [])), ((nat_lit 191), [lcn_905, lcn_1039, lcn_251, lcn_144, lcn_424, lcn_459], [], [sl_915, sl_899, sl_913, sl_1038, sl_1086, sl_1094], [], (0, [])), ((nat_lit 191), [lcn_905, lcn_1039, lcn_251, lcn_144, lcn_424, lcn_459], [], [sl_933, sl_910, sl_919, sl_1040, sl_1086, sl_1095], [], (0, [])), ((nat_lit 157), [lcn_905, lcn_1028, lcn_251, lcn_144, lcn_424, lcn_1090], [], [sl_901, sl_902, sl_913, sl_1030, sl_1100], [], (2, [])), ((nat_lit 157), [lcn_905, lcn_1028, lcn_251, lcn_144, lcn_424, lcn_1090], [], [sl_915, sl_899, sl_913, sl_1030, sl_1100], [], (2, [])), ((nat_lit 157), [lcn_905, lcn_1028, lcn_251, lcn_144, lcn_424, lcn_1090], [], [sl_933, sl_910, sl_919, sl_1030, sl_1101], [], (2, [])), ((nat_lit 157), [lcn_905, lcn_1031, lcn_251, lcn_144, lcn_424, lcn_1091], [], [sl_901, sl_902, sl_913, sl_1032, sl_1102], [], (2, [])), ((nat_lit 157), [lcn_905, lcn_1031, lcn_251, lcn_144, lcn_424, lcn_1091], [], [sl_915, sl_899, sl_913, sl_1032, sl_1102], [], (2, [])), ((nat_lit 157), [lcn_905, lcn_1031, lcn_251, lcn_144, lcn_424, lcn_1091], [], [sl_933, sl_910, sl_919, sl_1032, sl_1103], [], (2, [])), ((nat_lit 174), [lcn_905, lcn_1033, lcn_251, lcn_144, lcn_424, lcn_1085], [], [sl_901, sl_902, sl_913, sl_1035, sl_1096, sl_1104], [], (1, [])), ((nat_lit 174), [lcn_905, lcn_1033, lcn_251, lcn_144, lcn_424, lcn_1085], [], [sl_915, sl_899, sl_913, sl_1035, sl_1096, sl_1104], [], (1, [])), ((nat_lit 174), [lcn_905, lcn_1033, lcn_251, lcn_144, lcn_424, lcn_1085], [], [sl_933, sl_910, sl_919, sl_1035, sl_1096, sl_1105], [], (1, [])), ((nat_lit 191), [lcn_905, lcn_1036, lcn_251, lcn_144, lcn_424, lcn_1080], [], [sl_901, sl_902, sl_913, sl_1035, sl_1092, sl_1098], [], (0, [])), ((nat_lit 191), [lcn_905, lcn_1036, lcn_251, lcn_144, lcn_424, lcn_1080], [], [sl_915, sl_899, sl_913, sl_1035, sl_1092, sl_1098], [], (0, [])), ((nat_lit 191), [lcn_905, lcn_1036, lcn_251, lcn_144, lcn_424, lcn_1080], [], [sl_933, sl_910, sl_919, sl_1038, sl_1092, sl_1099], [], (0, [])), ((nat_lit 174), [lcn_905, lcn_1028, lcn_251, lcn_144, lcn_424, lcn_1090], [], [sl_901, sl_902, sl_913, sl_1030, sl_1100, sl_1106], [], (1, [])), ((nat_lit 174), [lcn_905, lcn_1028, lcn_251, lcn_144, lcn_424, lcn_1090], [], [sl_915, sl_899, sl_913, sl_1030, sl_1100, sl_1106], [], (1, [])), ((nat_lit 174), [lcn_905, lcn_1028, lcn_251, lcn_144, lcn_424, lcn_1090], [], [sl_933, sl_910, sl_919, sl_1030, sl_1100, sl_1107], [], (1, [])), ((nat_lit 174), [lcn_905, lcn_1031, lcn_251, lcn_144, lcn_424, lcn_1091], [], [sl_901, sl_902, sl_913, sl_1032, sl_1102, sl_1108], [], (1, [])), ((nat_lit 174), [lcn_905, lcn_1031, lcn_251, lcn_144, lcn_424, lcn_1091], [], [sl_915, sl_899, sl_913, sl_1032, sl_1102, sl_1108], [], (1, [])), ((nat_lit 174), [lcn_905, lcn_1031, lcn_251, lcn_144, lcn_424, lcn_1091], [], [sl_933, sl_910, sl_919, sl_1032, sl_1102, sl_1109], [], (1, [])), ((nat_lit 191), [lcn_905, lcn_1033, lcn_251, lcn_144, lcn_424, lcn_1085], [], [sl_901, sl_902, sl_913, sl_1032, sl_1096, sl_1104], [], (0, [])), ((nat_lit 191), [lcn_905, lcn_1033, lcn_251, lcn_144, lcn_424, lcn_1085], [], [sl_915, sl_899, sl_913, sl_1032, sl_1096, sl_1104], [], (0, [])), ((nat_lit 191), [lcn_905, lcn_1033, lcn_251, lcn_144, lcn_424, lcn_1085], [], [sl_933, sl_910, sl_919, sl_1035, sl_1096, sl_1105], [], (0, [])), ((nat_lit 191), [lcn_905, lcn_1028, lcn_251, lcn_144, lcn_424, lcn_1090], [], [sl_901, sl_902, sl_913, sl_975, sl_1100, sl_1106], [], (0, [])), ((nat_lit 191), [lcn_905, lcn_1028, lcn_251, lcn_144, lcn_424, lcn_1090], [], [sl_915, sl_899, sl_913, sl_975, sl_1100, sl_1106], [], (0, [])), ((nat_lit 191), [lcn_905, lcn_1028, lcn_251, lcn_144, lcn_424, lcn_1090], [], [sl_933, sl_910, sl_919, sl_1030, sl_1100, sl_1107], [], (0, [])), ((nat_lit 191), [lcn_905, lcn_1031, lcn_251, lcn_144, lcn_424, lcn_1091], [], [sl_901, sl_902, sl_913, sl_1030, sl_1102, sl_1108], [], (0, [])), ((nat_lit 191), [lcn_905, lcn_1031, lcn_251, lcn_144, lcn_424, lcn_1091], [], [sl_915, sl_899, sl_913, sl_1030, sl_1102, sl_1108], [], (0, [])), ((nat_lit 191), [lcn_905, lcn_1031, lcn_251, lcn_144, lcn_424, lcn_1091], [], [sl_933, sl_910, sl_919, sl_1032, sl_1102, sl_1109], [], (0, []))]) (fk := [17]) (rk := (29, [])) (sp := 3138574813118855512616503269083047089411096323939509469184) (fuel := 3000) (by decide +kernel) (lk_d S_595 ml_12_161 (lk_d S_X12_next_0 ml_12_121 (lk_d S_594 ml_12_153 (lk_d S_597 ml_12_153 (lk_d S_596 ml_12_153 (lk_d S_608 ml_12_230 (lk_d S_607 ml_12_230 (lk_d S_606 ml_12_230 (lk_d S_605 ml_12_230 (lk_d S_604 ml_12_230 (lk_d S_603 ml_12_230 (lk_d S_602 ml_12_230 (lk_d S_601 ml_12_230 (lk_d S_600 ml_12_230 (lk_d S_599 ml_12_230 (lk_d S_613 ml_12_213 (lk_d S_620 ml_12_213 (lk_d S_615 ml_12_213 (lk_d S_622 ml_12_213 (lk_d S_624 ml_12_213 (lk_d S_598 ml_12_230 (lk_d S_580 ml_12_127 lk_n)))))))))))))))))))))) odX12_wayLine
end Pk1
section Pk2
def ct_626 : aCt := (mX12_islandPassed, [ag_868], ([sl_915, sl_899, sl_913], []), [pon_935], mdn_921, [], (nat_lit 3))
set_option maxRecDepth 100000 in
theorem S_626 : aSpec wd ct_626 := bChk_ok wx_ok btX12_islandPassed (nds := []) (fk := []) (rk := (1, [])) (sp := 0) (fuel := 3000) (by decide +kernel) (lk_d S_596 ml_12_153 lk_n) odX12_islandPassed
def ct_627 : aCt := (mX12_named, [ag_868, ag_170, ag_153], ([sl_915, sl_899, sl_919], []), [pon_37], mdn_879, [], (nat_lit 0))
set_option maxRecDepth 100000 in
theorem S_627 : aSpec wd ct_627 := bChk_ok wx_ok btX12_named (nds := []) (fk := []) (rk := (1, [])) (sp := 0) (fuel := 3000) (by decide +kernel) lk_n odX12_named
def ct_628 : aCt := (mX12_wayLine, [ag_868], ([sl_915, sl_899, sl_913, sl_970], []), [pon_920], mdn_921, [], (nat_lit 4))
set_option maxRecDepth 100000 in
theorem S_628 : aSpec wd ct_628 := bChk_ok wx_ok btX12_wayLine (nds := [((nat_lit 48), [lcn_905, lcn_1028, lcn_592, lcn_101, lcn_426, lcn_1029], [], [sl_915, sl_899, sl_919, sl_1030], [], (11, [(0, -1)])), ((nat_lit 48), [lcn_905, lcn_1031, lcn_592, lcn_101, lcn_426, lcn_1029], [], [sl_915, sl_899, sl_919, sl_1032], [], (11, [(0, -1)])), ((nat_lit 48), [lcn_905, lcn_1033, lcn_592, lcn_101, lcn_426, lcn_1034], [], [sl_915, sl_899, sl_919, sl_1035], [], (9, [(0, -1)])), ((nat_lit 48), [lcn_905, lcn_1036, lcn_592, lcn_101, lcn_426, lcn_1037], [], [sl_915, sl_899, sl_919, sl_1038], [], (8, [(0, -1)])), ((nat_lit 48), [lcn_905, lcn_1039, lcn_592, lcn_101, lcn_426, lcn_655], [], [sl_915, sl_899, sl_919, sl_1040], [], (7, [(0, -1)])), ((nat_lit 48), [lcn_905, lcn_1041, lcn_592, lcn_101, lcn_426, lcn_1000], [], [sl_915, sl_899, sl_919, sl_1042], [], (6, [(0, -1)])), ((nat_lit 48), [lcn_905, lcn_1043, lcn_592, lcn_101, lcn_426, lcn_1044], [], [sl_915, sl_899, sl_919, sl_1045], [], (5, [(0, -1)])), ((nat_lit 48), [lcn_905, lcn_1046, lcn_592, lcn_101, lcn_426, lcn_402], [], [sl_915, sl_899, sl_919, sl_1047], [], (4, [(0, -1)])), ((nat_lit 48), [lcn_905, lcn_1048, lcn_592, lcn_101, lcn_426, lcn_1049], [], [sl_915, sl_899, sl_919, sl_1050], [], (3, [(0, -1)])), ((nat_lit 48), [lcn_905, lcn_1051, lcn_592, lcn_101, lcn_426, lcn_1052], [], [sl_915, sl_899, sl_919, sl_1053], [], (2, [(0, -1)])), ((nat_lit 48), [lcn_905, lcn_1054, lcn_592, lcn_101, lcn_426, lcn_527], [], [sl_915, sl_899, sl_919, sl_1055], [], (1, [(0, -1)])), ((nat_lit 48), [lcn_905, lcn_1056, lcn_592, lcn_101, lcn_426, lcn_475], [], [sl_915, sl_899, sl_919, sl_1057], [], (0, []))]) (fk := [17]) (rk := (12, [])) (sp := 281474976710656) (fuel := 3000) (by decide +kernel) (lk_d S_626 ml_12_161 (lk_d S_627 ml_12_153 lk_n)) odX12_wayLine
def ag_1110 : aAg := .inl [((.ofNat (nat_lit 7)), (.ofNat (nat_lit 11)), (nat_lit 1))]
def mdn_1111 : List (Nat × Nat × Nat) := [((nat_lit 196), (nat_lit 4), (nat_lit 11)), ((nat_lit 196), (nat_lit 13), (nat_lit 14)), ((nat_lit 198), (nat_lit 0), (nat_lit 8)), ((nat_lit 200), (nat_lit 190), (nat_lit 195)), ((nat_lit 200), (nat_lit 259), (nat_lit 299)), ((nat_lit 1000002), (nat_lit 0), (nat_lit 0))]
def lcn_1112 : Nat × aAg := ((nat_lit 1), .inl [((.ofNat (nat_lit 7)), (.ofNat (nat_lit 11)), (nat_lit 1))])
def ct_629 : aCt := (mX12_newName, [ag_868, ag_1110], ([sl_901, sl_902, sl_913], []), [pon_922, pon_923, pon_924], mdn_1111, [], (nat_lit 2))
set_option maxRecDepth 100000 in
theorem S_629 : aSpec wd ct_629 := bChk_ok wx_ok btX12_newName (nds := [((nat_lit 45), [lcn_905, lcn_1112, lcn_299], [], [sl_901, sl_902, sl_913], [], (8, [(1, -1)]))]) (fk := []) (rk := (9, [])) (sp := 35184372088832) (fuel := 3000) (by decide +kernel) (lk_d S_583 ml_12_143 (lk_d S_584 ml_12_146 (lk_d S_X12_next_0 ml_12_121 (lk_d S_580 ml_12_127 lk_n)))) odX12_newName
def ct_630 : aCt := (mX12_wrong, [ag_868, ag_53, ag_883], ([sl_919], []), [pon_49], mdn_879, [], (nat_lit 0))
set_option maxRecDepth 100000 in
theorem S_630 : aSpec wd ct_630 := bChk_ok wx_ok btX12_wrong (nds := []) (fk := []) (rk := (1, [])) (sp := 0) (fuel := 3000) (by decide +kernel) lk_n odX12_wrong
def ct_631 : aCt := (mX12_islandPassed, [ag_868], ([sl_901, sl_902, sl_919], []), [pon_37], mdn_879, [], (nat_lit 1))
set_option maxRecDepth 100000 in
theorem S_631 : aSpec wd ct_631 := bChk_ok wx_ok btX12_islandPassed (nds := []) (fk := []) (rk := (1, [])) (sp := 0) (fuel := 3000) (by decide +kernel) (lk_d S_597 ml_12_153 lk_n) odX12_islandPassed
set_option maxRecDepth 100000 in
theorem btX12_islandBehind : bTab oX12_islandBehind tX12_islandBehind := ⟨ofX12_islandBehind, by decide +kernel⟩
def ct_632 : aCt := (mX12_islandBehind, [ag_868, ag_912], ([sl_901, sl_902, sl_913], []), [pon_941, pon_1007, pon_1008], mdn_925, [], (nat_lit 4))
set_option maxRecDepth 100000 in
theorem S_632 : aSpec wd ct_632 := bChk_ok wx_ok btX12_islandBehind (nds := []) (fk := []) (rk := (1, [])) (sp := 0) (fuel := 3000) (by decide +kernel) (lk_d S_595 ml_12_161 (lk_d S_631 ml_12_161 (lk_d S_626 ml_12_161 (lk_d S_482 ml_12_157 lk_n)))) odX12_islandBehind
def ct_633 : aCt := (mX12_islandPassed, [ag_868], ([sl_915, sl_899, sl_919], []), [pon_37], mdn_879, [], (nat_lit 1))
set_option maxRecDepth 100000 in
theorem S_633 : aSpec wd ct_633 := bChk_ok wx_ok btX12_islandPassed (nds := []) (fk := []) (rk := (1, [])) (sp := 0) (fuel := 3000) (by decide +kernel) (lk_d S_627 ml_12_153 lk_n) odX12_islandPassed
def ct_634 : aCt := (mX12_islandBehind, [ag_868, ag_912], ([sl_915, sl_899, sl_913], []), [pon_935], mdn_921, [], (nat_lit 3))
set_option maxRecDepth 100000 in
theorem S_634 : aSpec wd ct_634 := bChk_ok wx_ok btX12_islandBehind (nds := []) (fk := []) (rk := (1, [])) (sp := 0) (fuel := 3000) (by decide +kernel) (lk_d S_633 ml_12_161 (lk_d S_505 ml_12_157 lk_n)) odX12_islandBehind
def ct_635 : aCt := (mX12_number, [ag_868, ag_170, ag_198], ([sl_901, sl_902, sl_913], []), [pon_935], mdn_921, [], (nat_lit 1))
set_option maxRecDepth 100000 in
theorem S_635 : aSpec wd ct_635 := bChk_ok wx_ok btX12_number (nds := []) (fk := []) (rk := (1, [])) (sp := 0) (fuel := 3000) (by decide +kernel) (lk_d S_481 ml_12_127 lk_n) odX12_number
def pon_1113 : aPo := (some (.inl [((.ofNat (nat_lit 0)), (.ofNat (nat_lit 0)), (nat_lit 1))]), [some [((.negSucc (nat_lit 2147483647)), (.negSucc (nat_lit 0)), (nat_lit 1)), ((.ofNat (nat_lit 100)), (.ofNat (nat_lit 2147483647)), (nat_lit 1))], none, none], [], [])
def pon_1114 : aPo := (some (.inl [((.ofNat (nat_lit 1)), (.ofNat (nat_lit 1)), (nat_lit 1))]), [some [((.ofNat (nat_lit 0)), (.ofNat (nat_lit 99)), (nat_lit 1))], none, none], [], [])
def ct_636 : aCt := (mX12_in, [ag_1, ag_170, ag_198], ([], []), [pon_1113, pon_1114], mdn_879, [], (nat_lit 0))
set_option maxRecDepth 100000 in
theorem S_636 : aSpec wd ct_636 := bChk_ok wx_ok btX12_in (nds := []) (fk := []) (rk := (1, [])) (sp := 0) (fuel := 3000) (by decide +kernel) lk_n odX12_in
def pon_1115 : aPo := (some (.inl [((.ofNat (nat_lit 0)), (.ofNat (nat_lit 99)), (nat_lit 1))]), [], [sl_915, sl_899, sl_913], [])
def pon_1116 : aPo := (some (.inl [((.ofNat (nat_lit 0)), (.ofNat (nat_lit 99)), (nat_lit 1))]), [], [sl_901, sl_902, sl_913], [])
def ct_637 : aCt := (mX12_number, [ag_868, ag_170, ag_198], ([sl_915, sl_899, sl_913], []), [pon_938, pon_1115, pon_1116], mdn_925, [], (nat_lit 2))
set_option maxRecDepth 100000 in
theorem S_637 : aSpec wd ct_637 := bChk_ok wx_ok btX12_number (nds := []) (fk := []) (rk := (1, [])) (sp := 0) (fuel := 3000) (by decide +kernel) (lk_d S_X12_next_0 ml_12_121 (lk_d S_481 ml_12_127 (lk_d S_485 ml_12_127 (lk_d S_636 ml_12_149 lk_n)))) odX12_number
def ct_638 : aCt := (mX12_number, [ag_868, ag_170, ag_198], ([sl_901, sl_902, sl_919], []), [pon_37], mdn_879, [], (nat_lit 0))
set_option maxRecDepth 100000 in
theorem S_638 : aSpec wd ct_638 := bChk_ok wx_ok btX12_number (nds := []) (fk := []) (rk := (1, [])) (sp := 0) (fuel := 3000) (by decide +kernel) lk_n odX12_number
def ct_639 : aCt := (mX12_after, [ag_868, ag_912, ag_170, ag_198], ([sl_901, sl_902, sl_913], []), [pon_941, pon_1115, pon_1116], mdn_925, [], (nat_lit 4))
set_option maxRecDepth 100000 in
theorem S_639 : aSpec wd ct_639 := bChk_ok wx_ok btX12_after (nds := []) (fk := []) (rk := (1, [])) (sp := 0) (fuel := 3000) (by decide +kernel) (lk_d S_635 ml_12_164 (lk_d S_638 ml_12_164 (lk_d S_637 ml_12_164 (lk_d S_482 ml_12_157 lk_n)))) odX12_after
def ct_640 : aCt := (mX12_number, [ag_868, ag_170, ag_198], ([sl_915, sl_899, sl_919], []), [pon_37], mdn_879, [], (nat_lit 0))
set_option maxRecDepth 100000 in
theorem S_640 : aSpec wd ct_640 := bChk_ok wx_ok btX12_number (nds := []) (fk := []) (rk := (1, [])) (sp := 0) (fuel := 3000) (by decide +kernel) lk_n odX12_number
def ct_641 : aCt := (mX12_after, [ag_868, ag_912, ag_170, ag_198], ([sl_915, sl_899, sl_913], []), [pon_935], mdn_921, [], (nat_lit 3))
set_option maxRecDepth 100000 in
theorem S_641 : aSpec wd ct_641 := bChk_ok wx_ok btX12_after (nds := []) (fk := []) (rk := (1, [])) (sp := 0) (fuel := 3000) (by decide +kernel) (lk_d S_640 ml_12_164 (lk_d S_505 ml_12_157 lk_n)) odX12_after
def ct_642 : aCt := (mX12_number, [ag_868, ag_170, ag_198], ([sl_933, sl_910, sl_919], []), [pon_37], mdn_879, [], (nat_lit 0))
set_option maxRecDepth 100000 in
theorem S_642 : aSpec wd ct_642 := bChk_ok wx_ok btX12_number (nds := []) (fk := []) (rk := (1, [])) (sp := 0) (fuel := 3000) (by decide +kernel) lk_n odX12_number
def ct_643 : aCt := (mX12_after, [ag_868, ag_912, ag_170, ag_198], ([sl_933, sl_910, sl_919], []), [pon_37], mdn_879, [], (nat_lit 1))
set_option maxRecDepth 100000 in
theorem S_643 : aSpec wd ct_643 := bChk_ok wx_ok btX12_after (nds := []) (fk := []) (rk := (1, [])) (sp := 0) (fuel := 3000) (by decide +kernel) (lk_d S_642 ml_12_164 (lk_d S_508 ml_12_157 lk_n)) odX12_after
def pon_1117 : aPo := (none, [], [sl_933, sl_910, sl_919, sl_971], [])
def sl_1118 : (Nat × Nat) × aI := (((nat_lit 200), (nat_lit 6)), [((.ofNat (nat_lit 1)), (.ofNat (nat_lit 5)), (nat_lit 1))])
def pon_1119 : aPo := (none, [], [sl_915, sl_899, sl_913, sl_1118], [])
def pon_1120 : aPo := (none, [], [sl_901, sl_902, sl_913, sl_1118], [])
def mdn_1121 : List (Nat × Nat × Nat) := [((nat_lit 196), (nat_lit 4), (nat_lit 11)), ((nat_lit 196), (nat_lit 13), (nat_lit 14)), ((nat_lit 198), (nat_lit 0), (nat_lit 8)), ((nat_lit 200), (nat_lit 6), (nat_lit 7)), ((nat_lit 200), (nat_lit 107), (nat_lit 127)), ((nat_lit 200), (nat_lit 190), (nat_lit 195)), ((nat_lit 200), (nat_lit 259), (nat_lit 299)), ((nat_lit 1000002), (nat_lit 0), (nat_lit 0))]
def lcn_1122 : Nat × aAg := ((nat_lit 1), .inl [((.ofNat (nat_lit 107)), (.ofNat (nat_lit 123)), (nat_lit 4))])
def ct_644 : aCt := (mX12_whaleLine, [ag_868], ([sl_901, sl_902, sl_913, sl_971], []), [pon_1117, pon_1119, pon_1120], mdn_1121, [], (nat_lit 5))
set_option maxRecDepth 100000 in
theorem S_644 : aSpec wd ct_644 := bChk_ok wx_ok btX12_whaleLine (nds := [((nat_lit 121), [lcn_905, lcn_1122, lcn_615], [], [sl_901, sl_902, sl_913, sl_971], [], (4, [])), ((nat_lit 121), [lcn_905, lcn_1122, lcn_615], [], [sl_915, sl_899, sl_913, sl_971], [], (4, [])), ((nat_lit 135), [lcn_905, lcn_1122, lcn_615], [], [sl_901, sl_902, sl_913, sl_971], [], (3, [])), ((nat_lit 135), [lcn_905, lcn_1122, lcn_615], [], [sl_915, sl_899, sl_913, sl_971], [], (3, [])), ((nat_lit 135), [lcn_905, lcn_1122, lcn_615], [], [sl_933, sl_910, sl_919, sl_971], [], (3, [])), ((nat_lit 152), [lcn_905, lcn_1122, lcn_615], [], [sl_901, sl_902, sl_913, sl_971], [], (2, [])), ((nat_lit 152), [lcn_905, lcn_1122, lcn_615], [], [sl_915, sl_899, sl_913, sl_971], [], (2, [])), ((nat_lit 152), [lcn_905, lcn_1122, lcn_615], [], [sl_933, sl_910, sl_919, sl_971], [], (2, [])), ((nat_lit 169), [lcn_905, lcn_1122, lcn_615], [], [sl_901, sl_902, sl_913, sl_971], [], (1, [])), ((nat_lit 169), [lcn_905, lcn_1122, lcn_615], [], [sl_915, sl_899, sl_913, sl_971], [], (1, [])), ((nat_lit 169), [lcn_905, lcn_1122, lcn_615], [], [sl_933, sl_910, sl_919, sl_971], [], (1, [])), ((nat_lit 187), [lcn_905, lcn_1122, lcn_615], [], [sl_901, sl_902, sl_913, sl_1118], [], (0, [])), ((nat_lit 187), [lcn_905, lcn_1122, lcn_615], [], [sl_915, sl_899, sl_913, sl_1118], [], (0, [])), ((nat_lit 187), [lcn_905, lcn_1122, lcn_615], [], [sl_933, sl_910, sl_919, sl_971], [], (0, []))]) (fk := []) (rk := (5, [])) (sp := 196160177525381121621787801157800225175660017409385824256) (fuel := 3000) (by decide +kernel) (lk_d S_X12_next_0 ml_12_121 (lk_d S_629 ml_12_223 (lk_d S_632 ml_12_246 (lk_d S_634 ml_12_246 (lk_d S_X12_isWord_1 ml_12_117 (lk_d S_X12_isWord_0 ml_12_117 (lk_d S_639 ml_12_213 (lk_d S_641 ml_12_213 (lk_d S_643 ml_12_213 (lk_d S_481 ml_12_127 (lk_d S_630 ml_12_127 lk_n))))))))))) odX12_whaleLine
def ct_645 : aCt := (mX12_newName, [ag_868, ag_1110], ([sl_915, sl_899, sl_913], []), [pon_920], mdn_921, [], (nat_lit 2))
set_option maxRecDepth 100000 in
theorem S_645 : aSpec wd ct_645 := bChk_ok wx_ok btX12_newName (nds := []) (fk := []) (rk := (1, [])) (sp := 0) (fuel := 3000) (by decide +kernel) (lk_d S_589 ml_12_143 lk_n) odX12_newName
def ct_646 : aCt := (mX12_whaleLine, [ag_868], ([sl_915, sl_899, sl_913, sl_971], []), [pon_920], mdn_921, [], (nat_lit 3))
set_option maxRecDepth 100000 in
theorem S_646 : aSpec wd ct_646 := bChk_ok wx_ok btX12_whaleLine (nds := []) (fk := []) (rk := (1, [])) (sp := 0) (fuel := 3000) (by decide +kernel) (lk_d S_645 ml_12_223 (lk_d S_X12_isWord_1 ml_12_117 (lk_d S_630 ml_12_127 lk_n))) odX12_whaleLine
def ag_1123 : aAg := .inl [((.ofNat (nat_lit 19)), (.ofNat (nat_lit 19)), (nat_lit 1))]
def mdn_1124 : List (Nat × Nat × Nat) := [((nat_lit 196), (nat_lit 4), (nat_lit 11)), ((nat_lit 196), (nat_lit 13), (nat_lit 14)), ((nat_lit 198), (nat_lit 0), (nat_lit 8)), ((nat_lit 200), (nat_lit 202), (nat_lit 203)), ((nat_lit 200), (nat_lit 355), (nat_lit 363)), ((nat_lit 1000002), (nat_lit 0), (nat_lit 0))]
def lcn_1125 : Nat × aAg := ((nat_lit 1), .inl [((.ofNat (nat_lit 19)), (.ofNat (nat_lit 19)), (nat_lit 1))])
def ct_647 : aCt := (mX12_newName, [ag_868, ag_1123], ([sl_901, sl_902, sl_913], []), [pon_922, pon_923, pon_924], mdn_1124, [], (nat_lit 2))
set_option maxRecDepth 100000 in
theorem S_647 : aSpec wd ct_647 := bChk_ok wx_ok btX12_newName (nds := [((nat_lit 45), [lcn_905, lcn_1125, lcn_299], [], [sl_901, sl_902, sl_913], [], (8, [(0, -1)]))]) (fk := []) (rk := (9, [])) (sp := 35184372088832) (fuel := 3000) (by decide +kernel) (lk_d S_583 ml_12_143 (lk_d S_584 ml_12_146 (lk_d S_X12_next_0 ml_12_121 (lk_d S_580 ml_12_127 lk_n)))) odX12_newName
def pon_1126 : aPo := (some (.inl [((.negSucc (nat_lit 0)), (.negSucc (nat_lit 0)), (nat_lit 1)), ((.ofNat (nat_lit 7)), (.ofNat (nat_lit 19)), (nat_lit 1))]), [], [], [])
def ct_648 : aCt := (mX12_find, [ag_868], ([sl_902, sl_955, sl_956, sl_957, sl_958, sl_959, sl_960, sl_961], []), [pon_1126], mdn_879, [], (nat_lit 0))
set_option maxRecDepth 100000 in
theorem S_648 : aSpec wd ct_648 := bChk_ok wx_ok btX12_find (nds := [((nat_lit 2), [lcn_905, lcn_175], [], [sl_902, sl_955, sl_956, sl_957, sl_958, sl_959, sl_960, sl_961], [], (167, [])), ((nat_lit 46), [lcn_905, lcn_175, lcn_592, lcn_101], [], [sl_902, sl_955, sl_956, sl_957, sl_958, sl_959, sl_960, sl_961], [], (166, [])), ((nat_lit 2), [lcn_905, lcn_203, lcn_592, lcn_101], [], [sl_902, sl_955, sl_956, sl_957, sl_958, sl_959, sl_960, sl_961], [], (165, [])), ((nat_lit 46), [lcn_905, lcn_203, lcn_592, lcn_101], [], [sl_902, sl_955, sl_956, sl_957, sl_958, sl_959, sl_960, sl_961], [], (164, [])), ((nat_lit 2), [lcn_905, lcn_167, lcn_592, lcn_101], [], [sl_902, sl_955, sl_956, sl_957, sl_958, sl_959, sl_960, sl_961], [], (163, [])), ((nat_lit 46), [lcn_905, lcn_167, lcn_592, lcn_101], [], [sl_902, sl_955, sl_956, sl_957, sl_958, sl_959, sl_960, sl_961], [], (162, [])), ((nat_lit 2), [lcn_905, lcn_983, lcn_592, lcn_101], [], [sl_902, sl_955, sl_956, sl_957, sl_958, sl_959, sl_960, sl_961], [], (161, [])), ((nat_lit 46), [lcn_905, lcn_983, lcn_592, lcn_101], [], [sl_902, sl_955, sl_956, sl_957, sl_958, sl_959, sl_960, sl_961], [], (160, [])), ((nat_lit 2), [lcn_905, lcn_984, lcn_592, lcn_101], [], [sl_902, sl_955, sl_956, sl_957, sl_958, sl_959, sl_960, sl_961], [], (159, [])), ((nat_lit 46), [lcn_905, lcn_984, lcn_592, lcn_101], [], [sl_902, sl_955, sl_956, sl_957, sl_958, sl_959, sl_960, sl_961], [], (158, [])), ((nat_lit 2), [lcn_905, lcn_985, lcn_592, lcn_101], [], [sl_902, sl_955, sl_956, sl_957, sl_958, sl_959, sl_960, sl_961], [], (157, [])), ((nat_lit 46), [lcn_905, lcn_985, lcn_592, lcn_101], [], [sl_902, sl_955, sl_956, sl_957, sl_958, sl_959, sl_960, sl_961], [], (156, [])), ((nat_lit 2), [lcn_905, lcn_986, lcn_592, lcn_101], [], [sl_902, sl_955, sl_956, sl_957, sl_958, sl_959, sl_960, sl_961], [], (155, [])), ((nat_lit 46), [lcn_905, lcn_986, lcn_592, lcn_101], [], [sl_902, sl_955, sl_956, sl_957, sl_958, sl_959, sl_960, sl_961], [], (154, [])), ((nat_lit 2), [lcn_905, lcn_987, lcn_592, lcn_411], [], [sl_902, sl_955, sl_956, sl_957, sl_958, sl_959, sl_960, sl_961], [], (230, [(0, -11)])), ((nat_lit 46), [lcn_905, lcn_988, lcn_447, lcn_411], [], [sl_902, sl_955, sl_956, sl_957, sl_958, sl_959, sl_960, sl_961], [], (229, [(0, -11), (1, -1)])), ((nat_lit 46), [lcn_905, lcn_988, lcn_592, lcn_411], [], [sl_902, sl_955, sl_956, sl_957, sl_958, sl_959, sl_960, sl_961], [], (220, [(0, -11)]))]) (fk := []) (rk := (168, [])) (sp := 70368744177668) (fuel := 3000) (by decide +kernel) lk_n odX12_find
def ag_1127 : aAg := .inl [((.negSucc (nat_lit 0)), (.negSucc (nat_lit 0)), (nat_lit 1)), ((.ofNat (nat_lit 7)), (.ofNat (nat_lit 19)), (nat_lit 1))]
def ct_649 : aCt := (mX12_in, [ag_1127, ag_170, ag_153], ([], []), [pon_1003], mdn_879, [], (nat_lit 0))
set_option maxRecDepth 100000 in
theorem S_649 : aSpec wd ct_649 := bChk_ok wx_ok btX12_in (nds := []) (fk := []) (rk := (1, [])) (sp := 0) (fuel := 3000) (by decide +kernel) lk_n odX12_in
def ct_650 : aCt := (mX12_named, [ag_868, ag_170, ag_153], ([sl_901, sl_902, sl_913, sl_955, sl_956, sl_957, sl_958, sl_959, sl_960, sl_961], []), [pon_935], mdn_921, [], (nat_lit 2))
set_option maxRecDepth 100000 in
theorem S_650 : aSpec wd ct_650 := bChk_ok wx_ok btX12_named (nds := []) (fk := []) (rk := (1, [])) (sp := 0) (fuel := 3000) (by decide +kernel) (lk_d S_648 ml_12_146 (lk_d S_583 ml_12_143 (lk_d S_649 ml_12_149 (lk_d S_593 ml_12_127 lk_n)))) odX12_named
def ct_651 : aCt := (mX12_islandPassed, [ag_868], ([sl_901, sl_902, sl_913, sl_955, sl_956, sl_957, sl_958, sl_959, sl_960, sl_961], []), [pon_935], mdn_921, [], (nat_lit 3))
set_option maxRecDepth 100000 in
theorem S_651 : aSpec wd ct_651 := bChk_ok wx_ok btX12_islandPassed (nds := []) (fk := []) (rk := (1, [])) (sp := 0) (fuel := 3000) (by decide +kernel) (lk_d S_650 ml_12_153 lk_n) odX12_islandPassed
def ct_652 : aCt := (mX12_named, [ag_868, ag_170, ag_153], ([sl_915, sl_899, sl_913, sl_955, sl_956, sl_957, sl_958, sl_959, sl_960, sl_961], []), [pon_935], mdn_921, [], (nat_lit 2))
set_option maxRecDepth 100000 in
theorem S_652 : aSpec wd ct_652 := bChk_ok wx_ok btX12_named (nds := []) (fk := []) (rk := (1, [])) (sp := 0) (fuel := 3000) (by decide +kernel) (lk_d S_589 ml_12_143 lk_n) odX12_named
def ct_653 : aCt := (mX12_islandPassed, [ag_868], ([sl_915, sl_899, sl_913, sl_955, sl_956, sl_957, sl_958, sl_959, sl_960, sl_961], []), [pon_935], mdn_921, [], (nat_lit 3))
set_option maxRecDepth 100000 in
theorem S_653 : aSpec wd ct_653 := bChk_ok wx_ok btX12_islandPassed (nds := []) (fk := []) (rk := (1, [])) (sp := 0) (fuel := 3000) (by decide +kernel) (lk_d S_652 ml_12_153 lk_n) odX12_islandPassed
def ct_654 : aCt := (mX12_named, [ag_868, ag_170, ag_153], ([sl_901, sl_902, sl_919, sl_955, sl_956, sl_957, sl_958, sl_959, sl_960, sl_961], []), [pon_37], mdn_879, [], (nat_lit 0))
set_option maxRecDepth 100000 in
theorem S_654 : aSpec wd ct_654 := bChk_ok wx_ok btX12_named (nds := []) (fk := []) (rk := (1, [])) (sp := 0) (fuel := 3000) (by decide +kernel) lk_n odX12_named
def ct_655 : aCt := (mX12_islandPassed, [ag_868], ([sl_901, sl_902, sl_919, sl_955, sl_956, sl_957, sl_958, sl_959, sl_960, sl_961], []), [pon_37], mdn_879, [], (nat_lit 1))
set_option maxRecDepth 100000 in
theorem S_655 : aSpec wd ct_655 := bChk_ok wx_ok btX12_islandPassed (nds := []) (fk := []) (rk := (1, [])) (sp := 0) (fuel := 3000) (by decide +kernel) (lk_d S_654 ml_12_153 lk_n) odX12_islandPassed
def ct_656 : aCt := (mX12_islandBehind, [ag_868, ag_912], ([sl_901, sl_902, sl_913, sl_955, sl_956, sl_957, sl_958, sl_959, sl_960, sl_961], []), [pon_941], mdn_925, [], (nat_lit 4))
set_option maxRecDepth 100000 in
theorem S_656 : aSpec wd ct_656 := bChk_ok wx_ok btX12_islandBehind (nds := []) (fk := []) (rk := (1, [])) (sp := 0) (fuel := 3000) (by decide +kernel) (lk_d S_651 ml_12_161 (lk_d S_655 ml_12_161 (lk_d S_653 ml_12_161 (lk_d S_482 ml_12_157 lk_n)))) odX12_islandBehind
def ct_657 : aCt := (mX12_named, [ag_868, ag_170, ag_153], ([sl_915, sl_899, sl_919, sl_955, sl_956, sl_957, sl_958, sl_959, sl_960, sl_961], []), [pon_37], mdn_879, [], (nat_lit 0))
set_option maxRecDepth 100000 in
theorem S_657 : aSpec wd ct_657 := bChk_ok wx_ok btX12_named (nds := []) (fk := []) (rk := (1, [])) (sp := 0) (fuel := 3000) (by decide +kernel) lk_n odX12_named
def ct_658 : aCt := (mX12_islandPassed, [ag_868], ([sl_915, sl_899, sl_919, sl_955, sl_956, sl_957, sl_958, sl_959, sl_960, sl_961], []), [pon_37], mdn_879, [], (nat_lit 1))
set_option maxRecDepth 100000 in
theorem S_658 : aSpec wd ct_658 := bChk_ok wx_ok btX12_islandPassed (nds := []) (fk := []) (rk := (1, [])) (sp := 0) (fuel := 3000) (by decide +kernel) (lk_d S_657 ml_12_153 lk_n) odX12_islandPassed
def ct_659 : aCt := (mX12_islandBehind, [ag_868, ag_912], ([sl_915, sl_899, sl_913, sl_955, sl_956, sl_957, sl_958, sl_959, sl_960, sl_961], []), [pon_935], mdn_921, [], (nat_lit 3))
set_option maxRecDepth 100000 in
theorem S_659 : aSpec wd ct_659 := bChk_ok wx_ok btX12_islandBehind (nds := []) (fk := []) (rk := (1, [])) (sp := 0) (fuel := 3000) (by decide +kernel) (lk_d S_658 ml_12_161 (lk_d S_505 ml_12_157 lk_n)) odX12_islandBehind
def ct_660 : aCt := (mX12_must, [ag_868, ag_912], ([sl_901, sl_902, sl_919], []), [pon_49], mdn_879, [], (nat_lit 0))
set_option maxRecDepth 100000 in
theorem S_660 : aSpec wd ct_660 := bChk_ok wx_ok btX12_must (nds := []) (fk := []) (rk := (1, [])) (sp := 0) (fuel := 3000) (by decide +kernel) lk_n odX12_must
def ct_661 : aCt := (mX12_islandBehind, [ag_868, ag_912], ([sl_901, sl_902, sl_919, sl_955, sl_956, sl_957, sl_958, sl_959, sl_960, sl_961], []), [pon_37], mdn_879, [], (nat_lit 2))
set_option maxRecDepth 100000 in
theorem S_661 : aSpec wd ct_661 := bChk_ok wx_ok btX12_islandBehind (nds := []) (fk := []) (rk := (1, [])) (sp := 0) (fuel := 3000) (by decide +kernel) (lk_d S_655 ml_12_161 (lk_d S_660 ml_12_157 lk_n)) odX12_islandBehind
def ag_1128 : aAg := .inl [((.ofNat (nat_lit 18)), (.ofNat (nat_lit 18)), (nat_lit 1))]
def mdn_1129 : List (Nat × Nat × Nat) := [((nat_lit 196), (nat_lit 4), (nat_lit 11)), ((nat_lit 196), (nat_lit 13), (nat_lit 14)), ((nat_lit 198), (nat_lit 0), (nat_lit 8)), ((nat_lit 200), (nat_lit 201), (nat_lit 202)), ((nat_lit 200), (nat_lit 347), (nat_lit 355)), ((nat_lit 1000002), (nat_lit 0), (nat_lit 0))]
def lcn_1130 : Nat × aAg := ((nat_lit 1), .inl [((.ofNat (nat_lit 18)), (.ofNat (nat_lit 18)), (nat_lit 1))])
def ct_662 : aCt := (mX12_newName, [ag_868, ag_1128], ([sl_901, sl_902, sl_913], []), [pon_922, pon_923, pon_924], mdn_1129, [], (nat_lit 2))
set_option maxRecDepth 100000 in
theorem S_662 : aSpec wd ct_662 := bChk_ok wx_ok btX12_newName (nds := [((nat_lit 45), [lcn_905, lcn_1130, lcn_299], [], [sl_901, sl_902, sl_913], [], (8, [(0, -1)]))]) (fk := []) (rk := (9, [])) (sp := 35184372088832) (fuel := 3000) (by decide +kernel) (lk_d S_583 ml_12_143 (lk_d S_584 ml_12_146 (lk_d S_X12_next_0 ml_12_121 (lk_d S_580 ml_12_127 lk_n)))) odX12_newName
def ag_1131 : aAg := .inl [((.ofNat (nat_lit 17)), (.ofNat (nat_lit 17)), (nat_lit 1))]
def mdn_1132 : List (Nat × Nat × Nat) := [((nat_lit 196), (nat_lit 4), (nat_lit 11)), ((nat_lit 196), (nat_lit 13), (nat_lit 14)), ((nat_lit 198), (nat_lit 0), (nat_lit 8)), ((nat_lit 200), (nat_lit 200), (nat_lit 201)), ((nat_lit 200), (nat_lit 339), (nat_lit 347)), ((nat_lit 1000002), (nat_lit 0), (nat_lit 0))]
def lcn_1133 : Nat × aAg := ((nat_lit 1), .inl [((.ofNat (nat_lit 17)), (.ofNat (nat_lit 17)), (nat_lit 1))])
def ct_663 : aCt := (mX12_newName, [ag_868, ag_1131], ([sl_901, sl_902, sl_913], []), [pon_922, pon_923, pon_924], mdn_1132, [], (nat_lit 2))
set_option maxRecDepth 100000 in
theorem S_663 : aSpec wd ct_663 := bChk_ok wx_ok btX12_newName (nds := [((nat_lit 45), [lcn_905, lcn_1133, lcn_299], [], [sl_901, sl_902, sl_913], [], (8, [(0, -1)]))]) (fk := []) (rk := (9, [])) (sp := 35184372088832) (fuel := 3000) (by decide +kernel) (lk_d S_583 ml_12_143 (lk_d S_584 ml_12_146 (lk_d S_X12_next_0 ml_12_121 (lk_d S_580 ml_12_127 lk_n)))) odX12_newName
def ag_1134 : aAg := .inl [((.ofNat (nat_lit 16)), (.ofNat (nat_lit 16)), (nat_lit 1))]
def mdn_1135 : List (Nat × Nat × Nat) := [((nat_lit 196), (nat_lit 4), (nat_lit 11)), ((nat_lit 196), (nat_lit 13), (nat_lit 14)), ((nat_lit 198), (nat_lit 0), (nat_lit 8)), ((nat_lit 200), (nat_lit 199), (nat_lit 200)), ((nat_lit 200), (nat_lit 331), (nat_lit 339)), ((nat_lit 1000002), (nat_lit 0), (nat_lit 0))]
def lcn_1136 : Nat × aAg := ((nat_lit 1), .inl [((.ofNat (nat_lit 16)), (.ofNat (nat_lit 16)), (nat_lit 1))])
def ct_664 : aCt := (mX12_newName, [ag_868, ag_1134], ([sl_901, sl_902, sl_913], []), [pon_922, pon_923, pon_924], mdn_1135, [], (nat_lit 2))
set_option maxRecDepth 100000 in
theorem S_664 : aSpec wd ct_664 := bChk_ok wx_ok btX12_newName (nds := [((nat_lit 45), [lcn_905, lcn_1136, lcn_299], [], [sl_901, sl_902, sl_913], [], (8, [(0, -1)]))]) (fk := []) (rk := (9, [])) (sp := 35184372088832) (fuel := 3000) (by decide +kernel) (lk_d S_583 ml_12_143 (lk_d S_584 ml_12_146 (lk_d S_X12_next_0 ml_12_121 (lk_d S_580 ml_12_127 lk_n)))) odX12_newName
def mdn_1137 : List (Nat × Nat × Nat) := [((nat_lit 196), (nat_lit 4), (nat_lit 11)), ((nat_lit 196), (nat_lit 13), (nat_lit 14)), ((nat_lit 198), (nat_lit 0), (nat_lit 8)), ((nat_lit 200), (nat_lit 198), (nat_lit 199)), ((nat_lit 200), (nat_lit 323), (nat_lit 331)), ((nat_lit 1000002), (nat_lit 0), (nat_lit 0))]
def lcn_1138 : Nat × aAg := ((nat_lit 1), .inl [((.ofNat (nat_lit 15)), (.ofNat (nat_lit 15)), (nat_lit 1))])
def ct_665 : aCt := (mX12_newName, [ag_868, ag_253], ([sl_901, sl_902, sl_913], []), [pon_922, pon_923, pon_924], mdn_1137, [], (nat_lit 2))
set_option maxRecDepth 100000 in
theorem S_665 : aSpec wd ct_665 := bChk_ok wx_ok btX12_newName (nds := [((nat_lit 45), [lcn_905, lcn_1138, lcn_299], [], [sl_901, sl_902, sl_913], [], (8, [(0, -1)]))]) (fk := []) (rk := (9, [])) (sp := 35184372088832) (fuel := 3000) (by decide +kernel) (lk_d S_583 ml_12_143 (lk_d S_584 ml_12_146 (lk_d S_X12_next_0 ml_12_121 (lk_d S_580 ml_12_127 lk_n)))) odX12_newName
def ag_1139 : aAg := .inl [((.ofNat (nat_lit 14)), (.ofNat (nat_lit 14)), (nat_lit 1))]
def mdn_1140 : List (Nat × Nat × Nat) := [((nat_lit 196), (nat_lit 4), (nat_lit 11)), ((nat_lit 196), (nat_lit 13), (nat_lit 14)), ((nat_lit 198), (nat_lit 0), (nat_lit 8)), ((nat_lit 200), (nat_lit 197), (nat_lit 198)), ((nat_lit 200), (nat_lit 315), (nat_lit 323)), ((nat_lit 1000002), (nat_lit 0), (nat_lit 0))]
def lcn_1141 : Nat × aAg := ((nat_lit 1), .inl [((.ofNat (nat_lit 14)), (.ofNat (nat_lit 14)), (nat_lit 1))])
def ct_666 : aCt := (mX12_newName, [ag_868, ag_1139], ([sl_901, sl_902, sl_913], []), [pon_922, pon_923, pon_924], mdn_1140, [], (nat_lit 2))
set_option maxRecDepth 100000 in
theorem S_666 : aSpec wd ct_666 := bChk_ok wx_ok btX12_newName (nds := [((nat_lit 45), [lcn_905, lcn_1141, lcn_299], [], [sl_901, sl_902, sl_913], [], (8, [(0, -1)]))]) (fk := []) (rk := (9, [])) (sp := 35184372088832) (fuel := 3000) (by decide +kernel) (lk_d S_583 ml_12_143 (lk_d S_584 ml_12_146 (lk_d S_X12_next_0 ml_12_121 (lk_d S_580 ml_12_127 lk_n)))) odX12_newName
def ag_1142 : aAg := .inl [((.ofNat (nat_lit 13)), (.ofNat (nat_lit 13)), (nat_lit 1))]
def mdn_1143 : List (Nat × Nat × Nat) := [((nat_lit 196), (nat_lit 4), (nat_lit 11)), ((nat_lit 196), (nat_lit 13), (nat_lit 14)), ((nat_lit 198), (nat_lit 0), (nat_lit 8)), ((nat_lit 200), (nat_lit 196), (nat_lit 197)), ((nat_lit 200), (nat_lit 307), (nat_lit 315)), ((nat_lit 1000002), (nat_lit 0), (nat_lit 0))]
def lcn_1144 : Nat × aAg := ((nat_lit 1), .inl [((.ofNat (nat_lit 13)), (.ofNat (nat_lit 13)), (nat_lit 1))])
def ct_667 : aCt := (mX12_newName, [ag_868, ag_1142], ([sl_901, sl_902, sl_913], []), [pon_922, pon_923, pon_924], mdn_1143, [], (nat_lit 2))
set_option maxRecDepth 100000 in
theorem S_667 : aSpec wd ct_667 := bChk_ok wx_ok btX12_newName (nds := [((nat_lit 45), [lcn_905, lcn_1144, lcn_299], [], [sl_901, sl_902, sl_913], [], (8, [(0, -1)]))]) (fk := []) (rk := (9, [])) (sp := 35184372088832) (fuel := 3000) (by decide +kernel) (lk_d S_583 ml_12_143 (lk_d S_584 ml_12_146 (lk_d S_X12_next_0 ml_12_121 (lk_d S_580 ml_12_127 lk_n)))) odX12_newName
def ag_1145 : aAg := .inl [((.ofNat (nat_lit 12)), (.ofNat (nat_lit 12)), (nat_lit 1))]
def mdn_1146 : List (Nat × Nat × Nat) := [((nat_lit 196), (nat_lit 4), (nat_lit 11)), ((nat_lit 196), (nat_lit 13), (nat_lit 14)), ((nat_lit 198), (nat_lit 0), (nat_lit 8)), ((nat_lit 200), (nat_lit 195), (nat_lit 196)), ((nat_lit 200), (nat_lit 299), (nat_lit 307)), ((nat_lit 1000002), (nat_lit 0), (nat_lit 0))]
def lcn_1147 : Nat × aAg := ((nat_lit 1), .inl [((.ofNat (nat_lit 12)), (.ofNat (nat_lit 12)), (nat_lit 1))])
def ct_668 : aCt := (mX12_newName, [ag_868, ag_1145], ([sl_901, sl_902, sl_913], []), [pon_922, pon_923, pon_924], mdn_1146, [], (nat_lit 2))
set_option maxRecDepth 100000 in
theorem S_668 : aSpec wd ct_668 := bChk_ok wx_ok btX12_newName (nds := [((nat_lit 45), [lcn_905, lcn_1147, lcn_299], [], [sl_901, sl_902, sl_913], [], (8, [(0, -1)]))]) (fk := []) (rk := (9, [])) (sp := 35184372088832) (fuel := 3000) (by decide +kernel) (lk_d S_583 ml_12_143 (lk_d S_584 ml_12_146 (lk_d S_X12_next_0 ml_12_121 (lk_d S_580 ml_12_127 lk_n)))) odX12_newName
def ct_669 : aCt := (mX12_named, [ag_868, ag_170, ag_153], ([sl_933, sl_910, sl_919, sl_955, sl_956, sl_957, sl_958, sl_959, sl_960, sl_961], []), [pon_37], mdn_879, [], (nat_lit 0))
set_option maxRecDepth 100000 in
theorem S_669 : aSpec wd ct_669 := bChk_ok wx_ok btX12_named (nds := []) (fk := []) (rk := (1, [])) (sp := 0) (fuel := 3000) (by decide +kernel) lk_n odX12_named
def ct_670 : aCt := (mX12_islandPassed, [ag_868], ([sl_933, sl_910, sl_919, sl_955, sl_956, sl_957, sl_958, sl_959, sl_960, sl_961], []), [pon_37], mdn_879, [], (nat_lit 1))
set_option maxRecDepth 100000 in
theorem S_670 : aSpec wd ct_670 := bChk_ok wx_ok btX12_islandPassed (nds := []) (fk := []) (rk := (1, [])) (sp := 0) (fuel := 3000) (by decide +kernel) (lk_d S_669 ml_12_153 lk_n) odX12_islandPassed
def ct_671 : aCt := (mX12_islandBehind, [ag_868, ag_912], ([sl_933, sl_910, sl_919, sl_955, sl_956, sl_957, sl_958, sl_959, sl_960, sl_961], []), [pon_37], mdn_879, [], (nat_lit 2))
set_option maxRecDepth 100000 in
theorem S_671 : aSpec wd ct_671 := bChk_ok wx_ok btX12_islandBehind (nds := []) (fk := []) (rk := (1, [])) (sp := 0) (fuel := 3000) (by decide +kernel) (lk_d S_670 ml_12_161 (lk_d S_508 ml_12_157 lk_n)) odX12_islandBehind
def ct_672 : aCt := (mX12_number, [ag_868, ag_53, ag_198], ([sl_933, sl_910, sl_919], []), [pon_38], mdn_879, [], (nat_lit 0))
set_option maxRecDepth 100000 in
theorem S_672 : aSpec wd ct_672 := bChk_ok wx_ok btX12_number (nds := []) (fk := []) (rk := (1, [])) (sp := 0) (fuel := 3000) (by decide +kernel) lk_n odX12_number
def ct_673 : aCt := (mX12_after, [ag_868, ag_912, ag_53, ag_198], ([sl_933, sl_910, sl_919], []), [pon_38], mdn_879, [], (nat_lit 1))
set_option maxRecDepth 100000 in
theorem S_673 : aSpec wd ct_673 := bChk_ok wx_ok btX12_after (nds := []) (fk := []) (rk := (1, [])) (sp := 0) (fuel := 3000) (by decide +kernel) (lk_d S_672 ml_12_164 (lk_d S_508 ml_12_157 lk_n)) odX12_after
def ct_674 : aCt := (mX12_number, [ag_868, ag_170, ag_205], ([sl_933, sl_910, sl_919], []), [pon_37], mdn_879, [], (nat_lit 0))
set_option maxRecDepth 100000 in
theorem S_674 : aSpec wd ct_674 := bChk_ok wx_ok btX12_number (nds := []) (fk := []) (rk := (1, [])) (sp := 0) (fuel := 3000) (by decide +kernel) lk_n odX12_number
def ct_675 : aCt := (mX12_after, [ag_868, ag_912, ag_170, ag_205], ([sl_933, sl_910, sl_919], []), [pon_37], mdn_879, [], (nat_lit 1))
set_option maxRecDepth 100000 in
theorem S_675 : aSpec wd ct_675 := bChk_ok wx_ok btX12_after (nds := []) (fk := []) (rk := (1, [])) (sp := 0) (fuel := 3000) (by decide +kernel) (lk_d S_674 ml_12_164 (lk_d S_508 ml_12_157 lk_n)) odX12_after
def sl_1148 : (Nat × Nat) × aI := (((nat_lit 200), (nat_lit 7)), [((.ofNat (nat_lit 0)), (.ofNat (nat_lit 7)), (nat_lit 1))])
def pon_1149 : aPo := (none, [], [sl_933, sl_910, sl_919], [])
def mdn_1150 : List (Nat × Nat × Nat) := [((nat_lit 196), (nat_lit 4), (nat_lit 11)), ((nat_lit 196), (nat_lit 13), (nat_lit 14)), ((nat_lit 198), (nat_lit 0), (nat_lit 8)), ((nat_lit 200), (nat_lit 127), (nat_lit 159)), ((nat_lit 200), (nat_lit 195), (nat_lit 203)), ((nat_lit 200), (nat_lit 299), (nat_lit 363)), ((nat_lit 1000002), (nat_lit 0), (nat_lit 0))]
def lcn_1151 : Nat × aAg := ((nat_lit 1), .inl [((.ofNat (nat_lit 155)), (.ofNat (nat_lit 155)), (nat_lit 1))])
def sl_1152 : (Nat × Nat) × aI := (((nat_lit 200), (nat_lit 7)), [((.ofNat (nat_lit 7)), (.ofNat (nat_lit 7)), (nat_lit 1))])
def sl_1153 : (Nat × Nat) × aI := (((nat_lit 200), (nat_lit 155)), [((.ofNat (nat_lit 0)), (.ofNat (nat_lit 0)), (nat_lit 1))])
def lcn_1154 : Nat × aAg := ((nat_lit 1), .inl [((.ofNat (nat_lit 151)), (.ofNat (nat_lit 151)), (nat_lit 1))])
def sl_1155 : (Nat × Nat) × aI := (((nat_lit 200), (nat_lit 7)), [((.ofNat (nat_lit 6)), (.ofNat (nat_lit 6)), (nat_lit 1))])
def sl_1156 : (Nat × Nat) × aI := (((nat_lit 200), (nat_lit 151)), [((.ofNat (nat_lit 0)), (.ofNat (nat_lit 0)), (nat_lit 1))])
def lcn_1157 : Nat × aAg := ((nat_lit 1), .inl [((.ofNat (nat_lit 147)), (.ofNat (nat_lit 147)), (nat_lit 1))])
def sl_1158 : (Nat × Nat) × aI := (((nat_lit 200), (nat_lit 7)), [((.ofNat (nat_lit 5)), (.ofNat (nat_lit 5)), (nat_lit 1))])
def sl_1159 : (Nat × Nat) × aI := (((nat_lit 200), (nat_lit 147)), [((.ofNat (nat_lit 0)), (.ofNat (nat_lit 0)), (nat_lit 1))])
def lcn_1160 : Nat × aAg := ((nat_lit 1), .inl [((.ofNat (nat_lit 143)), (.ofNat (nat_lit 143)), (nat_lit 1))])
def sl_1161 : (Nat × Nat) × aI := (((nat_lit 200), (nat_lit 7)), [((.ofNat (nat_lit 4)), (.ofNat (nat_lit 4)), (nat_lit 1))])
def sl_1162 : (Nat × Nat) × aI := (((nat_lit 200), (nat_lit 143)), [((.ofNat (nat_lit 0)), (.ofNat (nat_lit 0)), (nat_lit 1))])
def lcn_1163 : Nat × aAg := ((nat_lit 1), .inl [((.ofNat (nat_lit 139)), (.ofNat (nat_lit 139)), (nat_lit 1))])
def sl_1164 : (Nat × Nat) × aI := (((nat_lit 200), (nat_lit 7)), [((.ofNat (nat_lit 3)), (.ofNat (nat_lit 3)), (nat_lit 1))])
def sl_1165 : (Nat × Nat) × aI := (((nat_lit 200), (nat_lit 139)), [((.ofNat (nat_lit 0)), (.ofNat (nat_lit 0)), (nat_lit 1))])
def lcn_1166 : Nat × aAg := ((nat_lit 1), .inl [((.ofNat (nat_lit 135)), (.ofNat (nat_lit 135)), (nat_lit 1))])
def sl_1167 : (Nat × Nat) × aI := (((nat_lit 200), (nat_lit 7)), [((.ofNat (nat_lit 2)), (.ofNat (nat_lit 2)), (nat_lit 1))])
def sl_1168 : (Nat × Nat) × aI := (((nat_lit 200), (nat_lit 135)), [((.ofNat (nat_lit 0)), (.ofNat (nat_lit 0)), (nat_lit 1))])
def lcn_1169 : Nat × aAg := ((nat_lit 1), .inl [((.ofNat (nat_lit 131)), (.ofNat (nat_lit 131)), (nat_lit 1))])
def sl_1170 : (Nat × Nat) × aI := (((nat_lit 200), (nat_lit 7)), [((.ofNat (nat_lit 1)), (.ofNat (nat_lit 1)), (nat_lit 1))])
def sl_1171 : (Nat × Nat) × aI := (((nat_lit 200), (nat_lit 131)), [((.ofNat (nat_lit 0)), (.ofNat (nat_lit 0)), (nat_lit 1))])
def lcn_1172 : Nat × aAg := ((nat_lit 1), .inl [((.ofNat (nat_lit 127)), (.ofNat (nat_lit 127)), (nat_lit 1))])
def sl_1173 : (Nat × Nat) × aI := (((nat_lit 200), (nat_lit 127)), [((.ofNat (nat_lit 0)), (.ofNat (nat_lit 0)), (nat_lit 1))])
def sl_1174 : (Nat × Nat) × aI := (((nat_lit 200), (nat_lit 156)), [((.ofNat (nat_lit 0)), (.ofNat (nat_lit 0)), (nat_lit 1))])
def sl_1175 : (Nat × Nat) × aI := (((nat_lit 200), (nat_lit 152)), [((.ofNat (nat_lit 0)), (.ofNat (nat_lit 0)), (nat_lit 1))])
def sl_1176 : (Nat × Nat) × aI := (((nat_lit 200), (nat_lit 148)), [((.ofNat (nat_lit 0)), (.ofNat (nat_lit 0)), (nat_lit 1))])
def sl_1177 : (Nat × Nat) × aI := (((nat_lit 200), (nat_lit 144)), [((.ofNat (nat_lit 0)), (.ofNat (nat_lit 0)), (nat_lit 1))])
def sl_1178 : (Nat × Nat) × aI := (((nat_lit 200), (nat_lit 140)), [((.ofNat (nat_lit 0)), (.ofNat (nat_lit 0)), (nat_lit 1))])
def sl_1179 : (Nat × Nat) × aI := (((nat_lit 200), (nat_lit 136)), [((.ofNat (nat_lit 0)), (.ofNat (nat_lit 0)), (nat_lit 1))])
def sl_1180 : (Nat × Nat) × aI := (((nat_lit 200), (nat_lit 132)), [((.ofNat (nat_lit 0)), (.ofNat (nat_lit 0)), (nat_lit 1))])
def sl_1181 : (Nat × Nat) × aI := (((nat_lit 200), (nat_lit 128)), [((.ofNat (nat_lit 0)), (.ofNat (nat_lit 0)), (nat_lit 1))])
def sl_1182 : (Nat × Nat) × aI := (((nat_lit 200), (nat_lit 157)), [((.ofNat (nat_lit 1)), (.ofNat (nat_lit 1)), (nat_lit 1))])
def sl_1183 : (Nat × Nat) × aI := (((nat_lit 200), (nat_lit 153)), [((.ofNat (nat_lit 1)), (.ofNat (nat_lit 1)), (nat_lit 1))])
def sl_1184 : (Nat × Nat) × aI := (((nat_lit 200), (nat_lit 149)), [((.ofNat (nat_lit 1)), (.ofNat (nat_lit 1)), (nat_lit 1))])
def sl_1185 : (Nat × Nat) × aI := (((nat_lit 200), (nat_lit 145)), [((.ofNat (nat_lit 1)), (.ofNat (nat_lit 1)), (nat_lit 1))])
def sl_1186 : (Nat × Nat) × aI := (((nat_lit 200), (nat_lit 141)), [((.ofNat (nat_lit 1)), (.ofNat (nat_lit 1)), (nat_lit 1))])
def sl_1187 : (Nat × Nat) × aI := (((nat_lit 200), (nat_lit 137)), [((.ofNat (nat_lit 1)), (.ofNat (nat_lit 1)), (nat_lit 1))])
def sl_1188 : (Nat × Nat) × aI := (((nat_lit 200), (nat_lit 133)), [((.ofNat (nat_lit 1)), (.ofNat (nat_lit 1)), (nat_lit 1))])
def sl_1189 : (Nat × Nat) × aI := (((nat_lit 200), (nat_lit 129)), [((.ofNat (nat_lit 1)), (.ofNat (nat_lit 1)), (nat_lit 1))])
def sl_1190 : (Nat × Nat) × aI := (((nat_lit 200), (nat_lit 158)), [((.ofNat (nat_lit 0)), (.ofNat (nat_lit 0)), (nat_lit 1))])
def sl_1191 : (Nat × Nat) × aI := (((nat_lit 200), (nat_lit 154)), [((.ofNat (nat_lit 0)), (.ofNat (nat_lit 0)), (nat_lit 1))])
def sl_1192 : (Nat × Nat) × aI := (((nat_lit 200), (nat_lit 150)), [((.ofNat (nat_lit 0)), (.ofNat (nat_lit 0)), (nat_lit 1))])
def sl_1193 : (Nat × Nat) × aI := (((nat_lit 200), (nat_lit 146)), [((.ofNat (nat_lit 0)), (.ofNat (nat_lit 0)), (nat_lit 1))])
def sl_1194 : (Nat × Nat) × aI := (((nat_lit 200), (nat_lit 142)), [((.ofNat (nat_lit 0)), (.ofNat (nat_lit 0)), (nat_lit 1))])
def sl_1195 : (Nat × Nat) × aI := (((nat_lit 200), (nat_lit 138)), [((.ofNat (nat_lit 0)), (.ofNat (nat_lit 0)), (nat_lit 1))])
def sl_1196 : (Nat × Nat) × aI := (((nat_lit 200), (nat_lit 134)), [((.ofNat (nat_lit 0)), (.ofNat (nat_lit 0)), (nat_lit 1))])
def sl_1197 : (Nat × Nat) × aI := (((nat_lit 200), (nat_lit 130)), [((.ofNat (nat_lit 0)), (.ofNat (nat_lit 0)), (nat_lit 1))])
def ct_676 : aCt := (mX12_boxLine, [ag_868], ([sl_901, sl_902, sl_913, sl_962, sl_952, sl_1148, sl_964, sl_955, sl_956, sl_957, sl_958, sl_959, sl_960, sl_961], []), [pon_1149], mdn_1150, [], (nat_lit 5))
set_option maxRecDepth 100000 in
theorem S_676 : aSpec wd ct_676 := bChk_ok wx_ok btX12_boxLine (nds := [((nat_lit 47), [lcn_905, lcn_1151], [], [sl_933, sl_910, sl_919, sl_962, sl_952, sl_1152, sl_964, sl_1153, sl_955, sl_956, sl_957, sl_958, sl_959, sl_960, sl_961], [], (4, [])), ((nat_lit 47), [lcn_905, lcn_1154], [], [sl_933, sl_910, sl_919, sl_962, sl_952, sl_1155, sl_964, sl_1156, sl_955, sl_956, sl_957, sl_958, sl_959, sl_960, sl_961], [], (4, [])), ((nat_lit 47), [lcn_905, lcn_1157], [], [sl_933, sl_910, sl_919, sl_962, sl_952, sl_1158, sl_964, sl_1159, sl_955, sl_956, sl_957, sl_958, sl_959, sl_960, sl_961], [], (4, [])), ((nat_lit 47), [lcn_905, lcn_1160], [], [sl_933, sl_910, sl_919, sl_962, sl_952, sl_1161, sl_964, sl_1162, sl_955, sl_956, sl_957, sl_958, sl_959, sl_960, sl_961], [], (4, [])), ((nat_lit 47), [lcn_905, lcn_1163], [], [sl_933, sl_910, sl_919, sl_962, sl_952, sl_1164, sl_964, sl_1165, sl_955, sl_956, sl_957, sl_958, sl_959, sl_960, sl_961], [], (4, [])), ((nat_lit 47), [lcn_905, lcn_1166], [], [sl_933, sl_910, sl_919, sl_962, sl_952, sl_1167, sl_964, sl_1168, sl_955, sl_956, sl_957, sl_958, sl_959, sl_960, sl_961], [], (4, [])), ((nat_lit 47), [lcn_905, lcn_1169], [], [sl_933, sl_910, sl_919, sl_962, sl_952, sl_1170, sl_964, sl_1171, sl_955, sl_956, sl_957, sl_958, sl_959, sl_960, sl_961], [], (4, [])), ((nat_lit 47), [lcn_905, lcn_1172], [], [sl_933, sl_910, sl_919, sl_962, sl_952, sl_953, sl_964, sl_1173, sl_955, sl_956, sl_957, sl_958, sl_959, sl_960, sl_961], [], (4, [])), ((nat_lit 62), [lcn_905, lcn_1151], [], [sl_933, sl_910, sl_919, sl_962, sl_952, sl_1152, sl_964, sl_1153, sl_1174, sl_955, sl_956, sl_957, sl_958, sl_959, sl_960, sl_961], [], (3, [])), ((nat_lit 62), [lcn_905, lcn_1154], [], [sl_933, sl_910, sl_919, sl_962, sl_952, sl_1155, sl_964, sl_1156, sl_1175, sl_955, sl_956, sl_957, sl_958, sl_959, sl_960, sl_961], [], (3, [])), ((nat_lit 62), [lcn_905, lcn_1157], [], [sl_933, sl_910, sl_919, sl_962, sl_952, sl_1158, sl_964, sl_1159, sl_1176, sl_955, sl_956, sl_957, sl_958, sl_959, sl_960, sl_961], [], (3, [])), ((nat_lit 62), [lcn_905, lcn_1160], [], [sl_933, sl_910, sl_919, sl_962, sl_952, sl_1161, sl_964, sl_1162, sl_1177, sl_955, sl_956, sl_957, sl_958, sl_959, sl_960, sl_961], [], (3, [])), ((nat_lit 62), [lcn_905, lcn_1163], [], [sl_933, sl_910, sl_919, sl_962, sl_952, sl_1164, sl_964, sl_1165, sl_1178, sl_955, sl_956, sl_957, sl_958, sl_959, sl_960, sl_961], [], (3, [])), ((nat_lit 62), [lcn_905, lcn_1166], [], [sl_933, sl_910, sl_919, sl_962, sl_952, sl_1167, sl_964, sl_1168, sl_1179, sl_955, sl_956, sl_957, sl_958, sl_959, sl_960, sl_961], [], (3, [])), ((nat_lit 62), [lcn_905, lcn_1169], [], [sl_933, sl_910, sl_919, sl_962, sl_952, sl_1170, sl_964, sl_1171, sl_1180, sl_955, sl_956, sl_957, sl_958, sl_959, sl_960, sl_961], [], (3, [])), ((nat_lit 62), [lcn_905, lcn_1172], [], [sl_933, sl_910, sl_919, sl_962, sl_952, sl_953, sl_964, sl_1173, sl_1181, sl_955, sl_956, sl_957, sl_958, sl_959, sl_960, sl_961], [], (3, [])), ((nat_lit 80), [lcn_905, lcn_1151], [], [sl_933, sl_910, sl_919, sl_962, sl_952, sl_1152, sl_964, sl_1153, sl_1174, sl_1182, sl_955, sl_956, sl_957, sl_958, sl_959, sl_960, sl_961], [], (2, [])), ((nat_lit 80), [lcn_905, lcn_1154], [], [sl_933, sl_910, sl_919, sl_962, sl_952, sl_1155, sl_964, sl_1156, sl_1175, sl_1183, sl_955, sl_956, sl_957, sl_958, sl_959, sl_960, sl_961], [], (2, [])), ((nat_lit 80), [lcn_905, lcn_1157], [], [sl_933, sl_910, sl_919, sl_962, sl_952, sl_1158, sl_964, sl_1159, sl_1176, sl_1184, sl_955, sl_956, sl_957, sl_958, sl_959, sl_960, sl_961], [], (2, [])), ((nat_lit 80), [lcn_905, lcn_1160], [], [sl_933, sl_910, sl_919, sl_962, sl_952, sl_1161, sl_964, sl_1162, sl_1177, sl_1185, sl_955, sl_956, sl_957, sl_958, sl_959, sl_960, sl_961], [], (2, [])), ((nat_lit 80), [lcn_905, lcn_1163], [], [sl_933, sl_910, sl_919, sl_962, sl_952, sl_1164, sl_964, sl_1165, sl_1178, sl_1186, sl_955, sl_956, sl_957, sl_958, sl_959, sl_960, sl_961], [], (2, [])), ((nat_lit 80), [lcn_905, lcn_1166], [], [sl_933, sl_910, sl_919, sl_962, sl_952, sl_1167, sl_964, sl_1168, sl_1179, sl_1187, sl_955, sl_956, sl_957, sl_958, sl_959, sl_960, sl_961], [], (2, [])), ((nat_lit 80), [lcn_905, lcn_1169], [], [sl_933, sl_910, sl_919, sl_962, sl_952, sl_1170, sl_964, sl_1171, sl_1180, sl_1188, sl_955, sl_956, sl_957, sl_958, sl_959, sl_960, sl_961], [], (2, [])), ((nat_lit 80), [lcn_905, lcn_1172], [], [sl_933, sl_910, sl_919, sl_962, sl_952, sl_953, sl_964, sl_1173, sl_1181, sl_1189, sl_955, sl_956, sl_957, sl_958, sl_959, sl_960, sl_961], [], (2, [])), ((nat_lit 99), [lcn_905, lcn_1151], [], [sl_933, sl_910, sl_919, sl_962, sl_952, sl_1152, sl_964, sl_1153, sl_1174, sl_1182, sl_1190, sl_955, sl_956, sl_957, sl_958, sl_959, sl_960, sl_961], [], (1, [])), ((nat_lit 99), [lcn_905, lcn_1154], [], [sl_933, sl_910, sl_919, sl_962, sl_952, sl_1155, sl_964, sl_1156, sl_1175, sl_1183, sl_1191, sl_955, sl_956, sl_957, sl_958, sl_959, sl_960, sl_961], [], (1, [])), ((nat_lit 99), [lcn_905, lcn_1157], [], [sl_933, sl_910, sl_919, sl_962, sl_952, sl_1158, sl_964, sl_1159, sl_1176, sl_1184, sl_1192, sl_955, sl_956, sl_957, sl_958, sl_959, sl_960, sl_961], [], (1, [])), ((nat_lit 99), [lcn_905, lcn_1160], [], [sl_933, sl_910, sl_919, sl_962, sl_952, sl_1161, sl_964, sl_1162, sl_1177, sl_1185, sl_1193, sl_955, sl_956, sl_957, sl_958, sl_959, sl_960, sl_961], [], (1, [])), ((nat_lit 99), [lcn_905, lcn_1163], [], [sl_933, sl_910, sl_919, sl_962, sl_952, sl_1164, sl_964, sl_1165, sl_1178, sl_1186, sl_1194, sl_955, sl_956, sl_957, sl_958, sl_959, sl_960, sl_961], [], (1, [])), ((nat_lit 99), [lcn_905, lcn_1166], [], [sl_933, sl_910, sl_919, sl_962, sl_952, sl_1167, sl_964, sl_1168, sl_1179, sl_1187, sl_1195, sl_955, sl_956, sl_957, sl_958, sl_959, sl_960, sl_961], [], (1, [])), ((nat_lit 99), [lcn_905, lcn_1169], [], [sl_933, sl_910, sl_919, sl_962, sl_952, sl_1170, sl_964, sl_1171, sl_1180, sl_1188, sl_1196, sl_955, sl_956, sl_957, sl_958, sl_959, sl_960, sl_961], [], (1, [])), ((nat_lit 99), [lcn_905, lcn_1172], [], [sl_933, sl_910, sl_919, sl_962, sl_952, sl_953, sl_964, sl_1173, sl_1181, sl_1189, sl_1197, sl_955, sl_956, sl_957, sl_958, sl_959, sl_960, sl_961], [], (1, [])), ((nat_lit 117), [lcn_905, lcn_1151], [], [sl_933, sl_910, sl_919, sl_962, sl_952, sl_1152, sl_964, sl_1153, sl_1174, sl_1182, sl_1190, sl_955, sl_956, sl_957, sl_958, sl_959, sl_960, sl_961], [], (0, [])), ((nat_lit 117), [lcn_905, lcn_1154], [], [sl_933, sl_910, sl_919, sl_962, sl_952, sl_1155, sl_964, sl_1156, sl_1175, sl_1183, sl_1191, sl_955, sl_956, sl_957, sl_958, sl_959, sl_960, sl_961], [], (0, [])), ((nat_lit 117), [lcn_905, lcn_1157], [], [sl_933, sl_910, sl_919, sl_962, sl_952, sl_1158, sl_964, sl_1159, sl_1176, sl_1184, sl_1192, sl_955, sl_956, sl_957, sl_958, sl_959, sl_960, sl_961], [], (0, [])), ((nat_lit 117), [lcn_905, lcn_1160], [], [sl_933, sl_910, sl_919, sl_962, sl_952, sl_1161, sl_964, sl_1162, sl_1177, sl_1185, sl_1193, sl_955, sl_956, sl_957, sl_958, sl_959, sl_960, sl_961], [], (0, [])), ((nat_lit 117), [lcn_905, lcn_1163], [], [sl_933, sl_910, sl_919, sl_962, sl_952, sl_1164, sl_964, sl_1165, sl_1178, sl_1186, sl_1194, sl_955, sl_956, sl_957, sl_958, sl_959, sl_960, sl_961], [], (0, [])), ((nat_lit 117), [lcn_905, lcn_1166], [], [sl_933, sl_910, sl_919, sl_962, sl_952, sl_1167, sl_964, sl_1168, sl_1179, sl_1187, sl_1195, sl_955, sl_956, sl_957, sl_958, sl_959, sl_960, sl_961], [], (0, [])), ((nat_lit 117), [lcn_905, lcn_1169], [], [sl_933, sl_910, sl_919, sl_962, sl_952, sl_1170, sl_964, sl_1171, sl_1180, sl_1188, sl_1196, sl_955, sl_956, sl_957, sl_958, sl_959, sl_960, sl_961], [], (0, [])), ((nat_lit 117), [lcn_905, lcn_1172], [], [sl_933, sl_910, sl_919, sl_962, sl_952, sl_953, sl_964, sl_1173, sl_1181, sl_1189, sl_1197, sl_955, sl_956, sl_957, sl_958, sl_959, sl_960, sl_961], [], (0, []))]) (fk := [18]) (rk := (5, [])) (sp := 166154133299623528659118015977095168) (fuel := 3000) (by decide +kernel) (lk_d S_647 ml_12_223 (lk_d S_662 ml_12_223 (lk_d S_663 ml_12_223 (lk_d S_664 ml_12_223 (lk_d S_665 ml_12_223 (lk_d S_666 ml_12_223 (lk_d S_667 ml_12_223 (lk_d S_668 ml_12_223 (lk_d S_656 ml_12_246 (lk_d S_661 ml_12_246 (lk_d S_659 ml_12_246 (lk_d S_671 ml_12_246 (lk_d S_673 ml_12_213 (lk_d S_675 ml_12_213 lk_n)))))))))))))) odX12_boxLine
def ct_677 : aCt := (mX12_newName, [ag_868, ag_1123], ([sl_915, sl_899, sl_913], []), [pon_920], mdn_921, [], (nat_lit 2))
set_option maxRecDepth 100000 in
theorem S_677 : aSpec wd ct_677 := bChk_ok wx_ok btX12_newName (nds := []) (fk := []) (rk := (1, [])) (sp := 0) (fuel := 3000) (by decide +kernel) (lk_d S_589 ml_12_143 lk_n) odX12_newName
def ct_678 : aCt := (mX12_islandBehind, [ag_868, ag_912], ([sl_915, sl_899, sl_919, sl_955, sl_956, sl_957, sl_958, sl_959, sl_960, sl_961], []), [pon_37], mdn_879, [], (nat_lit 2))
set_option maxRecDepth 100000 in
theorem S_678 : aSpec wd ct_678 := bChk_ok wx_ok btX12_islandBehind (nds := []) (fk := []) (rk := (1, [])) (sp := 0) (fuel := 3000) (by decide +kernel) (lk_d S_658 ml_12_161 (lk_d S_513 ml_12_157 lk_n)) odX12_islandBehind
def ct_679 : aCt := (mX12_newName, [ag_868, ag_1128], ([sl_915, sl_899, sl_913], []), [pon_920], mdn_921, [], (nat_lit 2))
set_option maxRecDepth 100000 in
theorem S_679 : aSpec wd ct_679 := bChk_ok wx_ok btX12_newName (nds := []) (fk := []) (rk := (1, [])) (sp := 0) (fuel := 3000) (by decide +kernel) (lk_d S_589 ml_12_143 lk_n) odX12_newName
def ct_680 : aCt := (mX12_newName, [ag_868, ag_1131], ([sl_915, sl_899, sl_913], []), [pon_920], mdn_921, [], (nat_lit 2))
set_option maxRecDepth 100000 in
theorem S_680 : aSpec wd ct_680 := bChk_ok wx_ok btX12_newName (nds := []) (fk := []) (rk := (1, [])) (sp := 0) (fuel := 3000) (by decide +kernel) (lk_d S_589 ml_12_143 lk_n) odX12_newName
def ct_681 : aCt := (mX12_newName, [ag_868, ag_1134], ([sl_915, sl_899, sl_913], []), [pon_920], mdn_921, [], (nat_lit 2))
set_option maxRecDepth 100000 in
theorem S_681 : aSpec wd ct_681 := bChk_ok wx_ok btX12_newName (nds := []) (fk := []) (rk := (1, [])) (sp := 0) (fuel := 3000) (by decide +kernel) (lk_d S_589 ml_12_143 lk_n) odX12_newName
def ct_682 : aCt := (mX12_newName, [ag_868, ag_253], ([sl_915, sl_899, sl_913], []), [pon_920], mdn_921, [], (nat_lit 2))
set_option maxRecDepth 100000 in
theorem S_682 : aSpec wd ct_682 := bChk_ok wx_ok btX12_newName (nds := []) (fk := []) (rk := (1, [])) (sp := 0) (fuel := 3000) (by decide +kernel) (lk_d S_589 ml_12_143 lk_n) odX12_newName
def ct_683 : aCt := (mX12_newName, [ag_868, ag_1139], ([sl_915, sl_899, sl_913], []), [pon_920], mdn_921, [], (nat_lit 2))
set_option maxRecDepth 100000 in
theorem S_683 : aSpec wd ct_683 := bChk_ok wx_ok btX12_newName (nds := []) (fk := []) (rk := (1, [])) (sp := 0) (fuel := 3000) (by decide +kernel) (lk_d S_589 ml_12_143 lk_n) odX12_newName
def ct_684 : aCt := (mX12_newName, [ag_868, ag_1142], ([sl_915, sl_899, sl_913], []), [pon_920], mdn_921, [], (nat_lit 2))
set_option maxRecDepth 100000 in
theorem S_684 : aSpec wd ct_684 := bChk_ok wx_ok btX12_newName (nds := []) (fk := []) (rk := (1, [])) (sp := 0) (fuel := 3000) (by decide +kernel) (lk_d S_589 ml_12_143 lk_n) odX12_newName
def ct_685 : aCt := (mX12_newName, [ag_868, ag_1145], ([sl_915, sl_899, sl_913], []), [pon_920], mdn_921, [], (nat_lit 2))
set_option maxRecDepth 100000 in
theorem S_685 : aSpec wd ct_685 := bChk_ok wx_ok btX12_newName (nds := []) (fk := []) (rk := (1, [])) (sp := 0) (fuel := 3000) (by decide +kernel) (lk_d S_589 ml_12_143 lk_n) odX12_newName
def ct_686 : aCt := (mX12_after, [ag_868, ag_912, ag_53, ag_198], ([sl_915, sl_899, sl_919], []), [pon_38], mdn_879, [], (nat_lit 1))
set_option maxRecDepth 100000 in
theorem S_686 : aSpec wd ct_686 := bChk_ok wx_ok btX12_after (nds := []) (fk := []) (rk := (1, [])) (sp := 0) (fuel := 3000) (by decide +kernel) (lk_d S_614 ml_12_164 (lk_d S_513 ml_12_157 lk_n)) odX12_after
def ct_687 : aCt := (mX12_number, [ag_868, ag_170, ag_205], ([sl_915, sl_899, sl_919], []), [pon_37], mdn_879, [], (nat_lit 0))
set_option maxRecDepth 100000 in
theorem S_687 : aSpec wd ct_687 := bChk_ok wx_ok btX12_number (nds := []) (fk := []) (rk := (1, [])) (sp := 0) (fuel := 3000) (by decide +kernel) lk_n odX12_number
def ct_688 : aCt := (mX12_after, [ag_868, ag_912, ag_170, ag_205], ([sl_915, sl_899, sl_919], []), [pon_37], mdn_879, [], (nat_lit 1))
set_option maxRecDepth 100000 in
theorem S_688 : aSpec wd ct_688 := bChk_ok wx_ok btX12_after (nds := []) (fk := []) (rk := (1, [])) (sp := 0) (fuel := 3000) (by decide +kernel) (lk_d S_687 ml_12_164 (lk_d S_513 ml_12_157 lk_n)) odX12_after
def mdn_1198 : List (Nat × Nat × Nat) := [((nat_lit 196), (nat_lit 9), (nat_lit 11)), ((nat_lit 196), (nat_lit 13), (nat_lit 14)), ((nat_lit 200), (nat_lit 127), (nat_lit 159)), ((nat_lit 1000002), (nat_lit 0), (nat_lit 0))]
def ct_689 : aCt := (mX12_boxLine, [ag_868], ([sl_915, sl_899, sl_913, sl_962, sl_952, sl_1148, sl_964, sl_955, sl_956, sl_957, sl_958, sl_959, sl_960, sl_961], []), [pon_920], mdn_1198, [], (nat_lit 3))
set_option maxRecDepth 100000 in
theorem S_689 : aSpec wd ct_689 := bChk_ok wx_ok btX12_boxLine (nds := [((nat_lit 47), [lcn_905, lcn_1151], [], [sl_915, sl_899, sl_919, sl_962, sl_952, sl_1152, sl_964, sl_1153, sl_955, sl_956, sl_957, sl_958, sl_959, sl_960, sl_961], [], (4, [])), ((nat_lit 47), [lcn_905, lcn_1154], [], [sl_915, sl_899, sl_919, sl_962, sl_952, sl_1155, sl_964, sl_1156, sl_955, sl_956, sl_957, sl_958, sl_959, sl_960, sl_961], [], (4, [])), ((nat_lit 47), [lcn_905, lcn_1157], [], [sl_915, sl_899, sl_919, sl_962, sl_952, sl_1158, sl_964, sl_1159, sl_955, sl_956, sl_957, sl_958, sl_959, sl_960, sl_961], [], (4, [])), ((nat_lit 47), [lcn_905, lcn_1160], [], [sl_915, sl_899, sl_919, sl_962, sl_952, sl_1161, sl_964, sl_1162, sl_955, sl_956, sl_957, sl_958, sl_959, sl_960, sl_961], [], (4, [])), ((nat_lit 47), [lcn_905, lcn_1163], [], [sl_915, sl_899, sl_919, sl_962, sl_952, sl_1164, sl_964, sl_1165, sl_955, sl_956, sl_957, sl_958, sl_959, sl_960, sl_961], [], (4, [])), ((nat_lit 47), [lcn_905, lcn_1166], [], [sl_915, sl_899, sl_919, sl_962, sl_952, sl_1167, sl_964, sl_1168, sl_955, sl_956, sl_957, sl_958, sl_959, sl_960, sl_961], [], (4, [])), ((nat_lit 47), [lcn_905, lcn_1169], [], [sl_915, sl_899, sl_919, sl_962, sl_952, sl_1170, sl_964, sl_1171, sl_955, sl_956, sl_957, sl_958, sl_959, sl_960, sl_961], [], (4, [])), ((nat_lit 47), [lcn_905, lcn_1172], [], [sl_915, sl_899, sl_919, sl_962, sl_952, sl_953, sl_964, sl_1173, sl_955, sl_956, sl_957, sl_958, sl_959, sl_960, sl_961], [], (4, [])), ((nat_lit 62), [lcn_905, lcn_1151], [], [sl_915, sl_899, sl_919, sl_962, sl_952, sl_1152, sl_964, sl_1153, sl_1174, sl_955, sl_956, sl_957, sl_958, sl_959, sl_960, sl_961], [], (3, [])), ((nat_lit 62), [lcn_905, lcn_1154], [], [sl_915, sl_899, sl_919, sl_962, sl_952, sl_1155, sl_964, sl_1156, sl_1175, sl_955, sl_956, sl_957, sl_958, sl_959, sl_960, sl_961], [], (3, [])), ((nat_lit 62), [lcn_905, lcn_1157], [], [sl_915, sl_899, sl_919, sl_962, sl_952, sl_1158, sl_964, sl_1159, sl_1176, sl_955, sl_956, sl_957, sl_958, sl_959, sl_960, sl_961], [], (3, [])), ((nat_lit 62), [lcn_905, lcn_1160], [], [sl_915, sl_899, sl_919, sl_962, sl_952, sl_1161, sl_964, sl_1162, sl_1177, sl_955, sl_956, sl_957, sl_958, sl_959, sl_960, sl_961], [], (3, [])), ((nat_lit 62), [lcn_905, lcn_1163], [], [sl_915, sl_899, sl_919, sl_962, sl_952, sl_1164, sl_964, sl_1165, sl_1178, sl_955, sl_956, sl_957, sl_958, sl_959, sl_960, sl_961], [], (3, [])), ((nat_lit 62), [lcn_905, lcn_1166], [], [sl_915, sl_899, sl_919, sl_962, sl_952, sl_1167, sl_964, sl_1168, sl_1179, sl_955, sl_956, sl_957, sl_958, sl_959, sl_960, sl_961], [], (3, [])), ((nat_lit 62), [lcn_905, lcn_1169], [], [sl_915, sl_899, sl_919, sl_962, sl_952, sl_1170, sl_964, sl_1171, sl_1180, sl_955, sl_956, sl_957, sl_958, sl_959, sl_960, sl_961], [], (3, [])), ((nat_lit 62), [lcn_905, lcn_1172], [], [sl_915, sl_899, sl_919, sl_962, sl_952, sl_953, sl_964, sl_1173, sl_1181, sl_955, sl_956, sl_957, sl_958, sl_959, sl_960, sl_961], [], (3, [])), ((nat_lit 80), [lcn_905, lcn_1151], [], [sl_915, sl_899, sl_919, sl_962, sl_952, sl_1152, sl_964, sl_1153, sl_1174, sl_1182, sl_955, sl_956, sl_957, sl_958, sl_959, sl_960, sl_961], [], (2, [])), ((nat_lit 80), [lcn_905, lcn_1154], [], [sl_915, sl_899, sl_919, sl_962, sl_952, sl_1155, sl_964, sl_1156, sl_1175, sl_1183, sl_955, sl_956, sl_957, sl_958, sl_959, sl_960, sl_961], [], (2, [])), ((nat_lit 80), [lcn_905, lcn_1157], [], [sl_915, sl_899, sl_919, sl_962, sl_952, sl_1158, sl_964, sl_1159, sl_1176, sl_1184, sl_955, sl_956, sl_957, sl_958, sl_959, sl_960, sl_961], [], (2, [])), ((nat_lit 80), [lcn_905, lcn_1160], [], [sl_915, sl_899, sl_919, sl_962, sl_952, sl_1161, sl_964, sl_1162, sl_1177, sl_1185, sl_955, sl_956, sl_957, sl_958, sl_959, sl_960, sl_961], [], (2, [])), ((nat_lit 80), [lcn_905, lcn_1163], [], [sl_915, sl_899, sl_919, sl_962, sl_952, sl_1164, sl_964, sl_1165, sl_1178, sl_1186, sl_955, sl_956, sl_957, sl_958, sl_959, sl_960, sl_961], [], (2, [])), ((nat_lit 80), [lcn_905, lcn_1166], [], [sl_915, sl_899, sl_919, sl_962, sl_952, sl_1167, sl_964, sl_1168, sl_1179, sl_1187, sl_955, sl_956, sl_957, sl_958, sl_959, sl_960, sl_961], [], (2, [])), ((nat_lit 80), [lcn_905, lcn_1169], [], [sl_915, sl_899, sl_919, sl_962, sl_952, sl_1170, sl_964, sl_1171, sl_1180, sl_1188, sl_955, sl_956, sl_957, sl_958, sl_959, sl_960, sl_961], [], (2, [])), ((nat_lit 80), [lcn_905, lcn_1172], [], [sl_915, sl_899, sl_919, sl_962, sl_952, sl_953, sl_964, sl_1173, sl_1181, sl_1189, sl_955, sl_956, sl_957, sl_958, sl_959, sl_960, sl_961], [], (2, [])), ((nat_lit 99), [lcn_905, lcn_1151], [], [sl_915, sl_899, sl_919, sl_962, sl_952, sl_1152, sl_964, sl_1153, sl_1174, sl_1182, sl_1190, sl_955, sl_956, sl_957, sl_958, sl_959, sl_960, sl_961], [], (1, [])), ((nat_lit 99), [lcn_905, lcn_1154], [], [sl_915, sl_899, sl_919, sl_962, sl_952, sl_1155, sl_964, sl_1156, sl_1175, sl_1183, sl_1191, sl_955, sl_956, sl_957, sl_958, sl_959, sl_960, sl_961], [], (1, [])), ((nat_lit 99), [lcn_905, lcn_1157], [], [sl_915, sl_899, sl_919, sl_962, sl_952, sl_1158, sl_964, sl_1159, sl_1176, sl_1184, sl_1192, sl_955, sl_956, sl_957, sl_958, sl_959, sl_960, sl_961], [], (1, [])), ((nat_lit 99), [lcn_905, lcn_1160], [], [sl_915, sl_899, sl_919, sl_962, sl_952, sl_1161, sl_964, sl_1162, sl_1177, sl_1185, sl_1193, sl_955, sl_956, sl_957, sl_958, sl_959, sl_960, sl_961], [], (1, [])), ((nat_lit 99), [lcn_905, lcn_1163], [], [sl_915, sl_899, sl_919, sl_962, sl_952, sl_1164, sl_964, sl_1165, sl_1178, sl_1186, sl_1194, sl_955, sl_956, sl_957, sl_958, sl_959, sl_960, sl_961], [], (1, [])), ((nat_lit 99), [lcn_905, lcn_1166], [], [sl_915, sl_899, sl_919, sl_962, sl_952, sl_1167, sl_964, sl_1168, sl_1179, sl_1187, sl_1195, sl_955, sl_956, sl_957, sl_958, sl_959, sl_960, sl_961], [], (1, [])), ((nat_lit 99), [lcn_905, lcn_1169], [], [sl_915, sl_899, sl_919, sl_962, sl_952, sl_1170, sl_964, sl_1171, sl_1180, sl_1188, sl_1196, sl_955, sl_956, sl_957, sl_958, sl_959, sl_960, sl_961], [], (1, [])), ((nat_lit 99), [lcn_905, lcn_1172], [], [sl_915, sl_899, sl_919, sl_962, sl_952, sl_953, sl_964, sl_1173, sl_1181, sl_1189, sl_1197, sl_955, sl_956, sl_957, sl_958, sl_959, sl_960, sl_961], [], (1, [])), ((nat_lit 117), [lcn_905, lcn_1151], [], [sl_915, sl_899, sl_919, sl_962, sl_952, sl_1152, sl_964, sl_1153, sl_1174, sl_1182, sl_1190, sl_955, sl_956, sl_957, sl_958, sl_959, sl_960, sl_961], [], (0, [])), ((nat_lit 117), [lcn_905, lcn_1154], [], [sl_915, sl_899, sl_919, sl_962, sl_952, sl_1155, sl_964, sl_1156, sl_1175, sl_1183, sl_1191, sl_955, sl_956, sl_957, sl_958, sl_959, sl_960, sl_961], [], (0, [])), ((nat_lit 117), [lcn_905, lcn_1157], [], [sl_915, sl_899, sl_919, sl_962, sl_952, sl_1158, sl_964, sl_1159, sl_1176, sl_1184, sl_1192, sl_955, sl_956, sl_957, sl_958, sl_959, sl_960, sl_961], [], (0, [])), ((nat_lit 117), [lcn_905, lcn_1160], [], [sl_915, sl_899, sl_919, sl_962, sl_952, sl_1161, sl_964, sl_1162, sl_1177, sl_1185, sl_1193, sl_955, sl_956, sl_957, sl_958, sl_959, sl_960, sl_961], [], (0, [])), ((nat_lit 117), [lcn_905, lcn_1163], [], [sl_915, sl_899, sl_919, sl_962, sl_952, sl_1164, sl_964, sl_1165, sl_1178, sl_1186, sl_1194, sl_955, sl_956, sl_957, sl_958, sl_959, sl_960, sl_961], [], (0, [])), ((nat_lit 117), [lcn_905, lcn_1166], [], [sl_915, sl_899, sl_919, sl_962, sl_952, sl_1167, sl_964, sl_1168, sl_1179, sl_1187, sl_1195, sl_955, sl_956, sl_957, sl_958, sl_959, sl_960, sl_961], [], (0, [])), ((nat_lit 117), [lcn_905, lcn_1169], [], [sl_915, sl_899, sl_919, sl_962, sl_952, sl_1170, sl_964, sl_1171, sl_1180, sl_1188, sl_1196, sl_955, sl_956, sl_957, sl_958, sl_959, sl_960, sl_961], [], (0, [])), ((nat_lit 117), [lcn_905, lcn_1172], [], [sl_915, sl_899, sl_919, sl_962, sl_952, sl_953, sl_964, sl_1173, sl_1181, sl_1189, sl_1197, sl_955, sl_956, sl_957, sl_958, sl_959, sl_960, sl_961], [], (0, []))]) (fk := [18]) (rk := (5, [])) (sp := 166154133299623528659118015977095168) (fuel := 3000) (by decide +kernel) (lk_d S_677 ml_12_223 (lk_d S_679 ml_12_223 (lk_d S_680 ml_12_223 (lk_d S_681 ml_12_223 (lk_d S_682 ml_12_223 (lk_d S_683 ml_12_223 (lk_d S_684 ml_12_223 (lk_d S_685 ml_12_223 (lk_d S_678 ml_12_246 (lk_d S_686 ml_12_213 (lk_d S_688 ml_12_213 lk_n))))))))))) odX12_boxLine
def ag_1199 : aAg := .inl [((.ofNat (nat_lit 11)), (.ofNat (nat_lit 11)), (nat_lit 1))]
def pon_1200 : aPo := (some (.inl [((.ofNat (nat_lit 0)), (.ofNat (nat_lit 0)), (nat_lit 1))]), [some [((.negSucc (nat_lit 0)), (.ofNat (nat_lit 6)), (nat_lit 1)), ((.ofNat (nat_lit 12)), (.ofNat (nat_lit 19)), (nat_lit 1))], none, none], [], [])
def pon_1201 : aPo := (some (.inl [((.ofNat (nat_lit 1)), (.ofNat (nat_lit 1)), (nat_lit 1))]), [some [((.ofNat (nat_lit 7)), (.ofNat (nat_lit 11)), (nat_lit 1))], none, none], [], [])
def ct_690 : aCt := (mX12_in, [ag_1002, ag_133, ag_1199], ([], []), [pon_1200, pon_1201], mdn_879, [], (nat_lit 0))
set_option maxRecDepth 100000 in
theorem S_690 : aSpec wd ct_690 := bChk_ok wx_ok btX12_in (nds := []) (fk := []) (rk := (1, [])) (sp := 0) (fuel := 3000) (by decide +kernel) lk_n odX12_in
def pon_1202 : aPo := (some (.inl [((.ofNat (nat_lit 0)), (.ofNat (nat_lit 4)), (nat_lit 1))]), [], [sl_913], [])
def ct_691 : aCt := (mX12_named, [ag_868, ag_133, ag_1199], ([sl_901, sl_902, sl_913], []), [pon_935, pon_1202], mdn_921, [], (nat_lit 2))
set_option maxRecDepth 100000 in
theorem S_691 : aSpec wd ct_691 := bChk_ok wx_ok btX12_named (nds := []) (fk := []) (rk := (1, [])) (sp := 0) (fuel := 3000) (by decide +kernel) (lk_d S_583 ml_12_143 (lk_d S_584 ml_12_146 (lk_d S_690 ml_12_149 (lk_d S_593 ml_12_127 lk_n)))) odX12_named
def ct_692 : aCt := (mX12_mustName, [ag_868], ([sl_898, sl_899, sl_913], []), [pon_920], mdn_921, [], (nat_lit 1))
set_option maxRecDepth 100000 in
theorem S_692 : aSpec wd ct_692 := bChk_ok wx_ok btX12_mustName (nds := []) (fk := []) (rk := (1, [])) (sp := 0) (fuel := 3000) (by decide +kernel) (lk_d S_481 ml_12_127 lk_n) odX12_mustName
def ct_693 : aCt := (mX12_named, [ag_868, ag_170, ag_153], ([sl_898, sl_899, sl_913], []), [pon_935], mdn_921, [], (nat_lit 2))
set_option maxRecDepth 100000 in
theorem S_693 : aSpec wd ct_693 := bChk_ok wx_ok btX12_named (nds := []) (fk := []) (rk := (1, [])) (sp := 0) (fuel := 3000) (by decide +kernel) (lk_d S_692 ml_12_143 lk_n) odX12_named
def ct_694 : aCt := (mX12_islandPassed, [ag_868], ([sl_898, sl_899, sl_913], []), [pon_935], mdn_921, [], (nat_lit 3))
set_option maxRecDepth 100000 in
theorem S_694 : aSpec wd ct_694 := bChk_ok wx_ok btX12_islandPassed (nds := []) (fk := []) (rk := (1, [])) (sp := 0) (fuel := 3000) (by decide +kernel) (lk_d S_693 ml_12_153 lk_n) odX12_islandPassed
def ct_695 : aCt := (mX12_mustName, [ag_868], ([sl_896, sl_894, sl_913], []), [pon_920], mdn_921, [], (nat_lit 1))
set_option maxRecDepth 100000 in
theorem S_695 : aSpec wd ct_695 := bChk_ok wx_ok btX12_mustName (nds := []) (fk := []) (rk := (1, [])) (sp := 0) (fuel := 3000) (by decide +kernel) (lk_d S_481 ml_12_127 lk_n) odX12_mustName
def ct_696 : aCt := (mX12_named, [ag_868, ag_170, ag_153], ([sl_896, sl_894, sl_913], []), [pon_935], mdn_921, [], (nat_lit 2))
set_option maxRecDepth 100000 in
theorem S_696 : aSpec wd ct_696 := bChk_ok wx_ok btX12_named (nds := []) (fk := []) (rk := (1, [])) (sp := 0) (fuel := 3000) (by decide +kernel) (lk_d S_695 ml_12_143 lk_n) odX12_named
def ct_697 : aCt := (mX12_islandPassed, [ag_868], ([sl_896, sl_894, sl_913], []), [pon_935], mdn_921, [], (nat_lit 3))
set_option maxRecDepth 100000 in
theorem S_697 : aSpec wd ct_697 := bChk_ok wx_ok btX12_islandPassed (nds := []) (fk := []) (rk := (1, [])) (sp := 0) (fuel := 3000) (by decide +kernel) (lk_d S_696 ml_12_153 lk_n) odX12_islandPassed
def ct_698 : aCt := (mX12_mustName, [ag_868], ([sl_893, sl_894, sl_913], []), [pon_920], mdn_921, [], (nat_lit 1))
set_option maxRecDepth 100000 in
theorem S_698 : aSpec wd ct_698 := bChk_ok wx_ok btX12_mustName (nds := []) (fk := []) (rk := (1, [])) (sp := 0) (fuel := 3000) (by decide +kernel) (lk_d S_481 ml_12_127 lk_n) odX12_mustName
def ct_699 : aCt := (mX12_named, [ag_868, ag_170, ag_153], ([sl_893, sl_894, sl_913], []), [pon_935], mdn_921, [], (nat_lit 2))
set_option maxRecDepth 100000 in
theorem S_699 : aSpec wd ct_699 := bChk_ok wx_ok btX12_named (nds := []) (fk := []) (rk := (1, [])) (sp := 0) (fuel := 3000) (by decide +kernel) (lk_d S_698 ml_12_143 lk_n) odX12_named
def ct_700 : aCt := (mX12_islandPassed, [ag_868], ([sl_893, sl_894, sl_913], []), [pon_935], mdn_921, [], (nat_lit 3))
set_option maxRecDepth 100000 in
theorem S_700 : aSpec wd ct_700 := bChk_ok wx_ok btX12_islandPassed (nds := []) (fk := []) (rk := (1, [])) (sp := 0) (fuel := 3000) (by decide +kernel) (lk_d S_699 ml_12_153 lk_n) odX12_islandPassed
def pon_1203 : aPo := (some (.inl [((.ofNat (nat_lit 0)), (.ofNat (nat_lit 0)), (nat_lit 1))]), [], [sl_933, sl_910], [])
def ct_701 : aCt := (mX12_takesWord, [ag_868, ag_912], ([sl_933, sl_910, sl_913], []), [pon_1203, pon_916, pon_917], mdn_918, [], (nat_lit 2))
set_option maxRecDepth 100000 in
theorem S_701 : aSpec wd ct_701 := bChk_ok wx_ok btX12_takesWord (nds := []) (fk := []) (rk := (1, [])) (sp := 0) (fuel := 3000) (by decide +kernel) (lk_d S_X12_next_0 ml_12_121 (lk_d S_X12_isWord_0 ml_12_117 lk_n)) odX12_takesWord
def ct_702 : aCt := (mX12_must, [ag_868, ag_912], ([sl_933, sl_910], []), [pon_1149, pon_923, pon_924], mdn_925, [], (nat_lit 3))
set_option maxRecDepth 100000 in
theorem S_702 : aSpec wd ct_702 := bChk_ok wx_ok btX12_must (nds := []) (fk := []) (rk := (1, [])) (sp := 0) (fuel := 3000) (by decide +kernel) (lk_d S_701 ml_12_124 (lk_d S_481 ml_12_127 lk_n)) odX12_must
def pon_1204 : aPo := (some (.inl aTop), [], [sl_919], [])
def ct_703 : aCt := (mX12_number, [ag_868, ag_1, ag_205], ([sl_901, sl_902, sl_913], []), [pon_1204], mdn_921, [], (nat_lit 1))
set_option maxRecDepth 100000 in
theorem S_703 : aSpec wd ct_703 := bChk_ok wx_ok btX12_number (nds := []) (fk := []) (rk := (1, [])) (sp := 0) (fuel := 3000) (by decide +kernel) (lk_d S_481 ml_12_127 lk_n) odX12_number
def pon_1205 : aPo := (some (.inl [((.ofNat (nat_lit 0)), (.ofNat (nat_lit 0)), (nat_lit 1))]), [some aTop, none, none], [], [])
def pon_1206 : aPo := (some (.inl [((.ofNat (nat_lit 1)), (.ofNat (nat_lit 1)), (nat_lit 1))]), [some [((.negSucc (nat_lit 2147483647)), (.ofNat (nat_lit 9999)), (nat_lit 1))], none, none], [], [])
def ct_704 : aCt := (mX12_in, [ag_1, ag_1, ag_205], ([], []), [pon_1205, pon_1206], mdn_879, [], (nat_lit 0))
set_option maxRecDepth 100000 in
theorem S_704 : aSpec wd ct_704 := bChk_ok wx_ok btX12_in (nds := []) (fk := []) (rk := (1, [])) (sp := 0) (fuel := 3000) (by decide +kernel) lk_n odX12_in
def pon_1207 : aPo := (some (.inl aTop), [], [sl_915, sl_899, sl_919], [])
def pon_1208 : aPo := (some (.inl [((.negSucc (nat_lit 2147483647)), (.ofNat (nat_lit 9999)), (nat_lit 1))]), [], [sl_915, sl_899, sl_913], [])
def pon_1209 : aPo := (some (.inl [((.negSucc (nat_lit 2147483647)), (.ofNat (nat_lit 9999)), (nat_lit 1))]), [], [sl_901, sl_902, sl_913], [])
def ct_705 : aCt := (mX12_number, [ag_868, ag_1, ag_205], ([sl_915, sl_899, sl_913], []), [pon_1207, pon_1208, pon_1209], mdn_925, [], (nat_lit 2))
set_option maxRecDepth 100000 in
theorem S_705 : aSpec wd ct_705 := bChk_ok wx_ok btX12_number (nds := []) (fk := []) (rk := (1, [])) (sp := 0) (fuel := 3000) (by decide +kernel) (lk_d S_X12_next_0 ml_12_121 (lk_d S_481 ml_12_127 (lk_d S_485 ml_12_127 (lk_d S_704 ml_12_149 lk_n)))) odX12_number
def ct_706 : aCt := (mX12_number, [ag_868, ag_1, ag_205], ([sl_933, sl_910, sl_919], []), [pon_130], mdn_879, [], (nat_lit 0))
set_option maxRecDepth 100000 in
theorem S_706 : aSpec wd ct_706 := bChk_ok wx_ok btX12_number (nds := []) (fk := []) (rk := (1, [])) (sp := 0) (fuel := 3000) (by decide +kernel) lk_n odX12_number
def pon_1210 : aPo := (some (.inl aTop), [], [sl_933, sl_910, sl_919], [])
def ct_707 : aCt := (mX12_after, [ag_868, ag_912, ag_1, ag_205], ([sl_933, sl_910], []), [pon_1210, pon_1208, pon_1209], mdn_925, [], (nat_lit 4))
set_option maxRecDepth 100000 in
theorem S_707 : aSpec wd ct_707 := bChk_ok wx_ok btX12_after (nds := []) (fk := []) (rk := (1, [])) (sp := 0) (fuel := 3000) (by decide +kernel) (lk_d S_702 ml_12_157 (lk_d S_703 ml_12_164 (lk_d S_705 ml_12_164 (lk_d S_706 ml_12_164 lk_n)))) odX12_after
def pon_1211 : aPo := (none, [], [sl_933, sl_910, sl_919, sl_972], [])
def sl_1212 : (Nat × Nat) × aI := (((nat_lit 200), (nat_lit 8)), [((.ofNat (nat_lit 1)), (.ofNat (nat_lit 8)), (nat_lit 1))])
def pon_1213 : aPo := (none, [], [sl_915, sl_899, sl_913, sl_1212], [])
def pon_1214 : aPo := (none, [], [sl_901, sl_902, sl_913, sl_1212], [])
def mdn_1215 : List (Nat × Nat × Nat) := [((nat_lit 196), (nat_lit 4), (nat_lit 11)), ((nat_lit 196), (nat_lit 13), (nat_lit 14)), ((nat_lit 198), (nat_lit 0), (nat_lit 8)), ((nat_lit 200), (nat_lit 8), (nat_lit 9)), ((nat_lit 200), (nat_lit 159), (nat_lit 183)), ((nat_lit 1000002), (nat_lit 0), (nat_lit 0))]
def lcn_1216 : Nat × aAg := ((nat_lit 1), .inl [((.ofNat (nat_lit 159)), (.ofNat (nat_lit 180)), (nat_lit 3))])
def lcn_1217 : Nat × aAg := ((nat_lit 5), .inl [((.negSucc (nat_lit 2147483647)), (.ofNat (nat_lit 9999)), (nat_lit 1))])
def ct_708 : aCt := (mX12_spoutLine, [ag_868], ([sl_901, sl_902, sl_913, sl_972], []), [pon_1211, pon_1213, pon_1214], mdn_1215, [], (nat_lit 5))
set_option maxRecDepth 100000 in
theorem S_708 : aSpec wd ct_708 := bChk_ok wx_ok btX12_spoutLine (nds := [((nat_lit 53), [lcn_905, lcn_1216, lcn_571, lcn_144, lcn_354, lcn_655], [], [sl_933, sl_910, sl_972], [], (11, [(4, -1)])), ((nat_lit 136), [lcn_905, lcn_1216, lcn_571, lcn_144, lcn_354, lcn_1217], [], [sl_901, sl_902, sl_913, sl_972], [], (3, [])), ((nat_lit 136), [lcn_905, lcn_1216, lcn_571, lcn_144, lcn_354, lcn_1217], [], [sl_915, sl_899, sl_913, sl_972], [], (3, [])), ((nat_lit 145), [lcn_905, lcn_1216, lcn_571, lcn_144, lcn_354, lcn_1217], [], [sl_901, sl_902, sl_913, sl_972], [], (2, [])), ((nat_lit 145), [lcn_905, lcn_1216, lcn_571, lcn_144, lcn_354, lcn_1217], [], [sl_915, sl_899, sl_913, sl_972], [], (2, [])), ((nat_lit 155), [lcn_905, lcn_1216, lcn_571, lcn_144, lcn_354, lcn_1217], [], [sl_901, sl_902, sl_913, sl_972], [], (1, [])), ((nat_lit 155), [lcn_905, lcn_1216, lcn_571, lcn_144, lcn_354, lcn_1217], [], [sl_915, sl_899, sl_913, sl_972], [], (1, [])), ((nat_lit 166), [lcn_905, lcn_1216, lcn_571, lcn_144, lcn_354, lcn_1217], [], [sl_901, sl_902, sl_913, sl_1212], [], (0, [])), ((nat_lit 166), [lcn_905, lcn_1216, lcn_571, lcn_144, lcn_354, lcn_1217], [], [sl_915, sl_899, sl_913, sl_1212], [], (0, []))]) (fk := []) (rk := (12, [])) (sp := 93581821403947060474236224162924950908798859476992) (fuel := 3000) (by decide +kernel) (lk_d S_697 ml_12_161 (lk_d S_700 ml_12_161 (lk_d S_595 ml_12_161 (lk_d S_631 ml_12_161 (lk_d S_694 ml_12_161 (lk_d S_X12_next_0 ml_12_121 (lk_d S_691 ml_12_153 (lk_d S_707 ml_12_213 lk_n)))))))) odX12_spoutLine
end Pk2
