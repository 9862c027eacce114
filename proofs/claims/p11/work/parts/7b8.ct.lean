section Pk0
def mdn_1800 : List (Nat × Nat × Nat) := [((nat_lit 196), (nat_lit 0), (nat_lit 1))]
set_option maxRecDepth 100000 in
theorem btX12_fault : bTab oX12_fault tX12_fault := ⟨ofX12_fault, by decide +kernel⟩
def ct_922 : aCt := (mX12_fault, [ag_868], ([], []), [pon_420], mdn_1800, [], (nat_lit 0))
set_option maxRecDepth 100000 in
theorem S_922 : aSpec wd ct_922 := bChk_ok wx_ok btX12_fault (nds := []) (fk := []) (rk := (1, [])) (sp := 0) (fuel := 3000) (by decide +kernel) lk_n odX12_fault
def pon_1801 : aPo := (some (.inl aTop), [], [sl_978], [])
def sl_1802 : (Nat × Nat) × aI := (((nat_lit 196), (nat_lit 11)), [((.ofNat (nat_lit 0)), (.ofNat (nat_lit 3)), (nat_lit 1)), ((.ofNat (nat_lit 5)), (.ofNat (nat_lit 6)), (nat_lit 1))])
def pon_1803 : aPo := (some (.inl [((.negSucc (nat_lit 0)), (.negSucc (nat_lit 0)), (nat_lit 1))]), [], [sl_1802], [])
set_option maxRecDepth 100000 in
theorem btX12_where : bTab oX12_where tX12_where := ⟨ofX12_where, by decide +kernel⟩
def ct_923 : aCt := (mX12_where, [ag_868], ([], []), [pon_1801, pon_1803], mdn_1800, [], (nat_lit 0))
set_option maxRecDepth 100000 in
theorem S_923 : aSpec wd ct_923 := bChk_ok wx_ok btX12_where (nds := []) (fk := []) (rk := (1, [])) (sp := 0) (fuel := 3000) (by decide +kernel) lk_n odX12_where
def ag_1804 : aAg := .inl [((.negSucc (nat_lit 0)), (.ofNat (nat_lit 4)), (nat_lit 1))]
def pon_1805 : aPo := (some (.inl [((.ofNat (nat_lit 1)), (.ofNat (nat_lit 1)), (nat_lit 1))]), [some [((.ofNat (nat_lit 0)), (.ofNat (nat_lit 4)), (nat_lit 1))], none, some [((.ofNat (nat_lit 0)), (.ofNat (nat_lit 4)), (nat_lit 1))]], [], [])
def ct_924 : aCt := (mX12_in, [ag_1, ag_170, ag_1804], ([], []), [pon_1205, pon_1805], mdn_879, [], (nat_lit 0))
set_option maxRecDepth 100000 in
theorem S_924 : aSpec wd ct_924 := bChk_ok wx_ok btX12_in (nds := []) (fk := []) (rk := (1, [])) (sp := 0) (fuel := 3000) (by decide +kernel) lk_n odX12_in
def sl_1806 : (Nat × Nat) × aI := (((nat_lit 199), (nat_lit 6)), [((.ofNat (nat_lit 1)), (.ofNat (nat_lit 5)), (nat_lit 1))])
def pon_1807 : aPo := (some (.inl [((.ofNat (nat_lit 1)), (.ofNat (nat_lit 1)), (nat_lit 1))]), [none, some [((.ofNat (nat_lit 0)), (.ofNat (nat_lit 4)), (nat_lit 1))]], [sl_1435, sl_1438, sl_1439, sl_1806], [])
set_option maxRecDepth 100000 in
theorem btX12_isWhale : bTab oX12_isWhale tX12_isWhale := ⟨ofX12_isWhale, by decide +kernel⟩
def ct_925 : aCt := (mX12_isWhale, [ag_868, ag_1], ([], []), [pon_37, pon_1807], [], [], (nat_lit 1))
set_option maxRecDepth 100000 in
theorem S_925 : aSpec wd ct_925 := bChk_ok wx_ok btX12_isWhale (nds := []) (fk := []) (rk := (1, [])) (sp := 0) (fuel := 3000) (by decide +kernel) (lk_d S_924 ml_12_149 lk_n) odX12_isWhale
def pon_1808 : aPo := (some (.inl [((.ofNat (nat_lit 0)), (.ofNat (nat_lit 0)), (nat_lit 1))]), [some [((.negSucc (nat_lit 2147483647)), (.negSucc (nat_lit 0)), (nat_lit 1)), ((.ofNat (nat_lit 5)), (.ofNat (nat_lit 2147483647)), (nat_lit 1))], none, none], [], [])
def ct_926 : aCt := (mX12_in, [ag_1, ag_170, ag_159], ([], []), [pon_1808, pon_1376], mdn_879, [], (nat_lit 0))
set_option maxRecDepth 100000 in
theorem S_926 : aSpec wd ct_926 := bChk_ok wx_ok btX12_in (nds := []) (fk := []) (rk := (1, [])) (sp := 0) (fuel := 3000) (by decide +kernel) lk_n odX12_in
set_option maxRecDepth 100000 in
theorem btX12_ofWhale : bTab oX12_ofWhale tX12_ofWhale := ⟨ofX12_ofWhale, by decide +kernel⟩
def ct_927 : aCt := (mX12_ofWhale, [ag_868, ag_265, ag_170], ([sl_1438, sl_1439, sl_1806], []), [pon_349], [], [], (nat_lit 0))
set_option maxRecDepth 100000 in
theorem S_927 : aSpec wd ct_927 := bChk_ok wx_ok btX12_ofWhale (nds := []) (fk := []) (rk := (1, [])) (sp := 0) (fuel := 3000) (by decide +kernel) lk_n odX12_ofWhale
def ag_1809 : aAg := .inl [((.ofNat (nat_lit 2)), (.ofNat (nat_lit 3)), (nat_lit 1))]
def ct_928 : aCt := (mX12_ofWhale, [ag_868, ag_265, ag_1809], ([sl_1438, sl_1439, sl_1806], []), [pon_130], [], [], (nat_lit 0))
set_option maxRecDepth 100000 in
theorem S_928 : aSpec wd ct_928 := bChk_ok wx_ok btX12_ofWhale (nds := []) (fk := []) (rk := (1, [])) (sp := 0) (fuel := 3000) (by decide +kernel) lk_n odX12_ofWhale
def sl_1810 : (Nat × Nat) × aI := (((nat_lit 196), (nat_lit 11)), [((.ofNat (nat_lit 1)), (.ofNat (nat_lit 1)), (nat_lit 1))])
def pon_1811 : aPo := (some (.inl [((.negSucc (nat_lit 0)), (.negSucc (nat_lit 0)), (nat_lit 1))]), [], [sl_1810], [])
def ct_929 : aCt := (mX12_no, [ag_868, ag_53], ([sl_874], []), [pon_1811], mdn_882, [], (nat_lit 0))
set_option maxRecDepth 100000 in
theorem S_929 : aSpec wd ct_929 := bChk_ok wx_ok btX12_no (nds := []) (fk := []) (rk := (1, [])) (sp := 0) (fuel := 3000) (by decide +kernel) lk_n odX12_no
def pon_1812 : aPo := (some (.inl aTop), [none, some [((.ofNat (nat_lit 0)), (.ofNat (nat_lit 4)), (nat_lit 1))], some [((.ofNat (nat_lit 0)), (.ofNat (nat_lit 4)), (nat_lit 1))]], [sl_874, sl_1435, sl_1438, sl_1439, sl_1806], [])
set_option maxRecDepth 100000 in
theorem btX12_whale : bTab oX12_whale tX12_whale := ⟨ofX12_whale, by decide +kernel⟩
def ct_930 : aCt := (mX12_whale, [ag_868, ag_1, ag_1], ([], []), [pon_1812, pon_1811], mdn_876, [], (nat_lit 2))
set_option maxRecDepth 100000 in
theorem S_930 : aSpec wd ct_930 := bChk_ok wx_ok btX12_whale (nds := []) (fk := []) (rk := (1, [])) (sp := 0) (fuel := 3000) (by decide +kernel) (lk_d S_468 ml_12_167 (lk_d S_929 ml_12_170 (lk_d S_927 ml_12_271 (lk_d S_928 ml_12_271 (lk_d S_925 ml_12_268 (lk_d S_926 ml_12_149 lk_n)))))) odX12_whale
def ag_1813 : aAg := .inl [((.negSucc (nat_lit 0)), (.ofNat (nat_lit 7)), (nat_lit 1))]
def pon_1814 : aPo := (some (.inl [((.ofNat (nat_lit 1)), (.ofNat (nat_lit 1)), (nat_lit 1))]), [some [((.ofNat (nat_lit 0)), (.ofNat (nat_lit 7)), (nat_lit 1))], none, some [((.ofNat (nat_lit 0)), (.ofNat (nat_lit 7)), (nat_lit 1))]], [], [])
def ct_931 : aCt := (mX12_in, [ag_1, ag_170, ag_1813], ([], []), [pon_1205, pon_1814], mdn_879, [], (nat_lit 0))
set_option maxRecDepth 100000 in
theorem S_931 : aSpec wd ct_931 := bChk_ok wx_ok btX12_in (nds := []) (fk := []) (rk := (1, [])) (sp := 0) (fuel := 3000) (by decide +kernel) lk_n odX12_in
def sl_1815 : (Nat × Nat) × aI := (((nat_lit 199), (nat_lit 7)), [((.ofNat (nat_lit 1)), (.ofNat (nat_lit 8)), (nat_lit 1))])
def pon_1816 : aPo := (some (.inl [((.ofNat (nat_lit 1)), (.ofNat (nat_lit 1)), (nat_lit 1))]), [none, some [((.ofNat (nat_lit 0)), (.ofNat (nat_lit 7)), (nat_lit 1))]], [sl_1435, sl_1438, sl_1439, sl_1815], [])
set_option maxRecDepth 100000 in
theorem btX12_isBox : bTab oX12_isBox tX12_isBox := ⟨ofX12_isBox, by decide +kernel⟩
def ct_932 : aCt := (mX12_isBox, [ag_868, ag_1], ([], []), [pon_37, pon_1816], [], [], (nat_lit 1))
set_option maxRecDepth 100000 in
theorem S_932 : aSpec wd ct_932 := bChk_ok wx_ok btX12_isBox (nds := []) (fk := []) (rk := (1, [])) (sp := 0) (fuel := 3000) (by decide +kernel) (lk_d S_931 ml_12_149 lk_n) odX12_isBox
def pon_1817 : aPo := (some (.inl [((.ofNat (nat_lit 0)), (.ofNat (nat_lit 0)), (nat_lit 1))]), [some [((.negSucc (nat_lit 2147483647)), (.negSucc (nat_lit 0)), (nat_lit 1)), ((.ofNat (nat_lit 6)), (.ofNat (nat_lit 2147483647)), (nat_lit 1))], none, none], [], [])
def ct_933 : aCt := (mX12_in, [ag_1, ag_170, ag_150], ([], []), [pon_1817, pon_1410], mdn_879, [], (nat_lit 0))
set_option maxRecDepth 100000 in
theorem S_933 : aSpec wd ct_933 := bChk_ok wx_ok btX12_in (nds := []) (fk := []) (rk := (1, [])) (sp := 0) (fuel := 3000) (by decide +kernel) lk_n odX12_in
set_option maxRecDepth 100000 in
theorem btX12_ofBox : bTab oX12_ofBox tX12_ofBox := ⟨ofX12_ofBox, by decide +kernel⟩
def ct_934 : aCt := (mX12_ofBox, [ag_868, ag_190, ag_364], ([sl_1438, sl_1439, sl_1815], []), [pon_130], [], [], (nat_lit 0))
set_option maxRecDepth 100000 in
theorem S_934 : aSpec wd ct_934 := bChk_ok wx_ok btX12_ofBox (nds := []) (fk := []) (rk := (1, [])) (sp := 0) (fuel := 3000) (by decide +kernel) lk_n odX12_ofBox
def pon_1818 : aPo := (some (.inl aTop), [none, some [((.ofNat (nat_lit 0)), (.ofNat (nat_lit 7)), (nat_lit 1))], some [((.ofNat (nat_lit 0)), (.ofNat (nat_lit 5)), (nat_lit 1))]], [sl_874, sl_1435, sl_1438, sl_1439, sl_1815], [])
def pon_1819 : aPo := (some (.inl [((.negSucc (nat_lit 1)), (.negSucc (nat_lit 1)), (nat_lit 1))]), [none, some [((.ofNat (nat_lit 0)), (.ofNat (nat_lit 7)), (nat_lit 1))], some [((.ofNat (nat_lit 4)), (.ofNat (nat_lit 5)), (nat_lit 1))]], [sl_874, sl_1435, sl_1438, sl_1439, sl_1815], [])
set_option maxRecDepth 100000 in
theorem btX12_box : bTab oX12_box tX12_box := ⟨ofX12_box, by decide +kernel⟩
def ct_935 : aCt := (mX12_box, [ag_868, ag_1, ag_1], ([], []), [pon_1818, pon_1811, pon_1819], mdn_876, [], (nat_lit 2))
set_option maxRecDepth 100000 in
theorem S_935 : aSpec wd ct_935 := bChk_ok wx_ok btX12_box (nds := []) (fk := []) (rk := (1, [])) (sp := 0) (fuel := 3000) (by decide +kernel) (lk_d S_468 ml_12_167 (lk_d S_929 ml_12_170 (lk_d S_934 ml_12_262 (lk_d S_932 ml_12_274 (lk_d S_933 ml_12_149 lk_n))))) odX12_box
def ct_936 : aCt := (mX12_in, [ag_1, ag_170, ag_125], ([], []), [pon_877, pon_1004], mdn_879, [], (nat_lit 0))
set_option maxRecDepth 100000 in
theorem S_936 : aSpec wd ct_936 := bChk_ok wx_ok btX12_in (nds := []) (fk := []) (rk := (1, [])) (sp := 0) (fuel := 3000) (by decide +kernel) lk_n odX12_in
def pon_1820 : aPo := (some (.inl [((.ofNat (nat_lit 1)), (.ofNat (nat_lit 1)), (nat_lit 1))]), [none, some [((.ofNat (nat_lit 0)), (.ofNat (nat_lit 6)), (nat_lit 1))]], [sl_1435, sl_1438, sl_1439], [])
set_option maxRecDepth 100000 in
theorem btX12_isIsland : bTab oX12_isIsland tX12_isIsland := ⟨ofX12_isIsland, by decide +kernel⟩
def ct_937 : aCt := (mX12_isIsland, [ag_868, ag_1], ([], []), [pon_37, pon_1820], [], [], (nat_lit 1))
set_option maxRecDepth 100000 in
theorem S_937 : aSpec wd ct_937 := bChk_ok wx_ok btX12_isIsland (nds := []) (fk := []) (rk := (1, [])) (sp := 0) (fuel := 3000) (by decide +kernel) (lk_d S_936 ml_12_149 lk_n) odX12_isIsland
set_option maxRecDepth 100000 in
theorem btX12_songLong : bTab oX12_songLong tX12_songLong := ⟨ofX12_songLong, by decide +kernel⟩
def ct_938 : aCt := (mX12_songLong, [ag_868, ag_125], ([], []), [pon_267], [], [], (nat_lit 0))
set_option maxRecDepth 100000 in
theorem S_938 : aSpec wd ct_938 := bChk_ok wx_ok btX12_songLong (nds := []) (fk := []) (rk := (1, [])) (sp := 0) (fuel := 3000) (by decide +kernel) lk_n odX12_songLong
def pon_1821 : aPo := (some (.inl [((.ofNat (nat_lit 0)), (.ofNat (nat_lit 6)), (nat_lit 1))]), [none, some [((.ofNat (nat_lit 0)), (.ofNat (nat_lit 6)), (nat_lit 1))]], [sl_874, sl_1435, sl_1438, sl_1439], [])
set_option maxRecDepth 100000 in
theorem btX12_length : bTab oX12_length tX12_length := ⟨ofX12_length, by decide +kernel⟩
def ct_939 : aCt := (mX12_length, [ag_868, ag_1], ([], []), [pon_1821, pon_1811], mdn_876, [], (nat_lit 2))
set_option maxRecDepth 100000 in
theorem S_939 : aSpec wd ct_939 := bChk_ok wx_ok btX12_length (nds := []) (fk := []) (rk := (1, [])) (sp := 0) (fuel := 3000) (by decide +kernel) (lk_d S_468 ml_12_167 (lk_d S_929 ml_12_170 (lk_d S_938 ml_12_265 (lk_d S_937 ml_12_277 lk_n)))) odX12_length
def ag_1822 : aAg := .inl [((.negSucc (nat_lit 0)), (.ofNat (nat_lit 5)), (nat_lit 1))]
def pon_1823 : aPo := (some (.inl [((.ofNat (nat_lit 1)), (.ofNat (nat_lit 1)), (nat_lit 1))]), [some [((.ofNat (nat_lit 0)), (.ofNat (nat_lit 5)), (nat_lit 1))], none, some [((.ofNat (nat_lit 0)), (.ofNat (nat_lit 5)), (nat_lit 1))]], [], [])
def ct_940 : aCt := (mX12_in, [ag_1, ag_170, ag_1822], ([], []), [pon_1205, pon_1823], mdn_879, [], (nat_lit 0))
set_option maxRecDepth 100000 in
theorem S_940 : aSpec wd ct_940 := bChk_ok wx_ok btX12_in (nds := []) (fk := []) (rk := (1, [])) (sp := 0) (fuel := 3000) (by decide +kernel) lk_n odX12_in
def pon_1824 : aPo := (some (.inl [((.negSucc (nat_lit 2)), (.ofNat (nat_lit 3)), (nat_lit 1))]), [], [], [])
set_option maxRecDepth 100000 in
theorem btX12_noteIn : bTab oX12_noteIn tX12_noteIn := ⟨ofX12_noteIn, by decide +kernel⟩
def ct_941 : aCt := (mX12_noteIn, [ag_868, ag_125, ag_413, ag_511], ([sl_1438], []), [pon_1824], [], [], (nat_lit 0))
set_option maxRecDepth 100000 in
theorem S_941 : aSpec wd ct_941 := bChk_ok wx_ok btX12_noteIn (nds := []) (fk := []) (rk := (1, [])) (sp := 0) (fuel := 3000) (by decide +kernel) lk_n odX12_noteIn
def pon_1825 : aPo := (some (.inl [((.negSucc (nat_lit 2)), (.ofNat (nat_lit 3)), (nat_lit 1))]), [none, some [((.ofNat (nat_lit 0)), (.ofNat (nat_lit 6)), (nat_lit 1))], some [((.ofNat (nat_lit 0)), (.ofNat (nat_lit 5)), (nat_lit 1))]], [sl_874, sl_1435, sl_1438, sl_1439], [])
set_option maxRecDepth 100000 in
theorem btX12_note : bTab oX12_note tX12_note := ⟨ofX12_note, by decide +kernel⟩
def ct_942 : aCt := (mX12_note, [ag_868, ag_1, ag_1], ([], []), [pon_1825, pon_1811], mdn_876, [], (nat_lit 2))
set_option maxRecDepth 100000 in
theorem S_942 : aSpec wd ct_942 := bChk_ok wx_ok btX12_note (nds := []) (fk := []) (rk := (1, [])) (sp := 0) (fuel := 3000) (by decide +kernel) (lk_d S_468 ml_12_167 (lk_d S_929 ml_12_170 (lk_d S_938 ml_12_265 (lk_d S_941 ml_12_280 (lk_d S_937 ml_12_277 (lk_d S_940 ml_12_149 lk_n)))))) odX12_note
def ct_943 : aCt := (mX12_ofBox, [ag_868, ag_190, ag_53], ([sl_1438, sl_1439, sl_1815], []), [pon_267], [], [], (nat_lit 0))
set_option maxRecDepth 100000 in
theorem S_943 : aSpec wd ct_943 := bChk_ok wx_ok btX12_ofBox (nds := []) (fk := []) (rk := (1, [])) (sp := 0) (fuel := 3000) (by decide +kernel) lk_n odX12_ofBox
set_option maxRecDepth 100000 in
theorem btX12_boxLong : bTab oX12_boxLong tX12_boxLong := ⟨ofX12_boxLong, by decide +kernel⟩
def ct_944 : aCt := (mX12_boxLong, [ag_868, ag_190], ([sl_1438, sl_1439, sl_1815], []), [pon_267], [], [], (nat_lit 1))
set_option maxRecDepth 100000 in
theorem S_944 : aSpec wd ct_944 := bChk_ok wx_ok btX12_boxLong (nds := []) (fk := [7]) (rk := (1, [])) (sp := 0) (fuel := 3000) (by decide +kernel) (lk_d S_938 ml_12_265 (lk_d S_943 ml_12_262 lk_n)) odX12_boxLong
set_option maxRecDepth 100000 in
theorem btX12_sung : bTab oX12_sung tX12_sung := ⟨ofX12_sung, by decide +kernel⟩
def ct_945 : aCt := (mX12_sung, [ag_868, ag_1, ag_1], ([], []), [pon_1818, pon_1811], mdn_876, [], (nat_lit 2))
set_option maxRecDepth 100000 in
theorem S_945 : aSpec wd ct_945 := bChk_ok wx_ok btX12_sung (nds := []) (fk := []) (rk := (1, [])) (sp := 0) (fuel := 3000) (by decide +kernel) (lk_d S_468 ml_12_167 (lk_d S_929 ml_12_170 (lk_d S_944 ml_12_284 (lk_d S_932 ml_12_274 (lk_d S_940 ml_12_149 lk_n))))) odX12_sung
def ct_946 : aCt := (mX12_ofBox, [ag_868, ag_190, ag_53], ([sl_1438, sl_1439], []), [pon_267], [], [], (nat_lit 0))
set_option maxRecDepth 100000 in
theorem S_946 : aSpec wd ct_946 := bChk_ok wx_ok btX12_ofBox (nds := []) (fk := []) (rk := (1, [])) (sp := 0) (fuel := 3000) (by decide +kernel) lk_n odX12_ofBox
def ct_947 : aCt := (mX12_boxLong, [ag_868, ag_190], ([sl_1438, sl_1439], []), [pon_267], [], [], (nat_lit 1))
set_option maxRecDepth 100000 in
theorem S_947 : aSpec wd ct_947 := bChk_ok wx_ok btX12_boxLong (nds := []) (fk := [7]) (rk := (1, [])) (sp := 0) (fuel := 3000) (by decide +kernel) (lk_d S_938 ml_12_265 (lk_d S_946 ml_12_262 lk_n)) odX12_boxLong
def ct_948 : aCt := (mX12_ofBox, [ag_868, ag_190, ag_53], ([sl_1438], []), [pon_267], [], [], (nat_lit 0))
set_option maxRecDepth 100000 in
theorem S_948 : aSpec wd ct_948 := bChk_ok wx_ok btX12_ofBox (nds := []) (fk := []) (rk := (1, [])) (sp := 0) (fuel := 3000) (by decide +kernel) lk_n odX12_ofBox
def ct_949 : aCt := (mX12_boxLong, [ag_868, ag_190], ([sl_1438], []), [pon_267], [], [], (nat_lit 1))
set_option maxRecDepth 100000 in
theorem S_949 : aSpec wd ct_949 := bChk_ok wx_ok btX12_boxLong (nds := []) (fk := [7]) (rk := (1, [])) (sp := 0) (fuel := 3000) (by decide +kernel) (lk_d S_938 ml_12_265 (lk_d S_948 ml_12_262 lk_n)) odX12_boxLong
def lcn_1826 : Nat × aAg := ((nat_lit 4), .inl [((.negSucc (nat_lit 0)), (.ofNat (nat_lit 5)), (nat_lit 1))])
def lcn_1827 : Nat × aAg := ((nat_lit 6), .inl aTop)
def lcn_1828 : Nat × aAg := ((nat_lit 7), .inl [((.ofNat (nat_lit 0)), (.ofNat (nat_lit 6)), (nat_lit 1))])
set_option maxRecDepth 100000 in
theorem btX12_unlike : bTab oX12_unlike tX12_unlike := ⟨ofX12_unlike, by decide +kernel⟩
def ct_950 : aCt := (mX12_unlike, [ag_868, ag_190, ag_125, ag_511, ag_1822, ag_364], ([sl_1438], []), [pon_130], [], [], (nat_lit 2))
set_option maxRecDepth 100000 in
theorem S_950 : aSpec wd ct_950 := bChk_ok wx_ok btX12_unlike (nds := [((nat_lit 6), [lcn_905, lcn_541, lcn_251, lcn_512, lcn_1826, lcn_1049, lcn_1827, lcn_1828], [], [sl_1438], [], (6, [(6, -1)]))]) (fk := []) (rk := (7, [])) (sp := 64) (fuel := 3000) (by decide +kernel) (lk_d S_949 ml_12_284 (lk_d S_941 ml_12_280 lk_n)) odX12_unlike
def lcn_1829 : Nat × aAg := ((nat_lit 2), .inl [((.ofNat (nat_lit 0)), (.ofNat (nat_lit 10098)), (nat_lit 1))])
def lcn_1830 : Nat × aAg := ((nat_lit 3), .inl [((.negSucc (nat_lit 0)), (.ofNat (nat_lit 5)), (nat_lit 1))])
def lcn_1831 : Nat × aAg := ((nat_lit 6), .inl [((.negSucc (nat_lit 2147483647)), (.ofNat (nat_lit 7)), (nat_lit 1))])
def lcn_1832 : Nat × aAg := ((nat_lit 7), .inl [((.ofNat (nat_lit 0)), (.ofNat (nat_lit 7)), (nat_lit 1))])
set_option maxRecDepth 100000 in
theorem btX12_hearsIn : bTab oX12_hearsIn tX12_hearsIn := ⟨ofX12_hearsIn, by decide +kernel⟩
def ct_951 : aCt := (mX12_hearsIn, [ag_868, ag_190, ag_511, ag_1822, ag_364], ([sl_1438], []), [pon_368, pon_52], [], [], (nat_lit 3))
set_option maxRecDepth 100000 in
theorem S_951 : aSpec wd ct_951 := bChk_ok wx_ok btX12_hearsIn (nds := [((nat_lit 11), [lcn_905, lcn_541, lcn_1829, lcn_1830, lcn_452, lcn_371, lcn_1831, lcn_1832], [], [sl_1438], [], (7, [(6, -1)]))]) (fk := []) (rk := (8, [])) (sp := 2048) (fuel := 3000) (by decide +kernel) (lk_d S_938 ml_12_265 (lk_d S_947 ml_12_284 (lk_d S_950 ml_12_287 lk_n))) odX12_hearsIn
set_option maxRecDepth 100000 in
theorem btX12_heardNow : bTab oX12_heardNow tX12_heardNow := ⟨ofX12_heardNow, by decide +kernel⟩
def ct_952 : aCt := (mX12_heardNow, [ag_868, ag_190], ([sl_1438, sl_1439, sl_1815], []), [pon_368, pon_52], [], [], (nat_lit 4))
set_option maxRecDepth 100000 in
theorem S_952 : aSpec wd ct_952 := bChk_ok wx_ok btX12_heardNow (nds := []) (fk := []) (rk := (1, [])) (sp := 0) (fuel := 3000) (by decide +kernel) (lk_d S_951 ml_12_291 lk_n) odX12_heardNow
def pon_1833 : aPo := (some (.inl [((.negSucc (nat_lit 1)), (.negSucc (nat_lit 1)), (nat_lit 1)), ((.ofNat (nat_lit 0)), (.ofNat (nat_lit 6)), (nat_lit 1))]), [none, some [((.ofNat (nat_lit 0)), (.ofNat (nat_lit 7)), (nat_lit 1))]], [sl_874, sl_1435, sl_1438, sl_1439, sl_1815], [])
def pon_1834 : aPo := (some (.inl [((.negSucc (nat_lit 1)), (.negSucc (nat_lit 1)), (nat_lit 1))]), [none, some [((.ofNat (nat_lit 0)), (.ofNat (nat_lit 7)), (nat_lit 1))]], [sl_874, sl_1435, sl_1438, sl_1439, sl_1815], [])
set_option maxRecDepth 100000 in
theorem btX12_heard : bTab oX12_heard tX12_heard := ⟨ofX12_heard, by decide +kernel⟩
def ct_953 : aCt := (mX12_heard, [ag_868, ag_1], ([], []), [pon_1833, pon_1811, pon_1834], mdn_876, [], (nat_lit 5))
set_option maxRecDepth 100000 in
theorem S_953 : aSpec wd ct_953 := bChk_ok wx_ok btX12_heard (nds := []) (fk := []) (rk := (1, [])) (sp := 0) (fuel := 3000) (by decide +kernel) (lk_d S_468 ml_12_167 (lk_d S_929 ml_12_170 (lk_d S_952 ml_12_295 (lk_d S_932 ml_12_274 lk_n)))) odX12_heard
def ct_954 : aCt := (mX12_isIsland, [ag_868, ag_1], ([sl_1435, sl_1438, sl_1439], []), [pon_37, pon_377], [], [], (nat_lit 1))
set_option maxRecDepth 100000 in
theorem S_954 : aSpec wd ct_954 := bChk_ok wx_ok btX12_isIsland (nds := []) (fk := []) (rk := (1, [])) (sp := 0) (fuel := 3000) (by decide +kernel) (lk_d S_936 ml_12_149 lk_n) odX12_isIsland
def ag_1835 : aAg := .inr (.inl [(nat_lit 199)])
def ct_955 : aCt := (mX12_joins, [ag_1835, ag_383, ag_125, ag_125], ([], []), [pon_37, pon_38], mdn_879, [], (nat_lit 0))
set_option maxRecDepth 100000 in
theorem S_955 : aSpec wd ct_955 := bChk_ok wx_ok btX12_joins (nds := []) (fk := []) (rk := (1, [])) (sp := 0) (fuel := 3000) (by decide +kernel) lk_n odX12_joins
set_option maxRecDepth 100000 in
theorem btX12_hasBit : bTab oX12_hasBit tX12_hasBit := ⟨ofX12_hasBit, by decide +kernel⟩
def ct_956 : aCt := (mX12_hasBit, [ag_1, ag_608], ([], []), [pon_37, pon_38], [], [], (nat_lit 0))
set_option maxRecDepth 100000 in
theorem S_956 : aSpec wd ct_956 := bChk_ok wx_ok btX12_hasBit (nds := []) (fk := []) (rk := (1, [])) (sp := 0) (fuel := 3000) (by decide +kernel) lk_n odX12_hasBit
set_option maxRecDepth 100000 in
theorem btX12_isClosed : bTab oX12_isClosed tX12_isClosed := ⟨ofX12_isClosed, by decide +kernel⟩
def ct_957 : aCt := (mX12_isClosed, [ag_868, ag_383], ([], []), [pon_37, pon_38], [], [], (nat_lit 1))
set_option maxRecDepth 100000 in
theorem S_957 : aSpec wd ct_957 := bChk_ok wx_ok btX12_isClosed (nds := []) (fk := []) (rk := (1, [])) (sp := 0) (fuel := 3000) (by decide +kernel) (lk_d S_956 ml_12_298 lk_n) odX12_isClosed
def sl_1836 : (Nat × Nat) × aI := (((nat_lit 199), (nat_lit 5)), [((.ofNat (nat_lit 1)), (.ofNat (nat_lit 12)), (nat_lit 1))])
def pon_1837 : aPo := (some (.inl [((.ofNat (nat_lit 0)), (.ofNat (nat_lit 11)), (nat_lit 1))]), [], [sl_1836], [])
set_option maxRecDepth 100000 in
theorem btX12_wayOf : bTab oX12_wayOf tX12_wayOf := ⟨ofX12_wayOf, by decide +kernel⟩
def ct_958 : aCt := (mX12_wayOf, [ag_868, ag_125, ag_125], ([sl_1438, sl_1439], []), [pon_1837, pon_885], [], [], (nat_lit 2))
set_option maxRecDepth 100000 in
theorem S_958 : aSpec wd ct_958 := bChk_ok wx_ok btX12_wayOf (nds := [((nat_lit 2), [lcn_905, lcn_250, lcn_251, lcn_382], [], [sl_1438, sl_1439], [], (12, [(2, -1)]))]) (fk := []) (rk := (13, [])) (sp := 4) (fuel := 3000) (by decide +kernel) (lk_d S_957 ml_12_302 (lk_d S_955 ml_12_230 lk_n)) odX12_wayOf
def pon_1838 : aPo := (some (.inl aTop), [none, some [((.ofNat (nat_lit 0)), (.ofNat (nat_lit 6)), (nat_lit 1))], some [((.ofNat (nat_lit 0)), (.ofNat (nat_lit 6)), (nat_lit 1))]], [sl_874, sl_1435, sl_1438, sl_1439, sl_1836], [])
def pon_1839 : aPo := (some (.inl [((.negSucc (nat_lit 1)), (.negSucc (nat_lit 1)), (nat_lit 1))]), [none, some [((.ofNat (nat_lit 0)), (.ofNat (nat_lit 6)), (nat_lit 1))], some [((.ofNat (nat_lit 0)), (.ofNat (nat_lit 6)), (nat_lit 1))]], [sl_874, sl_1435, sl_1438, sl_1439], [])
set_option maxRecDepth 100000 in
theorem btX12_way : bTab oX12_way tX12_way := ⟨ofX12_way, by decide +kernel⟩
def ct_959 : aCt := (mX12_way, [ag_868, ag_1, ag_1], ([], []), [pon_1838, pon_1811, pon_1839], mdn_876, [], (nat_lit 3))
set_option maxRecDepth 100000 in
theorem S_959 : aSpec wd ct_959 := bChk_ok wx_ok btX12_way (nds := []) (fk := []) (rk := (1, [])) (sp := 0) (fuel := 3000) (by decide +kernel) (lk_d S_468 ml_12_167 (lk_d S_929 ml_12_170 (lk_d S_958 ml_12_305 (lk_d S_954 ml_12_277 (lk_d S_937 ml_12_277 lk_n))))) odX12_way
def pon_1840 : aPo := (some (.inl [((.ofNat (nat_lit 0)), (.ofNat (nat_lit 0)), (nat_lit 1))]), [some [((.negSucc (nat_lit 2147483647)), (.negSucc (nat_lit 0)), (nat_lit 1)), ((.ofNat (nat_lit 100000)), (.ofNat (nat_lit 2147483647)), (nat_lit 1))], none, none], [], [])
def pon_1841 : aPo := (some (.inl [((.ofNat (nat_lit 1)), (.ofNat (nat_lit 1)), (nat_lit 1))]), [some [((.ofNat (nat_lit 0)), (.ofNat (nat_lit 99999)), (nat_lit 1))], none, none], [], [])
def ct_960 : aCt := (mX12_in, [ag_1, ag_170, ag_388], ([], []), [pon_1840, pon_1841], mdn_879, [], (nat_lit 0))
set_option maxRecDepth 100000 in
theorem S_960 : aSpec wd ct_960 := bChk_ok wx_ok btX12_in (nds := []) (fk := []) (rk := (1, [])) (sp := 0) (fuel := 3000) (by decide +kernel) lk_n odX12_in
set_option maxRecDepth 100000 in
theorem btX12_seasonOf : bTab oX12_seasonOf tX12_seasonOf := ⟨ofX12_seasonOf, by decide +kernel⟩
def ct_961 : aCt := (mX12_seasonOf, [ag_561], ([], []), [pon_349], [], [], (nat_lit 0))
set_option maxRecDepth 100000 in
theorem S_961 : aSpec wd ct_961 := bChk_ok wx_ok btX12_seasonOf (nds := []) (fk := []) (rk := (1, [])) (sp := 0) (fuel := 3000) (by decide +kernel) lk_n odX12_seasonOf
def pon_1842 : aPo := (some (.inl [((.ofNat (nat_lit 0)), (.ofNat (nat_lit 3)), (nat_lit 1))]), [none, some [((.ofNat (nat_lit 0)), (.ofNat (nat_lit 99999)), (nat_lit 1))]], [sl_874, sl_1435, sl_1438, sl_1439], [])
def sl_1843 : (Nat × Nat) × aI := (((nat_lit 196), (nat_lit 11)), [((.ofNat (nat_lit 1)), (.ofNat (nat_lit 2)), (nat_lit 1))])
def pon_1844 : aPo := (some (.inl [((.negSucc (nat_lit 0)), (.negSucc (nat_lit 0)), (nat_lit 1))]), [], [sl_1843], [])
set_option maxRecDepth 100000 in
theorem btX12_season : bTab oX12_season tX12_season := ⟨ofX12_season, by decide +kernel⟩
def ct_962 : aCt := (mX12_season, [ag_868, ag_1], ([], []), [pon_1842, pon_1844], mdn_876, [], (nat_lit 1))
set_option maxRecDepth 100000 in
theorem S_962 : aSpec wd ct_962 := bChk_ok wx_ok btX12_season (nds := []) (fk := []) (rk := (1, [])) (sp := 0) (fuel := 3000) (by decide +kernel) (lk_d S_468 ml_12_167 (lk_d S_929 ml_12_170 (lk_d S_470 ml_12_170 (lk_d S_961 ml_12_337 (lk_d S_960 ml_12_149 lk_n))))) odX12_season
def pon_1845 : aPo := (some (.inl [((.ofNat (nat_lit 0)), (.ofNat (nat_lit 0)), (nat_lit 1))]), [some [((.negSucc (nat_lit 2147483647)), (.negSucc (nat_lit 0)), (nat_lit 1)), ((.ofNat (nat_lit 12)), (.ofNat (nat_lit 2147483647)), (nat_lit 1))], none, none], [], [])
def pon_1846 : aPo := (some (.inl [((.ofNat (nat_lit 1)), (.ofNat (nat_lit 1)), (nat_lit 1))]), [some [((.ofNat (nat_lit 0)), (.ofNat (nat_lit 11)), (nat_lit 1))], none, none], [], [])
def ct_963 : aCt := (mX12_in, [ag_1, ag_170, ag_1199], ([], []), [pon_1845, pon_1846], mdn_879, [], (nat_lit 0))
set_option maxRecDepth 100000 in
theorem S_963 : aSpec wd ct_963 := bChk_ok wx_ok btX12_in (nds := []) (fk := []) (rk := (1, [])) (sp := 0) (fuel := 3000) (by decide +kernel) lk_n odX12_in
def sl_1847 : (Nat × Nat) × aI := (((nat_lit 199), (nat_lit 5)), [((.ofNat (nat_lit 12)), (.ofNat (nat_lit 12)), (nat_lit 1))])
def ct_964 : aCt := (mX12_ofWhale, [ag_868, ag_265, ag_170], ([sl_1438, sl_1439, sl_1847, sl_1806], []), [pon_349], [], [], (nat_lit 0))
set_option maxRecDepth 100000 in
theorem S_964 : aSpec wd ct_964 := bChk_ok wx_ok btX12_ofWhale (nds := []) (fk := []) (rk := (1, [])) (sp := 0) (fuel := 3000) (by decide +kernel) lk_n odX12_ofWhale
def ag_1848 : aAg := .inl [((.ofNat (nat_lit 10)), (.ofNat (nat_lit 10)), (nat_lit 1))]
def pon_1849 : aPo := (some (.inl [((.ofNat (nat_lit 0)), (.ofNat (nat_lit 0)), (nat_lit 1))]), [some [((.negSucc (nat_lit 2147483647)), (.negSucc (nat_lit 0)), (nat_lit 1)), ((.ofNat (nat_lit 11)), (.ofNat (nat_lit 2147483647)), (nat_lit 1))], none, none], [], [])
def pon_1850 : aPo := (some (.inl [((.ofNat (nat_lit 1)), (.ofNat (nat_lit 1)), (nat_lit 1))]), [some [((.ofNat (nat_lit 0)), (.ofNat (nat_lit 10)), (nat_lit 1))], none, none], [], [])
def ct_965 : aCt := (mX12_in, [ag_1, ag_170, ag_1848], ([], []), [pon_1849, pon_1850], mdn_879, [], (nat_lit 0))
set_option maxRecDepth 100000 in
theorem S_965 : aSpec wd ct_965 := bChk_ok wx_ok btX12_in (nds := []) (fk := []) (rk := (1, [])) (sp := 0) (fuel := 3000) (by decide +kernel) lk_n odX12_in
def sl_1851 : (Nat × Nat) × aI := (((nat_lit 199), (nat_lit 5)), [((.ofNat (nat_lit 11)), (.ofNat (nat_lit 11)), (nat_lit 1))])
def ct_966 : aCt := (mX12_ofWhale, [ag_868, ag_265, ag_170], ([sl_1438, sl_1439, sl_1851, sl_1806], []), [pon_349], [], [], (nat_lit 0))
set_option maxRecDepth 100000 in
theorem S_966 : aSpec wd ct_966 := bChk_ok wx_ok btX12_ofWhale (nds := []) (fk := []) (rk := (1, [])) (sp := 0) (fuel := 3000) (by decide +kernel) lk_n odX12_ofWhale
def ag_1852 : aAg := .inl [((.ofNat (nat_lit 9)), (.ofNat (nat_lit 9)), (nat_lit 1))]
def pon_1853 : aPo := (some (.inl [((.ofNat (nat_lit 0)), (.ofNat (nat_lit 0)), (nat_lit 1))]), [some [((.negSucc (nat_lit 2147483647)), (.negSucc (nat_lit 0)), (nat_lit 1)), ((.ofNat (nat_lit 10)), (.ofNat (nat_lit 2147483647)), (nat_lit 1))], none, none], [], [])
def pon_1854 : aPo := (some (.inl [((.ofNat (nat_lit 1)), (.ofNat (nat_lit 1)), (nat_lit 1))]), [some [((.ofNat (nat_lit 0)), (.ofNat (nat_lit 9)), (nat_lit 1))], none, none], [], [])
def ct_967 : aCt := (mX12_in, [ag_1, ag_170, ag_1852], ([], []), [pon_1853, pon_1854], mdn_879, [], (nat_lit 0))
set_option maxRecDepth 100000 in
theorem S_967 : aSpec wd ct_967 := bChk_ok wx_ok btX12_in (nds := []) (fk := []) (rk := (1, [])) (sp := 0) (fuel := 3000) (by decide +kernel) lk_n odX12_in
def sl_1855 : (Nat × Nat) × aI := (((nat_lit 199), (nat_lit 5)), [((.ofNat (nat_lit 10)), (.ofNat (nat_lit 10)), (nat_lit 1))])
def ct_968 : aCt := (mX12_ofWhale, [ag_868, ag_265, ag_170], ([sl_1438, sl_1439, sl_1855, sl_1806], []), [pon_349], [], [], (nat_lit 0))
set_option maxRecDepth 100000 in
theorem S_968 : aSpec wd ct_968 := bChk_ok wx_ok btX12_ofWhale (nds := []) (fk := []) (rk := (1, [])) (sp := 0) (fuel := 3000) (by decide +kernel) lk_n odX12_ofWhale
def ag_1856 : aAg := .inl [((.ofNat (nat_lit 8)), (.ofNat (nat_lit 8)), (nat_lit 1))]
def pon_1857 : aPo := (some (.inl [((.ofNat (nat_lit 0)), (.ofNat (nat_lit 0)), (nat_lit 1))]), [some [((.negSucc (nat_lit 2147483647)), (.negSucc (nat_lit 0)), (nat_lit 1)), ((.ofNat (nat_lit 9)), (.ofNat (nat_lit 2147483647)), (nat_lit 1))], none, none], [], [])
def pon_1858 : aPo := (some (.inl [((.ofNat (nat_lit 1)), (.ofNat (nat_lit 1)), (nat_lit 1))]), [some [((.ofNat (nat_lit 0)), (.ofNat (nat_lit 8)), (nat_lit 1))], none, none], [], [])
def ct_969 : aCt := (mX12_in, [ag_1, ag_170, ag_1856], ([], []), [pon_1857, pon_1858], mdn_879, [], (nat_lit 0))
set_option maxRecDepth 100000 in
theorem S_969 : aSpec wd ct_969 := bChk_ok wx_ok btX12_in (nds := []) (fk := []) (rk := (1, [])) (sp := 0) (fuel := 3000) (by decide +kernel) lk_n odX12_in
def sl_1859 : (Nat × Nat) × aI := (((nat_lit 199), (nat_lit 5)), [((.ofNat (nat_lit 9)), (.ofNat (nat_lit 9)), (nat_lit 1))])
def ct_970 : aCt := (mX12_ofWhale, [ag_868, ag_265, ag_170], ([sl_1438, sl_1439, sl_1859, sl_1806], []), [pon_349], [], [], (nat_lit 0))
set_option maxRecDepth 100000 in
theorem S_970 : aSpec wd ct_970 := bChk_ok wx_ok btX12_ofWhale (nds := []) (fk := []) (rk := (1, [])) (sp := 0) (fuel := 3000) (by decide +kernel) lk_n odX12_ofWhale
def pon_1860 : aPo := (some (.inl [((.ofNat (nat_lit 0)), (.ofNat (nat_lit 0)), (nat_lit 1))]), [some [((.negSucc (nat_lit 2147483647)), (.negSucc (nat_lit 0)), (nat_lit 1)), ((.ofNat (nat_lit 8)), (.ofNat (nat_lit 2147483647)), (nat_lit 1))], none, none], [], [])
def pon_1861 : aPo := (some (.inl [((.ofNat (nat_lit 1)), (.ofNat (nat_lit 1)), (nat_lit 1))]), [some [((.ofNat (nat_lit 0)), (.ofNat (nat_lit 7)), (nat_lit 1))], none, none], [], [])
def ct_971 : aCt := (mX12_in, [ag_1, ag_170, ag_133], ([], []), [pon_1860, pon_1861], mdn_879, [], (nat_lit 0))
set_option maxRecDepth 100000 in
theorem S_971 : aSpec wd ct_971 := bChk_ok wx_ok btX12_in (nds := []) (fk := []) (rk := (1, [])) (sp := 0) (fuel := 3000) (by decide +kernel) lk_n odX12_in
def sl_1862 : (Nat × Nat) × aI := (((nat_lit 199), (nat_lit 5)), [((.ofNat (nat_lit 8)), (.ofNat (nat_lit 8)), (nat_lit 1))])
def ct_972 : aCt := (mX12_ofWhale, [ag_868, ag_265, ag_170], ([sl_1438, sl_1439, sl_1862, sl_1806], []), [pon_349], [], [], (nat_lit 0))
set_option maxRecDepth 100000 in
theorem S_972 : aSpec wd ct_972 := bChk_ok wx_ok btX12_ofWhale (nds := []) (fk := []) (rk := (1, [])) (sp := 0) (fuel := 3000) (by decide +kernel) lk_n odX12_ofWhale
def pon_1863 : aPo := (some (.inl [((.ofNat (nat_lit 0)), (.ofNat (nat_lit 0)), (nat_lit 1))]), [some [((.negSucc (nat_lit 2147483647)), (.negSucc (nat_lit 0)), (nat_lit 1)), ((.ofNat (nat_lit 7)), (.ofNat (nat_lit 2147483647)), (nat_lit 1))], none, none], [], [])
def ct_973 : aCt := (mX12_in, [ag_1, ag_170, ag_153], ([], []), [pon_1863, pon_1004], mdn_879, [], (nat_lit 0))
set_option maxRecDepth 100000 in
theorem S_973 : aSpec wd ct_973 := bChk_ok wx_ok btX12_in (nds := []) (fk := []) (rk := (1, [])) (sp := 0) (fuel := 3000) (by decide +kernel) lk_n odX12_in
def sl_1864 : (Nat × Nat) × aI := (((nat_lit 199), (nat_lit 5)), [((.ofNat (nat_lit 7)), (.ofNat (nat_lit 7)), (nat_lit 1))])
def ct_974 : aCt := (mX12_ofWhale, [ag_868, ag_265, ag_170], ([sl_1438, sl_1439, sl_1864, sl_1806], []), [pon_349], [], [], (nat_lit 0))
set_option maxRecDepth 100000 in
theorem S_974 : aSpec wd ct_974 := bChk_ok wx_ok btX12_ofWhale (nds := []) (fk := []) (rk := (1, [])) (sp := 0) (fuel := 3000) (by decide +kernel) lk_n odX12_ofWhale
def sl_1865 : (Nat × Nat) × aI := (((nat_lit 199), (nat_lit 5)), [((.ofNat (nat_lit 6)), (.ofNat (nat_lit 6)), (nat_lit 1))])
def ct_975 : aCt := (mX12_ofWhale, [ag_868, ag_265, ag_170], ([sl_1438, sl_1439, sl_1865, sl_1806], []), [pon_349], [], [], (nat_lit 0))
set_option maxRecDepth 100000 in
theorem S_975 : aSpec wd ct_975 := bChk_ok wx_ok btX12_ofWhale (nds := []) (fk := []) (rk := (1, [])) (sp := 0) (fuel := 3000) (by decide +kernel) lk_n odX12_ofWhale
def sl_1866 : (Nat × Nat) × aI := (((nat_lit 199), (nat_lit 5)), [((.ofNat (nat_lit 5)), (.ofNat (nat_lit 5)), (nat_lit 1))])
def ct_976 : aCt := (mX12_ofWhale, [ag_868, ag_265, ag_170], ([sl_1438, sl_1439, sl_1866, sl_1806], []), [pon_349], [], [], (nat_lit 0))
set_option maxRecDepth 100000 in
theorem S_976 : aSpec wd ct_976 := bChk_ok wx_ok btX12_ofWhale (nds := []) (fk := []) (rk := (1, [])) (sp := 0) (fuel := 3000) (by decide +kernel) lk_n odX12_ofWhale
def sl_1867 : (Nat × Nat) × aI := (((nat_lit 199), (nat_lit 5)), [((.ofNat (nat_lit 4)), (.ofNat (nat_lit 4)), (nat_lit 1))])
def ct_977 : aCt := (mX12_ofWhale, [ag_868, ag_265, ag_170], ([sl_1438, sl_1439, sl_1867, sl_1806], []), [pon_349], [], [], (nat_lit 0))
set_option maxRecDepth 100000 in
theorem S_977 : aSpec wd ct_977 := bChk_ok wx_ok btX12_ofWhale (nds := []) (fk := []) (rk := (1, [])) (sp := 0) (fuel := 3000) (by decide +kernel) lk_n odX12_ofWhale
def pon_1868 : aPo := (some (.inl [((.ofNat (nat_lit 0)), (.ofNat (nat_lit 0)), (nat_lit 1))]), [some [((.negSucc (nat_lit 2147483647)), (.negSucc (nat_lit 0)), (nat_lit 1)), ((.ofNat (nat_lit 3)), (.ofNat (nat_lit 2147483647)), (nat_lit 1))], none, none], [], [])
def ct_978 : aCt := (mX12_in, [ag_1, ag_170, ag_22], ([], []), [pon_1868, pon_1311], mdn_879, [], (nat_lit 0))
set_option maxRecDepth 100000 in
theorem S_978 : aSpec wd ct_978 := bChk_ok wx_ok btX12_in (nds := []) (fk := []) (rk := (1, [])) (sp := 0) (fuel := 3000) (by decide +kernel) lk_n odX12_in
def sl_1869 : (Nat × Nat) × aI := (((nat_lit 199), (nat_lit 5)), [((.ofNat (nat_lit 3)), (.ofNat (nat_lit 3)), (nat_lit 1))])
def ct_979 : aCt := (mX12_ofWhale, [ag_868, ag_265, ag_170], ([sl_1438, sl_1439, sl_1869, sl_1806], []), [pon_349], [], [], (nat_lit 0))
set_option maxRecDepth 100000 in
theorem S_979 : aSpec wd ct_979 := bChk_ok wx_ok btX12_ofWhale (nds := []) (fk := []) (rk := (1, [])) (sp := 0) (fuel := 3000) (by decide +kernel) lk_n odX12_ofWhale
def pon_1870 : aPo := (some (.inl [((.ofNat (nat_lit 0)), (.ofNat (nat_lit 0)), (nat_lit 1))]), [some [((.negSucc (nat_lit 2147483647)), (.negSucc (nat_lit 0)), (nat_lit 1)), ((.ofNat (nat_lit 2)), (.ofNat (nat_lit 2147483647)), (nat_lit 1))], none, none], [], [])
def ct_980 : aCt := (mX12_in, [ag_1, ag_170, ag_53], ([], []), [pon_1870, pon_1277], mdn_879, [], (nat_lit 0))
set_option maxRecDepth 100000 in
theorem S_980 : aSpec wd ct_980 := bChk_ok wx_ok btX12_in (nds := []) (fk := []) (rk := (1, [])) (sp := 0) (fuel := 3000) (by decide +kernel) lk_n odX12_in
def sl_1871 : (Nat × Nat) × aI := (((nat_lit 199), (nat_lit 5)), [((.ofNat (nat_lit 2)), (.ofNat (nat_lit 2)), (nat_lit 1))])
def ct_981 : aCt := (mX12_ofWhale, [ag_868, ag_265, ag_170], ([sl_1438, sl_1439, sl_1871, sl_1806], []), [pon_349], [], [], (nat_lit 0))
set_option maxRecDepth 100000 in
theorem S_981 : aSpec wd ct_981 := bChk_ok wx_ok btX12_ofWhale (nds := []) (fk := []) (rk := (1, [])) (sp := 0) (fuel := 3000) (by decide +kernel) lk_n odX12_ofWhale
def ct_982 : aCt := (mX12_in, [ag_1, ag_170, ag_170], ([], []), [pon_877, pon_1235], mdn_879, [], (nat_lit 0))
set_option maxRecDepth 100000 in
theorem S_982 : aSpec wd ct_982 := bChk_ok wx_ok btX12_in (nds := []) (fk := []) (rk := (1, [])) (sp := 0) (fuel := 3000) (by decide +kernel) lk_n odX12_in
def sl_1872 : (Nat × Nat) × aI := (((nat_lit 199), (nat_lit 5)), [((.ofNat (nat_lit 1)), (.ofNat (nat_lit 1)), (nat_lit 1))])
def ct_983 : aCt := (mX12_ofWhale, [ag_868, ag_265, ag_170], ([sl_1438, sl_1439, sl_1872, sl_1806], []), [pon_349], [], [], (nat_lit 0))
set_option maxRecDepth 100000 in
theorem S_983 : aSpec wd ct_983 := bChk_ok wx_ok btX12_ofWhale (nds := []) (fk := []) (rk := (1, [])) (sp := 0) (fuel := 3000) (by decide +kernel) lk_n odX12_ofWhale
def ct_984 : aCt := (mX12_in, [ag_1, ag_170, ag_892], ([], []), [pon_1205], mdn_879, [], (nat_lit 0))
set_option maxRecDepth 100000 in
theorem S_984 : aSpec wd ct_984 := bChk_ok wx_ok btX12_in (nds := []) (fk := []) (rk := (1, [])) (sp := 0) (fuel := 3000) (by decide +kernel) lk_n odX12_in
def pon_1873 : aPo := (some (.inl aTop), [none, some [((.ofNat (nat_lit 0)), (.ofNat (nat_lit 4)), (nat_lit 1))], some [((.ofNat (nat_lit 0)), (.ofNat (nat_lit 11)), (nat_lit 1))], some [((.ofNat (nat_lit 0)), (.ofNat (nat_lit 9999)), (nat_lit 1))]], [sl_874, sl_1435, sl_1438, sl_1439, sl_1836, sl_1806], [])
def pon_1874 : aPo := (some (.inl [((.negSucc (nat_lit 1)), (.negSucc (nat_lit 1)), (nat_lit 1))]), [none, some [((.ofNat (nat_lit 0)), (.ofNat (nat_lit 4)), (nat_lit 1))], some [((.ofNat (nat_lit 0)), (.ofNat (nat_lit 11)), (nat_lit 1))], some [((.ofNat (nat_lit 0)), (.ofNat (nat_lit 9999)), (nat_lit 1))]], [sl_874, sl_1435, sl_1438, sl_1439, sl_1836, sl_1806], [])
set_option maxRecDepth 100000 in
theorem btX12_sets : bTab oX12_sets tX12_sets := ⟨ofX12_sets, by decide +kernel⟩
def ct_985 : aCt := (mX12_sets, [ag_868, ag_1, ag_1, ag_1], ([], []), [pon_1873, pon_1844, pon_1874], mdn_876, [], (nat_lit 3))
set_option maxRecDepth 100000 in
theorem S_985 : aSpec wd ct_985 := bChk_ok wx_ok btX12_sets (nds := []) (fk := [20, 53]) (rk := (1, [])) (sp := 0) (fuel := 3000) (by decide +kernel) (lk_d S_468 ml_12_167 (lk_d S_470 ml_12_170 (lk_d S_929 ml_12_170 (lk_d S_964 ml_12_271 (lk_d S_966 ml_12_271 (lk_d S_968 ml_12_271 (lk_d S_970 ml_12_271 (lk_d S_972 ml_12_271 (lk_d S_974 ml_12_271 (lk_d S_975 ml_12_271 (lk_d S_976 ml_12_271 (lk_d S_977 ml_12_271 (lk_d S_979 ml_12_271 (lk_d S_981 ml_12_271 (lk_d S_983 ml_12_271 (lk_d S_957 ml_12_302 (lk_d S_925 ml_12_268 (lk_d S_963 ml_12_149 (lk_d S_746 ml_12_149 (lk_d S_965 ml_12_149 (lk_d S_967 ml_12_149 (lk_d S_969 ml_12_149 (lk_d S_971 ml_12_149 (lk_d S_973 ml_12_149 (lk_d S_933 ml_12_149 (lk_d S_926 ml_12_149 (lk_d S_490 ml_12_149 (lk_d S_978 ml_12_149 (lk_d S_980 ml_12_149 (lk_d S_982 ml_12_149 (lk_d S_984 ml_12_149 (lk_d S_X12_setsOut_0 ml_12_334 (lk_d S_X12_setsOut_1 ml_12_334 (lk_d S_X12_setsOut_2 ml_12_334 (lk_d S_X12_setsOut_3 ml_12_334 (lk_d S_X12_setsOut_4 ml_12_334 (lk_d S_X12_setsOut_5 ml_12_334 (lk_d S_X12_setsOut_6 ml_12_334 (lk_d S_X12_setsOut_7 ml_12_334 (lk_d S_X12_setsOut_8 ml_12_334 (lk_d S_X12_setsOut_9 ml_12_334 (lk_d S_X12_setsOut_10 ml_12_334 (lk_d S_X12_setsOut_11 ml_12_334 lk_n))))))))))))))))))))))))))))))))))))))))))) odX12_sets
def ct_986 : aCt := (mX12_ofBox, [ag_868, ag_190, ag_122], ([sl_1438, sl_1439, sl_1815], []), [pon_130], [], [], (nat_lit 0))
set_option maxRecDepth 100000 in
theorem S_986 : aSpec wd ct_986 := bChk_ok wx_ok btX12_ofBox (nds := []) (fk := []) (rk := (1, [])) (sp := 0) (fuel := 3000) (by decide +kernel) lk_n odX12_ofBox
def pon_1875 : aPo := (some (.inl aTop), [], [sl_874, sl_1435, sl_1438, sl_1439], [])
set_option maxRecDepth 100000 in
theorem btX12_sent : bTab oX12_sent tX12_sent := ⟨ofX12_sent, by decide +kernel⟩
def ct_987 : aCt := (mX12_sent, [ag_868, ag_1], ([], []), [pon_1875, pon_1811], mdn_876, [], (nat_lit 1))
set_option maxRecDepth 100000 in
theorem S_987 : aSpec wd ct_987 := bChk_ok wx_ok btX12_sent (nds := [((nat_lit 30), [lcn_905, lcn_400, lcn_132, lcn_411], [], [sl_874, sl_1435, sl_1438, sl_1439], [], (8, [(2, -1)]))]) (fk := []) (rk := (9, [])) (sp := 1073741824) (fuel := 3000) (by decide +kernel) (lk_d S_468 ml_12_167 (lk_d S_929 ml_12_170 (lk_d S_943 ml_12_262 (lk_d S_986 ml_12_262 (lk_d S_978 ml_12_149 lk_n))))) odX12_sent
set_option maxRecDepth 100000 in
theorem btX12_apartOf : bTab oX12_apartOf tX12_apartOf := ⟨ofX12_apartOf, by decide +kernel⟩
def ct_988 : aCt := (mX12_apartOf, [ag_868, ag_125, ag_125], ([sl_1438, sl_1439], []), [pon_130, pon_52], [], [], (nat_lit 1))
set_option maxRecDepth 100000 in
theorem S_988 : aSpec wd ct_988 := bChk_ok wx_ok btX12_apartOf (nds := [((nat_lit 21), [lcn_905, lcn_250, lcn_251, lcn_520, lcn_449], [], [sl_1438, sl_1439], [], (6, [(3, -1)]))]) (fk := []) (rk := (7, [])) (sp := 2097152) (fuel := 3000) (by decide +kernel) (lk_d S_938 ml_12_265 lk_n) odX12_apartOf
def pon_1876 : aPo := (some (.inl aTop), [none, some [((.ofNat (nat_lit 0)), (.ofNat (nat_lit 6)), (nat_lit 1))], some [((.ofNat (nat_lit 0)), (.ofNat (nat_lit 6)), (nat_lit 1))]], [sl_874, sl_1435, sl_1438, sl_1439], [])
set_option maxRecDepth 100000 in
theorem btX12_apart : bTab oX12_apart tX12_apart := ⟨ofX12_apart, by decide +kernel⟩
def ct_989 : aCt := (mX12_apart, [ag_868, ag_1, ag_1], ([], []), [pon_1876, pon_1811, pon_1839], mdn_876, [], (nat_lit 2))
set_option maxRecDepth 100000 in
theorem S_989 : aSpec wd ct_989 := bChk_ok wx_ok btX12_apart (nds := []) (fk := []) (rk := (1, [])) (sp := 0) (fuel := 3000) (by decide +kernel) (lk_d S_468 ml_12_167 (lk_d S_929 ml_12_170 (lk_d S_988 ml_12_312 (lk_d S_954 ml_12_277 (lk_d S_937 ml_12_277 lk_n))))) odX12_apart
def lcn_1877 : Nat × aAg := ((nat_lit 1), .inl [((.ofNat (nat_lit 1)), (.ofNat (nat_lit 6)), (nat_lit 1))])
def ct_990 : aCt := (mX12_apartOf, [ag_868, ag_412, ag_413], ([sl_1438, sl_1439], []), [pon_130, pon_52], [], [], (nat_lit 1))
set_option maxRecDepth 100000 in
theorem S_990 : aSpec wd ct_990 := bChk_ok wx_ok btX12_apartOf (nds := [((nat_lit 21), [lcn_905, lcn_1877, lcn_296, lcn_520, lcn_449], [], [sl_1438, sl_1439], [], (6, [(3, -1)]))]) (fk := []) (rk := (7, [])) (sp := 2097152) (fuel := 3000) (by decide +kernel) (lk_d S_938 ml_12_265 lk_n) odX12_apartOf
def sl_1878 : (Nat × Nat) × aI := (((nat_lit 196), (nat_lit 14)), [((.ofNat (nat_lit 0)), (.ofNat (nat_lit 0)), (nat_lit 1))])
def pon_1879 : aPo := (some (.inl [((.negSucc (nat_lit 0)), (.negSucc (nat_lit 0)), (nat_lit 1))]), [], [sl_1810, sl_1878], [])
def pon_1880 : aPo := (some (.inl [((.negSucc (nat_lit 1)), (.negSucc (nat_lit 1)), (nat_lit 1))]), [], [sl_874, sl_1435, sl_1438, sl_1439], [])
set_option maxRecDepth 100000 in
theorem btX12_bear : bTab oX12_bear tX12_bear := ⟨ofX12_bear, by decide +kernel⟩
def ct_991 : aCt := (mX12_bear, [ag_868], ([], []), [pon_1875, pon_1879, pon_1880], mdn_876, [], (nat_lit 2))
set_option maxRecDepth 100000 in
theorem S_991 : aSpec wd ct_991 := bChk_ok wx_ok btX12_bear (nds := [((nat_lit 22), [lcn_905, lcn_274, lcn_414], [], [sl_874, sl_1435, sl_1438, sl_1439], [], (63, [(1, -8)])), ((nat_lit 34), [lcn_905, lcn_274, lcn_251, lcn_144], [], [sl_874, sl_1435, sl_1438, sl_1439], [], (62, [(1, -8), (2, -1)]))]) (fk := []) (rk := (64, [])) (sp := 17184063488) (fuel := 3000) (by decide +kernel) (lk_d S_468 ml_12_167 (lk_d S_929 ml_12_170 (lk_d S_990 ml_12_312 lk_n))) odX12_bear
set_option maxRecDepth 100000 in
theorem btX12_mixed : bTab oX12_mixed tX12_mixed := ⟨ofX12_mixed, by decide +kernel⟩
def ct_992 : aCt := (mX12_mixed, [ag_868], ([], []), [pon_1875, pon_1879], mdn_876, [], (nat_lit 2))
set_option maxRecDepth 100000 in
theorem S_992 : aSpec wd ct_992 := bChk_ok wx_ok btX12_mixed (nds := [((nat_lit 21), [lcn_905, lcn_274, lcn_414], [], [sl_874, sl_1435, sl_1438, sl_1439], [], (63, [(1, -8)])), ((nat_lit 33), [lcn_905, lcn_274, lcn_251, lcn_144], [], [sl_874, sl_1435, sl_1438, sl_1439], [], (62, [(1, -8), (2, -1)]))]) (fk := []) (rk := (64, [])) (sp := 8592031744) (fuel := 3000) (by decide +kernel) (lk_d S_468 ml_12_167 (lk_d S_929 ml_12_170 (lk_d S_990 ml_12_312 lk_n))) odX12_mixed
def pon_1881 : aPo := (some (.inl [((.ofNat (nat_lit 0)), (.ofNat (nat_lit 0)), (nat_lit 1))]), [some [((.negSucc (nat_lit 2147483647)), (.ofNat (nat_lit 1)), (nat_lit 1)), ((.ofNat (nat_lit 6)), (.ofNat (nat_lit 2147483647)), (nat_lit 1))], none, none], [], [])
def pon_1882 : aPo := (some (.inl [((.ofNat (nat_lit 1)), (.ofNat (nat_lit 1)), (nat_lit 1))]), [some [((.ofNat (nat_lit 2)), (.ofNat (nat_lit 5)), (nat_lit 1))], none, none], [], [])
def ct_993 : aCt := (mX12_in, [ag_1, ag_22, ag_150], ([], []), [pon_1881, pon_1882], mdn_879, [], (nat_lit 0))
set_option maxRecDepth 100000 in
theorem S_993 : aSpec wd ct_993 := bChk_ok wx_ok btX12_in (nds := []) (fk := []) (rk := (1, [])) (sp := 0) (fuel := 3000) (by decide +kernel) lk_n odX12_in
def pon_1883 : aPo := (some (.inl [((.ofNat (nat_lit 0)), (.ofNat (nat_lit 0)), (nat_lit 1))]), [some [((.negSucc (nat_lit 2147483647)), (.ofNat (nat_lit 0)), (nat_lit 1)), ((.ofNat (nat_lit 6)), (.ofNat (nat_lit 2147483647)), (nat_lit 1))], none, none], [], [])
def pon_1884 : aPo := (some (.inl [((.ofNat (nat_lit 1)), (.ofNat (nat_lit 1)), (nat_lit 1))]), [some [((.ofNat (nat_lit 1)), (.ofNat (nat_lit 5)), (nat_lit 1))], none, none], [], [])
def ct_994 : aCt := (mX12_in, [ag_1, ag_53, ag_150], ([], []), [pon_1883, pon_1884], mdn_879, [], (nat_lit 0))
set_option maxRecDepth 100000 in
theorem S_994 : aSpec wd ct_994 := bChk_ok wx_ok btX12_in (nds := []) (fk := []) (rk := (1, [])) (sp := 0) (fuel := 3000) (by decide +kernel) lk_n odX12_in
def pon_1885 : aPo := (some (.inl [((.ofNat (nat_lit 2)), (.ofNat (nat_lit 2)), (nat_lit 1))]), [], [sl_1435, sl_1438, sl_1439], [])
def pon_1886 : aPo := (some (.inl [((.ofNat (nat_lit 0)), (.ofNat (nat_lit 0)), (nat_lit 1))]), [none, some [((.ofNat (nat_lit 2)), (.ofNat (nat_lit 5)), (nat_lit 1))], some [((.ofNat (nat_lit 1)), (.ofNat (nat_lit 5)), (nat_lit 1))]], [sl_1435, sl_1438, sl_1439], [])
def pon_1887 : aPo := (some (.inl [((.ofNat (nat_lit 1)), (.ofNat (nat_lit 1)), (nat_lit 1))]), [], [sl_1878], [])
set_option maxRecDepth 100000 in
theorem btX12_songWhy : bTab oX12_songWhy tX12_songWhy := ⟨ofX12_songWhy, by decide +kernel⟩
def ct_995 : aCt := (mX12_songWhy, [ag_868, ag_1, ag_1], ([], []), [pon_1885, pon_1886, pon_1887], [], [], (nat_lit 1))
set_option maxRecDepth 100000 in
theorem S_995 : aSpec wd ct_995 := bChk_ok wx_ok btX12_songWhy (nds := []) (fk := []) (rk := (1, [])) (sp := 0) (fuel := 3000) (by decide +kernel) (lk_d S_993 ml_12_149 (lk_d S_994 ml_12_149 lk_n)) odX12_songWhy
def pon_1888 : aPo := (some (.inl [((.ofNat (nat_lit 32)), (.ofNat (nat_lit 1024)), (nat_lit 1))]), [], [], [])
set_option maxRecDepth 100000 in
theorem btX12_power : bTab oX12_power tX12_power := ⟨ofX12_power, by decide +kernel⟩
def ct_996 : aCt := (mX12_power, [ag_868, ag_150], ([sl_1438, sl_1439], []), [pon_1888], [], [], (nat_lit 0))
set_option maxRecDepth 100000 in
theorem S_996 : aSpec wd ct_996 := bChk_ok wx_ok btX12_power (nds := []) (fk := []) (rk := (1, [])) (sp := 0) (fuel := 3000) (by decide +kernel) lk_n odX12_power
def lcn_1889 : Nat × aAg := ((nat_lit 5), .inl [((.ofNat (nat_lit 0)), (.ofNat (nat_lit 1023)), (nat_lit 1))])
def lcn_1890 : Nat × aAg := ((nat_lit 7), .inl [((.ofNat (nat_lit 0)), (.ofNat (nat_lit 5)), (nat_lit 1))])
set_option maxRecDepth 100000 in
theorem btX12_digitsApart : bTab oX12_digitsApart tX12_digitsApart := ⟨ofX12_digitsApart, by decide +kernel⟩
def ct_997 : aCt := (mX12_digitsApart, [ag_868, ag_444, ag_1, ag_150], ([sl_1438, sl_1439], []), [pon_130], [], [], (nat_lit 0))
set_option maxRecDepth 100000 in
theorem S_997 : aSpec wd ct_997 := bChk_ok wx_ok btX12_digitsApart (nds := [((nat_lit 12), [lcn_905, lcn_445, lcn_132, lcn_106, lcn_354, lcn_1889, lcn_1827, lcn_1890], [], [sl_1438, sl_1439], [], (5, [(5, -1)]))]) (fk := []) (rk := (6, [])) (sp := 4096) (fuel := 3000) (by decide +kernel) lk_n odX12_digitsApart
def pon_1891 : aPo := (some (.inl [((.ofNat (nat_lit 0)), (.ofNat (nat_lit 1023)), (nat_lit 1))]), [], [], [])
def mdn_1892 : List (Nat × Nat × Nat) := [((nat_lit 196), (nat_lit 23), (nat_lit 24)), ((nat_lit 204), (nat_lit 0), (nat_lit 7))]
def sl_1893 : (Nat × Nat) × aI := (((nat_lit 196), (nat_lit 23)), [((.ofNat (nat_lit 0)), (.ofNat (nat_lit 7)), (nat_lit 1))])
def sl_1894 : (Nat × Nat) × aI := (((nat_lit 196), (nat_lit 23)), [((.ofNat (nat_lit 0)), (.ofNat (nat_lit 6)), (nat_lit 1))])
def lcn_1895 : Nat × aAg := ((nat_lit 5), .inl [((.ofNat (nat_lit 0)), (.ofNat (nat_lit 1024)), (nat_lit 1))])
set_option maxRecDepth 100000 in
theorem btX12_newSongs : bTab oX12_newSongs tX12_newSongs := ⟨ofX12_newSongs, by decide +kernel⟩
def ct_998 : aCt := (mX12_newSongs, [ag_868, ag_150, ag_455, ag_170], ([sl_1438, sl_1439], []), [pon_1891, pon_52], mdn_1892, [], (nat_lit 1))
set_option maxRecDepth 100000 in
theorem S_998 : aSpec wd ct_998 := aChkF_ok (lk := [(318, 0, 2, ct_996), (265, 0, 2, ct_938), (280, 0, 4, ct_941), (321, 0, 4, ct_997)]) (cd := oX12_newSongs) (nds := [(((nat_lit 8), [lcn_905, lcn_985, lcn_458, lcn_101, lcn_448], [], [sl_1893, sl_1438, sl_1439], [], (17480, [(1, -7)])), [(.inl 4, .inr (196, 23), 0)]), (((nat_lit 38), [lcn_905, lcn_985, lcn_458, lcn_101, lcn_449, lcn_546, lcn_613], [], [sl_1894, sl_1438, sl_1439], [], (17479, [(1, -7), (3, -1)])), [(.inl 4, .inr (196, 23), 0)]), (((nat_lit 109), [lcn_905, lcn_985, lcn_458, lcn_101, lcn_424, lcn_1895], [], [sl_1893, sl_1438, sl_1439], [], (17424, [(1, -17)])), [(.inl 5, .inr (196, 23), 7)]), (((nat_lit 125), [lcn_905, lcn_985, lcn_458, lcn_101, lcn_424, lcn_1889, lcn_476, lcn_1832], [], [sl_1893, sl_1438, sl_1439], [], (17415, [(1, -17), (2, 8), (3, -1)])), [(.inl 5, .inr (196, 23), 7)])]) (fk := []) (rk := (17481, [])) (fuel := 3000) (by decide +kernel) (List.forall_mem_cons.mpr ⟨⟨ml_12_318, S_996⟩, List.forall_mem_cons.mpr ⟨⟨ml_12_265, S_938⟩, List.forall_mem_cons.mpr ⟨⟨ml_12_280, S_941⟩, List.forall_mem_cons.mpr ⟨⟨ml_12_321, S_997⟩, fun _ h => nomatch h⟩⟩⟩⟩) odX12_newSongs
def pon_1896 : aPo := (some (.inl [((.ofNat (nat_lit 16)), (.ofNat (nat_lit 256)), (nat_lit 1))]), [], [], [])
def ct_999 : aCt := (mX12_power, [ag_868, ag_159], ([sl_1438, sl_1439], []), [pon_1896], [], [], (nat_lit 0))
set_option maxRecDepth 100000 in
theorem S_999 : aSpec wd ct_999 := bChk_ok wx_ok btX12_power (nds := []) (fk := []) (rk := (1, [])) (sp := 0) (fuel := 3000) (by decide +kernel) lk_n odX12_power
def lcn_1897 : Nat × aAg := ((nat_lit 1), .inl [((.ofNat (nat_lit 0)), (.ofNat (nat_lit 255)), (nat_lit 1))])
def lcn_1898 : Nat × aAg := ((nat_lit 5), .inl [((.ofNat (nat_lit 0)), (.ofNat (nat_lit 255)), (nat_lit 1))])
def lcn_1899 : Nat × aAg := ((nat_lit 7), .inl [((.ofNat (nat_lit 0)), (.ofNat (nat_lit 4)), (nat_lit 1))])
def ct_1000 : aCt := (mX12_digitsApart, [ag_868, ag_886, ag_1, ag_159], ([sl_1438, sl_1439], []), [pon_130], [], [], (nat_lit 0))
set_option maxRecDepth 100000 in
theorem S_1000 : aSpec wd ct_1000 := bChk_ok wx_ok btX12_digitsApart (nds := [((nat_lit 12), [lcn_905, lcn_1897, lcn_132, lcn_105, lcn_354, lcn_1898, lcn_1827, lcn_1899], [], [sl_1438, sl_1439], [], (4, [(5, -1)]))]) (fk := []) (rk := (5, [])) (sp := 4096) (fuel := 3000) (by decide +kernel) lk_n odX12_digitsApart
def lcn_1900 : Nat × aAg := ((nat_lit 5), .inl [((.ofNat (nat_lit 0)), (.ofNat (nat_lit 287)), (nat_lit 1))])
def ct_1001 : aCt := (mX12_newSongs, [ag_868, ag_159, ag_455, ag_170], ([sl_1438, sl_1439], []), [pon_891, pon_52], mdn_1892, [], (nat_lit 1))
set_option maxRecDepth 100000 in
theorem S_1001 : aSpec wd ct_1001 := aChkF_ok (lk := [(318, 0, 2, ct_999), (265, 0, 2, ct_938), (280, 0, 4, ct_941), (321, 0, 4, ct_1000)]) (cd := oX12_newSongs) (nds := [(((nat_lit 8), [lcn_905, lcn_984, lcn_458, lcn_101, lcn_448], [], [sl_1893, sl_1438, sl_1439], [], (4943, [(1, -6)])), [(.inl 4, .inr (196, 23), 0)]), (((nat_lit 38), [lcn_905, lcn_984, lcn_458, lcn_101, lcn_449, lcn_546, lcn_607], [], [sl_1894, sl_1438, sl_1439], [], (4942, [(1, -6), (3, -1)])), [(.inl 4, .inr (196, 23), 0)]), (((nat_lit 109), [lcn_905, lcn_984, lcn_458, lcn_101, lcn_424, lcn_1900], [], [sl_1893, sl_1438, sl_1439], [], (4895, [(1, -17)])), [(.inl 5, .inr (196, 23), 7)]), (((nat_lit 125), [lcn_905, lcn_984, lcn_458, lcn_101, lcn_424, lcn_1898, lcn_476, lcn_1832], [], [sl_1893, sl_1438, sl_1439], [], (4886, [(1, -17), (2, 8), (3, -1)])), [(.inl 5, .inr (196, 23), 7)])]) (fk := []) (rk := (4944, [])) (fuel := 3000) (by decide +kernel) (List.forall_mem_cons.mpr ⟨⟨ml_12_318, S_999⟩, List.forall_mem_cons.mpr ⟨⟨ml_12_265, S_938⟩, List.forall_mem_cons.mpr ⟨⟨ml_12_280, S_941⟩, List.forall_mem_cons.mpr ⟨⟨ml_12_321, S_1000⟩, fun _ h => nomatch h⟩⟩⟩⟩) odX12_newSongs
def pon_1901 : aPo := (some (.inl [((.ofNat (nat_lit 8)), (.ofNat (nat_lit 64)), (nat_lit 1))]), [], [], [])
def ct_1002 : aCt := (mX12_power, [ag_868, ag_122], ([sl_1438, sl_1439], []), [pon_1901], [], [], (nat_lit 0))
set_option maxRecDepth 100000 in
theorem S_1002 : aSpec wd ct_1002 := bChk_ok wx_ok btX12_power (nds := []) (fk := []) (rk := (1, [])) (sp := 0) (fuel := 3000) (by decide +kernel) lk_n odX12_power
def ag_1902 : aAg := .inl [((.ofNat (nat_lit 0)), (.ofNat (nat_lit 63)), (nat_lit 1))]
def lcn_1903 : Nat × aAg := ((nat_lit 1), .inl [((.ofNat (nat_lit 0)), (.ofNat (nat_lit 63)), (nat_lit 1))])
def lcn_1904 : Nat × aAg := ((nat_lit 5), .inl [((.ofNat (nat_lit 0)), (.ofNat (nat_lit 63)), (nat_lit 1))])
def lcn_1905 : Nat × aAg := ((nat_lit 7), .inl [((.ofNat (nat_lit 0)), (.ofNat (nat_lit 3)), (nat_lit 1))])
def ct_1003 : aCt := (mX12_digitsApart, [ag_868, ag_1902, ag_1, ag_122], ([sl_1438, sl_1439], []), [pon_130], [], [], (nat_lit 0))
set_option maxRecDepth 100000 in
theorem S_1003 : aSpec wd ct_1003 := bChk_ok wx_ok btX12_digitsApart (nds := [((nat_lit 12), [lcn_905, lcn_1903, lcn_132, lcn_104, lcn_354, lcn_1904, lcn_1827, lcn_1905], [], [sl_1438, sl_1439], [], (3, [(5, -1)]))]) (fk := []) (rk := (4, [])) (sp := 4096) (fuel := 3000) (by decide +kernel) lk_n odX12_digitsApart
def lcn_1906 : Nat × aAg := ((nat_lit 5), .inl [((.ofNat (nat_lit 0)), (.ofNat (nat_lit 75)), (nat_lit 1))])
def ct_1004 : aCt := (mX12_newSongs, [ag_868, ag_122, ag_455, ag_170], ([sl_1438, sl_1439], []), [pon_367, pon_52], mdn_1892, [], (nat_lit 1))
set_option maxRecDepth 100000 in
theorem S_1004 : aSpec wd ct_1004 := aChkF_ok (lk := [(318, 0, 2, ct_1002), (265, 0, 2, ct_938), (280, 0, 4, ct_941), (321, 0, 4, ct_1003)]) (cd := oX12_newSongs) (nds := [(((nat_lit 8), [lcn_905, lcn_983, lcn_458, lcn_101, lcn_448], [], [sl_1893, sl_1438, sl_1439], [], (1331, [(1, -5)])), [(.inl 4, .inr (196, 23), 0)]), (((nat_lit 38), [lcn_905, lcn_983, lcn_458, lcn_101, lcn_449, lcn_546, lcn_603], [], [sl_1894, sl_1438, sl_1439], [], (1330, [(1, -5), (3, -1)])), [(.inl 4, .inr (196, 23), 0)]), (((nat_lit 109), [lcn_905, lcn_983, lcn_458, lcn_101, lcn_424, lcn_1906], [], [sl_1893, sl_1438, sl_1439], [], (1291, [(1, -17)])), [(.inl 5, .inr (196, 23), 7)]), (((nat_lit 125), [lcn_905, lcn_983, lcn_458, lcn_101, lcn_424, lcn_1904, lcn_476, lcn_1832], [], [sl_1893, sl_1438, sl_1439], [], (1282, [(1, -17), (2, 8), (3, -1)])), [(.inl 5, .inr (196, 23), 7)])]) (fk := []) (rk := (1332, [])) (fuel := 3000) (by decide +kernel) (List.forall_mem_cons.mpr ⟨⟨ml_12_318, S_1002⟩, List.forall_mem_cons.mpr ⟨⟨ml_12_265, S_938⟩, List.forall_mem_cons.mpr ⟨⟨ml_12_280, S_941⟩, List.forall_mem_cons.mpr ⟨⟨ml_12_321, S_1003⟩, fun _ h => nomatch h⟩⟩⟩⟩) odX12_newSongs
def pon_1907 : aPo := (some (.inl [((.ofNat (nat_lit 4)), (.ofNat (nat_lit 16)), (nat_lit 1))]), [], [], [])
def ct_1005 : aCt := (mX12_power, [ag_868, ag_22], ([sl_1438, sl_1439], []), [pon_1907], [], [], (nat_lit 0))
set_option maxRecDepth 100000 in
theorem S_1005 : aSpec wd ct_1005 := bChk_ok wx_ok btX12_power (nds := []) (fk := []) (rk := (1, [])) (sp := 0) (fuel := 3000) (by decide +kernel) lk_n odX12_power
def lcn_1908 : Nat × aAg := ((nat_lit 1), .inl [((.ofNat (nat_lit 0)), (.ofNat (nat_lit 15)), (nat_lit 1))])
def lcn_1909 : Nat × aAg := ((nat_lit 5), .inl [((.ofNat (nat_lit 0)), (.ofNat (nat_lit 15)), (nat_lit 1))])
def lcn_1910 : Nat × aAg := ((nat_lit 7), .inl [((.ofNat (nat_lit 0)), (.ofNat (nat_lit 2)), (nat_lit 1))])
def ct_1006 : aCt := (mX12_digitsApart, [ag_868, ag_604, ag_1, ag_22], ([sl_1438, sl_1439], []), [pon_130], [], [], (nat_lit 0))
set_option maxRecDepth 100000 in
theorem S_1006 : aSpec wd ct_1006 := bChk_ok wx_ok btX12_digitsApart (nds := [((nat_lit 12), [lcn_905, lcn_1908, lcn_132, lcn_103, lcn_354, lcn_1909, lcn_1827, lcn_1910], [], [sl_1438, sl_1439], [], (2, [(5, -1)]))]) (fk := []) (rk := (3, [])) (sp := 4096) (fuel := 3000) (by decide +kernel) lk_n odX12_digitsApart
end Pk0
section Pk1
def pon_1911 : aPo := (some (.inl [((.ofNat (nat_lit 0)), (.ofNat (nat_lit 15)), (nat_lit 1))]), [], [], [])
def lcn_1912 : Nat × aAg := ((nat_lit 5), .inl [((.ofNat (nat_lit 0)), (.ofNat (nat_lit 16)), (nat_lit 1))])
def ct_1007 : aCt := (mX12_newSongs, [ag_868, ag_22, ag_455, ag_170], ([sl_1438, sl_1439], []), [pon_1911, pon_52], mdn_1892, [], (nat_lit 1))
set_option maxRecDepth 100000 in
theorem S_1007 : aSpec wd ct_1007 := aChkF_ok (lk := [(318, 0, 2, ct_1005), (265, 0, 2, ct_938), (280, 0, 4, ct_941), (321, 0, 4, ct_1006)]) (cd := oX12_newSongs) (nds := [(((nat_lit 8), [lcn_905, lcn_167, lcn_458, lcn_101, lcn_448], [], [sl_1893, sl_1438, sl_1439], [], (320, [(1, -4)])), [(.inl 4, .inr (196, 23), 0)]), (((nat_lit 38), [lcn_905, lcn_167, lcn_458, lcn_101, lcn_449, lcn_546, lcn_601], [], [sl_1894, sl_1438, sl_1439], [], (319, [(1, -4), (3, -1)])), [(.inl 4, .inr (196, 23), 0)]), (((nat_lit 109), [lcn_905, lcn_167, lcn_458, lcn_101, lcn_424, lcn_1912], [], [sl_1893, sl_1438, sl_1439], [], (288, [(1, -17)])), [(.inl 5, .inr (196, 23), 7)]), (((nat_lit 125), [lcn_905, lcn_167, lcn_458, lcn_101, lcn_424, lcn_1909, lcn_476, lcn_1832], [], [sl_1893, sl_1438, sl_1439], [], (279, [(1, -17), (2, 8), (3, -1)])), [(.inl 5, .inr (196, 23), 7)])]) (fk := []) (rk := (321, [])) (fuel := 3000) (by decide +kernel) (List.forall_mem_cons.mpr ⟨⟨ml_12_318, S_1005⟩, List.forall_mem_cons.mpr ⟨⟨ml_12_265, S_938⟩, List.forall_mem_cons.mpr ⟨⟨ml_12_280, S_941⟩, List.forall_mem_cons.mpr ⟨⟨ml_12_321, S_1006⟩, fun _ h => nomatch h⟩⟩⟩⟩) odX12_newSongs
def pon_1913 : aPo := (some (.inl [((.ofNat (nat_lit 0)), (.ofNat (nat_lit 1023)), (nat_lit 1))]), [none, some [((.ofNat (nat_lit 2)), (.ofNat (nat_lit 5)), (nat_lit 1))], some [((.ofNat (nat_lit 1)), (.ofNat (nat_lit 5)), (nat_lit 1))]], [sl_874, sl_1435, sl_1438, sl_1439], [])
def pon_1914 : aPo := (some (.inl [((.negSucc (nat_lit 1)), (.negSucc (nat_lit 1)), (nat_lit 1))]), [none, some [((.ofNat (nat_lit 2)), (.ofNat (nat_lit 5)), (nat_lit 1))], some [((.ofNat (nat_lit 1)), (.ofNat (nat_lit 5)), (nat_lit 1))]], [sl_874, sl_1435, sl_1438, sl_1439], [])
def mdn_1915 : List (Nat × Nat × Nat) := [((nat_lit 196), (nat_lit 0), (nat_lit 1)), ((nat_lit 196), (nat_lit 11), (nat_lit 12)), ((nat_lit 196), (nat_lit 23), (nat_lit 24)), ((nat_lit 204), (nat_lit 0), (nat_lit 7))]
set_option maxRecDepth 100000 in
theorem btX12_fresh : bTab oX12_fresh tX12_fresh := ⟨ofX12_fresh, by decide +kernel⟩
def ct_1008 : aCt := (mX12_fresh, [ag_868, ag_1, ag_1], ([], []), [pon_1913, pon_1844, pon_1914], mdn_1915, [], (nat_lit 2))
set_option maxRecDepth 100000 in
theorem S_1008 : aSpec wd ct_1008 := bChk_ok wx_ok btX12_fresh (nds := []) (fk := [25]) (rk := (1, [])) (sp := 0) (fuel := 3000) (by decide +kernel) (lk_d S_468 ml_12_167 (lk_d S_929 ml_12_170 (lk_d S_470 ml_12_170 (lk_d S_998 ml_12_327 (lk_d S_1001 ml_12_327 (lk_d S_1004 ml_12_327 (lk_d S_1007 ml_12_327 (lk_d S_995 ml_12_324 lk_n)))))))) odX12_fresh
def mdn_1916 : List (Nat × Nat × Nat) := [((nat_lit 196), (nat_lit 23), (nat_lit 24)), ((nat_lit 204), (nat_lit 0), (nat_lit 1031))]
def sl_1917 : (Nat × Nat) × aI := (((nat_lit 196), (nat_lit 23)), [((.ofNat (nat_lit 0)), (.ofNat (nat_lit 1031)), (nat_lit 1))])
def lcn_1918 : Nat × aAg := ((nat_lit 7), .inl [((.ofNat (nat_lit 0)), (.ofNat (nat_lit 1030)), (nat_lit 1))])
def sl_1919 : (Nat × Nat) × aI := (((nat_lit 196), (nat_lit 23)), [((.ofNat (nat_lit 0)), (.ofNat (nat_lit 1030)), (nat_lit 1))])
def ct_1009 : aCt := (mX12_newSongs, [ag_868, ag_150, ag_455, ag_53], ([sl_1438, sl_1439], []), [pon_130], mdn_1916, [], (nat_lit 1))
set_option maxRecDepth 100000 in
theorem S_1009 : aSpec wd ct_1009 := aChkF_ok (lk := [(318, 0, 2, ct_996), (265, 0, 2, ct_938), (280, 0, 4, ct_941), (321, 0, 4, ct_997)]) (cd := oX12_newSongs) (nds := [(((nat_lit 8), [lcn_905, lcn_985, lcn_458, lcn_102, lcn_448], [], [sl_1893, sl_1438, sl_1439], [], (2114630, [(1, -7)])), [(.inl 4, .inr (196, 23), 0)]), (((nat_lit 38), [lcn_905, lcn_985, lcn_458, lcn_102, lcn_449, lcn_546, lcn_613], [], [sl_1894, sl_1438, sl_1439], [], (2114629, [(1, -7), (3, -1)])), [(.inl 4, .inr (196, 23), 0)]), (((nat_lit 109), [lcn_905, lcn_985, lcn_458, lcn_102, lcn_354, lcn_1895], [], [sl_1917, sl_1438, sl_1439], [], (2114574, [(2, -2063)])), [(.inl 5, .inr (196, 23), 7)]), (((nat_lit 125), [lcn_905, lcn_985, lcn_458, lcn_102, lcn_354, lcn_1889, lcn_476, lcn_1918], [], [sl_1919, sl_1438, sl_1439], [], (2113542, [(2, -2063), (3, 1031), (4, -1)])), [(.inl 5, .inr (196, 23), 7)])]) (fk := []) (rk := (2114631, [])) (fuel := 3000) (by decide +kernel) (List.forall_mem_cons.mpr ⟨⟨ml_12_318, S_996⟩, List.forall_mem_cons.mpr ⟨⟨ml_12_265, S_938⟩, List.forall_mem_cons.mpr ⟨⟨ml_12_280, S_941⟩, List.forall_mem_cons.mpr ⟨⟨ml_12_321, S_997⟩, fun _ h => nomatch h⟩⟩⟩⟩) odX12_newSongs
def mdn_1920 : List (Nat × Nat × Nat) := [((nat_lit 196), (nat_lit 23), (nat_lit 24)), ((nat_lit 204), (nat_lit 0), (nat_lit 288))]
def sl_1921 : (Nat × Nat) × aI := (((nat_lit 196), (nat_lit 23)), [((.ofNat (nat_lit 0)), (.ofNat (nat_lit 287)), (nat_lit 1))])
def lcn_1922 : Nat × aAg := ((nat_lit 7), .inl [((.ofNat (nat_lit 0)), (.ofNat (nat_lit 287)), (nat_lit 1))])
def ct_1010 : aCt := (mX12_newSongs, [ag_868, ag_159, ag_455, ag_53], ([sl_1438, sl_1439], []), [pon_130], mdn_1920, [], (nat_lit 1))
set_option maxRecDepth 100000 in
theorem S_1010 : aSpec wd ct_1010 := aChkF_ok (lk := [(318, 0, 2, ct_999), (265, 0, 2, ct_938), (280, 0, 4, ct_941), (321, 0, 4, ct_1000)]) (cd := oX12_newSongs) (nds := [(((nat_lit 8), [lcn_905, lcn_984, lcn_458, lcn_102, lcn_448], [], [sl_1893, sl_1438, sl_1439], [], (166223, [(1, -6)])), [(.inl 4, .inr (196, 23), 0)]), (((nat_lit 38), [lcn_905, lcn_984, lcn_458, lcn_102, lcn_449, lcn_546, lcn_607], [], [sl_1894, sl_1438, sl_1439], [], (166222, [(1, -6), (3, -1)])), [(.inl 4, .inr (196, 23), 0)]), (((nat_lit 109), [lcn_905, lcn_984, lcn_458, lcn_102, lcn_354, lcn_1900], [], [sl_1921, sl_1438, sl_1439], [], (166175, [(2, -577)])), [(.inl 5, .inr (196, 23), 7)]), (((nat_lit 125), [lcn_905, lcn_984, lcn_458, lcn_102, lcn_354, lcn_1898, lcn_476, lcn_1922], [], [sl_1921, sl_1438, sl_1439], [], (165886, [(2, -577), (3, 288), (4, -1)])), [(.inl 5, .inr (196, 23), 7)])]) (fk := []) (rk := (166224, [])) (fuel := 3000) (by decide +kernel) (List.forall_mem_cons.mpr ⟨⟨ml_12_318, S_999⟩, List.forall_mem_cons.mpr ⟨⟨ml_12_265, S_938⟩, List.forall_mem_cons.mpr ⟨⟨ml_12_280, S_941⟩, List.forall_mem_cons.mpr ⟨⟨ml_12_321, S_1000⟩, fun _ h => nomatch h⟩⟩⟩⟩) odX12_newSongs
def mdn_1923 : List (Nat × Nat × Nat) := [((nat_lit 196), (nat_lit 23), (nat_lit 24)), ((nat_lit 204), (nat_lit 0), (nat_lit 76))]
def sl_1924 : (Nat × Nat) × aI := (((nat_lit 196), (nat_lit 23)), [((.ofNat (nat_lit 0)), (.ofNat (nat_lit 75)), (nat_lit 1))])
def lcn_1925 : Nat × aAg := ((nat_lit 7), .inl [((.ofNat (nat_lit 0)), (.ofNat (nat_lit 75)), (nat_lit 1))])
def ct_1011 : aCt := (mX12_newSongs, [ag_868, ag_122, ag_455, ag_53], ([sl_1438, sl_1439], []), [pon_130], mdn_1923, [], (nat_lit 1))
set_option maxRecDepth 100000 in
theorem S_1011 : aSpec wd ct_1011 := aChkF_ok (lk := [(318, 0, 2, ct_1002), (265, 0, 2, ct_938), (280, 0, 4, ct_941), (321, 0, 4, ct_1003)]) (cd := oX12_newSongs) (nds := [(((nat_lit 8), [lcn_905, lcn_983, lcn_458, lcn_102, lcn_448], [], [sl_1893, sl_1438, sl_1439], [], (11667, [(1, -5)])), [(.inl 4, .inr (196, 23), 0)]), (((nat_lit 38), [lcn_905, lcn_983, lcn_458, lcn_102, lcn_449, lcn_546, lcn_603], [], [sl_1894, sl_1438, sl_1439], [], (11666, [(1, -5), (3, -1)])), [(.inl 4, .inr (196, 23), 0)]), (((nat_lit 109), [lcn_905, lcn_983, lcn_458, lcn_102, lcn_354, lcn_1906], [], [sl_1924, sl_1438, sl_1439], [], (11627, [(2, -153)])), [(.inl 5, .inr (196, 23), 7)]), (((nat_lit 125), [lcn_905, lcn_983, lcn_458, lcn_102, lcn_354, lcn_1904, lcn_476, lcn_1925], [], [sl_1924, sl_1438, sl_1439], [], (11550, [(2, -153), (3, 76), (4, -1)])), [(.inl 5, .inr (196, 23), 7)])]) (fk := []) (rk := (11668, [])) (fuel := 3000) (by decide +kernel) (List.forall_mem_cons.mpr ⟨⟨ml_12_318, S_1002⟩, List.forall_mem_cons.mpr ⟨⟨ml_12_265, S_938⟩, List.forall_mem_cons.mpr ⟨⟨ml_12_280, S_941⟩, List.forall_mem_cons.mpr ⟨⟨ml_12_321, S_1003⟩, fun _ h => nomatch h⟩⟩⟩⟩) odX12_newSongs
def mdn_1926 : List (Nat × Nat × Nat) := [((nat_lit 196), (nat_lit 23), (nat_lit 24)), ((nat_lit 204), (nat_lit 0), (nat_lit 26))]
def sl_1927 : (Nat × Nat) × aI := (((nat_lit 196), (nat_lit 23)), [((.ofNat (nat_lit 0)), (.ofNat (nat_lit 25)), (nat_lit 1))])
def lcn_1928 : Nat × aAg := ((nat_lit 7), .inl [((.ofNat (nat_lit 0)), (.ofNat (nat_lit 25)), (nat_lit 1))])
def ct_1012 : aCt := (mX12_newSongs, [ag_868, ag_22, ag_455, ag_53], ([sl_1438, sl_1439], []), [pon_130], mdn_1926, [], (nat_lit 1))
set_option maxRecDepth 100000 in
theorem S_1012 : aSpec wd ct_1012 := aChkF_ok (lk := [(318, 0, 2, ct_1005), (265, 0, 2, ct_938), (280, 0, 4, ct_941), (321, 0, 4, ct_1006)]) (cd := oX12_newSongs) (nds := [(((nat_lit 8), [lcn_905, lcn_167, lcn_458, lcn_102, lcn_448], [], [sl_1893, sl_1438, sl_1439], [], (932, [(1, -4)])), [(.inl 4, .inr (196, 23), 0)]), (((nat_lit 38), [lcn_905, lcn_167, lcn_458, lcn_102, lcn_449, lcn_546, lcn_601], [], [sl_1894, sl_1438, sl_1439], [], (931, [(1, -4), (3, -1)])), [(.inl 4, .inr (196, 23), 0)]), (((nat_lit 109), [lcn_905, lcn_167, lcn_458, lcn_102, lcn_354, lcn_1912], [], [sl_1927, sl_1438, sl_1439], [], (900, [(2, -53)])), [(.inl 5, .inr (196, 23), 7)]), (((nat_lit 125), [lcn_905, lcn_167, lcn_458, lcn_102, lcn_354, lcn_1909, lcn_476, lcn_1928], [], [sl_1927, sl_1438, sl_1439], [], (873, [(2, -53), (3, 26), (4, -1)])), [(.inl 5, .inr (196, 23), 7)])]) (fk := []) (rk := (933, [])) (fuel := 3000) (by decide +kernel) (List.forall_mem_cons.mpr ⟨⟨ml_12_318, S_1005⟩, List.forall_mem_cons.mpr ⟨⟨ml_12_265, S_938⟩, List.forall_mem_cons.mpr ⟨⟨ml_12_280, S_941⟩, List.forall_mem_cons.mpr ⟨⟨ml_12_321, S_1006⟩, fun _ h => nomatch h⟩⟩⟩⟩) odX12_newSongs
def pon_1929 : aPo := (some (.inl aTop), [none, some [((.ofNat (nat_lit 2)), (.ofNat (nat_lit 5)), (nat_lit 1))], some [((.ofNat (nat_lit 1)), (.ofNat (nat_lit 5)), (nat_lit 1))]], [sl_874, sl_1435, sl_1438, sl_1439], [])
def mdn_1930 : List (Nat × Nat × Nat) := [((nat_lit 196), (nat_lit 0), (nat_lit 1)), ((nat_lit 196), (nat_lit 11), (nat_lit 12)), ((nat_lit 196), (nat_lit 23), (nat_lit 24)), ((nat_lit 204), (nat_lit 0), (nat_lit 1031))]
set_option maxRecDepth 100000 in
theorem btX12_byTurns : bTab oX12_byTurns tX12_byTurns := ⟨ofX12_byTurns, by decide +kernel⟩
def ct_1013 : aCt := (mX12_byTurns, [ag_868, ag_1, ag_1], ([], []), [pon_1929, pon_1844], mdn_1930, [], (nat_lit 2))
set_option maxRecDepth 100000 in
theorem S_1013 : aSpec wd ct_1013 := bChk_ok wx_ok btX12_byTurns (nds := []) (fk := [25]) (rk := (1, [])) (sp := 0) (fuel := 3000) (by decide +kernel) (lk_d S_468 ml_12_167 (lk_d S_929 ml_12_170 (lk_d S_470 ml_12_170 (lk_d S_1009 ml_12_327 (lk_d S_1010 ml_12_327 (lk_d S_1011 ml_12_327 (lk_d S_1012 ml_12_327 (lk_d S_995 ml_12_324 lk_n)))))))) odX12_byTurns
def pon_1931 : aPo := (some (.inl [((.negSucc (nat_lit 2147483647)), (.ofNat (nat_lit 7)), (nat_lit 1))]), [], [], [])
def lcn_1932 : Nat × aAg := ((nat_lit 3), .inl [((.negSucc (nat_lit 2147483647)), (.ofNat (nat_lit 7)), (nat_lit 1))])
set_option maxRecDepth 100000 in
theorem btX12_nearOf : bTab oX12_nearOf tX12_nearOf := ⟨ofX12_nearOf, by decide +kernel⟩
def ct_1014 : aCt := (mX12_nearOf, [ag_868, ag_190, ag_170], ([sl_1438, sl_1439, sl_1815], []), [pon_1931], [], [], (nat_lit 3))
set_option maxRecDepth 100000 in
theorem S_1014 : aSpec wd ct_1014 := bChk_ok wx_ok btX12_nearOf (nds := [((nat_lit 9), [lcn_905, lcn_541, lcn_592, lcn_1932, lcn_354, lcn_655], [], [sl_1438, sl_1439, sl_1815], [], (7, [(3, -1)]))]) (fk := []) (rk := (8, [])) (sp := 512) (fuel := 3000) (by decide +kernel) (lk_d S_938 ml_12_265 (lk_d S_944 ml_12_284 (lk_d S_950 ml_12_287 lk_n))) odX12_nearOf
def pon_1933 : aPo := (some (.inl [((.negSucc (nat_lit 2147483647)), (.ofNat (nat_lit 7)), (nat_lit 1))]), [none, some [((.ofNat (nat_lit 0)), (.ofNat (nat_lit 7)), (nat_lit 1))]], [sl_874, sl_1435, sl_1438, sl_1439, sl_1815], [])
set_option maxRecDepth 100000 in
theorem btX12_near : bTab oX12_near tX12_near := ⟨ofX12_near, by decide +kernel⟩
def ct_1015 : aCt := (mX12_near, [ag_868, ag_1], ([], []), [pon_1933, pon_1811], mdn_876, [], (nat_lit 4))
set_option maxRecDepth 100000 in
theorem S_1015 : aSpec wd ct_1015 := bChk_ok wx_ok btX12_near (nds := []) (fk := []) (rk := (1, [])) (sp := 0) (fuel := 3000) (by decide +kernel) (lk_d S_468 ml_12_167 (lk_d S_929 ml_12_170 (lk_d S_1014 ml_12_308 (lk_d S_932 ml_12_274 lk_n)))) odX12_near
def ct_1016 : aCt := (mX12_nearOf, [ag_868, ag_190, ag_53], ([sl_1438, sl_1439, sl_1815], []), [pon_130], [], [], (nat_lit 3))
set_option maxRecDepth 100000 in
theorem S_1016 : aSpec wd ct_1016 := bChk_ok wx_ok btX12_nearOf (nds := [((nat_lit 9), [lcn_905, lcn_541, lcn_447, lcn_1932, lcn_354, lcn_655], [], [sl_1438, sl_1439, sl_1815], [], (7, [(3, -1)]))]) (fk := []) (rk := (8, [])) (sp := 512) (fuel := 3000) (by decide +kernel) (lk_d S_938 ml_12_265 (lk_d S_944 ml_12_284 (lk_d S_950 ml_12_287 lk_n))) odX12_nearOf
def pon_1934 : aPo := (some (.inl aTop), [none, some [((.ofNat (nat_lit 0)), (.ofNat (nat_lit 7)), (nat_lit 1))]], [sl_874, sl_1435, sl_1438, sl_1439, sl_1815], [])
set_option maxRecDepth 100000 in
theorem btX12_asNear : bTab oX12_asNear tX12_asNear := ⟨ofX12_asNear, by decide +kernel⟩
def ct_1017 : aCt := (mX12_asNear, [ag_868, ag_1], ([], []), [pon_1934, pon_1811], mdn_876, [], (nat_lit 4))
set_option maxRecDepth 100000 in
theorem S_1017 : aSpec wd ct_1017 := bChk_ok wx_ok btX12_asNear (nds := []) (fk := []) (rk := (1, [])) (sp := 0) (fuel := 3000) (by decide +kernel) (lk_d S_468 ml_12_167 (lk_d S_929 ml_12_170 (lk_d S_1016 ml_12_308 (lk_d S_932 ml_12_274 lk_n)))) odX12_asNear
def pon_1935 : aPo := (some (.inl [((.negSucc (nat_lit 1)), (.negSucc (nat_lit 1)), (nat_lit 1)), ((.ofNat (nat_lit 0)), (.ofNat (nat_lit 6)), (nat_lit 1))]), [none, some [((.ofNat (nat_lit 0)), (.ofNat (nat_lit 7)), (nat_lit 1))], some [((.ofNat (nat_lit 0)), (.ofNat (nat_lit 99)), (nat_lit 1))]], [sl_874, sl_1435, sl_1438, sl_1439, sl_1815], [])
def pon_1936 : aPo := (some (.inl [((.negSucc (nat_lit 1)), (.negSucc (nat_lit 1)), (nat_lit 1))]), [none, some [((.ofNat (nat_lit 0)), (.ofNat (nat_lit 7)), (nat_lit 1))], some [((.ofNat (nat_lit 0)), (.ofNat (nat_lit 99)), (nat_lit 1))]], [sl_874, sl_1435, sl_1438, sl_1439, sl_1815], [])
set_option maxRecDepth 100000 in
theorem btX12_heardIn : bTab oX12_heardIn tX12_heardIn := ⟨ofX12_heardIn, by decide +kernel⟩
def ct_1018 : aCt := (mX12_heardIn, [ag_868, ag_1, ag_1], ([], []), [pon_1935, pon_1844, pon_1936], mdn_876, [], (nat_lit 4))
set_option maxRecDepth 100000 in
theorem S_1018 : aSpec wd ct_1018 := bChk_ok wx_ok btX12_heardIn (nds := []) (fk := []) (rk := (1, [])) (sp := 0) (fuel := 3000) (by decide +kernel) (lk_d S_468 ml_12_167 (lk_d S_470 ml_12_170 (lk_d S_929 ml_12_170 (lk_d S_951 ml_12_291 (lk_d S_932 ml_12_274 (lk_d S_636 ml_12_149 lk_n)))))) odX12_heardIn
set_option maxRecDepth 100000 in
theorem btX12_hearsItself : bTab oX12_hearsItself tX12_hearsItself := ⟨ofX12_hearsItself, by decide +kernel⟩
def ct_1019 : aCt := (mX12_hearsItself, [ag_868, ag_125, ag_511], ([sl_1438, sl_1439], []), [pon_456], [], [], (nat_lit 1))
set_option maxRecDepth 100000 in
theorem S_1019 : aSpec wd ct_1019 := bChk_ok wx_ok btX12_hearsItself (nds := [((nat_lit 5), [lcn_905, lcn_250, lcn_1829, lcn_520, lcn_449], [], [sl_1438, sl_1439], [], (134, [(3, -1)])), ((nat_lit 77), [lcn_905, lcn_250, lcn_1829, lcn_520, lcn_454, lcn_655], [], [sl_1438, sl_1439], [], (63, [(3, 64), (4, -8)])), ((nat_lit 117), [lcn_905, lcn_250, lcn_1829, lcn_520, lcn_454, lcn_1000, lcn_1827, lcn_1828], [], [sl_1438, sl_1439], [], (62, [(3, 64), (4, -8), (6, -1)]))]) (fk := []) (rk := (135, [])) (sp := 166153499473265599840427711181881376) (fuel := 3000) (by decide +kernel) (lk_d S_938 ml_12_265 (lk_d S_941 ml_12_280 lk_n)) odX12_hearsItself
def pon_1937 : aPo := (some (.inl [((.ofNat (nat_lit 0)), (.ofNat (nat_lit 99)), (nat_lit 1))]), [], [sl_874, sl_1435, sl_1438, sl_1439], [])
set_option maxRecDepth 100000 in
theorem btX12_strange : bTab oX12_strange tX12_strange := ⟨ofX12_strange, by decide +kernel⟩
def ct_1020 : aCt := (mX12_strange, [ag_868, ag_1], ([], []), [pon_1937, pon_1811, pon_1880], mdn_876, [], (nat_lit 2))
set_option maxRecDepth 100000 in
theorem S_1020 : aSpec wd ct_1020 := bChk_ok wx_ok btX12_strange (nds := [((nat_lit 20), [lcn_905, lcn_250, lcn_514], [], [sl_874, sl_1435, sl_1438, sl_1439], [], (100, [(1, -1)]))]) (fk := []) (rk := (101, [])) (sp := 1048576) (fuel := 3000) (by decide +kernel) (lk_d S_468 ml_12_167 (lk_d S_929 ml_12_170 (lk_d S_1019 ml_12_331 (lk_d S_937 ml_12_277 lk_n)))) odX12_strange
def ct_1021 : aCt := (mX12_isIsland, [ag_868, ag_1], ([sl_1435, sl_1438, sl_1439, sl_1806], []), [pon_37, pon_377], [], [], (nat_lit 1))
set_option maxRecDepth 100000 in
theorem S_1021 : aSpec wd ct_1021 := bChk_ok wx_ok btX12_isIsland (nds := []) (fk := []) (rk := (1, [])) (sp := 0) (fuel := 3000) (by decide +kernel) (lk_d S_936 ml_12_149 lk_n) odX12_isIsland
def pon_1938 : aPo := (some (.inl aTop), [none, none, some [((.ofNat (nat_lit 0)), (.ofNat (nat_lit 3)), (nat_lit 1))], none], [], [])
set_option maxRecDepth 100000 in
theorem btX12_dayBy : bTab oX12_dayBy tX12_dayBy := ⟨ofX12_dayBy, by decide +kernel⟩
def ct_1022 : aCt := (mX12_dayBy, [ag_868, ag_170, ag_364, ag_1], ([sl_1836], []), [pon_1938], [], [], (nat_lit 3))
set_option maxRecDepth 100000 in
theorem S_1022 : aSpec wd ct_1022 := bChk_ok wx_ok btX12_dayBy (nds := []) (fk := []) (rk := (1, [])) (sp := 0) (fuel := 3000) (by decide +kernel) (lk_d S_X12_setsOut_11 ml_12_334 lk_n) odX12_dayBy
def mdn_1939 : List (Nat × Nat × Nat) := [((nat_lit 205), (nat_lit 0), (nat_lit 7))]
set_option maxRecDepth 100000 in
theorem btX12_goesBy : bTab oX12_goesBy tX12_goesBy := ⟨ofX12_goesBy, by decide +kernel⟩
def ct_1023 : aCt := (mX12_goesBy, [ag_868, ag_170, ag_364, ag_125], ([sl_1836], []), [pon_49], mdn_1939, [], (nat_lit 4))
set_option maxRecDepth 100000 in
theorem S_1023 : aSpec wd ct_1023 := bChk_ok wx_ok btX12_goesBy (nds := []) (fk := []) (rk := (1, [])) (sp := 0) (fuel := 3000) (by decide +kernel) (lk_d S_1022 ml_12_346 lk_n) odX12_goesBy
def sl_1940 : (Nat × Nat) × aI := (((nat_lit 199), (nat_lit 5)), [((.ofNat (nat_lit 2)), (.ofNat (nat_lit 12)), (nat_lit 1))])
def ct_1024 : aCt := (mX12_dayBy, [ag_868, ag_53, ag_364, ag_1], ([sl_1940], []), [pon_1938], [], [], (nat_lit 3))
set_option maxRecDepth 100000 in
theorem S_1024 : aSpec wd ct_1024 := bChk_ok wx_ok btX12_dayBy (nds := []) (fk := []) (rk := (1, [])) (sp := 0) (fuel := 3000) (by decide +kernel) (lk_d S_X12_setsOut_10 ml_12_334 lk_n) odX12_dayBy
def ct_1025 : aCt := (mX12_goesBy, [ag_868, ag_53, ag_364, ag_125], ([sl_1940], []), [pon_49], mdn_1939, [], (nat_lit 4))
set_option maxRecDepth 100000 in
theorem S_1025 : aSpec wd ct_1025 := bChk_ok wx_ok btX12_goesBy (nds := []) (fk := []) (rk := (1, [])) (sp := 0) (fuel := 3000) (by decide +kernel) (lk_d S_1024 ml_12_346 lk_n) odX12_goesBy
def sl_1941 : (Nat × Nat) × aI := (((nat_lit 199), (nat_lit 5)), [((.ofNat (nat_lit 3)), (.ofNat (nat_lit 12)), (nat_lit 1))])
def ct_1026 : aCt := (mX12_dayBy, [ag_868, ag_22, ag_364, ag_1], ([sl_1941], []), [pon_1938], [], [], (nat_lit 3))
set_option maxRecDepth 100000 in
theorem S_1026 : aSpec wd ct_1026 := bChk_ok wx_ok btX12_dayBy (nds := []) (fk := []) (rk := (1, [])) (sp := 0) (fuel := 3000) (by decide +kernel) (lk_d S_X12_setsOut_9 ml_12_334 lk_n) odX12_dayBy
def ct_1027 : aCt := (mX12_goesBy, [ag_868, ag_22, ag_364, ag_125], ([sl_1941], []), [pon_49], mdn_1939, [], (nat_lit 4))
set_option maxRecDepth 100000 in
theorem S_1027 : aSpec wd ct_1027 := bChk_ok wx_ok btX12_goesBy (nds := []) (fk := []) (rk := (1, [])) (sp := 0) (fuel := 3000) (by decide +kernel) (lk_d S_1026 ml_12_346 lk_n) odX12_goesBy
def sl_1942 : (Nat × Nat) × aI := (((nat_lit 199), (nat_lit 5)), [((.ofNat (nat_lit 4)), (.ofNat (nat_lit 12)), (nat_lit 1))])
def ct_1028 : aCt := (mX12_dayBy, [ag_868, ag_122, ag_364, ag_1], ([sl_1942], []), [pon_1938], [], [], (nat_lit 3))
set_option maxRecDepth 100000 in
theorem S_1028 : aSpec wd ct_1028 := bChk_ok wx_ok btX12_dayBy (nds := []) (fk := []) (rk := (1, [])) (sp := 0) (fuel := 3000) (by decide +kernel) (lk_d S_X12_setsOut_8 ml_12_334 lk_n) odX12_dayBy
def ct_1029 : aCt := (mX12_goesBy, [ag_868, ag_122, ag_364, ag_125], ([sl_1942], []), [pon_49], mdn_1939, [], (nat_lit 4))
set_option maxRecDepth 100000 in
theorem S_1029 : aSpec wd ct_1029 := bChk_ok wx_ok btX12_goesBy (nds := []) (fk := []) (rk := (1, [])) (sp := 0) (fuel := 3000) (by decide +kernel) (lk_d S_1028 ml_12_346 lk_n) odX12_goesBy
def sl_1943 : (Nat × Nat) × aI := (((nat_lit 199), (nat_lit 5)), [((.ofNat (nat_lit 5)), (.ofNat (nat_lit 12)), (nat_lit 1))])
def ct_1030 : aCt := (mX12_dayBy, [ag_868, ag_159, ag_364, ag_1], ([sl_1943], []), [pon_1938], [], [], (nat_lit 3))
set_option maxRecDepth 100000 in
theorem S_1030 : aSpec wd ct_1030 := bChk_ok wx_ok btX12_dayBy (nds := []) (fk := []) (rk := (1, [])) (sp := 0) (fuel := 3000) (by decide +kernel) (lk_d S_X12_setsOut_7 ml_12_334 lk_n) odX12_dayBy
def ct_1031 : aCt := (mX12_goesBy, [ag_868, ag_159, ag_364, ag_125], ([sl_1943], []), [pon_49], mdn_1939, [], (nat_lit 4))
set_option maxRecDepth 100000 in
theorem S_1031 : aSpec wd ct_1031 := bChk_ok wx_ok btX12_goesBy (nds := []) (fk := []) (rk := (1, [])) (sp := 0) (fuel := 3000) (by decide +kernel) (lk_d S_1030 ml_12_346 lk_n) odX12_goesBy
def sl_1944 : (Nat × Nat) × aI := (((nat_lit 199), (nat_lit 5)), [((.ofNat (nat_lit 6)), (.ofNat (nat_lit 12)), (nat_lit 1))])
def ct_1032 : aCt := (mX12_dayBy, [ag_868, ag_150, ag_364, ag_1], ([sl_1944], []), [pon_1938], [], [], (nat_lit 3))
set_option maxRecDepth 100000 in
theorem S_1032 : aSpec wd ct_1032 := bChk_ok wx_ok btX12_dayBy (nds := []) (fk := []) (rk := (1, [])) (sp := 0) (fuel := 3000) (by decide +kernel) (lk_d S_X12_setsOut_6 ml_12_334 lk_n) odX12_dayBy
def ct_1033 : aCt := (mX12_goesBy, [ag_868, ag_150, ag_364, ag_125], ([sl_1944], []), [pon_49], mdn_1939, [], (nat_lit 4))
set_option maxRecDepth 100000 in
theorem S_1033 : aSpec wd ct_1033 := bChk_ok wx_ok btX12_goesBy (nds := []) (fk := []) (rk := (1, [])) (sp := 0) (fuel := 3000) (by decide +kernel) (lk_d S_1032 ml_12_346 lk_n) odX12_goesBy
def sl_1945 : (Nat × Nat) × aI := (((nat_lit 199), (nat_lit 5)), [((.ofNat (nat_lit 7)), (.ofNat (nat_lit 12)), (nat_lit 1))])
def ct_1034 : aCt := (mX12_dayBy, [ag_868, ag_153, ag_364, ag_1], ([sl_1945], []), [pon_1938], [], [], (nat_lit 3))
set_option maxRecDepth 100000 in
theorem S_1034 : aSpec wd ct_1034 := bChk_ok wx_ok btX12_dayBy (nds := []) (fk := []) (rk := (1, [])) (sp := 0) (fuel := 3000) (by decide +kernel) (lk_d S_X12_setsOut_5 ml_12_334 lk_n) odX12_dayBy
def ct_1035 : aCt := (mX12_goesBy, [ag_868, ag_153, ag_364, ag_125], ([sl_1945], []), [pon_49], mdn_1939, [], (nat_lit 4))
set_option maxRecDepth 100000 in
theorem S_1035 : aSpec wd ct_1035 := bChk_ok wx_ok btX12_goesBy (nds := []) (fk := []) (rk := (1, [])) (sp := 0) (fuel := 3000) (by decide +kernel) (lk_d S_1034 ml_12_346 lk_n) odX12_goesBy
def sl_1946 : (Nat × Nat) × aI := (((nat_lit 199), (nat_lit 5)), [((.ofNat (nat_lit 8)), (.ofNat (nat_lit 12)), (nat_lit 1))])
def ct_1036 : aCt := (mX12_dayBy, [ag_868, ag_133, ag_364, ag_1], ([sl_1946], []), [pon_1938], [], [], (nat_lit 3))
set_option maxRecDepth 100000 in
theorem S_1036 : aSpec wd ct_1036 := bChk_ok wx_ok btX12_dayBy (nds := []) (fk := []) (rk := (1, [])) (sp := 0) (fuel := 3000) (by decide +kernel) (lk_d S_X12_setsOut_4 ml_12_334 lk_n) odX12_dayBy
def ct_1037 : aCt := (mX12_goesBy, [ag_868, ag_133, ag_364, ag_125], ([sl_1946], []), [pon_49], mdn_1939, [], (nat_lit 4))
set_option maxRecDepth 100000 in
theorem S_1037 : aSpec wd ct_1037 := bChk_ok wx_ok btX12_goesBy (nds := []) (fk := []) (rk := (1, [])) (sp := 0) (fuel := 3000) (by decide +kernel) (lk_d S_1036 ml_12_346 lk_n) odX12_goesBy
def sl_1947 : (Nat × Nat) × aI := (((nat_lit 199), (nat_lit 5)), [((.ofNat (nat_lit 9)), (.ofNat (nat_lit 12)), (nat_lit 1))])
def ct_1038 : aCt := (mX12_dayBy, [ag_868, ag_1856, ag_364, ag_1], ([sl_1947], []), [pon_1938], [], [], (nat_lit 3))
set_option maxRecDepth 100000 in
theorem S_1038 : aSpec wd ct_1038 := bChk_ok wx_ok btX12_dayBy (nds := []) (fk := []) (rk := (1, [])) (sp := 0) (fuel := 3000) (by decide +kernel) (lk_d S_X12_setsOut_3 ml_12_334 lk_n) odX12_dayBy
def ct_1039 : aCt := (mX12_goesBy, [ag_868, ag_1856, ag_364, ag_125], ([sl_1947], []), [pon_49], mdn_1939, [], (nat_lit 4))
set_option maxRecDepth 100000 in
theorem S_1039 : aSpec wd ct_1039 := bChk_ok wx_ok btX12_goesBy (nds := []) (fk := []) (rk := (1, [])) (sp := 0) (fuel := 3000) (by decide +kernel) (lk_d S_1038 ml_12_346 lk_n) odX12_goesBy
def sl_1948 : (Nat × Nat) × aI := (((nat_lit 199), (nat_lit 5)), [((.ofNat (nat_lit 10)), (.ofNat (nat_lit 12)), (nat_lit 1))])
def ct_1040 : aCt := (mX12_dayBy, [ag_868, ag_1852, ag_364, ag_1], ([sl_1948], []), [pon_1938], [], [], (nat_lit 3))
set_option maxRecDepth 100000 in
theorem S_1040 : aSpec wd ct_1040 := bChk_ok wx_ok btX12_dayBy (nds := []) (fk := []) (rk := (1, [])) (sp := 0) (fuel := 3000) (by decide +kernel) (lk_d S_X12_setsOut_2 ml_12_334 lk_n) odX12_dayBy
def ct_1041 : aCt := (mX12_goesBy, [ag_868, ag_1852, ag_364, ag_125], ([sl_1948], []), [pon_49], mdn_1939, [], (nat_lit 4))
set_option maxRecDepth 100000 in
theorem S_1041 : aSpec wd ct_1041 := bChk_ok wx_ok btX12_goesBy (nds := []) (fk := []) (rk := (1, [])) (sp := 0) (fuel := 3000) (by decide +kernel) (lk_d S_1040 ml_12_346 lk_n) odX12_goesBy
def sl_1949 : (Nat × Nat) × aI := (((nat_lit 199), (nat_lit 5)), [((.ofNat (nat_lit 11)), (.ofNat (nat_lit 12)), (nat_lit 1))])
def ct_1042 : aCt := (mX12_dayBy, [ag_868, ag_1848, ag_364, ag_1], ([sl_1949], []), [pon_1938], [], [], (nat_lit 3))
set_option maxRecDepth 100000 in
theorem S_1042 : aSpec wd ct_1042 := bChk_ok wx_ok btX12_dayBy (nds := []) (fk := []) (rk := (1, [])) (sp := 0) (fuel := 3000) (by decide +kernel) (lk_d S_X12_setsOut_1 ml_12_334 lk_n) odX12_dayBy
def ct_1043 : aCt := (mX12_goesBy, [ag_868, ag_1848, ag_364, ag_125], ([sl_1949], []), [pon_49], mdn_1939, [], (nat_lit 4))
set_option maxRecDepth 100000 in
theorem S_1043 : aSpec wd ct_1043 := bChk_ok wx_ok btX12_goesBy (nds := []) (fk := []) (rk := (1, [])) (sp := 0) (fuel := 3000) (by decide +kernel) (lk_d S_1042 ml_12_346 lk_n) odX12_goesBy
def ct_1044 : aCt := (mX12_dayBy, [ag_868, ag_1199, ag_364, ag_1], ([sl_1847], []), [pon_1938], [], [], (nat_lit 3))
set_option maxRecDepth 100000 in
theorem S_1044 : aSpec wd ct_1044 := bChk_ok wx_ok btX12_dayBy (nds := []) (fk := []) (rk := (1, [])) (sp := 0) (fuel := 3000) (by decide +kernel) (lk_d S_X12_setsOut_0 ml_12_334 lk_n) odX12_dayBy
def ct_1045 : aCt := (mX12_goesBy, [ag_868, ag_1199, ag_364, ag_125], ([sl_1847], []), [pon_49], mdn_1939, [], (nat_lit 4))
set_option maxRecDepth 100000 in
theorem S_1045 : aSpec wd ct_1045 := bChk_ok wx_ok btX12_goesBy (nds := []) (fk := []) (rk := (1, [])) (sp := 0) (fuel := 3000) (by decide +kernel) (lk_d S_1044 ml_12_346 lk_n) odX12_goesBy
def mdn_1950 : List (Nat × Nat × Nat) := [((nat_lit 205), (nat_lit 0), (nat_lit 7)), ((nat_lit 206), (nat_lit 0), (nat_lit 7))]
def lcn_1951 : Nat × aAg := ((nat_lit 5), .inl [((.negSucc (nat_lit 0)), (.ofNat (nat_lit 6)), (nat_lit 1))])
def lcn_1952 : Nat × aAg := ((nat_lit 6), .inl [((.ofNat (nat_lit 1)), (.ofNat (nat_lit 1)), (nat_lit 1))])
def lcn_1953 : Nat × aAg := ((nat_lit 6), .inl [((.ofNat (nat_lit 2)), (.ofNat (nat_lit 2)), (nat_lit 1))])
def lcn_1954 : Nat × aAg := ((nat_lit 6), .inl [((.ofNat (nat_lit 3)), (.ofNat (nat_lit 3)), (nat_lit 1))])
def lcn_1955 : Nat × aAg := ((nat_lit 6), .inl [((.ofNat (nat_lit 4)), (.ofNat (nat_lit 4)), (nat_lit 1))])
def lcn_1956 : Nat × aAg := ((nat_lit 6), .inl [((.ofNat (nat_lit 5)), (.ofNat (nat_lit 5)), (nat_lit 1))])
def lcn_1957 : Nat × aAg := ((nat_lit 6), .inl [((.ofNat (nat_lit 6)), (.ofNat (nat_lit 6)), (nat_lit 1))])
def lcn_1958 : Nat × aAg := ((nat_lit 6), .inl [((.ofNat (nat_lit 7)), (.ofNat (nat_lit 7)), (nat_lit 1))])
def lcn_1959 : Nat × aAg := ((nat_lit 6), .inl [((.ofNat (nat_lit 8)), (.ofNat (nat_lit 8)), (nat_lit 1))])
def lcn_1960 : Nat × aAg := ((nat_lit 6), .inl [((.ofNat (nat_lit 9)), (.ofNat (nat_lit 9)), (nat_lit 1))])
def lcn_1961 : Nat × aAg := ((nat_lit 6), .inl [((.ofNat (nat_lit 10)), (.ofNat (nat_lit 10)), (nat_lit 1))])
def lcn_1962 : Nat × aAg := ((nat_lit 6), .inl [((.ofNat (nat_lit 11)), (.ofNat (nat_lit 11)), (nat_lit 1))])
def lcn_1963 : Nat × aAg := ((nat_lit 6), .inl [((.ofNat (nat_lit 12)), (.ofNat (nat_lit 12)), (nat_lit 1))])
set_option maxRecDepth 100000 in
theorem btX12_layDays : bTab oX12_layDays tX12_layDays := ⟨ofX12_layDays, by decide +kernel⟩
def ct_1046 : aCt := (mX12_layDays, [ag_868, ag_364, ag_125, ag_1], ([], []), [pon_49], mdn_1950, [], (nat_lit 5))
set_option maxRecDepth 100000 in
theorem S_1046 : aSpec wd ct_1046 := bChk_ok wx_ok btX12_layDays (nds := [((nat_lit 3), [lcn_905, lcn_525, lcn_251, lcn_520, lcn_448], [], [], [], (183, [(3, -1)])), ((nat_lit 44), [lcn_905, lcn_525, lcn_251, lcn_520, lcn_448], [], [], [], (175, [(3, -22)])), ((nat_lit 61), [lcn_905, lcn_525, lcn_251, lcn_520, lcn_449, lcn_1951, lcn_372], [], [sl_1439], [], (174, [(3, -22), (5, -1)])), ((nat_lit 144), [lcn_905, lcn_525, lcn_251, lcn_520, lcn_449, lcn_1000, lcn_599], [], [sl_1439], [], (166, [(3, -22)])), ((nat_lit 144), [lcn_905, lcn_525, lcn_251, lcn_520, lcn_449, lcn_1000, lcn_1952], [], [sl_1439, sl_1836], [], (165, [(3, -22)])), ((nat_lit 144), [lcn_905, lcn_525, lcn_251, lcn_520, lcn_449, lcn_1000, lcn_1953], [], [sl_1439, sl_1940], [], (164, [(3, -22)])), ((nat_lit 144), [lcn_905, lcn_525, lcn_251, lcn_520, lcn_449, lcn_1000, lcn_1954], [], [sl_1439, sl_1941], [], (163, [(3, -22)])), ((nat_lit 144), [lcn_905, lcn_525, lcn_251, lcn_520, lcn_449, lcn_1000, lcn_1955], [], [sl_1439, sl_1942], [], (162, [(3, -22)])), ((nat_lit 144), [lcn_905, lcn_525, lcn_251, lcn_520, lcn_449, lcn_1000, lcn_1956], [], [sl_1439, sl_1943], [], (161, [(3, -22)])), ((nat_lit 144), [lcn_905, lcn_525, lcn_251, lcn_520, lcn_449, lcn_1000, lcn_1957], [], [sl_1439, sl_1944], [], (160, [(3, -22)])), ((nat_lit 144), [lcn_905, lcn_525, lcn_251, lcn_520, lcn_449, lcn_1000, lcn_1958], [], [sl_1439, sl_1945], [], (159, [(3, -22)])), ((nat_lit 144), [lcn_905, lcn_525, lcn_251, lcn_520, lcn_449, lcn_1000, lcn_1959], [], [sl_1439, sl_1946], [], (158, [(3, -22)])), ((nat_lit 144), [lcn_905, lcn_525, lcn_251, lcn_520, lcn_449, lcn_1000, lcn_1960], [], [sl_1439, sl_1947], [], (157, [(3, -22)])), ((nat_lit 144), [lcn_905, lcn_525, lcn_251, lcn_520, lcn_449, lcn_1000, lcn_1961], [], [sl_1439, sl_1948], [], (156, [(3, -22)])), ((nat_lit 144), [lcn_905, lcn_525, lcn_251, lcn_520, lcn_449, lcn_1000, lcn_1962], [], [sl_1439, sl_1949], [], (155, [(3, -22)])), ((nat_lit 144), [lcn_905, lcn_525, lcn_251, lcn_520, lcn_449, lcn_1000, lcn_1963], [], [sl_1439, sl_1847], [], (154, [(3, -22)]))]) (fk := []) (rk := (184, [])) (sp := 22300745198530623141535720578508962905718792) (fuel := 3000) (by decide +kernel) (lk_d S_1045 ml_12_342 (lk_d S_1043 ml_12_342 (lk_d S_1041 ml_12_342 (lk_d S_1039 ml_12_342 (lk_d S_1037 ml_12_342 (lk_d S_1035 ml_12_342 (lk_d S_1033 ml_12_342 (lk_d S_1031 ml_12_342 (lk_d S_1029 ml_12_342 (lk_d S_1027 ml_12_342 (lk_d S_1025 ml_12_342 (lk_d S_1023 ml_12_342 (lk_d S_957 ml_12_302 lk_n))))))))))))) odX12_layDays
set_option maxRecDepth 100000 in
theorem btX12_arrivalOf : bTab oX12_arrivalOf tX12_arrivalOf := ⟨ofX12_arrivalOf, by decide +kernel⟩
def ct_1047 : aCt := (mX12_arrivalOf, [ag_868, ag_364, ag_125, ag_125, ag_1], ([], []), [pon_130, pon_52], mdn_1950, [], (nat_lit 6))
set_option maxRecDepth 100000 in
theorem S_1047 : aSpec wd ct_1047 := bChk_ok wx_ok btX12_arrivalOf (nds := []) (fk := []) (rk := (1, [])) (sp := 0) (fuel := 3000) (by decide +kernel) (lk_d S_1046 ml_12_349 lk_n) odX12_arrivalOf
def pon_1964 : aPo := (some (.inl aTop), [none, some [((.ofNat (nat_lit 0)), (.ofNat (nat_lit 4)), (nat_lit 1))], some [((.ofNat (nat_lit 0)), (.ofNat (nat_lit 6)), (nat_lit 1))], some [((.ofNat (nat_lit 0)), (.ofNat (nat_lit 6)), (nat_lit 1))], some [((.ofNat (nat_lit 0)), (.ofNat (nat_lit 9999)), (nat_lit 1))]], [sl_874, sl_1435, sl_1438, sl_1439, sl_1806], [])
def pon_1965 : aPo := (some (.inl [((.negSucc (nat_lit 1)), (.negSucc (nat_lit 1)), (nat_lit 1))]), [none, some [((.ofNat (nat_lit 0)), (.ofNat (nat_lit 4)), (nat_lit 1))], some [((.ofNat (nat_lit 0)), (.ofNat (nat_lit 6)), (nat_lit 1))], some [((.ofNat (nat_lit 0)), (.ofNat (nat_lit 6)), (nat_lit 1))], some [((.ofNat (nat_lit 0)), (.ofNat (nat_lit 9999)), (nat_lit 1))]], [sl_874, sl_1435, sl_1438, sl_1439, sl_1806], [])
def mdn_1966 : List (Nat × Nat × Nat) := [((nat_lit 196), (nat_lit 0), (nat_lit 1)), ((nat_lit 196), (nat_lit 11), (nat_lit 12)), ((nat_lit 205), (nat_lit 0), (nat_lit 7)), ((nat_lit 206), (nat_lit 0), (nat_lit 7))]
set_option maxRecDepth 100000 in
theorem btX12_arrival : bTab oX12_arrival tX12_arrival := ⟨ofX12_arrival, by decide +kernel⟩
def ct_1048 : aCt := (mX12_arrival, [ag_868, ag_1, ag_1, ag_1, ag_1], ([], []), [pon_1964, pon_1844, pon_1965], mdn_1966, [], (nat_lit 7))
set_option maxRecDepth 100000 in
theorem S_1048 : aSpec wd ct_1048 := bChk_ok wx_ok btX12_arrival (nds := []) (fk := []) (rk := (1, [])) (sp := 0) (fuel := 3000) (by decide +kernel) (lk_d S_468 ml_12_167 (lk_d S_470 ml_12_170 (lk_d S_929 ml_12_170 (lk_d S_927 ml_12_271 (lk_d S_1021 ml_12_277 (lk_d S_925 ml_12_268 (lk_d S_746 ml_12_149 (lk_d S_1047 ml_12_352 lk_n)))))))) odX12_arrival
def pon_1967 : aPo := (some (.inl [((.ofNat (nat_lit 1)), (.ofNat (nat_lit 1)), (nat_lit 1))]), [none, some [((.ofNat (nat_lit 0)), (.ofNat (nat_lit 7)), (nat_lit 1))]], [sl_1815], [])
def ct_1049 : aCt := (mX12_isBox, [ag_868, ag_1], ([sl_1435, sl_1438, sl_1439, sl_1806], []), [pon_37, pon_1967], [], [], (nat_lit 1))
set_option maxRecDepth 100000 in
theorem S_1049 : aSpec wd ct_1049 := bChk_ok wx_ok btX12_isBox (nds := []) (fk := []) (rk := (1, [])) (sp := 0) (fuel := 3000) (by decide +kernel) (lk_d S_931 ml_12_149 lk_n) odX12_isBox
def ct_1050 : aCt := (mX12_ofWhale, [ag_868, ag_265, ag_170], ([sl_1438, sl_1439, sl_1806, sl_1815], []), [pon_349], [], [], (nat_lit 0))
set_option maxRecDepth 100000 in
theorem S_1050 : aSpec wd ct_1050 := bChk_ok wx_ok btX12_ofWhale (nds := []) (fk := []) (rk := (1, [])) (sp := 0) (fuel := 3000) (by decide +kernel) lk_n odX12_ofWhale
def ct_1051 : aCt := (mX12_heardNow, [ag_868, ag_190], ([sl_1438, sl_1439, sl_1806, sl_1815], []), [pon_368, pon_52], [], [], (nat_lit 4))
set_option maxRecDepth 100000 in
theorem S_1051 : aSpec wd ct_1051 := bChk_ok wx_ok btX12_heardNow (nds := []) (fk := []) (rk := (1, [])) (sp := 0) (fuel := 3000) (by decide +kernel) (lk_d S_951 ml_12_291 lk_n) odX12_heardNow
def ct_1052 : aCt := (mX12_ofBox, [ag_868, ag_190, ag_22], ([sl_1438, sl_1439, sl_1806, sl_1815], []), [pon_130], [], [], (nat_lit 0))
set_option maxRecDepth 100000 in
theorem S_1052 : aSpec wd ct_1052 := bChk_ok wx_ok btX12_ofBox (nds := []) (fk := []) (rk := (1, [])) (sp := 0) (fuel := 3000) (by decide +kernel) lk_n odX12_ofBox
def ct_1053 : aCt := (mX12_ofBox, [ag_868, ag_190, ag_170], ([sl_1438, sl_1439, sl_1806, sl_1815], []), [pon_267], [], [], (nat_lit 0))
set_option maxRecDepth 100000 in
theorem S_1053 : aSpec wd ct_1053 := bChk_ok wx_ok btX12_ofBox (nds := []) (fk := []) (rk := (1, [])) (sp := 0) (fuel := 3000) (by decide +kernel) lk_n odX12_ofBox
def ct_1054 : aCt := (mX12_ofBox, [ag_868, ag_190, ag_122], ([sl_1438, sl_1439, sl_1806, sl_1815], []), [pon_130], [], [], (nat_lit 0))
set_option maxRecDepth 100000 in
theorem S_1054 : aSpec wd ct_1054 := bChk_ok wx_ok btX12_ofBox (nds := []) (fk := []) (rk := (1, [])) (sp := 0) (fuel := 3000) (by decide +kernel) lk_n odX12_ofBox
def ag_1968 : aAg := .inl [((.ofNat (nat_lit 0)), (.ofNat (nat_lit 2147483647)), (nat_lit 1))]
def pon_1969 : aPo := (some (.inl [((.ofNat (nat_lit 0)), (.ofNat (nat_lit 2147483647)), (nat_lit 1))]), [none, some aTop], [], [])
set_option maxRecDepth 100000 in
theorem btX12_later : bTab oX12_later tX12_later := ⟨ofX12_later, by decide +kernel⟩
def ct_1055 : aCt := (mX12_later, [ag_1968, ag_1], ([], []), [pon_1969], [], [], (nat_lit 0))
set_option maxRecDepth 100000 in
theorem S_1055 : aSpec wd ct_1055 := bChk_ok wx_ok btX12_later (nds := []) (fk := []) (rk := (1, [])) (sp := 0) (fuel := 3000) (by decide +kernel) lk_n odX12_later
def mdn_1970 : List (Nat × Nat × Nat) := [((nat_lit 196), (nat_lit 26), (nat_lit 28)), ((nat_lit 205), (nat_lit 0), (nat_lit 7)), ((nat_lit 206), (nat_lit 0), (nat_lit 7))]
set_option maxRecDepth 100000 in
theorem btX12_lays : bTab oX12_lays tX12_lays := ⟨ofX12_lays, by decide +kernel⟩
def ct_1056 : aCt := (mX12_lays, [ag_868, ag_265, ag_190], ([sl_1438, sl_1439, sl_1806, sl_1815], []), [pon_37, pon_38], mdn_1970, [], (nat_lit 7))
set_option maxRecDepth 100000 in
theorem S_1056 : aSpec wd ct_1056 := bChk_ok wx_ok btX12_lays (nds := []) (fk := []) (rk := (1, [])) (sp := 0) (fuel := 3000) (by decide +kernel) (lk_d S_1050 ml_12_271 (lk_d S_1051 ml_12_295 (lk_d S_1052 ml_12_262 (lk_d S_1053 ml_12_262 (lk_d S_1054 ml_12_262 (lk_d S_1047 ml_12_352 (lk_d S_1055 ml_12_355 lk_n))))))) odX12_lays
def ct_1057 : aCt := (mX12_ofWhale, [ag_868, ag_265, ag_22], ([sl_1438, sl_1439, sl_1806, sl_1815], []), [pon_130], [], [], (nat_lit 0))
set_option maxRecDepth 100000 in
theorem S_1057 : aSpec wd ct_1057 := bChk_ok wx_ok btX12_ofWhale (nds := []) (fk := []) (rk := (1, [])) (sp := 0) (fuel := 3000) (by decide +kernel) lk_n odX12_ofWhale
set_option maxRecDepth 100000 in
theorem btX12_bringsOf : bTab oX12_bringsOf tX12_bringsOf := ⟨ofX12_bringsOf, by decide +kernel⟩
def ct_1058 : aCt := (mX12_bringsOf, [ag_868, ag_265, ag_190], ([sl_1438, sl_1439, sl_1806, sl_1815], []), [pon_130, pon_52], mdn_1970, [], (nat_lit 8))
set_option maxRecDepth 100000 in
theorem S_1058 : aSpec wd ct_1058 := bChk_ok wx_ok btX12_bringsOf (nds := []) (fk := []) (rk := (1, [])) (sp := 0) (fuel := 3000) (by decide +kernel) (lk_d S_1057 ml_12_271 (lk_d S_1056 ml_12_364 lk_n)) odX12_bringsOf
def pon_1971 : aPo := (some (.inl aTop), [none, some [((.ofNat (nat_lit 0)), (.ofNat (nat_lit 4)), (nat_lit 1))], some [((.ofNat (nat_lit 0)), (.ofNat (nat_lit 7)), (nat_lit 1))]], [sl_874, sl_1435, sl_1438, sl_1439, sl_1806, sl_1815], [])
def pon_1972 : aPo := (some (.inl [((.negSucc (nat_lit 1)), (.negSucc (nat_lit 1)), (nat_lit 1))]), [none, some [((.ofNat (nat_lit 0)), (.ofNat (nat_lit 4)), (nat_lit 1))], some [((.ofNat (nat_lit 0)), (.ofNat (nat_lit 7)), (nat_lit 1))]], [sl_874, sl_1435, sl_1438, sl_1439, sl_1806, sl_1815], [])
def mdn_1973 : List (Nat × Nat × Nat) := [((nat_lit 196), (nat_lit 0), (nat_lit 1)), ((nat_lit 196), (nat_lit 11), (nat_lit 12)), ((nat_lit 196), (nat_lit 26), (nat_lit 28)), ((nat_lit 205), (nat_lit 0), (nat_lit 7)), ((nat_lit 206), (nat_lit 0), (nat_lit 7))]
set_option maxRecDepth 100000 in
theorem btX12_brings : bTab oX12_brings tX12_brings := ⟨ofX12_brings, by decide +kernel⟩
def ct_1059 : aCt := (mX12_brings, [ag_868, ag_1, ag_1], ([], []), [pon_1971, pon_1811, pon_1972], mdn_1973, [], (nat_lit 9))
set_option maxRecDepth 100000 in
theorem S_1059 : aSpec wd ct_1059 := bChk_ok wx_ok btX12_brings (nds := []) (fk := []) (rk := (1, [])) (sp := 0) (fuel := 3000) (by decide +kernel) (lk_d S_468 ml_12_167 (lk_d S_929 ml_12_170 (lk_d S_1058 ml_12_367 (lk_d S_1049 ml_12_274 (lk_d S_925 ml_12_268 lk_n))))) odX12_brings
def pon_1974 : aPo := (some (.inl [((.negSucc (nat_lit 1)), (.negSucc (nat_lit 1)), (nat_lit 1)), ((.ofNat (nat_lit 0)), (.ofNat (nat_lit 4)), (nat_lit 1))]), [], [sl_874, sl_1435, sl_1438, sl_1439, sl_1815], [])
set_option maxRecDepth 100000 in
theorem btX12_soonest : bTab oX12_soonest tX12_soonest := ⟨ofX12_soonest, by decide +kernel⟩
def ct_1060 : aCt := (mX12_soonest, [ag_868, ag_1], ([], []), [pon_1974, pon_1811], mdn_1973, [], (nat_lit 9))
set_option maxRecDepth 100000 in
theorem S_1060 : aSpec wd ct_1060 := bChk_ok wx_ok btX12_soonest (nds := [((nat_lit 23), [lcn_905, lcn_541, lcn_543, lcn_436], [], [sl_874, sl_1435, sl_1438, sl_1439, sl_1815], [], (5, [(2, -1)]))]) (fk := []) (rk := (6, [])) (sp := 8388608) (fuel := 3000) (by decide +kernel) (lk_d S_468 ml_12_167 (lk_d S_929 ml_12_170 (lk_d S_1058 ml_12_367 (lk_d S_932 ml_12_274 lk_n)))) odX12_soonest
def ct_1061 : aCt := (mX12_ofWhale, [ag_868, ag_265, ag_122], ([sl_1438, sl_1439, sl_1806, sl_1815], []), [pon_130], [], [], (nat_lit 0))
set_option maxRecDepth 100000 in
theorem S_1061 : aSpec wd ct_1061 := bChk_ok wx_ok btX12_ofWhale (nds := []) (fk := []) (rk := (1, [])) (sp := 0) (fuel := 3000) (by decide +kernel) lk_n odX12_ofWhale
def lcn_1975 : Nat × aAg := ((nat_lit 2), .inl [((.negSucc (nat_lit 0)), (.negSucc (nat_lit 0)), (nat_lit 1))])
set_option maxRecDepth 100000 in
theorem btX12_surestBut : bTab oX12_surestBut tX12_surestBut := ⟨ofX12_surestBut, by decide +kernel⟩
def ct_1062 : aCt := (mX12_surestBut, [ag_868, ag_190, ag_892], ([sl_1438, sl_1439, sl_1815], []), [pon_570], mdn_1970, [], (nat_lit 9))
set_option maxRecDepth 100000 in
theorem S_1062 : aSpec wd ct_1062 := bChk_ok wx_ok btX12_surestBut (nds := [((nat_lit 6), [lcn_905, lcn_541, lcn_1975, lcn_556, lcn_450], [], [sl_1438, sl_1439, sl_1815], [], (5, [(2, -1)]))]) (fk := []) (rk := (6, [])) (sp := 64) (fuel := 3000) (by decide +kernel) (lk_d S_1061 ml_12_271 (lk_d S_1058 ml_12_367 lk_n)) odX12_surestBut
def pon_1976 : aPo := (some (.inl [((.negSucc (nat_lit 1)), (.negSucc (nat_lit 1)), (nat_lit 1)), ((.ofNat (nat_lit 0)), (.ofNat (nat_lit 4)), (nat_lit 1))]), [none, some [((.ofNat (nat_lit 0)), (.ofNat (nat_lit 7)), (nat_lit 1))]], [sl_874, sl_1435, sl_1438, sl_1439, sl_1815], [])
set_option maxRecDepth 100000 in
theorem btX12_surest : bTab oX12_surest tX12_surest := ⟨ofX12_surest, by decide +kernel⟩
def ct_1063 : aCt := (mX12_surest, [ag_868, ag_1], ([], []), [pon_1976, pon_1811], mdn_1973, [], (nat_lit 10))
set_option maxRecDepth 100000 in
theorem S_1063 : aSpec wd ct_1063 := bChk_ok wx_ok btX12_surest (nds := []) (fk := []) (rk := (1, [])) (sp := 0) (fuel := 3000) (by decide +kernel) (lk_d S_468 ml_12_167 (lk_d S_929 ml_12_170 (lk_d S_1062 ml_12_370 (lk_d S_932 ml_12_274 lk_n)))) odX12_surest
def ct_1064 : aCt := (mX12_in, [ag_554, ag_170, ag_561], ([], []), [pon_37], mdn_879, [], (nat_lit 0))
set_option maxRecDepth 100000 in
theorem S_1064 : aSpec wd ct_1064 := bChk_ok wx_ok btX12_in (nds := []) (fk := []) (rk := (1, [])) (sp := 0) (fuel := 3000) (by decide +kernel) lk_n odX12_in
end Pk1
