section Pk0
def pon_1904 : aPo := (some (.inl [((.ofNat (nat_lit 0)), (.ofNat (nat_lit 15)), (nat_lit 1))]), [], [], [])
def lcn_1905 : Nat × aAg := ((nat_lit 5), .inl [((.ofNat (nat_lit 0)), (.ofNat (nat_lit 16)), (nat_lit 1))])
def ct_986 : aCt := (mX12_newSongs, [ag_861, ag_22, ag_452, ag_170], ([sl_1431, sl_1432], []), [pon_1904, pon_52], mdn_1885, [], (nat_lit 1))
set_option maxRecDepth 100000 in
theorem S_986 : aSpec wd ct_986 := aChkF_ok (lk := [(318, 0, 2, ct_984), (265, 0, 2, ct_917), (280, 0, 4, ct_920), (321, 0, 4, ct_985)]) (cd := oX12_newSongs) (nds := [(((nat_lit 8), [lcn_898, lcn_167, lcn_455, lcn_101, lcn_445], [], [sl_1886, sl_1431, sl_1432], [], (320, [(1, -4)])), [(.inl 4, .inr (196, 23), 0)]), (((nat_lit 38), [lcn_898, lcn_167, lcn_455, lcn_101, lcn_446, lcn_545, lcn_598], [], [sl_1887, sl_1431, sl_1432], [], (319, [(1, -4), (3, -1)])), [(.inl 4, .inr (196, 23), 0)]), (((nat_lit 109), [lcn_898, lcn_167, lcn_455, lcn_101, lcn_421, lcn_1905], [], [sl_1886, sl_1431, sl_1432], [], (288, [(1, -17)])), [(.inl 5, .inr (196, 23), 7)]), (((nat_lit 125), [lcn_898, lcn_167, lcn_455, lcn_101, lcn_421, lcn_1902, lcn_473, lcn_1825], [], [sl_1886, sl_1431, sl_1432], [], (279, [(1, -17), (2, 8), (3, -1)])), [(.inl 5, .inr (196, 23), 7)])]) (fk := []) (rk := (321, [])) (fuel := 3000) (by decide +kernel) (List.forall_mem_cons.mpr ⟨⟨ml_12_318, S_984⟩, List.forall_mem_cons.mpr ⟨⟨ml_12_265, S_917⟩, List.forall_mem_cons.mpr ⟨⟨ml_12_280, S_920⟩, List.forall_mem_cons.mpr ⟨⟨ml_12_321, S_985⟩, fun _ h => nomatch h⟩⟩⟩⟩) odX12_newSongs
def pon_1906 : aPo := (some (.inl [((.ofNat (nat_lit 0)), (.ofNat (nat_lit 1023)), (nat_lit 1))]), [none, some [((.ofNat (nat_lit 2)), (.ofNat (nat_lit 5)), (nat_lit 1))], some [((.ofNat (nat_lit 1)), (.ofNat (nat_lit 5)), (nat_lit 1))]], [sl_867, sl_1428, sl_1431, sl_1432], [])
def pon_1907 : aPo := (some (.inl [((.negSucc (nat_lit 1)), (.negSucc (nat_lit 1)), (nat_lit 1))]), [none, some [((.ofNat (nat_lit 2)), (.ofNat (nat_lit 5)), (nat_lit 1))], some [((.ofNat (nat_lit 1)), (.ofNat (nat_lit 5)), (nat_lit 1))]], [sl_867, sl_1428, sl_1431, sl_1432], [])
def mdn_1908 : List (Nat × Nat × Nat) := [((nat_lit 196), (nat_lit 0), (nat_lit 1)), ((nat_lit 196), (nat_lit 11), (nat_lit 12)), ((nat_lit 196), (nat_lit 23), (nat_lit 24)), ((nat_lit 204), (nat_lit 0), (nat_lit 7))]
set_option maxRecDepth 100000 in
theorem btX12_fresh : bTab oX12_fresh tX12_fresh := ⟨ofX12_fresh, by decide +kernel⟩
def ct_987 : aCt := (mX12_fresh, [ag_861, ag_1, ag_1], ([], []), [pon_1906, pon_1837, pon_1907], mdn_1908, [], (nat_lit 2))
set_option maxRecDepth 100000 in
theorem S_987 : aSpec wd ct_987 := bChk_ok wx_ok btX12_fresh (nds := []) (fk := [25]) (rk := (1, [])) (sp := 0) (fuel := 3000) (by decide +kernel) (lk_d S_447 ml_12_167 (lk_d S_908 ml_12_170 (lk_d S_449 ml_12_170 (lk_d S_977 ml_12_327 (lk_d S_980 ml_12_327 (lk_d S_983 ml_12_327 (lk_d S_986 ml_12_327 (lk_d S_974 ml_12_324 lk_n)))))))) odX12_fresh
def mdn_1909 : List (Nat × Nat × Nat) := [((nat_lit 196), (nat_lit 23), (nat_lit 24)), ((nat_lit 204), (nat_lit 0), (nat_lit 1031))]
def sl_1910 : (Nat × Nat) × aI := (((nat_lit 196), (nat_lit 23)), [((.ofNat (nat_lit 0)), (.ofNat (nat_lit 1031)), (nat_lit 1))])
def lcn_1911 : Nat × aAg := ((nat_lit 7), .inl [((.ofNat (nat_lit 0)), (.ofNat (nat_lit 1030)), (nat_lit 1))])
def sl_1912 : (Nat × Nat) × aI := (((nat_lit 196), (nat_lit 23)), [((.ofNat (nat_lit 0)), (.ofNat (nat_lit 1030)), (nat_lit 1))])
def ct_988 : aCt := (mX12_newSongs, [ag_861, ag_150, ag_452, ag_53], ([sl_1431, sl_1432], []), [pon_130], mdn_1909, [], (nat_lit 1))
set_option maxRecDepth 100000 in
theorem S_988 : aSpec wd ct_988 := aChkF_ok (lk := [(318, 0, 2, ct_975), (265, 0, 2, ct_917), (280, 0, 4, ct_920), (321, 0, 4, ct_976)]) (cd := oX12_newSongs) (nds := [(((nat_lit 8), [lcn_898, lcn_978, lcn_455, lcn_102, lcn_445], [], [sl_1886, sl_1431, sl_1432], [], (2114630, [(1, -7)])), [(.inl 4, .inr (196, 23), 0)]), (((nat_lit 38), [lcn_898, lcn_978, lcn_455, lcn_102, lcn_446, lcn_545, lcn_610], [], [sl_1887, sl_1431, sl_1432], [], (2114629, [(1, -7), (3, -1)])), [(.inl 4, .inr (196, 23), 0)]), (((nat_lit 109), [lcn_898, lcn_978, lcn_455, lcn_102, lcn_351, lcn_1888], [], [sl_1910, sl_1431, sl_1432], [], (2114574, [(2, -2063)])), [(.inl 5, .inr (196, 23), 7)]), (((nat_lit 125), [lcn_898, lcn_978, lcn_455, lcn_102, lcn_351, lcn_1882, lcn_473, lcn_1911], [], [sl_1912, sl_1431, sl_1432], [], (2113542, [(2, -2063), (3, 1031), (4, -1)])), [(.inl 5, .inr (196, 23), 7)])]) (fk := []) (rk := (2114631, [])) (fuel := 3000) (by decide +kernel) (List.forall_mem_cons.mpr ⟨⟨ml_12_318, S_975⟩, List.forall_mem_cons.mpr ⟨⟨ml_12_265, S_917⟩, List.forall_mem_cons.mpr ⟨⟨ml_12_280, S_920⟩, List.forall_mem_cons.mpr ⟨⟨ml_12_321, S_976⟩, fun _ h => nomatch h⟩⟩⟩⟩) odX12_newSongs
def mdn_1913 : List (Nat × Nat × Nat) := [((nat_lit 196), (nat_lit 23), (nat_lit 24)), ((nat_lit 204), (nat_lit 0), (nat_lit 288))]
def sl_1914 : (Nat × Nat) × aI := (((nat_lit 196), (nat_lit 23)), [((.ofNat (nat_lit 0)), (.ofNat (nat_lit 287)), (nat_lit 1))])
def lcn_1915 : Nat × aAg := ((nat_lit 7), .inl [((.ofNat (nat_lit 0)), (.ofNat (nat_lit 287)), (nat_lit 1))])
def ct_989 : aCt := (mX12_newSongs, [ag_861, ag_159, ag_452, ag_53], ([sl_1431, sl_1432], []), [pon_130], mdn_1913, [], (nat_lit 1))
set_option maxRecDepth 100000 in
theorem S_989 : aSpec wd ct_989 := aChkF_ok (lk := [(318, 0, 2, ct_978), (265, 0, 2, ct_917), (280, 0, 4, ct_920), (321, 0, 4, ct_979)]) (cd := oX12_newSongs) (nds := [(((nat_lit 8), [lcn_898, lcn_977, lcn_455, lcn_102, lcn_445], [], [sl_1886, sl_1431, sl_1432], [], (166223, [(1, -6)])), [(.inl 4, .inr (196, 23), 0)]), (((nat_lit 38), [lcn_898, lcn_977, lcn_455, lcn_102, lcn_446, lcn_545, lcn_604], [], [sl_1887, sl_1431, sl_1432], [], (166222, [(1, -6), (3, -1)])), [(.inl 4, .inr (196, 23), 0)]), (((nat_lit 109), [lcn_898, lcn_977, lcn_455, lcn_102, lcn_351, lcn_1893], [], [sl_1914, sl_1431, sl_1432], [], (166175, [(2, -577)])), [(.inl 5, .inr (196, 23), 7)]), (((nat_lit 125), [lcn_898, lcn_977, lcn_455, lcn_102, lcn_351, lcn_1891, lcn_473, lcn_1915], [], [sl_1914, sl_1431, sl_1432], [], (165886, [(2, -577), (3, 288), (4, -1)])), [(.inl 5, .inr (196, 23), 7)])]) (fk := []) (rk := (166224, [])) (fuel := 3000) (by decide +kernel) (List.forall_mem_cons.mpr ⟨⟨ml_12_318, S_978⟩, List.forall_mem_cons.mpr ⟨⟨ml_12_265, S_917⟩, List.forall_mem_cons.mpr ⟨⟨ml_12_280, S_920⟩, List.forall_mem_cons.mpr ⟨⟨ml_12_321, S_979⟩, fun _ h => nomatch h⟩⟩⟩⟩) odX12_newSongs
def mdn_1916 : List (Nat × Nat × Nat) := [((nat_lit 196), (nat_lit 23), (nat_lit 24)), ((nat_lit 204), (nat_lit 0), (nat_lit 76))]
def sl_1917 : (Nat × Nat) × aI := (((nat_lit 196), (nat_lit 23)), [((.ofNat (nat_lit 0)), (.ofNat (nat_lit 75)), (nat_lit 1))])
def lcn_1918 : Nat × aAg := ((nat_lit 7), .inl [((.ofNat (nat_lit 0)), (.ofNat (nat_lit 75)), (nat_lit 1))])
def ct_990 : aCt := (mX12_newSongs, [ag_861, ag_122, ag_452, ag_53], ([sl_1431, sl_1432], []), [pon_130], mdn_1916, [], (nat_lit 1))
set_option maxRecDepth 100000 in
theorem S_990 : aSpec wd ct_990 := aChkF_ok (lk := [(318, 0, 2, ct_981), (265, 0, 2, ct_917), (280, 0, 4, ct_920), (321, 0, 4, ct_982)]) (cd := oX12_newSongs) (nds := [(((nat_lit 8), [lcn_898, lcn_976, lcn_455, lcn_102, lcn_445], [], [sl_1886, sl_1431, sl_1432], [], (11667, [(1, -5)])), [(.inl 4, .inr (196, 23), 0)]), (((nat_lit 38), [lcn_898, lcn_976, lcn_455, lcn_102, lcn_446, lcn_545, lcn_600], [], [sl_1887, sl_1431, sl_1432], [], (11666, [(1, -5), (3, -1)])), [(.inl 4, .inr (196, 23), 0)]), (((nat_lit 109), [lcn_898, lcn_976, lcn_455, lcn_102, lcn_351, lcn_1899], [], [sl_1917, sl_1431, sl_1432], [], (11627, [(2, -153)])), [(.inl 5, .inr (196, 23), 7)]), (((nat_lit 125), [lcn_898, lcn_976, lcn_455, lcn_102, lcn_351, lcn_1897, lcn_473, lcn_1918], [], [sl_1917, sl_1431, sl_1432], [], (11550, [(2, -153), (3, 76), (4, -1)])), [(.inl 5, .inr (196, 23), 7)])]) (fk := []) (rk := (11668, [])) (fuel := 3000) (by decide +kernel) (List.forall_mem_cons.mpr ⟨⟨ml_12_318, S_981⟩, List.forall_mem_cons.mpr ⟨⟨ml_12_265, S_917⟩, List.forall_mem_cons.mpr ⟨⟨ml_12_280, S_920⟩, List.forall_mem_cons.mpr ⟨⟨ml_12_321, S_982⟩, fun _ h => nomatch h⟩⟩⟩⟩) odX12_newSongs
def mdn_1919 : List (Nat × Nat × Nat) := [((nat_lit 196), (nat_lit 23), (nat_lit 24)), ((nat_lit 204), (nat_lit 0), (nat_lit 26))]
def sl_1920 : (Nat × Nat) × aI := (((nat_lit 196), (nat_lit 23)), [((.ofNat (nat_lit 0)), (.ofNat (nat_lit 25)), (nat_lit 1))])
def lcn_1921 : Nat × aAg := ((nat_lit 7), .inl [((.ofNat (nat_lit 0)), (.ofNat (nat_lit 25)), (nat_lit 1))])
def ct_991 : aCt := (mX12_newSongs, [ag_861, ag_22, ag_452, ag_53], ([sl_1431, sl_1432], []), [pon_130], mdn_1919, [], (nat_lit 1))
set_option maxRecDepth 100000 in
theorem S_991 : aSpec wd ct_991 := aChkF_ok (lk := [(318, 0, 2, ct_984), (265, 0, 2, ct_917), (280, 0, 4, ct_920), (321, 0, 4, ct_985)]) (cd := oX12_newSongs) (nds := [(((nat_lit 8), [lcn_898, lcn_167, lcn_455, lcn_102, lcn_445], [], [sl_1886, sl_1431, sl_1432], [], (932, [(1, -4)])), [(.inl 4, .inr (196, 23), 0)]), (((nat_lit 38), [lcn_898, lcn_167, lcn_455, lcn_102, lcn_446, lcn_545, lcn_598], [], [sl_1887, sl_1431, sl_1432], [], (931, [(1, -4), (3, -1)])), [(.inl 4, .inr (196, 23), 0)]), (((nat_lit 109), [lcn_898, lcn_167, lcn_455, lcn_102, lcn_351, lcn_1905], [], [sl_1920, sl_1431, sl_1432], [], (900, [(2, -53)])), [(.inl 5, .inr (196, 23), 7)]), (((nat_lit 125), [lcn_898, lcn_167, lcn_455, lcn_102, lcn_351, lcn_1902, lcn_473, lcn_1921], [], [sl_1920, sl_1431, sl_1432], [], (873, [(2, -53), (3, 26), (4, -1)])), [(.inl 5, .inr (196, 23), 7)])]) (fk := []) (rk := (933, [])) (fuel := 3000) (by decide +kernel) (List.forall_mem_cons.mpr ⟨⟨ml_12_318, S_984⟩, List.forall_mem_cons.mpr ⟨⟨ml_12_265, S_917⟩, List.forall_mem_cons.mpr ⟨⟨ml_12_280, S_920⟩, List.forall_mem_cons.mpr ⟨⟨ml_12_321, S_985⟩, fun _ h => nomatch h⟩⟩⟩⟩) odX12_newSongs
def pon_1922 : aPo := (some (.inl aTop), [none, some [((.ofNat (nat_lit 2)), (.ofNat (nat_lit 5)), (nat_lit 1))], some [((.ofNat (nat_lit 1)), (.ofNat (nat_lit 5)), (nat_lit 1))]], [sl_867, sl_1428, sl_1431, sl_1432], [])
def mdn_1923 : List (Nat × Nat × Nat) := [((nat_lit 196), (nat_lit 0), (nat_lit 1)), ((nat_lit 196), (nat_lit 11), (nat_lit 12)), ((nat_lit 196), (nat_lit 23), (nat_lit 24)), ((nat_lit 204), (nat_lit 0), (nat_lit 1031))]
set_option maxRecDepth 100000 in
theorem btX12_byTurns : bTab oX12_byTurns tX12_byTurns := ⟨ofX12_byTurns, by decide +kernel⟩
def ct_992 : aCt := (mX12_byTurns, [ag_861, ag_1, ag_1], ([], []), [pon_1922, pon_1837], mdn_1923, [], (nat_lit 2))
set_option maxRecDepth 100000 in
theorem S_992 : aSpec wd ct_992 := bChk_ok wx_ok btX12_byTurns (nds := []) (fk := [25]) (rk := (1, [])) (sp := 0) (fuel := 3000) (by decide +kernel) (lk_d S_447 ml_12_167 (lk_d S_908 ml_12_170 (lk_d S_449 ml_12_170 (lk_d S_988 ml_12_327 (lk_d S_989 ml_12_327 (lk_d S_990 ml_12_327 (lk_d S_991 ml_12_327 (lk_d S_974 ml_12_324 lk_n)))))))) odX12_byTurns
def pon_1924 : aPo := (some (.inl [((.negSucc (nat_lit 2147483647)), (.ofNat (nat_lit 7)), (nat_lit 1))]), [], [], [])
def lcn_1925 : Nat × aAg := ((nat_lit 3), .inl [((.negSucc (nat_lit 2147483647)), (.ofNat (nat_lit 7)), (nat_lit 1))])
set_option maxRecDepth 100000 in
theorem btX12_nearOf : bTab oX12_nearOf tX12_nearOf := ⟨ofX12_nearOf, by decide +kernel⟩
def ct_993 : aCt := (mX12_nearOf, [ag_861, ag_190, ag_170], ([sl_1431, sl_1432, sl_1808], []), [pon_1924], [], [], (nat_lit 3))
set_option maxRecDepth 100000 in
theorem S_993 : aSpec wd ct_993 := bChk_ok wx_ok btX12_nearOf (nds := [((nat_lit 9), [lcn_898, lcn_540, lcn_589, lcn_1925, lcn_351, lcn_648], [], [sl_1431, sl_1432, sl_1808], [], (7, [(3, -1)]))]) (fk := []) (rk := (8, [])) (sp := 512) (fuel := 3000) (by decide +kernel) (lk_d S_917 ml_12_265 (lk_d S_923 ml_12_284 (lk_d S_929 ml_12_287 lk_n))) odX12_nearOf
def pon_1926 : aPo := (some (.inl [((.negSucc (nat_lit 2147483647)), (.ofNat (nat_lit 7)), (nat_lit 1))]), [none, some [((.ofNat (nat_lit 0)), (.ofNat (nat_lit 7)), (nat_lit 1))]], [sl_867, sl_1428, sl_1431, sl_1432, sl_1808], [])
set_option maxRecDepth 100000 in
theorem btX12_near : bTab oX12_near tX12_near := ⟨ofX12_near, by decide +kernel⟩
def ct_994 : aCt := (mX12_near, [ag_861, ag_1], ([], []), [pon_1926, pon_1804], mdn_869, [], (nat_lit 4))
set_option maxRecDepth 100000 in
theorem S_994 : aSpec wd ct_994 := bChk_ok wx_ok btX12_near (nds := []) (fk := []) (rk := (1, [])) (sp := 0) (fuel := 3000) (by decide +kernel) (lk_d S_447 ml_12_167 (lk_d S_908 ml_12_170 (lk_d S_993 ml_12_308 (lk_d S_911 ml_12_274 lk_n)))) odX12_near
def ct_995 : aCt := (mX12_nearOf, [ag_861, ag_190, ag_53], ([sl_1431, sl_1432, sl_1808], []), [pon_130], [], [], (nat_lit 3))
set_option maxRecDepth 100000 in
theorem S_995 : aSpec wd ct_995 := bChk_ok wx_ok btX12_nearOf (nds := [((nat_lit 9), [lcn_898, lcn_540, lcn_444, lcn_1925, lcn_351, lcn_648], [], [sl_1431, sl_1432, sl_1808], [], (7, [(3, -1)]))]) (fk := []) (rk := (8, [])) (sp := 512) (fuel := 3000) (by decide +kernel) (lk_d S_917 ml_12_265 (lk_d S_923 ml_12_284 (lk_d S_929 ml_12_287 lk_n))) odX12_nearOf
def pon_1927 : aPo := (some (.inl aTop), [none, some [((.ofNat (nat_lit 0)), (.ofNat (nat_lit 7)), (nat_lit 1))]], [sl_867, sl_1428, sl_1431, sl_1432, sl_1808], [])
set_option maxRecDepth 100000 in
theorem btX12_asNear : bTab oX12_asNear tX12_asNear := ⟨ofX12_asNear, by decide +kernel⟩
def ct_996 : aCt := (mX12_asNear, [ag_861, ag_1], ([], []), [pon_1927, pon_1804], mdn_869, [], (nat_lit 4))
set_option maxRecDepth 100000 in
theorem S_996 : aSpec wd ct_996 := bChk_ok wx_ok btX12_asNear (nds := []) (fk := []) (rk := (1, [])) (sp := 0) (fuel := 3000) (by decide +kernel) (lk_d S_447 ml_12_167 (lk_d S_908 ml_12_170 (lk_d S_995 ml_12_308 (lk_d S_911 ml_12_274 lk_n)))) odX12_asNear
def pon_1928 : aPo := (some (.inl [((.negSucc (nat_lit 1)), (.negSucc (nat_lit 1)), (nat_lit 1)), ((.ofNat (nat_lit 0)), (.ofNat (nat_lit 6)), (nat_lit 1))]), [none, some [((.ofNat (nat_lit 0)), (.ofNat (nat_lit 7)), (nat_lit 1))], some [((.ofNat (nat_lit 0)), (.ofNat (nat_lit 99)), (nat_lit 1))]], [sl_867, sl_1428, sl_1431, sl_1432, sl_1808], [])
def pon_1929 : aPo := (some (.inl [((.negSucc (nat_lit 1)), (.negSucc (nat_lit 1)), (nat_lit 1))]), [none, some [((.ofNat (nat_lit 0)), (.ofNat (nat_lit 7)), (nat_lit 1))], some [((.ofNat (nat_lit 0)), (.ofNat (nat_lit 99)), (nat_lit 1))]], [sl_867, sl_1428, sl_1431, sl_1432, sl_1808], [])
set_option maxRecDepth 100000 in
theorem btX12_heardIn : bTab oX12_heardIn tX12_heardIn := ⟨ofX12_heardIn, by decide +kernel⟩
def ct_997 : aCt := (mX12_heardIn, [ag_861, ag_1, ag_1], ([], []), [pon_1928, pon_1837, pon_1929], mdn_869, [], (nat_lit 4))
set_option maxRecDepth 100000 in
theorem S_997 : aSpec wd ct_997 := bChk_ok wx_ok btX12_heardIn (nds := []) (fk := []) (rk := (1, [])) (sp := 0) (fuel := 3000) (by decide +kernel) (lk_d S_447 ml_12_167 (lk_d S_449 ml_12_170 (lk_d S_908 ml_12_170 (lk_d S_930 ml_12_291 (lk_d S_911 ml_12_274 (lk_d S_615 ml_12_149 lk_n)))))) odX12_heardIn
set_option maxRecDepth 100000 in
theorem btX12_hearsItself : bTab oX12_hearsItself tX12_hearsItself := ⟨ofX12_hearsItself, by decide +kernel⟩
def ct_998 : aCt := (mX12_hearsItself, [ag_861, ag_125, ag_508], ([sl_1431, sl_1432], []), [pon_453], [], [], (nat_lit 1))
set_option maxRecDepth 100000 in
theorem S_998 : aSpec wd ct_998 := bChk_ok wx_ok btX12_hearsItself (nds := [((nat_lit 5), [lcn_898, lcn_249, lcn_1822, lcn_517, lcn_446], [], [sl_1431, sl_1432], [], (134, [(3, -1)])), ((nat_lit 77), [lcn_898, lcn_249, lcn_1822, lcn_517, lcn_451, lcn_648], [], [sl_1431, sl_1432], [], (63, [(3, 64), (4, -8)])), ((nat_lit 117), [lcn_898, lcn_249, lcn_1822, lcn_517, lcn_451, lcn_993, lcn_1820, lcn_1821], [], [sl_1431, sl_1432], [], (62, [(3, 64), (4, -8), (6, -1)]))]) (fk := []) (rk := (135, [])) (sp := 166153499473265599840427711181881376) (fuel := 3000) (by decide +kernel) (lk_d S_917 ml_12_265 (lk_d S_920 ml_12_280 lk_n)) odX12_hearsItself
def pon_1930 : aPo := (some (.inl [((.ofNat (nat_lit 0)), (.ofNat (nat_lit 99)), (nat_lit 1))]), [], [sl_867, sl_1428, sl_1431, sl_1432], [])
set_option maxRecDepth 100000 in
theorem btX12_strange : bTab oX12_strange tX12_strange := ⟨ofX12_strange, by decide +kernel⟩
def ct_999 : aCt := (mX12_strange, [ag_861, ag_1], ([], []), [pon_1930, pon_1804, pon_1873], mdn_869, [], (nat_lit 2))
set_option maxRecDepth 100000 in
theorem S_999 : aSpec wd ct_999 := bChk_ok wx_ok btX12_strange (nds := [((nat_lit 20), [lcn_898, lcn_249, lcn_511], [], [sl_867, sl_1428, sl_1431, sl_1432], [], (100, [(1, -1)]))]) (fk := []) (rk := (101, [])) (sp := 1048576) (fuel := 3000) (by decide +kernel) (lk_d S_447 ml_12_167 (lk_d S_908 ml_12_170 (lk_d S_998 ml_12_331 (lk_d S_916 ml_12_277 lk_n)))) odX12_strange
def ct_1000 : aCt := (mX12_isIsland, [ag_861, ag_1], ([sl_1428, sl_1431, sl_1432, sl_1799], []), [pon_37, pon_374], [], [], (nat_lit 1))
set_option maxRecDepth 100000 in
theorem S_1000 : aSpec wd ct_1000 := bChk_ok wx_ok btX12_isIsland (nds := []) (fk := []) (rk := (1, [])) (sp := 0) (fuel := 3000) (by decide +kernel) (lk_d S_915 ml_12_149 lk_n) odX12_isIsland
def pon_1931 : aPo := (some (.inl aTop), [none, none, some [((.ofNat (nat_lit 0)), (.ofNat (nat_lit 3)), (nat_lit 1))], none], [], [])
set_option maxRecDepth 100000 in
theorem btX12_dayBy : bTab oX12_dayBy tX12_dayBy := ⟨ofX12_dayBy, by decide +kernel⟩
def ct_1001 : aCt := (mX12_dayBy, [ag_861, ag_170, ag_361, ag_1], ([sl_1829], []), [pon_1931], [], [], (nat_lit 3))
set_option maxRecDepth 100000 in
theorem S_1001 : aSpec wd ct_1001 := bChk_ok wx_ok btX12_dayBy (nds := []) (fk := []) (rk := (1, [])) (sp := 0) (fuel := 3000) (by decide +kernel) (lk_d S_X12_setsOut_11 ml_12_334 lk_n) odX12_dayBy
def mdn_1932 : List (Nat × Nat × Nat) := [((nat_lit 205), (nat_lit 0), (nat_lit 7))]
set_option maxRecDepth 100000 in
theorem btX12_goesBy : bTab oX12_goesBy tX12_goesBy := ⟨ofX12_goesBy, by decide +kernel⟩
def ct_1002 : aCt := (mX12_goesBy, [ag_861, ag_170, ag_361, ag_125], ([sl_1829], []), [pon_49], mdn_1932, [], (nat_lit 4))
set_option maxRecDepth 100000 in
theorem S_1002 : aSpec wd ct_1002 := bChk_ok wx_ok btX12_goesBy (nds := []) (fk := []) (rk := (1, [])) (sp := 0) (fuel := 3000) (by decide +kernel) (lk_d S_1001 ml_12_346 lk_n) odX12_goesBy
def sl_1933 : (Nat × Nat) × aI := (((nat_lit 199), (nat_lit 5)), [((.ofNat (nat_lit 2)), (.ofNat (nat_lit 12)), (nat_lit 1))])
def ct_1003 : aCt := (mX12_dayBy, [ag_861, ag_53, ag_361, ag_1], ([sl_1933], []), [pon_1931], [], [], (nat_lit 3))
set_option maxRecDepth 100000 in
theorem S_1003 : aSpec wd ct_1003 := bChk_ok wx_ok btX12_dayBy (nds := []) (fk := []) (rk := (1, [])) (sp := 0) (fuel := 3000) (by decide +kernel) (lk_d S_X12_setsOut_10 ml_12_334 lk_n) odX12_dayBy
def ct_1004 : aCt := (mX12_goesBy, [ag_861, ag_53, ag_361, ag_125], ([sl_1933], []), [pon_49], mdn_1932, [], (nat_lit 4))
set_option maxRecDepth 100000 in
theorem S_1004 : aSpec wd ct_1004 := bChk_ok wx_ok btX12_goesBy (nds := []) (fk := []) (rk := (1, [])) (sp := 0) (fuel := 3000) (by decide +kernel) (lk_d S_1003 ml_12_346 lk_n) odX12_goesBy
def sl_1934 : (Nat × Nat) × aI := (((nat_lit 199), (nat_lit 5)), [((.ofNat (nat_lit 3)), (.ofNat (nat_lit 12)), (nat_lit 1))])
def ct_1005 : aCt := (mX12_dayBy, [ag_861, ag_22, ag_361, ag_1], ([sl_1934], []), [pon_1931], [], [], (nat_lit 3))
set_option maxRecDepth 100000 in
theorem S_1005 : aSpec wd ct_1005 := bChk_ok wx_ok btX12_dayBy (nds := []) (fk := []) (rk := (1, [])) (sp := 0) (fuel := 3000) (by decide +kernel) (lk_d S_X12_setsOut_9 ml_12_334 lk_n) odX12_dayBy
def ct_1006 : aCt := (mX12_goesBy, [ag_861, ag_22, ag_361, ag_125], ([sl_1934], []), [pon_49], mdn_1932, [], (nat_lit 4))
set_option maxRecDepth 100000 in
theorem S_1006 : aSpec wd ct_1006 := bChk_ok wx_ok btX12_goesBy (nds := []) (fk := []) (rk := (1, [])) (sp := 0) (fuel := 3000) (by decide +kernel) (lk_d S_1005 ml_12_346 lk_n) odX12_goesBy
def sl_1935 : (Nat × Nat) × aI := (((nat_lit 199), (nat_lit 5)), [((.ofNat (nat_lit 4)), (.ofNat (nat_lit 12)), (nat_lit 1))])
def ct_1007 : aCt := (mX12_dayBy, [ag_861, ag_122, ag_361, ag_1], ([sl_1935], []), [pon_1931], [], [], (nat_lit 3))
set_option maxRecDepth 100000 in
theorem S_1007 : aSpec wd ct_1007 := bChk_ok wx_ok btX12_dayBy (nds := []) (fk := []) (rk := (1, [])) (sp := 0) (fuel := 3000) (by decide +kernel) (lk_d S_X12_setsOut_8 ml_12_334 lk_n) odX12_dayBy
def ct_1008 : aCt := (mX12_goesBy, [ag_861, ag_122, ag_361, ag_125], ([sl_1935], []), [pon_49], mdn_1932, [], (nat_lit 4))
set_option maxRecDepth 100000 in
theorem S_1008 : aSpec wd ct_1008 := bChk_ok wx_ok btX12_goesBy (nds := []) (fk := []) (rk := (1, [])) (sp := 0) (fuel := 3000) (by decide +kernel) (lk_d S_1007 ml_12_346 lk_n) odX12_goesBy
def sl_1936 : (Nat × Nat) × aI := (((nat_lit 199), (nat_lit 5)), [((.ofNat (nat_lit 5)), (.ofNat (nat_lit 12)), (nat_lit 1))])
def ct_1009 : aCt := (mX12_dayBy, [ag_861, ag_159, ag_361, ag_1], ([sl_1936], []), [pon_1931], [], [], (nat_lit 3))
set_option maxRecDepth 100000 in
theorem S_1009 : aSpec wd ct_1009 := bChk_ok wx_ok btX12_dayBy (nds := []) (fk := []) (rk := (1, [])) (sp := 0) (fuel := 3000) (by decide +kernel) (lk_d S_X12_setsOut_7 ml_12_334 lk_n) odX12_dayBy
def ct_1010 : aCt := (mX12_goesBy, [ag_861, ag_159, ag_361, ag_125], ([sl_1936], []), [pon_49], mdn_1932, [], (nat_lit 4))
set_option maxRecDepth 100000 in
theorem S_1010 : aSpec wd ct_1010 := bChk_ok wx_ok btX12_goesBy (nds := []) (fk := []) (rk := (1, [])) (sp := 0) (fuel := 3000) (by decide +kernel) (lk_d S_1009 ml_12_346 lk_n) odX12_goesBy
def sl_1937 : (Nat × Nat) × aI := (((nat_lit 199), (nat_lit 5)), [((.ofNat (nat_lit 6)), (.ofNat (nat_lit 12)), (nat_lit 1))])
def ct_1011 : aCt := (mX12_dayBy, [ag_861, ag_150, ag_361, ag_1], ([sl_1937], []), [pon_1931], [], [], (nat_lit 3))
set_option maxRecDepth 100000 in
theorem S_1011 : aSpec wd ct_1011 := bChk_ok wx_ok btX12_dayBy (nds := []) (fk := []) (rk := (1, [])) (sp := 0) (fuel := 3000) (by decide +kernel) (lk_d S_X12_setsOut_6 ml_12_334 lk_n) odX12_dayBy
def ct_1012 : aCt := (mX12_goesBy, [ag_861, ag_150, ag_361, ag_125], ([sl_1937], []), [pon_49], mdn_1932, [], (nat_lit 4))
set_option maxRecDepth 100000 in
theorem S_1012 : aSpec wd ct_1012 := bChk_ok wx_ok btX12_goesBy (nds := []) (fk := []) (rk := (1, [])) (sp := 0) (fuel := 3000) (by decide +kernel) (lk_d S_1011 ml_12_346 lk_n) odX12_goesBy
def sl_1938 : (Nat × Nat) × aI := (((nat_lit 199), (nat_lit 5)), [((.ofNat (nat_lit 7)), (.ofNat (nat_lit 12)), (nat_lit 1))])
def ct_1013 : aCt := (mX12_dayBy, [ag_861, ag_153, ag_361, ag_1], ([sl_1938], []), [pon_1931], [], [], (nat_lit 3))
set_option maxRecDepth 100000 in
theorem S_1013 : aSpec wd ct_1013 := bChk_ok wx_ok btX12_dayBy (nds := []) (fk := []) (rk := (1, [])) (sp := 0) (fuel := 3000) (by decide +kernel) (lk_d S_X12_setsOut_5 ml_12_334 lk_n) odX12_dayBy
def ct_1014 : aCt := (mX12_goesBy, [ag_861, ag_153, ag_361, ag_125], ([sl_1938], []), [pon_49], mdn_1932, [], (nat_lit 4))
set_option maxRecDepth 100000 in
theorem S_1014 : aSpec wd ct_1014 := bChk_ok wx_ok btX12_goesBy (nds := []) (fk := []) (rk := (1, [])) (sp := 0) (fuel := 3000) (by decide +kernel) (lk_d S_1013 ml_12_346 lk_n) odX12_goesBy
def sl_1939 : (Nat × Nat) × aI := (((nat_lit 199), (nat_lit 5)), [((.ofNat (nat_lit 8)), (.ofNat (nat_lit 12)), (nat_lit 1))])
def ct_1015 : aCt := (mX12_dayBy, [ag_861, ag_133, ag_361, ag_1], ([sl_1939], []), [pon_1931], [], [], (nat_lit 3))
set_option maxRecDepth 100000 in
theorem S_1015 : aSpec wd ct_1015 := bChk_ok wx_ok btX12_dayBy (nds := []) (fk := []) (rk := (1, [])) (sp := 0) (fuel := 3000) (by decide +kernel) (lk_d S_X12_setsOut_4 ml_12_334 lk_n) odX12_dayBy
def ct_1016 : aCt := (mX12_goesBy, [ag_861, ag_133, ag_361, ag_125], ([sl_1939], []), [pon_49], mdn_1932, [], (nat_lit 4))
set_option maxRecDepth 100000 in
theorem S_1016 : aSpec wd ct_1016 := bChk_ok wx_ok btX12_goesBy (nds := []) (fk := []) (rk := (1, [])) (sp := 0) (fuel := 3000) (by decide +kernel) (lk_d S_1015 ml_12_346 lk_n) odX12_goesBy
def sl_1940 : (Nat × Nat) × aI := (((nat_lit 199), (nat_lit 5)), [((.ofNat (nat_lit 9)), (.ofNat (nat_lit 12)), (nat_lit 1))])
def ct_1017 : aCt := (mX12_dayBy, [ag_861, ag_1849, ag_361, ag_1], ([sl_1940], []), [pon_1931], [], [], (nat_lit 3))
set_option maxRecDepth 100000 in
theorem S_1017 : aSpec wd ct_1017 := bChk_ok wx_ok btX12_dayBy (nds := []) (fk := []) (rk := (1, [])) (sp := 0) (fuel := 3000) (by decide +kernel) (lk_d S_X12_setsOut_3 ml_12_334 lk_n) odX12_dayBy
def ct_1018 : aCt := (mX12_goesBy, [ag_861, ag_1849, ag_361, ag_125], ([sl_1940], []), [pon_49], mdn_1932, [], (nat_lit 4))
set_option maxRecDepth 100000 in
theorem S_1018 : aSpec wd ct_1018 := bChk_ok wx_ok btX12_goesBy (nds := []) (fk := []) (rk := (1, [])) (sp := 0) (fuel := 3000) (by decide +kernel) (lk_d S_1017 ml_12_346 lk_n) odX12_goesBy
def sl_1941 : (Nat × Nat) × aI := (((nat_lit 199), (nat_lit 5)), [((.ofNat (nat_lit 10)), (.ofNat (nat_lit 12)), (nat_lit 1))])
def ct_1019 : aCt := (mX12_dayBy, [ag_861, ag_1845, ag_361, ag_1], ([sl_1941], []), [pon_1931], [], [], (nat_lit 3))
set_option maxRecDepth 100000 in
theorem S_1019 : aSpec wd ct_1019 := bChk_ok wx_ok btX12_dayBy (nds := []) (fk := []) (rk := (1, [])) (sp := 0) (fuel := 3000) (by decide +kernel) (lk_d S_X12_setsOut_2 ml_12_334 lk_n) odX12_dayBy
def ct_1020 : aCt := (mX12_goesBy, [ag_861, ag_1845, ag_361, ag_125], ([sl_1941], []), [pon_49], mdn_1932, [], (nat_lit 4))
set_option maxRecDepth 100000 in
theorem S_1020 : aSpec wd ct_1020 := bChk_ok wx_ok btX12_goesBy (nds := []) (fk := []) (rk := (1, [])) (sp := 0) (fuel := 3000) (by decide +kernel) (lk_d S_1019 ml_12_346 lk_n) odX12_goesBy
def sl_1942 : (Nat × Nat) × aI := (((nat_lit 199), (nat_lit 5)), [((.ofNat (nat_lit 11)), (.ofNat (nat_lit 12)), (nat_lit 1))])
def ct_1021 : aCt := (mX12_dayBy, [ag_861, ag_1841, ag_361, ag_1], ([sl_1942], []), [pon_1931], [], [], (nat_lit 3))
set_option maxRecDepth 100000 in
theorem S_1021 : aSpec wd ct_1021 := bChk_ok wx_ok btX12_dayBy (nds := []) (fk := []) (rk := (1, [])) (sp := 0) (fuel := 3000) (by decide +kernel) (lk_d S_X12_setsOut_1 ml_12_334 lk_n) odX12_dayBy
def ct_1022 : aCt := (mX12_goesBy, [ag_861, ag_1841, ag_361, ag_125], ([sl_1942], []), [pon_49], mdn_1932, [], (nat_lit 4))
set_option maxRecDepth 100000 in
theorem S_1022 : aSpec wd ct_1022 := bChk_ok wx_ok btX12_goesBy (nds := []) (fk := []) (rk := (1, [])) (sp := 0) (fuel := 3000) (by decide +kernel) (lk_d S_1021 ml_12_346 lk_n) odX12_goesBy
def ct_1023 : aCt := (mX12_dayBy, [ag_861, ag_1192, ag_361, ag_1], ([sl_1840], []), [pon_1931], [], [], (nat_lit 3))
set_option maxRecDepth 100000 in
theorem S_1023 : aSpec wd ct_1023 := bChk_ok wx_ok btX12_dayBy (nds := []) (fk := []) (rk := (1, [])) (sp := 0) (fuel := 3000) (by decide +kernel) (lk_d S_X12_setsOut_0 ml_12_334 lk_n) odX12_dayBy
def ct_1024 : aCt := (mX12_goesBy, [ag_861, ag_1192, ag_361, ag_125], ([sl_1840], []), [pon_49], mdn_1932, [], (nat_lit 4))
set_option maxRecDepth 100000 in
theorem S_1024 : aSpec wd ct_1024 := bChk_ok wx_ok btX12_goesBy (nds := []) (fk := []) (rk := (1, [])) (sp := 0) (fuel := 3000) (by decide +kernel) (lk_d S_1023 ml_12_346 lk_n) odX12_goesBy
def mdn_1943 : List (Nat × Nat × Nat) := [((nat_lit 205), (nat_lit 0), (nat_lit 7)), ((nat_lit 206), (nat_lit 0), (nat_lit 7))]
def lcn_1944 : Nat × aAg := ((nat_lit 5), .inl [((.negSucc (nat_lit 0)), (.ofNat (nat_lit 6)), (nat_lit 1))])
def lcn_1945 : Nat × aAg := ((nat_lit 6), .inl [((.ofNat (nat_lit 1)), (.ofNat (nat_lit 1)), (nat_lit 1))])
def lcn_1946 : Nat × aAg := ((nat_lit 6), .inl [((.ofNat (nat_lit 2)), (.ofNat (nat_lit 2)), (nat_lit 1))])
def lcn_1947 : Nat × aAg := ((nat_lit 6), .inl [((.ofNat (nat_lit 3)), (.ofNat (nat_lit 3)), (nat_lit 1))])
def lcn_1948 : Nat × aAg := ((nat_lit 6), .inl [((.ofNat (nat_lit 4)), (.ofNat (nat_lit 4)), (nat_lit 1))])
def lcn_1949 : Nat × aAg := ((nat_lit 6), .inl [((.ofNat (nat_lit 5)), (.ofNat (nat_lit 5)), (nat_lit 1))])
def lcn_1950 : Nat × aAg := ((nat_lit 6), .inl [((.ofNat (nat_lit 6)), (.ofNat (nat_lit 6)), (nat_lit 1))])
def lcn_1951 : Nat × aAg := ((nat_lit 6), .inl [((.ofNat (nat_lit 7)), (.ofNat (nat_lit 7)), (nat_lit 1))])
def lcn_1952 : Nat × aAg := ((nat_lit 6), .inl [((.ofNat (nat_lit 8)), (.ofNat (nat_lit 8)), (nat_lit 1))])
def lcn_1953 : Nat × aAg := ((nat_lit 6), .inl [((.ofNat (nat_lit 9)), (.ofNat (nat_lit 9)), (nat_lit 1))])
def lcn_1954 : Nat × aAg := ((nat_lit 6), .inl [((.ofNat (nat_lit 10)), (.ofNat (nat_lit 10)), (nat_lit 1))])
def lcn_1955 : Nat × aAg := ((nat_lit 6), .inl [((.ofNat (nat_lit 11)), (.ofNat (nat_lit 11)), (nat_lit 1))])
def lcn_1956 : Nat × aAg := ((nat_lit 6), .inl [((.ofNat (nat_lit 12)), (.ofNat (nat_lit 12)), (nat_lit 1))])
set_option maxRecDepth 100000 in
theorem btX12_layDays : bTab oX12_layDays tX12_layDays := ⟨ofX12_layDays, by decide +kernel⟩
def ct_1025 : aCt := (mX12_layDays, [ag_861, ag_361, ag_125, ag_1], ([], []), [pon_49], mdn_1943, [], (nat_lit 5))
set_option maxRecDepth 100000 in
theorem S_1025 : aSpec wd ct_1025 := bChk_ok wx_ok btX12_layDays (nds := [((nat_lit 3), [lcn_898, lcn_640, lcn_250, lcn_517, lcn_445], [], [], [], (183, [(3, -1)])), ((nat_lit 44), [lcn_898, lcn_640, lcn_250, lcn_517, lcn_445], [], [], [], (175, [(3, -22)])), ((nat_lit 61), [lcn_898, lcn_640, lcn_250, lcn_517, lcn_446, lcn_1944, lcn_369], [], [sl_1432], [], (174, [(3, -22), (5, -1)])), ((nat_lit 144), [lcn_898, lcn_640, lcn_250, lcn_517, lcn_446, lcn_993, lcn_596], [], [sl_1432], [], (166, [(3, -22)])), ((nat_lit 144), [lcn_898, lcn_640, lcn_250, lcn_517, lcn_446, lcn_993, lcn_1945], [], [sl_1432, sl_1829], [], (165, [(3, -22)])), ((nat_lit 144), [lcn_898, lcn_640, lcn_250, lcn_517, lcn_446, lcn_993, lcn_1946], [], [sl_1432, sl_1933], [], (164, [(3, -22)])), ((nat_lit 144), [lcn_898, lcn_640, lcn_250, lcn_517, lcn_446, lcn_993, lcn_1947], [], [sl_1432, sl_1934], [], (163, [(3, -22)])), ((nat_lit 144), [lcn_898, lcn_640, lcn_250, lcn_517, lcn_446, lcn_993, lcn_1948], [], [sl_1432, sl_1935], [], (162, [(3, -22)])), ((nat_lit 144), [lcn_898, lcn_640, lcn_250, lcn_517, lcn_446, lcn_993, lcn_1949], [], [sl_1432, sl_1936], [], (161, [(3, -22)])), ((nat_lit 144), [lcn_898, lcn_640, lcn_250, lcn_517, lcn_446, lcn_993, lcn_1950], [], [sl_1432, sl_1937], [], (160, [(3, -22)])), ((nat_lit 144), [lcn_898, lcn_640, lcn_250, lcn_517, lcn_446, lcn_993, lcn_1951], [], [sl_1432, sl_1938], [], (159, [(3, -22)])), ((nat_lit 144), [lcn_898, lcn_640, lcn_250, lcn_517, lcn_446, lcn_993, lcn_1952], [], [sl_1432, sl_1939], [], (158, [(3, -22)])), ((nat_lit 144), [lcn_898, lcn_640, lcn_250, lcn_517, lcn_446, lcn_993, lcn_1953], [], [sl_1432, sl_1940], [], (157, [(3, -22)])), ((nat_lit 144), [lcn_898, lcn_640, lcn_250, lcn_517, lcn_446, lcn_993, lcn_1954], [], [sl_1432, sl_1941], [], (156, [(3, -22)])), ((nat_lit 144), [lcn_898, lcn_640, lcn_250, lcn_517, lcn_446, lcn_993, lcn_1955], [], [sl_1432, sl_1942], [], (155, [(3, -22)])), ((nat_lit 144), [lcn_898, lcn_640, lcn_250, lcn_517, lcn_446, lcn_993, lcn_1956], [], [sl_1432, sl_1840], [], (154, [(3, -22)]))]) (fk := []) (rk := (184, [])) (sp := 22300745198530623141535720578508962905718792) (fuel := 3000) (by decide +kernel) (lk_d S_1024 ml_12_342 (lk_d S_1022 ml_12_342 (lk_d S_1020 ml_12_342 (lk_d S_1018 ml_12_342 (lk_d S_1016 ml_12_342 (lk_d S_1014 ml_12_342 (lk_d S_1012 ml_12_342 (lk_d S_1010 ml_12_342 (lk_d S_1008 ml_12_342 (lk_d S_1006 ml_12_342 (lk_d S_1004 ml_12_342 (lk_d S_1002 ml_12_342 (lk_d S_936 ml_12_302 lk_n))))))))))))) odX12_layDays
set_option maxRecDepth 100000 in
theorem btX12_arrivalOf : bTab oX12_arrivalOf tX12_arrivalOf := ⟨ofX12_arrivalOf, by decide +kernel⟩
def ct_1026 : aCt := (mX12_arrivalOf, [ag_861, ag_361, ag_125, ag_125, ag_1], ([], []), [pon_130, pon_52], mdn_1943, [], (nat_lit 6))
set_option maxRecDepth 100000 in
theorem S_1026 : aSpec wd ct_1026 := bChk_ok wx_ok btX12_arrivalOf (nds := []) (fk := []) (rk := (1, [])) (sp := 0) (fuel := 3000) (by decide +kernel) (lk_d S_1025 ml_12_349 lk_n) odX12_arrivalOf
def pon_1957 : aPo := (some (.inl aTop), [none, some [((.ofNat (nat_lit 0)), (.ofNat (nat_lit 4)), (nat_lit 1))], some [((.ofNat (nat_lit 0)), (.ofNat (nat_lit 6)), (nat_lit 1))], some [((.ofNat (nat_lit 0)), (.ofNat (nat_lit 6)), (nat_lit 1))], some [((.ofNat (nat_lit 0)), (.ofNat (nat_lit 9999)), (nat_lit 1))]], [sl_867, sl_1428, sl_1431, sl_1432, sl_1799], [])
def pon_1958 : aPo := (some (.inl [((.negSucc (nat_lit 1)), (.negSucc (nat_lit 1)), (nat_lit 1))]), [none, some [((.ofNat (nat_lit 0)), (.ofNat (nat_lit 4)), (nat_lit 1))], some [((.ofNat (nat_lit 0)), (.ofNat (nat_lit 6)), (nat_lit 1))], some [((.ofNat (nat_lit 0)), (.ofNat (nat_lit 6)), (nat_lit 1))], some [((.ofNat (nat_lit 0)), (.ofNat (nat_lit 9999)), (nat_lit 1))]], [sl_867, sl_1428, sl_1431, sl_1432, sl_1799], [])
def mdn_1959 : List (Nat × Nat × Nat) := [((nat_lit 196), (nat_lit 0), (nat_lit 1)), ((nat_lit 196), (nat_lit 11), (nat_lit 12)), ((nat_lit 205), (nat_lit 0), (nat_lit 7)), ((nat_lit 206), (nat_lit 0), (nat_lit 7))]
set_option maxRecDepth 100000 in
theorem btX12_arrival : bTab oX12_arrival tX12_arrival := ⟨ofX12_arrival, by decide +kernel⟩
def ct_1027 : aCt := (mX12_arrival, [ag_861, ag_1, ag_1, ag_1, ag_1], ([], []), [pon_1957, pon_1837, pon_1958], mdn_1959, [], (nat_lit 7))
set_option maxRecDepth 100000 in
theorem S_1027 : aSpec wd ct_1027 := bChk_ok wx_ok btX12_arrival (nds := []) (fk := []) (rk := (1, [])) (sp := 0) (fuel := 3000) (by decide +kernel) (lk_d S_447 ml_12_167 (lk_d S_449 ml_12_170 (lk_d S_908 ml_12_170 (lk_d S_906 ml_12_271 (lk_d S_1000 ml_12_277 (lk_d S_904 ml_12_268 (lk_d S_725 ml_12_149 (lk_d S_1026 ml_12_352 lk_n)))))))) odX12_arrival
def pon_1960 : aPo := (some (.inl [((.ofNat (nat_lit 1)), (.ofNat (nat_lit 1)), (nat_lit 1))]), [none, some [((.ofNat (nat_lit 0)), (.ofNat (nat_lit 7)), (nat_lit 1))]], [sl_1808], [])
def ct_1028 : aCt := (mX12_isBox, [ag_861, ag_1], ([sl_1428, sl_1431, sl_1432, sl_1799], []), [pon_37, pon_1960], [], [], (nat_lit 1))
set_option maxRecDepth 100000 in
theorem S_1028 : aSpec wd ct_1028 := bChk_ok wx_ok btX12_isBox (nds := []) (fk := []) (rk := (1, [])) (sp := 0) (fuel := 3000) (by decide +kernel) (lk_d S_910 ml_12_149 lk_n) odX12_isBox
def ct_1029 : aCt := (mX12_ofWhale, [ag_861, ag_217, ag_170], ([sl_1431, sl_1432, sl_1799, sl_1808], []), [pon_346], [], [], (nat_lit 0))
set_option maxRecDepth 100000 in
theorem S_1029 : aSpec wd ct_1029 := bChk_ok wx_ok btX12_ofWhale (nds := []) (fk := []) (rk := (1, [])) (sp := 0) (fuel := 3000) (by decide +kernel) lk_n odX12_ofWhale
def ct_1030 : aCt := (mX12_heardNow, [ag_861, ag_190], ([sl_1431, sl_1432, sl_1799, sl_1808], []), [pon_365, pon_52], [], [], (nat_lit 4))
set_option maxRecDepth 100000 in
theorem S_1030 : aSpec wd ct_1030 := bChk_ok wx_ok btX12_heardNow (nds := []) (fk := []) (rk := (1, [])) (sp := 0) (fuel := 3000) (by decide +kernel) (lk_d S_930 ml_12_291 lk_n) odX12_heardNow
def ct_1031 : aCt := (mX12_ofBox, [ag_861, ag_190, ag_22], ([sl_1431, sl_1432, sl_1799, sl_1808], []), [pon_130], [], [], (nat_lit 0))
set_option maxRecDepth 100000 in
theorem S_1031 : aSpec wd ct_1031 := bChk_ok wx_ok btX12_ofBox (nds := []) (fk := []) (rk := (1, [])) (sp := 0) (fuel := 3000) (by decide +kernel) lk_n odX12_ofBox
def ct_1032 : aCt := (mX12_ofBox, [ag_861, ag_190, ag_170], ([sl_1431, sl_1432, sl_1799, sl_1808], []), [pon_264], [], [], (nat_lit 0))
set_option maxRecDepth 100000 in
theorem S_1032 : aSpec wd ct_1032 := bChk_ok wx_ok btX12_ofBox (nds := []) (fk := []) (rk := (1, [])) (sp := 0) (fuel := 3000) (by decide +kernel) lk_n odX12_ofBox
def ct_1033 : aCt := (mX12_ofBox, [ag_861, ag_190, ag_122], ([sl_1431, sl_1432, sl_1799, sl_1808], []), [pon_130], [], [], (nat_lit 0))
set_option maxRecDepth 100000 in
theorem S_1033 : aSpec wd ct_1033 := bChk_ok wx_ok btX12_ofBox (nds := []) (fk := []) (rk := (1, [])) (sp := 0) (fuel := 3000) (by decide +kernel) lk_n odX12_ofBox
def ag_1961 : aAg := .inl [((.ofNat (nat_lit 0)), (.ofNat (nat_lit 2147483647)), (nat_lit 1))]
def pon_1962 : aPo := (some (.inl [((.ofNat (nat_lit 0)), (.ofNat (nat_lit 2147483647)), (nat_lit 1))]), [none, some aTop], [], [])
set_option maxRecDepth 100000 in
theorem btX12_later : bTab oX12_later tX12_later := ⟨ofX12_later, by decide +kernel⟩
def ct_1034 : aCt := (mX12_later, [ag_1961, ag_1], ([], []), [pon_1962], [], [], (nat_lit 0))
set_option maxRecDepth 100000 in
theorem S_1034 : aSpec wd ct_1034 := bChk_ok wx_ok btX12_later (nds := []) (fk := []) (rk := (1, [])) (sp := 0) (fuel := 3000) (by decide +kernel) lk_n odX12_later
def mdn_1963 : List (Nat × Nat × Nat) := [((nat_lit 196), (nat_lit 26), (nat_lit 28)), ((nat_lit 205), (nat_lit 0), (nat_lit 7)), ((nat_lit 206), (nat_lit 0), (nat_lit 7))]
set_option maxRecDepth 100000 in
theorem btX12_lays : bTab oX12_lays tX12_lays := ⟨ofX12_lays, by decide +kernel⟩
def ct_1035 : aCt := (mX12_lays, [ag_861, ag_217, ag_190], ([sl_1431, sl_1432, sl_1799, sl_1808], []), [pon_37, pon_38], mdn_1963, [], (nat_lit 7))
set_option maxRecDepth 100000 in
theorem S_1035 : aSpec wd ct_1035 := bChk_ok wx_ok btX12_lays (nds := []) (fk := []) (rk := (1, [])) (sp := 0) (fuel := 3000) (by decide +kernel) (lk_d S_1029 ml_12_271 (lk_d S_1030 ml_12_295 (lk_d S_1031 ml_12_262 (lk_d S_1032 ml_12_262 (lk_d S_1033 ml_12_262 (lk_d S_1026 ml_12_352 (lk_d S_1034 ml_12_355 lk_n))))))) odX12_lays
def ct_1036 : aCt := (mX12_ofWhale, [ag_861, ag_217, ag_22], ([sl_1431, sl_1432, sl_1799, sl_1808], []), [pon_130], [], [], (nat_lit 0))
set_option maxRecDepth 100000 in
theorem S_1036 : aSpec wd ct_1036 := bChk_ok wx_ok btX12_ofWhale (nds := []) (fk := []) (rk := (1, [])) (sp := 0) (fuel := 3000) (by decide +kernel) lk_n odX12_ofWhale
set_option maxRecDepth 100000 in
theorem btX12_bringsOf : bTab oX12_bringsOf tX12_bringsOf := ⟨ofX12_bringsOf, by decide +kernel⟩
def ct_1037 : aCt := (mX12_bringsOf, [ag_861, ag_217, ag_190], ([sl_1431, sl_1432, sl_1799, sl_1808], []), [pon_130, pon_52], mdn_1963, [], (nat_lit 8))
set_option maxRecDepth 100000 in
theorem S_1037 : aSpec wd ct_1037 := bChk_ok wx_ok btX12_bringsOf (nds := []) (fk := []) (rk := (1, [])) (sp := 0) (fuel := 3000) (by decide +kernel) (lk_d S_1036 ml_12_271 (lk_d S_1035 ml_12_364 lk_n)) odX12_bringsOf
def pon_1964 : aPo := (some (.inl aTop), [none, some [((.ofNat (nat_lit 0)), (.ofNat (nat_lit 4)), (nat_lit 1))], some [((.ofNat (nat_lit 0)), (.ofNat (nat_lit 7)), (nat_lit 1))]], [sl_867, sl_1428, sl_1431, sl_1432, sl_1799, sl_1808], [])
def pon_1965 : aPo := (some (.inl [((.negSucc (nat_lit 1)), (.negSucc (nat_lit 1)), (nat_lit 1))]), [none, some [((.ofNat (nat_lit 0)), (.ofNat (nat_lit 4)), (nat_lit 1))], some [((.ofNat (nat_lit 0)), (.ofNat (nat_lit 7)), (nat_lit 1))]], [sl_867, sl_1428, sl_1431, sl_1432, sl_1799, sl_1808], [])
def mdn_1966 : List (Nat × Nat × Nat) := [((nat_lit 196), (nat_lit 0), (nat_lit 1)), ((nat_lit 196), (nat_lit 11), (nat_lit 12)), ((nat_lit 196), (nat_lit 26), (nat_lit 28)), ((nat_lit 205), (nat_lit 0), (nat_lit 7)), ((nat_lit 206), (nat_lit 0), (nat_lit 7))]
set_option maxRecDepth 100000 in
theorem btX12_brings : bTab oX12_brings tX12_brings := ⟨ofX12_brings, by decide +kernel⟩
def ct_1038 : aCt := (mX12_brings, [ag_861, ag_1, ag_1], ([], []), [pon_1964, pon_1804, pon_1965], mdn_1966, [], (nat_lit 9))
set_option maxRecDepth 100000 in
theorem S_1038 : aSpec wd ct_1038 := bChk_ok wx_ok btX12_brings (nds := []) (fk := []) (rk := (1, [])) (sp := 0) (fuel := 3000) (by decide +kernel) (lk_d S_447 ml_12_167 (lk_d S_908 ml_12_170 (lk_d S_1037 ml_12_367 (lk_d S_1028 ml_12_274 (lk_d S_904 ml_12_268 lk_n))))) odX12_brings
def pon_1967 : aPo := (some (.inl [((.negSucc (nat_lit 1)), (.negSucc (nat_lit 1)), (nat_lit 1)), ((.ofNat (nat_lit 0)), (.ofNat (nat_lit 4)), (nat_lit 1))]), [], [sl_867, sl_1428, sl_1431, sl_1432, sl_1808], [])
set_option maxRecDepth 100000 in
theorem btX12_soonest : bTab oX12_soonest tX12_soonest := ⟨ofX12_soonest, by decide +kernel⟩
def ct_1039 : aCt := (mX12_soonest, [ag_861, ag_1], ([], []), [pon_1967, pon_1804], mdn_1966, [], (nat_lit 9))
set_option maxRecDepth 100000 in
theorem S_1039 : aSpec wd ct_1039 := bChk_ok wx_ok btX12_soonest (nds := [((nat_lit 23), [lcn_898, lcn_540, lcn_542, lcn_433], [], [sl_867, sl_1428, sl_1431, sl_1432, sl_1808], [], (5, [(2, -1)]))]) (fk := []) (rk := (6, [])) (sp := 8388608) (fuel := 3000) (by decide +kernel) (lk_d S_447 ml_12_167 (lk_d S_908 ml_12_170 (lk_d S_1037 ml_12_367 (lk_d S_911 ml_12_274 lk_n)))) odX12_soonest
def ct_1040 : aCt := (mX12_ofWhale, [ag_861, ag_217, ag_122], ([sl_1431, sl_1432, sl_1799, sl_1808], []), [pon_130], [], [], (nat_lit 0))
set_option maxRecDepth 100000 in
theorem S_1040 : aSpec wd ct_1040 := bChk_ok wx_ok btX12_ofWhale (nds := []) (fk := []) (rk := (1, [])) (sp := 0) (fuel := 3000) (by decide +kernel) lk_n odX12_ofWhale
def pon_1968 : aPo := (some (.inl [((.negSucc (nat_lit 1)), (.negSucc (nat_lit 1)), (nat_lit 1)), ((.ofNat (nat_lit 0)), (.ofNat (nat_lit 4)), (nat_lit 1))]), [], [], [])
def lcn_1969 : Nat × aAg := ((nat_lit 2), .inl [((.negSucc (nat_lit 0)), (.negSucc (nat_lit 0)), (nat_lit 1))])
set_option maxRecDepth 100000 in
theorem btX12_surestBut : bTab oX12_surestBut tX12_surestBut := ⟨ofX12_surestBut, by decide +kernel⟩
def ct_1041 : aCt := (mX12_surestBut, [ag_861, ag_190, ag_885], ([sl_1431, sl_1432, sl_1808], []), [pon_1968], mdn_1963, [], (nat_lit 9))
set_option maxRecDepth 100000 in
theorem S_1041 : aSpec wd ct_1041 := bChk_ok wx_ok btX12_surestBut (nds := [((nat_lit 6), [lcn_898, lcn_540, lcn_1969, lcn_555, lcn_447], [], [sl_1431, sl_1432, sl_1808], [], (5, [(2, -1)]))]) (fk := []) (rk := (6, [])) (sp := 64) (fuel := 3000) (by decide +kernel) (lk_d S_1040 ml_12_271 (lk_d S_1037 ml_12_367 lk_n)) odX12_surestBut
def pon_1970 : aPo := (some (.inl [((.negSucc (nat_lit 1)), (.negSucc (nat_lit 1)), (nat_lit 1)), ((.ofNat (nat_lit 0)), (.ofNat (nat_lit 4)), (nat_lit 1))]), [none, some [((.ofNat (nat_lit 0)), (.ofNat (nat_lit 7)), (nat_lit 1))]], [sl_867, sl_1428, sl_1431, sl_1432, sl_1808], [])
set_option maxRecDepth 100000 in
theorem btX12_surest : bTab oX12_surest tX12_surest := ⟨ofX12_surest, by decide +kernel⟩
def ct_1042 : aCt := (mX12_surest, [ag_861, ag_1], ([], []), [pon_1970, pon_1804], mdn_1966, [], (nat_lit 10))
set_option maxRecDepth 100000 in
theorem S_1042 : aSpec wd ct_1042 := bChk_ok wx_ok btX12_surest (nds := []) (fk := []) (rk := (1, [])) (sp := 0) (fuel := 3000) (by decide +kernel) (lk_d S_447 ml_12_167 (lk_d S_908 ml_12_170 (lk_d S_1041 ml_12_370 (lk_d S_911 ml_12_274 lk_n)))) odX12_surest
def ag_1971 : aAg := .inl [((.negSucc (nat_lit 1)), (.negSucc (nat_lit 1)), (nat_lit 1))]
def ct_1043 : aCt := (mX12_in, [ag_1971, ag_170, ag_560], ([], []), [pon_37], mdn_872, [], (nat_lit 0))
set_option maxRecDepth 100000 in
theorem S_1043 : aSpec wd ct_1043 := bChk_ok wx_ok btX12_in (nds := []) (fk := []) (rk := (1, [])) (sp := 0) (fuel := 3000) (by decide +kernel) lk_n odX12_in
end Pk0
section Pk1
def ct_1044 : aCt := (mX12_in, [ag_1, ag_170, ag_560], ([], []), [pon_870, pon_1834], mdn_872, [], (nat_lit 0))
set_option maxRecDepth 100000 in
theorem S_1044 : aSpec wd ct_1044 := bChk_ok wx_ok btX12_in (nds := []) (fk := []) (rk := (1, [])) (sp := 0) (fuel := 3000) (by decide +kernel) lk_n odX12_in
def pon_1972 : aPo := (some (.inl [((.ofNat (nat_lit 0)), (.ofNat (nat_lit 31)), (nat_lit 1))]), [], [sl_867, sl_1428, sl_1431, sl_1432, sl_1808], [])
set_option maxRecDepth 100000 in
theorem btX12_by : bTab oX12_by tX12_by := ⟨ofX12_by, by decide +kernel⟩
def ct_1045 : aCt := (mX12_by, [ag_861, ag_1, ag_1], ([], []), [pon_1972, pon_1837], mdn_1966, [], (nat_lit 9))
set_option maxRecDepth 100000 in
theorem S_1045 : aSpec wd ct_1045 := bChk_ok wx_ok btX12_by (nds := [((nat_lit 40), [lcn_898, lcn_540, lcn_563, lcn_564, lcn_447], [], [sl_867, sl_1428, sl_1431, sl_1432, sl_1808], [], (5, [(3, -1)]))]) (fk := []) (rk := (6, [])) (sp := 1099511627776) (fuel := 3000) (by decide +kernel) (lk_d S_447 ml_12_167 (lk_d S_449 ml_12_170 (lk_d S_908 ml_12_170 (lk_d S_1037 ml_12_367 (lk_d S_1043 ml_12_149 (lk_d S_911 ml_12_274 (lk_d S_939 ml_12_149 (lk_d S_1044 ml_12_149 lk_n)))))))) odX12_by
def sl_1973 : (Nat × Nat) × aI := (((nat_lit 196), (nat_lit 11)), [((.ofNat (nat_lit 6)), (.ofNat (nat_lit 6)), (nat_lit 1))])
def pon_1974 : aPo := (some (.inl [((.negSucc (nat_lit 0)), (.negSucc (nat_lit 0)), (nat_lit 1))]), [], [sl_1973], [])
def ct_1046 : aCt := (mX12_no, [ag_861, ag_153], ([sl_867], []), [pon_1974], mdn_875, [], (nat_lit 0))
set_option maxRecDepth 100000 in
theorem S_1046 : aSpec wd ct_1046 := bChk_ok wx_ok btX12_no (nds := []) (fk := []) (rk := (1, [])) (sp := 0) (fuel := 3000) (by decide +kernel) lk_n odX12_no
def ct_1047 : aCt := (mX12_surestBut, [ag_861, ag_190, ag_217], ([sl_1431, sl_1432, sl_1808], []), [pon_1968], mdn_1963, [], (nat_lit 9))
set_option maxRecDepth 100000 in
theorem S_1047 : aSpec wd ct_1047 := bChk_ok wx_ok btX12_surestBut (nds := [((nat_lit 6), [lcn_898, lcn_540, lcn_612, lcn_555, lcn_447], [], [sl_1431, sl_1432, sl_1808], [], (5, [(3, -1)]))]) (fk := []) (rk := (6, [])) (sp := 64) (fuel := 3000) (by decide +kernel) (lk_d S_1040 ml_12_271 (lk_d S_1037 ml_12_367 lk_n)) odX12_surestBut
def ct_1048 : aCt := (mX12_ofWhale, [ag_861, ag_217, ag_122], ([sl_1431, sl_1432, sl_1808], []), [pon_130], [], [], (nat_lit 0))
set_option maxRecDepth 100000 in
theorem S_1048 : aSpec wd ct_1048 := bChk_ok wx_ok btX12_ofWhale (nds := []) (fk := []) (rk := (1, [])) (sp := 0) (fuel := 3000) (by decide +kernel) lk_n odX12_ofWhale
def sl_1975 : (Nat × Nat) × aI := (((nat_lit 196), (nat_lit 11)), [((.ofNat (nat_lit 0)), (.ofNat (nat_lit 1)), (nat_lit 1)), ((.ofNat (nat_lit 6)), (.ofNat (nat_lit 6)), (nat_lit 1))])
def pon_1976 : aPo := (some (.inr ()), [], [sl_1975], [])
set_option maxRecDepth 100000 in
theorem btX12_registered : bTab oX12_registered tX12_registered := ⟨ofX12_registered, by decide +kernel⟩
def ct_1049 : aCt := (mX12_registered, [ag_861, ag_1, ag_535], ([], []), [pon_1976], mdn_1966, [], (nat_lit 10))
set_option maxRecDepth 100000 in
theorem S_1049 : aSpec wd ct_1049 := bChk_ok wx_ok btX12_registered (nds := []) (fk := []) (rk := (1, [])) (sp := 0) (fuel := 3000) (by decide +kernel) (lk_d S_447 ml_12_167 (lk_d S_1046 ml_12_170 (lk_d S_908 ml_12_170 (lk_d S_X12_lowest_0 ml_12_375 (lk_d S_1048 ml_12_271 (lk_d S_1041 ml_12_370 (lk_d S_1047 ml_12_370 (lk_d S_911 ml_12_274 lk_n)))))))) odX12_registered
def sl_1977 : (Nat × Nat) × aI := (((nat_lit 199), (nat_lit 7)), [((.ofNat (nat_lit 8)), (.ofNat (nat_lit 8)), (nat_lit 1))])
def mdn_1978 : List (Nat × Nat × Nat) := [((nat_lit 196), (nat_lit 31), (nat_lit 33)), ((nat_lit 208), (nat_lit 0), (nat_lit 8))]
set_option maxRecDepth 100000 in
theorem btX12_tryMatch : bTab oX12_tryMatch tX12_tryMatch := ⟨ofX12_tryMatch, by decide +kernel⟩
def ct_1050 : aCt := (mX12_tryMatch, [ag_861, ag_1849, ag_605, ag_1, ag_1], ([sl_1977], []), [pon_49], mdn_1978, [], (nat_lit 2))
set_option maxRecDepth 100000 in
theorem S_1050 : aSpec wd ct_1050 := bChk_ok wx_ok btX12_tryMatch (nds := []) (fk := []) (rk := (1, [])) (sp := 0) (fuel := 3000) (by decide +kernel) (lk_d S_X12_copy_24 ml_12_176 lk_n) odX12_tryMatch
def sl_1979 : (Nat × Nat) × aI := (((nat_lit 199), (nat_lit 7)), [((.ofNat (nat_lit 7)), (.ofNat (nat_lit 8)), (nat_lit 1))])
def mdn_1980 : List (Nat × Nat × Nat) := [((nat_lit 196), (nat_lit 31), (nat_lit 33)), ((nat_lit 207), (nat_lit 7), (nat_lit 8)), ((nat_lit 208), (nat_lit 0), (nat_lit 8))]
def lcn_1981 : Nat × aAg := ((nat_lit 1), .inl [((.ofNat (nat_lit 7)), (.ofNat (nat_lit 7)), (nat_lit 1))])
def lcn_1982 : Nat × aAg := ((nat_lit 2), .inl [((.ofNat (nat_lit 0)), (.ofNat (nat_lit 31)), (nat_lit 1))])
def ct_1051 : aCt := (mX12_tryMatch, [ag_861, ag_133, ag_605, ag_1, ag_1], ([sl_1979], []), [pon_49], mdn_1980, [], (nat_lit 3))
set_option maxRecDepth 100000 in
theorem S_1051 : aSpec wd ct_1051 := bChk_ok wx_ok btX12_tryMatch (nds := [((nat_lit 66), [lcn_898, lcn_1981, lcn_1982, lcn_517, lcn_351, lcn_1037], [], [sl_1977], [], (5, [(3, -1)]))]) (fk := []) (rk := (6, [])) (sp := 73786976294838206464) (fuel := 3000) (by decide +kernel) (lk_d S_X12_copy_23 ml_12_176 (lk_d S_935 ml_12_298 (lk_d S_1050 ml_12_385 lk_n))) odX12_tryMatch
def sl_1983 : (Nat × Nat) × aI := (((nat_lit 199), (nat_lit 7)), [((.ofNat (nat_lit 6)), (.ofNat (nat_lit 8)), (nat_lit 1))])
def mdn_1984 : List (Nat × Nat × Nat) := [((nat_lit 196), (nat_lit 31), (nat_lit 33)), ((nat_lit 207), (nat_lit 6), (nat_lit 8)), ((nat_lit 208), (nat_lit 0), (nat_lit 8))]
def ct_1052 : aCt := (mX12_tryMatch, [ag_861, ag_153, ag_605, ag_1, ag_1], ([sl_1983], []), [pon_49], mdn_1984, [], (nat_lit 4))
set_option maxRecDepth 100000 in
theorem S_1052 : aSpec wd ct_1052 := bChk_ok wx_ok btX12_tryMatch (nds := [((nat_lit 66), [lcn_898, lcn_979, lcn_1982, lcn_517, lcn_351, lcn_1037], [], [sl_1979], [], (5, [(3, -1)]))]) (fk := []) (rk := (6, [])) (sp := 73786976294838206464) (fuel := 3000) (by decide +kernel) (lk_d S_X12_copy_22 ml_12_176 (lk_d S_935 ml_12_298 (lk_d S_1051 ml_12_385 lk_n))) odX12_tryMatch
def sl_1985 : (Nat × Nat) × aI := (((nat_lit 199), (nat_lit 7)), [((.ofNat (nat_lit 5)), (.ofNat (nat_lit 8)), (nat_lit 1))])
def mdn_1986 : List (Nat × Nat × Nat) := [((nat_lit 196), (nat_lit 31), (nat_lit 33)), ((nat_lit 207), (nat_lit 5), (nat_lit 8)), ((nat_lit 208), (nat_lit 0), (nat_lit 8))]
def ct_1053 : aCt := (mX12_tryMatch, [ag_861, ag_150, ag_605, ag_1, ag_1], ([sl_1985], []), [pon_49], mdn_1986, [], (nat_lit 5))
set_option maxRecDepth 100000 in
theorem S_1053 : aSpec wd ct_1053 := bChk_ok wx_ok btX12_tryMatch (nds := [((nat_lit 66), [lcn_898, lcn_978, lcn_1982, lcn_517, lcn_351, lcn_1037], [], [sl_1983], [], (5, [(3, -1)]))]) (fk := []) (rk := (6, [])) (sp := 73786976294838206464) (fuel := 3000) (by decide +kernel) (lk_d S_X12_copy_21 ml_12_176 (lk_d S_935 ml_12_298 (lk_d S_1052 ml_12_385 lk_n))) odX12_tryMatch
def sl_1987 : (Nat × Nat) × aI := (((nat_lit 199), (nat_lit 7)), [((.ofNat (nat_lit 4)), (.ofNat (nat_lit 8)), (nat_lit 1))])
def mdn_1988 : List (Nat × Nat × Nat) := [((nat_lit 196), (nat_lit 31), (nat_lit 33)), ((nat_lit 207), (nat_lit 4), (nat_lit 8)), ((nat_lit 208), (nat_lit 0), (nat_lit 8))]
def ct_1054 : aCt := (mX12_tryMatch, [ag_861, ag_159, ag_605, ag_1, ag_1], ([sl_1987], []), [pon_49], mdn_1988, [], (nat_lit 6))
set_option maxRecDepth 100000 in
theorem S_1054 : aSpec wd ct_1054 := bChk_ok wx_ok btX12_tryMatch (nds := [((nat_lit 66), [lcn_898, lcn_977, lcn_1982, lcn_517, lcn_351, lcn_1037], [], [sl_1985], [], (5, [(3, -1)]))]) (fk := []) (rk := (6, [])) (sp := 73786976294838206464) (fuel := 3000) (by decide +kernel) (lk_d S_X12_copy_20 ml_12_176 (lk_d S_935 ml_12_298 (lk_d S_1053 ml_12_385 lk_n))) odX12_tryMatch
def sl_1989 : (Nat × Nat) × aI := (((nat_lit 199), (nat_lit 7)), [((.ofNat (nat_lit 3)), (.ofNat (nat_lit 8)), (nat_lit 1))])
def mdn_1990 : List (Nat × Nat × Nat) := [((nat_lit 196), (nat_lit 31), (nat_lit 33)), ((nat_lit 207), (nat_lit 3), (nat_lit 8)), ((nat_lit 208), (nat_lit 0), (nat_lit 8))]
def ct_1055 : aCt := (mX12_tryMatch, [ag_861, ag_122, ag_605, ag_1, ag_1], ([sl_1989], []), [pon_49], mdn_1990, [], (nat_lit 7))
set_option maxRecDepth 100000 in
theorem S_1055 : aSpec wd ct_1055 := bChk_ok wx_ok btX12_tryMatch (nds := [((nat_lit 66), [lcn_898, lcn_976, lcn_1982, lcn_517, lcn_351, lcn_1037], [], [sl_1987], [], (5, [(3, -1)]))]) (fk := []) (rk := (6, [])) (sp := 73786976294838206464) (fuel := 3000) (by decide +kernel) (lk_d S_X12_copy_19 ml_12_176 (lk_d S_935 ml_12_298 (lk_d S_1054 ml_12_385 lk_n))) odX12_tryMatch
def sl_1991 : (Nat × Nat) × aI := (((nat_lit 199), (nat_lit 7)), [((.ofNat (nat_lit 2)), (.ofNat (nat_lit 8)), (nat_lit 1))])
def mdn_1992 : List (Nat × Nat × Nat) := [((nat_lit 196), (nat_lit 31), (nat_lit 33)), ((nat_lit 207), (nat_lit 2), (nat_lit 8)), ((nat_lit 208), (nat_lit 0), (nat_lit 8))]
def ct_1056 : aCt := (mX12_tryMatch, [ag_861, ag_22, ag_605, ag_1, ag_1], ([sl_1991], []), [pon_49], mdn_1992, [], (nat_lit 8))
set_option maxRecDepth 100000 in
theorem S_1056 : aSpec wd ct_1056 := bChk_ok wx_ok btX12_tryMatch (nds := [((nat_lit 66), [lcn_898, lcn_167, lcn_1982, lcn_517, lcn_351, lcn_1037], [], [sl_1989], [], (5, [(3, -1)]))]) (fk := []) (rk := (6, [])) (sp := 73786976294838206464) (fuel := 3000) (by decide +kernel) (lk_d S_X12_copy_18 ml_12_176 (lk_d S_935 ml_12_298 (lk_d S_1055 ml_12_385 lk_n))) odX12_tryMatch
def mdn_1993 : List (Nat × Nat × Nat) := [((nat_lit 196), (nat_lit 31), (nat_lit 33)), ((nat_lit 207), (nat_lit 1), (nat_lit 8)), ((nat_lit 208), (nat_lit 0), (nat_lit 8))]
def ct_1057 : aCt := (mX12_tryMatch, [ag_861, ag_53, ag_605, ag_1, ag_1], ([sl_1808], []), [pon_49], mdn_1993, [], (nat_lit 9))
set_option maxRecDepth 100000 in
theorem S_1057 : aSpec wd ct_1057 := bChk_ok wx_ok btX12_tryMatch (nds := [((nat_lit 66), [lcn_898, lcn_202, lcn_1982, lcn_517, lcn_351, lcn_1037], [], [sl_1991], [], (5, [(3, -1)]))]) (fk := []) (rk := (6, [])) (sp := 73786976294838206464) (fuel := 3000) (by decide +kernel) (lk_d S_X12_copy_17 ml_12_176 (lk_d S_935 ml_12_298 (lk_d S_1056 ml_12_385 lk_n))) odX12_tryMatch
def mdn_1994 : List (Nat × Nat × Nat) := [((nat_lit 196), (nat_lit 31), (nat_lit 33)), ((nat_lit 207), (nat_lit 0), (nat_lit 8)), ((nat_lit 208), (nat_lit 0), (nat_lit 8))]
def ct_1058 : aCt := (mX12_tryMatch, [ag_861, ag_170, ag_605, ag_1, ag_1], ([], []), [pon_49], mdn_1994, [], (nat_lit 10))
set_option maxRecDepth 100000 in
theorem S_1058 : aSpec wd ct_1058 := bChk_ok wx_ok btX12_tryMatch (nds := [((nat_lit 66), [lcn_898, lcn_175, lcn_1982, lcn_517, lcn_351, lcn_1037], [], [sl_1808], [], (5, [(3, -1)]))]) (fk := []) (rk := (6, [])) (sp := 73786976294838206464) (fuel := 3000) (by decide +kernel) (lk_d S_X12_copy_16 ml_12_176 (lk_d S_935 ml_12_298 (lk_d S_1057 ml_12_385 lk_n))) odX12_tryMatch
def mdn_1995 : List (Nat × Nat × Nat) := [((nat_lit 196), (nat_lit 26), (nat_lit 28)), ((nat_lit 196), (nat_lit 31), (nat_lit 33)), ((nat_lit 205), (nat_lit 0), (nat_lit 7)), ((nat_lit 206), (nat_lit 0), (nat_lit 7)), ((nat_lit 207), (nat_lit 0), (nat_lit 8)), ((nat_lit 208), (nat_lit 0), (nat_lit 8)), ((nat_lit 209), (nat_lit 0), (nat_lit 40))]
def lcn_1996 : Nat × aAg := ((nat_lit 1), .inl [((.ofNat (nat_lit 0)), (.ofNat (nat_lit 8)), (nat_lit 1))])
set_option maxRecDepth 100000 in
theorem btX12_seekMatch : bTab oX12_seekMatch tX12_seekMatch := ⟨ofX12_seekMatch, by decide +kernel⟩
def ct_1059 : aCt := (mX12_seekMatch, [ag_861], ([sl_1431, sl_1432], []), [pon_49], mdn_1995, [], (nat_lit 11))
set_option maxRecDepth 100000 in
theorem S_1059 : aSpec wd ct_1059 := bChk_ok wx_ok btX12_seekMatch (nds := [((nat_lit 2), [lcn_898, lcn_1996], [], [sl_1431, sl_1432], [], (62, [(0, -7)])), ((nat_lit 15), [lcn_898, lcn_540, lcn_293], [], [sl_1431, sl_1432, sl_1808], [], (61, [(0, -7), (1, -1)]))]) (fk := []) (rk := (63, [])) (sp := 32772) (fuel := 3000) (by decide +kernel) (lk_d S_1037 ml_12_367 (lk_d S_1058 ml_12_385 lk_n)) odX12_seekMatch
def mdn_1997 : List (Nat × Nat × Nat) := [((nat_lit 196), (nat_lit 0), (nat_lit 1)), ((nat_lit 196), (nat_lit 11), (nat_lit 12)), ((nat_lit 196), (nat_lit 26), (nat_lit 28)), ((nat_lit 196), (nat_lit 31), (nat_lit 33)), ((nat_lit 205), (nat_lit 0), (nat_lit 7)), ((nat_lit 206), (nat_lit 0), (nat_lit 7)), ((nat_lit 207), (nat_lit 0), (nat_lit 8)), ((nat_lit 208), (nat_lit 0), (nat_lit 8)), ((nat_lit 209), (nat_lit 0), (nat_lit 40))]
set_option maxRecDepth 100000 in
theorem btX12_match : bTab oX12_match tX12_match := ⟨ofX12_match, by decide +kernel⟩
def ct_1060 : aCt := (mX12_match, [ag_861], ([], []), [pon_1868, pon_1872], mdn_1997, [], (nat_lit 12))
set_option maxRecDepth 100000 in
theorem S_1060 : aSpec wd ct_1060 := bChk_ok wx_ok btX12_match (nds := []) (fk := []) (rk := (1, [])) (sp := 0) (fuel := 3000) (by decide +kernel) (lk_d S_1059 ml_12_389 (lk_d S_447 ml_12_167 (lk_d S_908 ml_12_170 lk_n))) odX12_match
set_option maxRecDepth 100000 in
theorem btX12_matchDays : bTab oX12_matchDays tX12_matchDays := ⟨ofX12_matchDays, by decide +kernel⟩
def ct_1061 : aCt := (mX12_matchDays, [ag_861], ([], []), [pon_1868, pon_1872], mdn_1997, [], (nat_lit 12))
set_option maxRecDepth 100000 in
theorem S_1061 : aSpec wd ct_1061 := bChk_ok wx_ok btX12_matchDays (nds := []) (fk := []) (rk := (1, [])) (sp := 0) (fuel := 3000) (by decide +kernel) (lk_d S_1059 ml_12_389 (lk_d S_447 ml_12_167 (lk_d S_908 ml_12_170 lk_n))) odX12_matchDays
def ct_1062 : aCt := (mX12_tryMatch, [ag_861, ag_170, ag_605, ag_1, ag_1], ([sl_1808], []), [pon_49], mdn_1994, [], (nat_lit 10))
set_option maxRecDepth 100000 in
theorem S_1062 : aSpec wd ct_1062 := bChk_ok wx_ok btX12_tryMatch (nds := [((nat_lit 66), [lcn_898, lcn_175, lcn_1982, lcn_517, lcn_351, lcn_1037], [], [sl_1808], [], (5, [(3, -1)]))]) (fk := []) (rk := (6, [])) (sp := 73786976294838206464) (fuel := 3000) (by decide +kernel) (lk_d S_935 ml_12_298 (lk_d S_1057 ml_12_385 lk_n)) odX12_tryMatch
def ct_1063 : aCt := (mX12_seekMatch, [ag_861], ([sl_1431, sl_1432, sl_1808], []), [pon_49], mdn_1995, [], (nat_lit 11))
set_option maxRecDepth 100000 in
theorem S_1063 : aSpec wd ct_1063 := bChk_ok wx_ok btX12_seekMatch (nds := [((nat_lit 2), [lcn_898, lcn_1996], [], [sl_1431, sl_1432, sl_1808], [], (62, [(0, -7)])), ((nat_lit 15), [lcn_898, lcn_540, lcn_293], [], [sl_1431, sl_1432, sl_1808], [], (61, [(0, -7), (1, -1)]))]) (fk := []) (rk := (63, [])) (sp := 32772) (fuel := 3000) (by decide +kernel) (lk_d S_1037 ml_12_367 (lk_d S_1062 ml_12_385 lk_n)) odX12_seekMatch
set_option maxRecDepth 100000 in
theorem btX12_matchOf : bTab oX12_matchOf tX12_matchOf := ⟨ofX12_matchOf, by decide +kernel⟩
def ct_1064 : aCt := (mX12_matchOf, [ag_861, ag_1], ([], []), [pon_1927, pon_1804], mdn_1997, [], (nat_lit 12))
set_option maxRecDepth 100000 in
theorem S_1064 : aSpec wd ct_1064 := bChk_ok wx_ok btX12_matchOf (nds := []) (fk := []) (rk := (1, [])) (sp := 0) (fuel := 3000) (by decide +kernel) (lk_d S_1063 ml_12_389 (lk_d S_447 ml_12_167 (lk_d S_908 ml_12_170 (lk_d S_911 ml_12_274 lk_n)))) odX12_matchOf
def ct_1065 : aCt := (mX12_in, [ag_1, ag_170, ag_190], ([], []), [pon_870, pon_1854], mdn_872, [], (nat_lit 0))
set_option maxRecDepth 100000 in
theorem S_1065 : aSpec wd ct_1065 := bChk_ok wx_ok btX12_in (nds := []) (fk := []) (rk := (1, [])) (sp := 0) (fuel := 3000) (by decide +kernel) lk_n odX12_in
def ct_1066 : aCt := (mX12_isBox, [ag_861, ag_1], ([sl_1428, sl_1431, sl_1432, sl_1808], []), [pon_37, pon_619], [], [], (nat_lit 1))
set_option maxRecDepth 100000 in
theorem S_1066 : aSpec wd ct_1066 := bChk_ok wx_ok btX12_isBox (nds := []) (fk := []) (rk := (1, [])) (sp := 0) (fuel := 3000) (by decide +kernel) (lk_d S_1065 ml_12_149 lk_n) odX12_isBox
def pon_1998 : aPo := (some (.inl [((.ofNat (nat_lit 1)), (.ofNat (nat_lit 1)), (nat_lit 1))]), [none, some [((.ofNat (nat_lit 0)), (.ofNat (nat_lit 4)), (nat_lit 1))]], [sl_1799], [])
def ct_1067 : aCt := (mX12_isWhale, [ag_861, ag_1], ([sl_1428, sl_1431, sl_1432, sl_1808], []), [pon_37, pon_1998], [], [], (nat_lit 1))
set_option maxRecDepth 100000 in
theorem S_1067 : aSpec wd ct_1067 := bChk_ok wx_ok btX12_isWhale (nds := []) (fk := []) (rk := (1, [])) (sp := 0) (fuel := 3000) (by decide +kernel) (lk_d S_903 ml_12_149 lk_n) odX12_isWhale
def ct_1068 : aCt := (mX12_in, [ag_1, ag_170, ag_217], ([], []), [pon_870, pon_1369], mdn_872, [], (nat_lit 0))
set_option maxRecDepth 100000 in
theorem S_1068 : aSpec wd ct_1068 := bChk_ok wx_ok btX12_in (nds := []) (fk := []) (rk := (1, [])) (sp := 0) (fuel := 3000) (by decide +kernel) lk_n odX12_in
def ct_1069 : aCt := (mX12_isWhale, [ag_861, ag_1], ([sl_1428, sl_1431, sl_1432, sl_1799, sl_1808], []), [pon_37, pon_621], [], [], (nat_lit 1))
set_option maxRecDepth 100000 in
theorem S_1069 : aSpec wd ct_1069 := bChk_ok wx_ok btX12_isWhale (nds := []) (fk := []) (rk := (1, [])) (sp := 0) (fuel := 3000) (by decide +kernel) (lk_d S_1068 ml_12_149 lk_n) odX12_isWhale
def ct_1070 : aCt := (mX12_later, [ag_1, ag_1], ([], []), [pon_130], [], [], (nat_lit 0))
set_option maxRecDepth 100000 in
theorem S_1070 : aSpec wd ct_1070 := bChk_ok wx_ok btX12_later (nds := []) (fk := []) (rk := (1, [])) (sp := 0) (fuel := 3000) (by decide +kernel) lk_n odX12_later
def pon_1999 : aPo := (some (.inl [((.negSucc (nat_lit 2147483647)), (.ofNat (nat_lit 2147483646)), (nat_lit 1))]), [none, some [((.ofNat (nat_lit 0)), (.ofNat (nat_lit 7)), (nat_lit 1))], some [((.ofNat (nat_lit 0)), (.ofNat (nat_lit 4)), (nat_lit 1))], some [((.ofNat (nat_lit 0)), (.ofNat (nat_lit 7)), (nat_lit 1))], some [((.ofNat (nat_lit 0)), (.ofNat (nat_lit 4)), (nat_lit 1))]], [sl_867, sl_1428, sl_1431, sl_1432, sl_1799, sl_1808], [])
def pon_2000 : aPo := (some (.inl [((.negSucc (nat_lit 1)), (.negSucc (nat_lit 1)), (nat_lit 1))]), [none, some [((.ofNat (nat_lit 0)), (.ofNat (nat_lit 7)), (nat_lit 1))], some [((.ofNat (nat_lit 0)), (.ofNat (nat_lit 4)), (nat_lit 1))], some [((.ofNat (nat_lit 0)), (.ofNat (nat_lit 7)), (nat_lit 1))], some [((.ofNat (nat_lit 0)), (.ofNat (nat_lit 4)), (nat_lit 1))]], [sl_867, sl_1428, sl_1431, sl_1432, sl_1799, sl_1808], [])
set_option maxRecDepth 100000 in
theorem btX12_meet : bTab oX12_meet tX12_meet := ⟨ofX12_meet, by decide +kernel⟩
def ct_1071 : aCt := (mX12_meet, [ag_861, ag_1, ag_1, ag_1, ag_1], ([], []), [pon_1999, pon_1804, pon_2000], mdn_1966, [], (nat_lit 8))
set_option maxRecDepth 100000 in
theorem S_1071 : aSpec wd ct_1071 := bChk_ok wx_ok btX12_meet (nds := []) (fk := []) (rk := (1, [])) (sp := 0) (fuel := 3000) (by decide +kernel) (lk_d S_447 ml_12_167 (lk_d S_908 ml_12_170 (lk_d S_1030 ml_12_295 (lk_d S_1032 ml_12_262 (lk_d S_1035 ml_12_364 (lk_d S_1069 ml_12_268 (lk_d S_1066 ml_12_274 (lk_d S_1067 ml_12_268 (lk_d S_911 ml_12_274 (lk_d S_1070 ml_12_355 lk_n)))))))))) odX12_meet
def ct_1072 : aCt := (mX12_ofWhale, [ag_861, ag_217, ag_53], ([sl_1431, sl_1432, sl_1799], []), [pon_264], [], [], (nat_lit 0))
set_option maxRecDepth 100000 in
theorem S_1072 : aSpec wd ct_1072 := bChk_ok wx_ok btX12_ofWhale (nds := []) (fk := []) (rk := (1, [])) (sp := 0) (fuel := 3000) (by decide +kernel) lk_n odX12_ofWhale
def sl_2001 : (Nat × Nat) × aI := (((nat_lit 199), (nat_lit 8)), [((.ofNat (nat_lit 1)), (.ofNat (nat_lit 8)), (nat_lit 1))])
def ct_1073 : aCt := (mX12_ofWhale, [ag_861, ag_217, ag_170], ([sl_1431, sl_1432, sl_1799, sl_2001], []), [pon_346], [], [], (nat_lit 0))
set_option maxRecDepth 100000 in
theorem S_1073 : aSpec wd ct_1073 := bChk_ok wx_ok btX12_ofWhale (nds := []) (fk := []) (rk := (1, [])) (sp := 0) (fuel := 3000) (by decide +kernel) lk_n odX12_ofWhale
def ct_1074 : aCt := (mX12_in, [ag_1971, ag_170, ag_1], ([], []), [pon_37], mdn_872, [], (nat_lit 0))
set_option maxRecDepth 100000 in
theorem S_1074 : aSpec wd ct_1074 := bChk_ok wx_ok btX12_in (nds := []) (fk := []) (rk := (1, [])) (sp := 0) (fuel := 3000) (by decide +kernel) lk_n odX12_in
def pon_2002 : aPo := (some (.inl [((.ofNat (nat_lit 1)), (.ofNat (nat_lit 1)), (nat_lit 1))]), [some [((.ofNat (nat_lit 0)), (.ofNat (nat_lit 2147483647)), (nat_lit 1))], none, some [((.ofNat (nat_lit 0)), (.ofNat (nat_lit 2147483647)), (nat_lit 1))]], [], [])
def ct_1075 : aCt := (mX12_in, [ag_1, ag_170, ag_1], ([], []), [pon_1198, pon_2002], mdn_872, [], (nat_lit 0))
set_option maxRecDepth 100000 in
theorem S_1075 : aSpec wd ct_1075 := bChk_ok wx_ok btX12_in (nds := []) (fk := []) (rk := (1, [])) (sp := 0) (fuel := 3000) (by decide +kernel) lk_n odX12_in
def mdn_2003 : List (Nat × Nat × Nat) := [((nat_lit 196), (nat_lit 33), (nat_lit 35)), ((nat_lit 205), (nat_lit 0), (nat_lit 7)), ((nat_lit 206), (nat_lit 0), (nat_lit 7))]
set_option maxRecDepth 100000 in
theorem btX12_fitsAll : bTab oX12_fitsAll tX12_fitsAll := ⟨ofX12_fitsAll, by decide +kernel⟩
def ct_1076 : aCt := (mX12_fitsAll, [ag_861, ag_217], ([sl_1431, sl_1432, sl_1799], []), [pon_453], mdn_2003, [], (nat_lit 7))
set_option maxRecDepth 100000 in
theorem S_1076 : aSpec wd ct_1076 := bChk_ok wx_ok btX12_fitsAll (nds := [((nat_lit 19), [lcn_898, lcn_265, lcn_615, lcn_408], [], [sl_1431, sl_1432, sl_1799], [], (8, [(1, 9), (2, -1)]))]) (fk := []) (rk := (18, [])) (sp := 524288) (fuel := 3000) (by decide +kernel) (lk_d S_1073 ml_12_271 (lk_d S_1072 ml_12_271 (lk_d S_1074 ml_12_149 (lk_d S_1026 ml_12_352 (lk_d S_1075 ml_12_149 lk_n))))) odX12_fitsAll
def pon_2004 : aPo := (some (.inl [((.ofNat (nat_lit 0)), (.ofNat (nat_lit 31)), (nat_lit 1))]), [], [sl_867, sl_1428, sl_1431, sl_1432], [])
def mdn_2005 : List (Nat × Nat × Nat) := [((nat_lit 196), (nat_lit 0), (nat_lit 1)), ((nat_lit 196), (nat_lit 11), (nat_lit 12)), ((nat_lit 196), (nat_lit 33), (nat_lit 35)), ((nat_lit 205), (nat_lit 0), (nat_lit 7)), ((nat_lit 206), (nat_lit 0), (nat_lit 7))]
set_option maxRecDepth 100000 in
theorem btX12_fits : bTab oX12_fits tX12_fits := ⟨ofX12_fits, by decide +kernel⟩
def ct_1077 : aCt := (mX12_fits, [ag_861], ([], []), [pon_2004, pon_1872], mdn_2005, [], (nat_lit 8))
set_option maxRecDepth 100000 in
theorem S_1077 : aSpec wd ct_1077 := bChk_ok wx_ok btX12_fits (nds := [((nat_lit 21), [lcn_898, lcn_635, lcn_293], [], [sl_867, sl_1428, sl_1431, sl_1432], [], (5, [(1, -1)]))]) (fk := []) (rk := (6, [])) (sp := 2097152) (fuel := 3000) (by decide +kernel) (lk_d S_447 ml_12_167 (lk_d S_908 ml_12_170 (lk_d S_1076 ml_12_398 lk_n))) odX12_fits
def lcn_2006 : Nat × aAg := ((nat_lit 3), .inl [((.ofNat (nat_lit 0)), (.ofNat (nat_lit 127)), (nat_lit 1))])
set_option maxRecDepth 100000 in
theorem btX12_reachOf : bTab oX12_reachOf tX12_reachOf := ⟨ofX12_reachOf, by decide +kernel⟩
def ct_1078 : aCt := (mX12_reachOf, [ag_861, ag_217, ag_560], ([sl_1431, sl_1432, sl_1799], []), [pon_637], mdn_2003, [], (nat_lit 8))
set_option maxRecDepth 100000 in
theorem S_1078 : aSpec wd ct_1078 := bChk_ok wx_ok btX12_reachOf (nds := [((nat_lit 29), [lcn_898, lcn_265, lcn_563, lcn_2006, lcn_445], [], [sl_1431, sl_1432, sl_1799], [], (7, [(3, -1)]))]) (fk := []) (rk := (8, [])) (sp := 536870912) (fuel := 3000) (by decide +kernel) (lk_d S_1076 ml_12_398 (lk_d S_906 ml_12_271 (lk_d S_1025 ml_12_349 lk_n))) odX12_reachOf
def pon_2007 : aPo := (some (.inl [((.ofNat (nat_lit 0)), (.ofNat (nat_lit 127)), (nat_lit 1))]), [none, some [((.ofNat (nat_lit 0)), (.ofNat (nat_lit 4)), (nat_lit 1))], some [((.ofNat (nat_lit 0)), (.ofNat (nat_lit 99999)), (nat_lit 1))]], [sl_867, sl_1428, sl_1431, sl_1432, sl_1799], [])
set_option maxRecDepth 100000 in
theorem btX12_reach : bTab oX12_reach tX12_reach := ⟨ofX12_reach, by decide +kernel⟩
def ct_1079 : aCt := (mX12_reach, [ag_861, ag_1, ag_1], ([], []), [pon_2007, pon_1837], mdn_2005, [], (nat_lit 9))
set_option maxRecDepth 100000 in
theorem S_1079 : aSpec wd ct_1079 := bChk_ok wx_ok btX12_reach (nds := []) (fk := []) (rk := (1, [])) (sp := 0) (fuel := 3000) (by decide +kernel) (lk_d S_447 ml_12_167 (lk_d S_449 ml_12_170 (lk_d S_908 ml_12_170 (lk_d S_1078 ml_12_401 (lk_d S_904 ml_12_268 (lk_d S_939 ml_12_149 lk_n)))))) odX12_reach
def pon_2008 : aPo := (some (.inl [((.negSucc (nat_lit 0)), (.ofNat (nat_lit 6)), (nat_lit 1))]), [], [sl_867, sl_1428, sl_1431, sl_1432], [])
def lcn_2009 : Nat × aAg := ((nat_lit 3), .inl [((.negSucc (nat_lit 2147483647)), (.ofNat (nat_lit 1000000)), (nat_lit 1))])
set_option maxRecDepth 100000 in
theorem btX12_pier : bTab oX12_pier tX12_pier := ⟨ofX12_pier, by decide +kernel⟩
def ct_1080 : aCt := (mX12_pier, [ag_861, ag_1], ([], []), [pon_2008, pon_1837], mdn_2005, [], (nat_lit 9))
set_option maxRecDepth 100000 in
theorem S_1080 : aSpec wd ct_1080 := bChk_ok wx_ok btX12_pier (nds := [((nat_lit 43), [lcn_898, lcn_645, lcn_266, lcn_2009, lcn_445], [], [sl_867, sl_1428, sl_1431, sl_1432], [], (55, [(3, -7)])), ((nat_lit 63), [lcn_898, lcn_645, lcn_266, lcn_2009, lcn_446, lcn_545, lcn_1820, lcn_1883], [], [sl_867, sl_1428, sl_1431, sl_1432], [], (54, [(3, -7), (6, -1)]))]) (fk := []) (rk := (56, [])) (sp := 9223380832947798016) (fuel := 3000) (by decide +kernel) (lk_d S_447 ml_12_167 (lk_d S_908 ml_12_170 (lk_d S_449 ml_12_170 (lk_d S_1076 ml_12_398 (lk_d S_1078 ml_12_401 (lk_d S_939 ml_12_149 (lk_d S_935 ml_12_298 lk_n))))))) odX12_pier
def lcn_2010 : Nat × aAg := ((nat_lit 0), .inl [((.ofNat (nat_lit 0)), (.ofNat (nat_lit 4095)), (nat_lit 1))])
set_option maxRecDepth 100000 in
theorem btX12_ones : bTab oX12_ones tX12_ones := ⟨ofX12_ones, by decide +kernel⟩
def ct_1081 : aCt := (mX12_ones, [ag_655], ([], []), [pon_130], [], [], (nat_lit 0))
set_option maxRecDepth 100000 in
theorem S_1081 : aSpec wd ct_1081 := bChk_ok wx_ok btX12_ones (nds := [((nat_lit 4), [lcn_2010, lcn_271, lcn_666], [], [], [], (12, [(2, -1)]))]) (fk := []) (rk := (13, [])) (sp := 16) (fuel := 3000) (by decide +kernel) lk_n odX12_ones
def pon_2011 : aPo := (some (.inl [((.ofNat (nat_lit 0)), (.ofNat (nat_lit 4095)), (nat_lit 1))]), [], [sl_867, sl_1428, sl_1431, sl_1432], [])
def lcn_2012 : Nat × aAg := ((nat_lit 3), .inl [((.ofNat (nat_lit 0)), (.ofNat (nat_lit 4095)), (nat_lit 1))])
def lcn_2013 : Nat × aAg := ((nat_lit 4), .inl [((.ofNat (nat_lit 0)), (.ofNat (nat_lit 4096)), (nat_lit 1))])
set_option maxRecDepth 100000 in
theorem btX12_watch : bTab oX12_watch tX12_watch := ⟨ofX12_watch, by decide +kernel⟩
def ct_1082 : aCt := (mX12_watch, [ag_861, ag_1, ag_1], ([], []), [pon_2011, pon_1804], mdn_869, [], (nat_lit 4))
set_option maxRecDepth 100000 in
theorem S_1082 : aSpec wd ct_1082 := bChk_ok wx_ok btX12_watch (nds := [((nat_lit 45), [lcn_898, lcn_249, lcn_250, lcn_2012, lcn_2013], [], [sl_867, sl_1428, sl_1431, sl_1432], [], (4096, [(3, -1)]))]) (fk := []) (rk := (4097, [])) (sp := 35184372088832) (fuel := 3000) (by decide +kernel) (lk_d S_447 ml_12_167 (lk_d S_908 ml_12_170 (lk_d S_1081 ml_12_404 (lk_d S_933 ml_12_277 (lk_d S_916 ml_12_277 (lk_d S_X12_doLead_0 ml_12_407 lk_n)))))) odX12_watch
def mdn_2014 : List (Nat × Nat × Nat) := [((nat_lit 210), (nat_lit 0), (nat_lit 49))]
set_option maxRecDepth 100000 in
theorem btX12_layFar : bTab oX12_layFar tX12_layFar := ⟨ofX12_layFar, by decide +kernel⟩
def ct_1083 : aCt := (mX12_layFar, [ag_861], ([sl_1431, sl_1432], []), [pon_49], mdn_2014, [], (nat_lit 3))
set_option maxRecDepth 100000 in
theorem S_1083 : aSpec wd ct_1083 := bChk_ok wx_ok btX12_layFar (nds := [((nat_lit 2), [lcn_898, lcn_540], [], [sl_1431, sl_1432], [], (655, [(0, -9)])), ((nat_lit 10), [lcn_898, lcn_249, lcn_411], [], [sl_1431, sl_1432], [], (654, [(0, -9), (1, -1)])), ((nat_lit 109), [lcn_898, lcn_540], [], [sl_1431, sl_1432], [], (583, [(0, -73)])), ((nat_lit 117), [lcn_898, lcn_249, lcn_411], [], [sl_1431, sl_1432], [], (582, [(0, -73), (1, -9)])), ((nat_lit 125), [lcn_898, lcn_249, lcn_250, lcn_438], [], [sl_1431, sl_1432], [], (581, [(0, -73), (1, -9), (2, -1)]))]) (fk := []) (rk := (656, [])) (sp := 42702098401697739270488368123547223044) (fuel := 3000) (by decide +kernel) (lk_d S_937 ml_12_305 lk_n) odX12_layFar
def sl_2015 : (Nat × Nat) × aI := (((nat_lit 199), (nat_lit 4)), [((.ofNat (nat_lit 7)), (.ofNat (nat_lit 7)), (nat_lit 1))])
def mdn_2016 : List (Nat × Nat × Nat) := [((nat_lit 196), (nat_lit 38), (nat_lit 39)), ((nat_lit 212), (nat_lit 0), (nat_lit 7))]
set_option maxRecDepth 100000 in
theorem btX12_tryRound : bTab oX12_tryRound tX12_tryRound := ⟨ofX12_tryRound, by decide +kernel⟩
def ct_1084 : aCt := (mX12_tryRound, [ag_861, ag_133, ag_650, ag_1], ([sl_1431, sl_2015], []), [pon_49], mdn_2016, [], (nat_lit 2))
set_option maxRecDepth 100000 in
theorem S_1084 : aSpec wd ct_1084 := bChk_ok wx_ok btX12_tryRound (nds := []) (fk := []) (rk := (1, [])) (sp := 0) (fuel := 3000) (by decide +kernel) (lk_d S_X12_copy_31 ml_12_176 lk_n) odX12_tryRound
def sl_2017 : (Nat × Nat) × aI := (((nat_lit 199), (nat_lit 4)), [((.ofNat (nat_lit 6)), (.ofNat (nat_lit 7)), (nat_lit 1))])
def mdn_2018 : List (Nat × Nat × Nat) := [((nat_lit 196), (nat_lit 38), (nat_lit 39)), ((nat_lit 211), (nat_lit 6), (nat_lit 7)), ((nat_lit 212), (nat_lit 0), (nat_lit 7))]
def lcn_2019 : Nat × aAg := ((nat_lit 3), .inl [((.negSucc (nat_lit 2147483647)), (.ofNat (nat_lit 2147483646)), (nat_lit 1))])
def ct_1085 : aCt := (mX12_tryRound, [ag_861, ag_153, ag_650, ag_1], ([sl_1431, sl_2017], []), [pon_49], mdn_2018, [], (nat_lit 3))
set_option maxRecDepth 100000 in
theorem S_1085 : aSpec wd ct_1085 := bChk_ok wx_ok btX12_tryRound (nds := [((nat_lit 42), [lcn_898, lcn_979, lcn_670, lcn_2019, lcn_445], [], [sl_1431, sl_2015], [], (7, [(2, -1)]))]) (fk := []) (rk := (8, [])) (sp := 4398046511104) (fuel := 3000) (by decide +kernel) (lk_d S_X12_copy_30 ml_12_176 (lk_d S_935 ml_12_298 (lk_d S_1084 ml_12_413 lk_n))) odX12_tryRound
def sl_2020 : (Nat × Nat) × aI := (((nat_lit 199), (nat_lit 4)), [((.ofNat (nat_lit 5)), (.ofNat (nat_lit 7)), (nat_lit 1))])
def mdn_2021 : List (Nat × Nat × Nat) := [((nat_lit 196), (nat_lit 38), (nat_lit 39)), ((nat_lit 211), (nat_lit 5), (nat_lit 7)), ((nat_lit 212), (nat_lit 0), (nat_lit 7))]
def ct_1086 : aCt := (mX12_tryRound, [ag_861, ag_150, ag_650, ag_1], ([sl_1431, sl_2020], []), [pon_49], mdn_2021, [], (nat_lit 4))
set_option maxRecDepth 100000 in
theorem S_1086 : aSpec wd ct_1086 := bChk_ok wx_ok btX12_tryRound (nds := [((nat_lit 42), [lcn_898, lcn_978, lcn_670, lcn_2019, lcn_445], [], [sl_1431, sl_2017], [], (7, [(2, -1)]))]) (fk := []) (rk := (8, [])) (sp := 4398046511104) (fuel := 3000) (by decide +kernel) (lk_d S_X12_copy_29 ml_12_176 (lk_d S_935 ml_12_298 (lk_d S_1085 ml_12_413 lk_n))) odX12_tryRound
def sl_2022 : (Nat × Nat) × aI := (((nat_lit 199), (nat_lit 4)), [((.ofNat (nat_lit 4)), (.ofNat (nat_lit 7)), (nat_lit 1))])
def mdn_2023 : List (Nat × Nat × Nat) := [((nat_lit 196), (nat_lit 38), (nat_lit 39)), ((nat_lit 211), (nat_lit 4), (nat_lit 7)), ((nat_lit 212), (nat_lit 0), (nat_lit 7))]
def ct_1087 : aCt := (mX12_tryRound, [ag_861, ag_159, ag_650, ag_1], ([sl_1431, sl_2022], []), [pon_49], mdn_2023, [], (nat_lit 5))
set_option maxRecDepth 100000 in
theorem S_1087 : aSpec wd ct_1087 := bChk_ok wx_ok btX12_tryRound (nds := [((nat_lit 42), [lcn_898, lcn_977, lcn_670, lcn_2019, lcn_445], [], [sl_1431, sl_2020], [], (7, [(2, -1)]))]) (fk := []) (rk := (8, [])) (sp := 4398046511104) (fuel := 3000) (by decide +kernel) (lk_d S_X12_copy_28 ml_12_176 (lk_d S_935 ml_12_298 (lk_d S_1086 ml_12_413 lk_n))) odX12_tryRound
def sl_2024 : (Nat × Nat) × aI := (((nat_lit 199), (nat_lit 4)), [((.ofNat (nat_lit 3)), (.ofNat (nat_lit 7)), (nat_lit 1))])
def mdn_2025 : List (Nat × Nat × Nat) := [((nat_lit 196), (nat_lit 38), (nat_lit 39)), ((nat_lit 211), (nat_lit 3), (nat_lit 7)), ((nat_lit 212), (nat_lit 0), (nat_lit 7))]
def ct_1088 : aCt := (mX12_tryRound, [ag_861, ag_122, ag_650, ag_1], ([sl_1431, sl_2024], []), [pon_49], mdn_2025, [], (nat_lit 6))
set_option maxRecDepth 100000 in
theorem S_1088 : aSpec wd ct_1088 := bChk_ok wx_ok btX12_tryRound (nds := [((nat_lit 42), [lcn_898, lcn_976, lcn_670, lcn_2019, lcn_445], [], [sl_1431, sl_2022], [], (7, [(2, -1)]))]) (fk := []) (rk := (8, [])) (sp := 4398046511104) (fuel := 3000) (by decide +kernel) (lk_d S_X12_copy_27 ml_12_176 (lk_d S_935 ml_12_298 (lk_d S_1087 ml_12_413 lk_n))) odX12_tryRound
def sl_2026 : (Nat × Nat) × aI := (((nat_lit 199), (nat_lit 4)), [((.ofNat (nat_lit 2)), (.ofNat (nat_lit 7)), (nat_lit 1))])
def mdn_2027 : List (Nat × Nat × Nat) := [((nat_lit 196), (nat_lit 38), (nat_lit 39)), ((nat_lit 211), (nat_lit 2), (nat_lit 7)), ((nat_lit 212), (nat_lit 0), (nat_lit 7))]
def ct_1089 : aCt := (mX12_tryRound, [ag_861, ag_22, ag_650, ag_1], ([sl_1431, sl_2026], []), [pon_49], mdn_2027, [], (nat_lit 7))
set_option maxRecDepth 100000 in
theorem S_1089 : aSpec wd ct_1089 := bChk_ok wx_ok btX12_tryRound (nds := [((nat_lit 42), [lcn_898, lcn_167, lcn_670, lcn_2019, lcn_445], [], [sl_1431, sl_2024], [], (7, [(2, -1)]))]) (fk := []) (rk := (8, [])) (sp := 4398046511104) (fuel := 3000) (by decide +kernel) (lk_d S_X12_copy_26 ml_12_176 (lk_d S_935 ml_12_298 (lk_d S_1088 ml_12_413 lk_n))) odX12_tryRound
def ag_2028 : aAg := .inl [((.ofNat (nat_lit 1)), (.ofNat (nat_lit 64)), (nat_lit 1))]
def mdn_2029 : List (Nat × Nat × Nat) := [((nat_lit 196), (nat_lit 38), (nat_lit 39)), ((nat_lit 211), (nat_lit 1), (nat_lit 7)), ((nat_lit 212), (nat_lit 0), (nat_lit 7))]
def lcn_2030 : Nat × aAg := ((nat_lit 2), .inl [((.ofNat (nat_lit 1)), (.ofNat (nat_lit 64)), (nat_lit 1))])
def ct_1090 : aCt := (mX12_tryRound, [ag_861, ag_53, ag_2028, ag_170], ([sl_1431, sl_1432], []), [pon_49], mdn_2029, [], (nat_lit 8))
set_option maxRecDepth 100000 in
theorem S_1090 : aSpec wd ct_1090 := bChk_ok wx_ok btX12_tryRound (nds := [((nat_lit 42), [lcn_898, lcn_202, lcn_2030, lcn_101, lcn_445], [], [sl_1431, sl_2026], [], (7, [(1, -1)]))]) (fk := []) (rk := (8, [])) (sp := 4398046511104) (fuel := 3000) (by decide +kernel) (lk_d S_X12_copy_25 ml_12_176 (lk_d S_935 ml_12_298 (lk_d S_1089 ml_12_413 lk_n))) odX12_tryRound
def pon_2031 : aPo := (some (.inl [((.negSucc (nat_lit 2147483647)), (.ofNat (nat_lit 999999)), (nat_lit 1)), ((.ofNat (nat_lit 1000001)), (.ofNat (nat_lit 2147483647)), (nat_lit 1))]), [], [], [])
def mdn_2032 : List (Nat × Nat × Nat) := [((nat_lit 196), (nat_lit 38), (nat_lit 39)), ((nat_lit 210), (nat_lit 0), (nat_lit 49)), ((nat_lit 211), (nat_lit 0), (nat_lit 7)), ((nat_lit 212), (nat_lit 0), (nat_lit 7))]
set_option maxRecDepth 100000 in
theorem btX12_seekRound : bTab oX12_seekRound tX12_seekRound := ⟨ofX12_seekRound, by decide +kernel⟩
def ct_1091 : aCt := (mX12_seekRound, [ag_861, ag_125], ([sl_1431, sl_1432], []), [pon_2031, pon_52], mdn_2032, [], (nat_lit 9))
set_option maxRecDepth 100000 in
theorem S_1091 : aSpec wd ct_1091 := bChk_ok wx_ok btX12_seekRound (nds := []) (fk := []) (rk := (1, [])) (sp := 0) (fuel := 3000) (by decide +kernel) (lk_d S_1083 ml_12_416 (lk_d S_1090 ml_12_413 lk_n)) odX12_seekRound
def pon_2033 : aPo := (some (.inl [((.negSucc (nat_lit 2147483647)), (.ofNat (nat_lit 999999)), (nat_lit 1)), ((.ofNat (nat_lit 1000001)), (.ofNat (nat_lit 2147483647)), (nat_lit 1))]), [none, some [((.ofNat (nat_lit 0)), (.ofNat (nat_lit 6)), (nat_lit 1))]], [sl_867, sl_1428, sl_1431, sl_1432], [])
def pon_2034 : aPo := (some (.inl [((.negSucc (nat_lit 1)), (.negSucc (nat_lit 1)), (nat_lit 1))]), [none, some [((.ofNat (nat_lit 0)), (.ofNat (nat_lit 6)), (nat_lit 1))]], [sl_867, sl_1428, sl_1431, sl_1432], [])
def mdn_2035 : List (Nat × Nat × Nat) := [((nat_lit 196), (nat_lit 0), (nat_lit 1)), ((nat_lit 196), (nat_lit 11), (nat_lit 12)), ((nat_lit 196), (nat_lit 38), (nat_lit 39)), ((nat_lit 210), (nat_lit 0), (nat_lit 49)), ((nat_lit 211), (nat_lit 0), (nat_lit 7)), ((nat_lit 212), (nat_lit 0), (nat_lit 7))]
set_option maxRecDepth 100000 in
theorem btX12_round : bTab oX12_round tX12_round := ⟨ofX12_round, by decide +kernel⟩
def ct_1092 : aCt := (mX12_round, [ag_861, ag_1], ([], []), [pon_2033, pon_1804, pon_2034], mdn_2035, [], (nat_lit 10))
set_option maxRecDepth 100000 in
theorem S_1092 : aSpec wd ct_1092 := bChk_ok wx_ok btX12_round (nds := []) (fk := []) (rk := (1, [])) (sp := 0) (fuel := 3000) (by decide +kernel) (lk_d S_447 ml_12_167 (lk_d S_908 ml_12_170 (lk_d S_1091 ml_12_419 (lk_d S_916 ml_12_277 lk_n)))) odX12_round
def sl_2036 : (Nat × Nat) × aI := (((nat_lit 196), (nat_lit 11)), [((.ofNat (nat_lit 1)), (.ofNat (nat_lit 1)), (nat_lit 1)), ((.ofNat (nat_lit 6)), (.ofNat (nat_lit 6)), (nat_lit 1))])
def pon_2037 : aPo := (some (.inl [((.negSucc (nat_lit 0)), (.negSucc (nat_lit 0)), (nat_lit 1))]), [], [sl_2036], [])
set_option maxRecDepth 100000 in
theorem btX12_roundAt : bTab oX12_roundAt tX12_roundAt := ⟨ofX12_roundAt, by decide +kernel⟩
def ct_1093 : aCt := (mX12_roundAt, [ag_861, ag_1, ag_1], ([], []), [pon_1869, pon_2037], mdn_2035, [], (nat_lit 10))
set_option maxRecDepth 100000 in
theorem S_1093 : aSpec wd ct_1093 := bChk_ok wx_ok btX12_roundAt (nds := []) (fk := []) (rk := (1, [])) (sp := 0) (fuel := 3000) (by decide +kernel) (lk_d S_447 ml_12_167 (lk_d S_1046 ml_12_170 (lk_d S_908 ml_12_170 (lk_d S_1091 ml_12_419 (lk_d S_916 ml_12_277 (lk_d S_915 ml_12_149 lk_n)))))) odX12_roundAt
set_option maxRecDepth 100000 in
theorem btX12_decade : bTab oX12_decade tX12_decade := ⟨ofX12_decade, by decide +kernel⟩
def ct_1094 : aCt := (mX12_decade, [ag_861, ag_1, ag_1], ([sl_1871], []), [pon_1804], mdn_869, [], (nat_lit 1))
set_option maxRecDepth 100000 in
theorem S_1094 : aSpec wd ct_1094 := bChk_ok wx_ok btX12_decade (nds := []) (fk := []) (rk := (1, [])) (sp := 0) (fuel := 3000) (by decide +kernel) (lk_d S_447 ml_12_167 (lk_d S_908 ml_12_170 lk_n)) odX12_decade
def pon_2038 : aPo := (some (.inl [((.ofNat (nat_lit 0)), (.ofNat (nat_lit 0)), (nat_lit 1))]), [some [((.negSucc (nat_lit 2147483647)), (.negSucc (nat_lit 0)), (nat_lit 1)), ((.ofNat (nat_lit 65537)), (.ofNat (nat_lit 2147483647)), (nat_lit 1))], none, none], [], [])
def pon_2039 : aPo := (some (.inl [((.ofNat (nat_lit 1)), (.ofNat (nat_lit 1)), (nat_lit 1))]), [some [((.ofNat (nat_lit 0)), (.ofNat (nat_lit 65536)), (nat_lit 1))], none, none], [], [])
def ct_1095 : aCt := (mX12_in, [ag_1, ag_170, ag_681], ([], []), [pon_2038, pon_2039], mdn_872, [], (nat_lit 0))
set_option maxRecDepth 100000 in
theorem S_1095 : aSpec wd ct_1095 := bChk_ok wx_ok btX12_in (nds := []) (fk := []) (rk := (1, [])) (sp := 0) (fuel := 3000) (by decide +kernel) lk_n odX12_in
def sl_2040 : (Nat × Nat) × aI := (((nat_lit 199), (nat_lit 4)), [((.ofNat (nat_lit 1)), (.ofNat (nat_lit 1)), (nat_lit 1))])
def ct_1096 : aCt := (mX12_ofBox, [ag_861, ag_170, ag_53], ([sl_1431, sl_2040, sl_1808], []), [pon_37], [], [], (nat_lit 0))
set_option maxRecDepth 100000 in
theorem S_1096 : aSpec wd ct_1096 := bChk_ok wx_ok btX12_ofBox (nds := []) (fk := []) (rk := (1, [])) (sp := 0) (fuel := 3000) (by decide +kernel) lk_n odX12_ofBox
def pon_2041 : aPo := (some (.inl [((.ofNat (nat_lit 2)), (.ofNat (nat_lit 6)), (nat_lit 1))]), [], [], [])
def ct_1097 : aCt := (mX12_songLong, [ag_861, ag_170], ([sl_2040], []), [pon_2041], [], [], (nat_lit 0))
set_option maxRecDepth 100000 in
theorem S_1097 : aSpec wd ct_1097 := bChk_ok wx_ok btX12_songLong (nds := []) (fk := []) (rk := (1, [])) (sp := 0) (fuel := 3000) (by decide +kernel) lk_n odX12_songLong
def ct_1098 : aCt := (mX12_boxLong, [ag_861, ag_170], ([sl_1431, sl_2040, sl_1808], []), [pon_2041], [], [], (nat_lit 1))
set_option maxRecDepth 100000 in
theorem S_1098 : aSpec wd ct_1098 := bChk_ok wx_ok btX12_boxLong (nds := []) (fk := [7]) (rk := (1, [])) (sp := 0) (fuel := 3000) (by decide +kernel) (lk_d S_1097 ml_12_265 (lk_d S_1096 ml_12_262 lk_n)) odX12_boxLong
def ct_1099 : aCt := (mX12_ofBox, [ag_861, ag_53, ag_53], ([sl_1431, sl_2040, sl_1991], []), [pon_37], [], [], (nat_lit 0))
set_option maxRecDepth 100000 in
theorem S_1099 : aSpec wd ct_1099 := bChk_ok wx_ok btX12_ofBox (nds := []) (fk := []) (rk := (1, [])) (sp := 0) (fuel := 3000) (by decide +kernel) lk_n odX12_ofBox
def ct_1100 : aCt := (mX12_boxLong, [ag_861, ag_53], ([sl_1431, sl_2040, sl_1991], []), [pon_2041], [], [], (nat_lit 1))
set_option maxRecDepth 100000 in
theorem S_1100 : aSpec wd ct_1100 := bChk_ok wx_ok btX12_boxLong (nds := []) (fk := [7]) (rk := (1, [])) (sp := 0) (fuel := 3000) (by decide +kernel) (lk_d S_1097 ml_12_265 (lk_d S_1099 ml_12_262 lk_n)) odX12_boxLong
def ct_1101 : aCt := (mX12_ofBox, [ag_861, ag_22, ag_53], ([sl_1431, sl_2040, sl_1989], []), [pon_37], [], [], (nat_lit 0))
set_option maxRecDepth 100000 in
theorem S_1101 : aSpec wd ct_1101 := bChk_ok wx_ok btX12_ofBox (nds := []) (fk := []) (rk := (1, [])) (sp := 0) (fuel := 3000) (by decide +kernel) lk_n odX12_ofBox
def ct_1102 : aCt := (mX12_boxLong, [ag_861, ag_22], ([sl_1431, sl_2040, sl_1989], []), [pon_2041], [], [], (nat_lit 1))
set_option maxRecDepth 100000 in
theorem S_1102 : aSpec wd ct_1102 := bChk_ok wx_ok btX12_boxLong (nds := []) (fk := [7]) (rk := (1, [])) (sp := 0) (fuel := 3000) (by decide +kernel) (lk_d S_1097 ml_12_265 (lk_d S_1101 ml_12_262 lk_n)) odX12_boxLong
def ct_1103 : aCt := (mX12_ofBox, [ag_861, ag_122, ag_53], ([sl_1431, sl_2040, sl_1987], []), [pon_37], [], [], (nat_lit 0))
set_option maxRecDepth 100000 in
theorem S_1103 : aSpec wd ct_1103 := bChk_ok wx_ok btX12_ofBox (nds := []) (fk := []) (rk := (1, [])) (sp := 0) (fuel := 3000) (by decide +kernel) lk_n odX12_ofBox
def ct_1104 : aCt := (mX12_boxLong, [ag_861, ag_122], ([sl_1431, sl_2040, sl_1987], []), [pon_2041], [], [], (nat_lit 1))
set_option maxRecDepth 100000 in
theorem S_1104 : aSpec wd ct_1104 := bChk_ok wx_ok btX12_boxLong (nds := []) (fk := [7]) (rk := (1, [])) (sp := 0) (fuel := 3000) (by decide +kernel) (lk_d S_1097 ml_12_265 (lk_d S_1103 ml_12_262 lk_n)) odX12_boxLong
def ct_1105 : aCt := (mX12_ofBox, [ag_861, ag_159, ag_53], ([sl_1431, sl_2040, sl_1985], []), [pon_37], [], [], (nat_lit 0))
set_option maxRecDepth 100000 in
theorem S_1105 : aSpec wd ct_1105 := bChk_ok wx_ok btX12_ofBox (nds := []) (fk := []) (rk := (1, [])) (sp := 0) (fuel := 3000) (by decide +kernel) lk_n odX12_ofBox
def ct_1106 : aCt := (mX12_boxLong, [ag_861, ag_159], ([sl_1431, sl_2040, sl_1985], []), [pon_2041], [], [], (nat_lit 1))
set_option maxRecDepth 100000 in
theorem S_1106 : aSpec wd ct_1106 := bChk_ok wx_ok btX12_boxLong (nds := []) (fk := [7]) (rk := (1, [])) (sp := 0) (fuel := 3000) (by decide +kernel) (lk_d S_1097 ml_12_265 (lk_d S_1105 ml_12_262 lk_n)) odX12_boxLong
def ct_1107 : aCt := (mX12_ofBox, [ag_861, ag_150, ag_53], ([sl_1431, sl_2040, sl_1983], []), [pon_37], [], [], (nat_lit 0))
set_option maxRecDepth 100000 in
theorem S_1107 : aSpec wd ct_1107 := bChk_ok wx_ok btX12_ofBox (nds := []) (fk := []) (rk := (1, [])) (sp := 0) (fuel := 3000) (by decide +kernel) lk_n odX12_ofBox
def ct_1108 : aCt := (mX12_boxLong, [ag_861, ag_150], ([sl_1431, sl_2040, sl_1983], []), [pon_2041], [], [], (nat_lit 1))
set_option maxRecDepth 100000 in
theorem S_1108 : aSpec wd ct_1108 := bChk_ok wx_ok btX12_boxLong (nds := []) (fk := [7]) (rk := (1, [])) (sp := 0) (fuel := 3000) (by decide +kernel) (lk_d S_1097 ml_12_265 (lk_d S_1107 ml_12_262 lk_n)) odX12_boxLong
def ct_1109 : aCt := (mX12_ofBox, [ag_861, ag_153, ag_53], ([sl_1431, sl_2040, sl_1979], []), [pon_37], [], [], (nat_lit 0))
set_option maxRecDepth 100000 in
theorem S_1109 : aSpec wd ct_1109 := bChk_ok wx_ok btX12_ofBox (nds := []) (fk := []) (rk := (1, [])) (sp := 0) (fuel := 3000) (by decide +kernel) lk_n odX12_ofBox
def ct_1110 : aCt := (mX12_boxLong, [ag_861, ag_153], ([sl_1431, sl_2040, sl_1979], []), [pon_2041], [], [], (nat_lit 1))
set_option maxRecDepth 100000 in
theorem S_1110 : aSpec wd ct_1110 := bChk_ok wx_ok btX12_boxLong (nds := []) (fk := [7]) (rk := (1, [])) (sp := 0) (fuel := 3000) (by decide +kernel) (lk_d S_1097 ml_12_265 (lk_d S_1109 ml_12_262 lk_n)) odX12_boxLong
def ct_1111 : aCt := (mX12_ofBox, [ag_861, ag_133, ag_53], ([sl_1431, sl_2040, sl_1977], []), [pon_37], [], [], (nat_lit 0))
set_option maxRecDepth 100000 in
theorem S_1111 : aSpec wd ct_1111 := bChk_ok wx_ok btX12_ofBox (nds := []) (fk := []) (rk := (1, [])) (sp := 0) (fuel := 3000) (by decide +kernel) lk_n odX12_ofBox
def ct_1112 : aCt := (mX12_boxLong, [ag_861, ag_133], ([sl_1431, sl_2040, sl_1977], []), [pon_2041], [], [], (nat_lit 1))
set_option maxRecDepth 100000 in
theorem S_1112 : aSpec wd ct_1112 := bChk_ok wx_ok btX12_boxLong (nds := []) (fk := [7]) (rk := (1, [])) (sp := 0) (fuel := 3000) (by decide +kernel) (lk_d S_1097 ml_12_265 (lk_d S_1111 ml_12_262 lk_n)) odX12_boxLong
def pon_2042 : aPo := (some (.inl aTop), [], [sl_867, sl_1428, sl_1431], [])
def lcn_2043 : Nat × aAg := ((nat_lit 3), .inl [((.ofNat (nat_lit 0)), (.ofNat (nat_lit 65536)), (nat_lit 1))])
def lcn_2044 : Nat × aAg := ((nat_lit 2), .inl [((.ofNat (nat_lit 1)), (.ofNat (nat_lit 50)), (nat_lit 1))])
def lcn_2045 : Nat × aAg := ((nat_lit 7), .inl [((.negSucc (nat_lit 0)), (.ofNat (nat_lit 5)), (nat_lit 1))])
def lcn_2046 : Nat × aAg := ((nat_lit 8), .inl [((.ofNat (nat_lit 0)), (.ofNat (nat_lit 3)), (nat_lit 1))])
def ct_1113 : aCt := (mX12_decade, [ag_861, ag_1, ag_1], ([sl_2040], []), [pon_2042, pon_1837], mdn_869, [], (nat_lit 4))
set_option maxRecDepth 100000 in
theorem S_1113 : aSpec wd ct_1113 := bChk_ok wx_ok btX12_decade (nds := [((nat_lit 52), [lcn_898, lcn_695, lcn_696, lcn_2043, lcn_351, lcn_1899], [], [sl_867, sl_1428, sl_1431, sl_2040], [], (759, [(4, -10)])), ((nat_lit 61), [lcn_898, lcn_695, lcn_2044, lcn_2043, lcn_351, lcn_1897, lcn_596], [], [sl_867, sl_1428, sl_1431, sl_2040], [], (758, [(4, -10)])), ((nat_lit 61), [lcn_898, lcn_695, lcn_2044, lcn_2043, lcn_351, lcn_1897, lcn_1945, lcn_2045, lcn_2046], [], [sl_867, sl_1428, sl_1431, sl_2040, sl_1808], [], (757, [(4, -10)])), ((nat_lit 61), [lcn_898, lcn_695, lcn_2044, lcn_2043, lcn_351, lcn_1897, lcn_1946, lcn_2045, lcn_2046], [], [sl_867, sl_1428, sl_1431, sl_2040, sl_1991], [], (756, [(4, -10)])), ((nat_lit 61), [lcn_898, lcn_695, lcn_2044, lcn_2043, lcn_351, lcn_1897, lcn_1947, lcn_2045, lcn_2046], [], [sl_867, sl_1428, sl_1431, sl_2040, sl_1989], [], (755, [(4, -10)])), ((nat_lit 61), [lcn_898, lcn_695, lcn_2044, lcn_2043, lcn_351, lcn_1897, lcn_1948, lcn_2045, lcn_2046], [], [sl_867, sl_1428, sl_1431, sl_2040, sl_1987], [], (754, [(4, -10)])), ((nat_lit 61), [lcn_898, lcn_695, lcn_2044, lcn_2043, lcn_351, lcn_1897, lcn_1949, lcn_2045, lcn_2046], [], [sl_867, sl_1428, sl_1431, sl_2040, sl_1985], [], (753, [(4, -10)])), ((nat_lit 61), [lcn_898, lcn_695, lcn_2044, lcn_2043, lcn_351, lcn_1897, lcn_1950, lcn_2045, lcn_2046], [], [sl_867, sl_1428, sl_1431, sl_2040, sl_1983], [], (752, [(4, -10)])), ((nat_lit 61), [lcn_898, lcn_695, lcn_2044, lcn_2043, lcn_351, lcn_1897, lcn_1951, lcn_2045, lcn_2046], [], [sl_867, sl_1428, sl_1431, sl_2040, sl_1979], [], (751, [(4, -10)])), ((nat_lit 61), [lcn_898, lcn_695, lcn_2044, lcn_2043, lcn_351, lcn_1897, lcn_1952, lcn_2045, lcn_2046], [], [sl_867, sl_1428, sl_1431, sl_2040, sl_1977], [], (750, [(4, -10)]))]) (fk := []) (rk := (760, [])) (sp := 2310346608841064448) (fuel := 3000) (by decide +kernel) (lk_d S_447 ml_12_167 (lk_d S_1112 ml_12_284 (lk_d S_1110 ml_12_284 (lk_d S_1108 ml_12_284 (lk_d S_1106 ml_12_284 (lk_d S_1104 ml_12_284 (lk_d S_1102 ml_12_284 (lk_d S_1100 ml_12_284 (lk_d S_1098 ml_12_284 (lk_d S_908 ml_12_170 (lk_d S_449 ml_12_170 (lk_d S_1111 ml_12_262 (lk_d S_1109 ml_12_262 (lk_d S_1107 ml_12_262 (lk_d S_1105 ml_12_262 (lk_d S_1103 ml_12_262 (lk_d S_1101 ml_12_262 (lk_d S_1099 ml_12_262 (lk_d S_1096 ml_12_262 (lk_d S_930 ml_12_291 (lk_d S_1095 ml_12_149 (lk_d S_474 ml_12_149 lk_n)))))))))))))))))))))) odX12_decade
end Pk1
