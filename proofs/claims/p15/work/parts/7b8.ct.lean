section Pk0
def pon_1904 : aPo := (some (.inl [((.ofNat (nat_lit 0)), (.ofNat (nat_lit 15)), (nat_lit 1))]), [], [], [])
def lcn_1905 : Nat × aAg := ((nat_lit 5), .inl [((.ofNat (nat_lit 0)), (.ofNat (nat_lit 16)), (nat_lit 1))])
def ct_986 : aCt := (mX12_newSongs, [ag_861, ag_22, ag_452, ag_170], ([sl_1431, sl_1432], []), [pon_1904, pon_52], mdn_1885, [], (nat_lit 1))
set_option maxRecDepth 100000 in
theorem S_986 : aSpec wd ct_986 := aChkF_ok (lk := [(318, 0, 2, ct_984), (265, 0, 2, ct_917), (280, 0, 4, ct_920), (321, 0, 4, ct_985)]) (cd := oX12_newSongs) (nds := [(((nat_lit 8), [lcn_898, lcn_167, lcn_455, lcn_101, lcn_445], [], [sl_1886, sl_1431, sl_1432], [], (320, [(1, -4)])), [(.inl 4, .inr (196, 23), 0)]), (((nat_lit 38), [lcn_898, lcn_167, lcn_455, lcn_101, lcn_446, lcn_545, lcn_598], [], [sl_1887, sl_1431, sl_1432], [], (319, [(1, -4), (3, -1)])), [(.inl 4, .inr (196, 23), 0)]), (((nat_lit 109), [lcn_898, lcn_167, lcn_455, lcn_101, lcn_421, lcn_1905], [], [sl_1886, sl_1431, sl_1432], [], (288, [(1, -17)])), [(.inl 5, .inr (196, 23), 7)]), (((nat_lit 125), [lcn_898, lcn_167, lcn_455, lcn_101, lcn_421, lcn_1902, lcn_473, lcn_1825], [], [sl_1886, sl_1431, sl_1432], [], (279, [(1, -17), (2, 8), (3, -1)])), [(.inl 5, .inr (196, 23), 7)])]) (fk := []) (rk := (321, [])) (fuel := 3000) (by decide +kernel) (List.forall_mem_cons.mpr ⟨⟨ml_12_318, S_984⟩, List.forall_mem_cons.mpr ⟨⟨ml_12_265, S_917⟩, List.forall_mem_cons.mpr ⟨⟨ml_12_280, S_920⟩, List.forall_mem_cons.mpr ⟨⟨ml_12_321, S_985⟩, fun _ h => nomatch h⟩⟩⟩⟩) odX12_newSongs
def pon_1906 : aPo := (some (.inl [((.ofNat (nat_lit 0)), (.ofNat (nat_lit 1023)), (nat_lit 1))]), [none, some [((.ofNat (nat_lit 2)), (.ofNat (nat_lit 5)), (nat_lit 1))], some [((.ofNat (nat_lit 1)), (.ofNat (nat_lit 5)), (nat_lit 1))]], [sl_867, sl_1428, sl_1431, sl_1432], [])
def pon_1907 : aPo := (some (.inl [((.negSucc (nat_lit 1)), (.negSucc (nat_lit 1)), (nat_lit 1))]), [none, some [((.ofNat (nat_lit 2)), (.ofNat (nat_lit 5)), (nat_lit 1))], some [((.ofNat (nat_lit 1)), (.ofNat (nat_lit 5)), (nat_lit 1))]], [sl_867, sl_1428, sl_1431, sl_1432], [])
def mdn_1908 : List (Nat × Nat × Nat) := [((nat_lit 196), (nat_lit 0), (nat_lit 1)), ((nat_lit 196), (nat_lit 11), (nat_lit 12)), ((nat_lit 196), (nat_lit 23), (nat_lit 24)), ((nat_lit 204), (nat_lit 0), (nat_lit 7))]
set_option maxRecDepth 100000 in
theorem btX12_fresh : bTab oX12_fresh tX12_fresh := ⟨ofX12_fresh, by decide +kernel⟩
def ct_987 : aCt := (mX12_fresh, [ag_861, ag_1, ag_1], ([], []), [pon_1906, pon_1837, pon_1907], mdn_1908, [], (nat_lit 2))
set_option maxRecDepth 100000 in
theorem S_987 : aSpec wd ct_987 := bChk_ok wx_ok btX12_fresh (nds := []) (fk := [25]) (rk := (1, [])) (sp := 0) (fuel := 3000) (by decide +kernel) (lk_d S_447 ml_12_167 (lk_d S_908 ml_12_170 (lk_d S_449 ml_12_170 (lk_d S_977 ml_12_327 (lk_d S_980 ml_12_327 (lk_d S_983 ml_12_327 (lk_d S_986 ml_12_327 (lk_d S_974 ml_12_324 lk_n)))))))) odX12_fresh
def mdn_1909 : List (Nat × Nat × Nat) := [((nat_lit 196), (nat_lit 23), (nat_lit 24)), ((nat_lit 204), (nat_lit 0), (nat_lit 1031))]
def sl_1910 : (Nat × Nat) × aI := (((nat_lit 196), (nat_lit 23)), [((.ofNat (nat_lit 0)), (.ofNat (nat_lit 1031)), (nat_lit 1))])
def lcn_1911 : Nat × aAg := ((nat_lit 7), .inl [((.ofNat (nat_lit 0)), (.ofNat (nat_lit 1030)), (nat_lit 1))])
def sl_1912 : (Nat × Nat) × aI := (((nat_lit 196), (nat_lit 23)), [((.ofNat (nat_lit 0)), (.ofNat (nat_lit 1030)), (nat_lit 1))])
def ct_988 : aCt := (mX12_newSongs, [ag_861, ag_150, ag_452, ag_53], ([sl_1431, sl_1432], []), [pon_130], mdn_1909, [], (nat_lit 1))
set_option maxRecDepth 100000 in
theorem S_988 : aSpec wd ct_988 := aChkF_ok (lk := [(318, 0, 2, ct_975), (265, 0, 2, ct_917), (280, 0, 4, ct_920), (321, 0, 4, ct_976)]) (cd := oX12_newSongs) (nds := [(((nat_lit 8), [lcn_898, lcn_978, lcn_455, lcn_102, lcn_445], [], [sl_1886, sl_1431, sl_1432], [], (2114630, [(1, -7)])), [(.inl 4, .inr (196, 23), 0)]), (((nat_lit 38), [lcn_898, lcn_978, lcn_455, lcn_102, lcn_446, lcn_545, lcn_610], [], [sl_1887, sl_1431, sl_1432], [], (2114629, [(1, -7), (3, -1)])), [(.inl 4, .inr (196, 23), 0)]), (((nat_lit 109), [lcn_898, lcn_978, lcn_455, lcn_102, lcn_351, lcn_1888], [], [sl_1910, sl_1431, sl_1432], [], (2114574, [(2, -2063)])), [(.inl 5, .inr (196, 23), 7)]), (((nat_lit 125), [lcn_898, lcn_978, lcn_455, lcn_102, lcn_351, lcn_1882, lcn_473, lcn_1911], [], [sl_1912, sl_1431, sl_1432], [], (2113542, [(2, -2063), (3, 1031), (4, -1)])), [(.inl 5, .inr (196, 23), 7)])]) (fk := []) (rk := (2114631, [])) (fuel := 3000) (by decide +kernel) (List.forall_mem_cons.mpr ⟨⟨ml_12_318, S_975⟩, List.forall_mem_cons.mpr ⟨⟨ml_12_265, S_917⟩, List.forall_mem_cons.mpr ⟨⟨ml_12_280, S_920⟩, List.forall_mem_cons.mpr ⟨⟨ml_12_321, S_976⟩, fun _ h => nomatch h⟩⟩⟩⟩) odX12_newSongs
def mdn_1913 : List (Nat × Nat × Nat) := [((nat_lit 196), (nat_lit 23), (nat_lit 24)), ((nat_lit 204), (nat_lit 0), (nat_lit 288))]
def sl_1914 : (Nat × Nat) × aI := (((nat_lit 196), (nat_lit 23)), [((.ofNat (nat_lit 0)), (.ofNat (nat_lit 287)), (nat_lit 1))])
def lcn_1915 : Nat × aAg := ((nat_lit 7), .inl [((.ofNat (nat_lit 0)), (.ofNat (nat_lit 287)), (nat_lit 1))])
def ct_989 : aCt := (mX12_newSongs, [ag_861, ag_159, ag_452, ag_53], ([sl_1431, sl_1432], []), [pon_130], mdn_1913, [], (nat_lit 1))
set_option maxRecDepth 100000 in
theorem S_989 : aSpec wd ct_989 := aChkF_ok (lk := [(318, 0, 2, ct_978), (265, 0, 2, ct_917), (280, 0, 4, ct_920), (321, 0, 4, ct_979)]) (cd := oX12_newSongs) (nds := [(((nat_lit 8), [lcn_898, lcn_977, lcn_455, lcn_102, lcn_445], [], [sl_1886, sl_1431, sl_1432], [], (166223, [(1, -6)])), [(.inl 4, .inr (196, 23), 0)]), (((nat_lit 38), [lcn_898, lcn_977, lcn_455, lcn_102, lcn_446, lcn_545, lcn_604], [], [sl_1887, sl_1431, sl_1432], [], (166222, [(1, -6), (3, -1)])), [(.inl 4, .inr (196, 23), 0)]), (((nat_lit 109), [lcn_898, lcn_977, lcn_455, lcn_102, lcn_351, lcn_1893], [], [sl_1914, sl_1431, sl_1432], [], (166175, [(2, -577)])), [(.inl 5, .inr (196, 23), 7)]), (((nat_lit 125), [lcn_898, lcn_977, lcn_455, lcn_102, lcn_351, lcn_1891, lcn_473, lcn_1915], [], [sl_1914, sl_1431, sl_1432], [], (165886, [(2, -577), (3, 288), (4, -1)])), [(.inl 5, .inr (196, 23), 7)])]) (fk := []) (rk := (166224, [])) (fuel := 3000) (by decide +kernel) (List.forall_mem_cons.mpr ⟨⟨ml_12_318, S_978⟩, List.forall_mem_cons.mpr ⟨⟨ml_12_265, S_917⟩, List.forall_mem_cons.mpr ⟨⟨ml_12_280, S_920⟩, List.forall_mem_cons.mpr ⟨⟨ml_12_321, S_979⟩, fun _ h => nomatch h⟩⟩⟩⟩) odX12_newSongs
def mdn_1916 : List (Nat × Nat × Nat) := [((nat_lit 196), (nat_lit 23), (nat_lit 24)), ((nat_lit 204), (nat_lit 0), (nat_lit 76))]
def sl_1917 : (Nat × Nat) × aI := (((nat_lit 196), (nat_lit 23)), [((.ofNat (nat_lit 0)), (.ofNat (nat_lit 75)), (nat_lit 1))])
def lcn_1918 : Nat × aAg := ((nat_lit 7), .inl [((.ofNat (nat_lit 0)), (.ofNat (nat_lit 75)), (nat_lit 1))])
def ct_990 : aCt := (mX12_newSongs, [ag_861, ag_122, ag_452, ag_53], ([sl_1431, sl_1432], []), [pon_130], mdn_1916, [], (nat_lit 1))
set_option maxRecDepth 100000 in
theorem S_990 : aSpec wd ct_990 := aChkF_ok (lk := [(318, 0, 2, ct_981), (265, 0, 2, ct_917), (280, 0, 4, ct_920), (321, 0, 4, ct_982)]) (cd := oX12_newSongs) (nds := [(((nat_lit 8), [lcn_898, lcn_976, lcn_455, lcn_102, lcn_445], [], [sl_1886, sl_1431, sl_1432], [], (11667, [(1, -5)])), [(.inl 4, .inr (196, 23), 0)]), (((nat_lit 38), [lcn_898, lcn_976, lcn_455, lcn_102, lcn_446, lcn_545, lcn_600], [], [sl_1887, sl_1431, sl_1432], [], (11666, [(1, -5), (3, -1)])), [(.inl 4, .inr (196, 23), 0)]), (((nat_lit 109), [lcn_898, lcn_976, lcn_455, lcn_102, lcn_351, lcn_1899], [], [sl_1917, sl_1431, sl_1432], [], (11627, [(2, -153)])), [(.inl 5, .inr (196, 23), 7)]), (((nat_lit 125), [lcn_898, lcn_976, lcn_455, lcn_102, lcn_351, lcn_1897, lcn_473, lcn_1918], [], [sl_1917, sl_1431, sl_1432], [], (11550, [(2, -153), (3, 76), (4, -1)])), [(.inl 5, .inr (196, 23), 7)])]) (fk := []) (rk := (11668, [])) (fuel := 3000) (by decide +kernel) (List.forall_mem_cons.mpr ⟨⟨ml_12_318, S_981⟩, List.forall_mem_cons.mpr ⟨⟨ml_12_265, S_917⟩, List.forall_mem_cons.mpr ⟨⟨ml_12_280, S_920⟩, List.forall_mem_cons.mpr ⟨⟨ml_12_321, S_982⟩, fun _ h => nomatch h⟩⟩⟩⟩) odX12_newSongs
def mdn_1919 : List (Nat × Nat × Nat) := [((nat_lit 196), (nat_lit 23), (nat_lit 24)), ((nat_lit 204), (nat_lit 0), (nat_lit 26))]
def sl_1920 : (Nat × Nat) × aI := (((nat_lit 196), (nat_lit 23)), [((.ofNat (nat_lit 0)), (.ofNat (nat_lit 25)), (nat_lit 1))])
def lcn_1921 : Nat × aAg := ((nat_lit 7), .inl [((.ofNat (nat_lit 0)), (.ofNat (nat_lit 25)), (nat_lit 1))])
def ct_991 : aCt := (mX12_newSongs, [ag_861, ag_22, ag_452, ag_53], ([sl_1431, sl_1432], []), [pon_130], mdn_1919, [], (nat_lit 1))
set_option maxRecDepth 100000 in
theorem S_991 : aSpec wd ct_991 := aChkF_ok (lk := [(318, 0, 2, ct_984), (265, 0, 2, ct_917), (280, 0, 4, ct_920), (321, 0, 4, ct_985)]) (cd := oX12_newSongs) (nds := [(((nat_lit 8), [lcn_898, lcn_167, lcn_455, lcn_102, lcn_445], [], [sl_1886, sl_1431, sl_1432], [], (932, [(1, -4)])), [(.inl 4, .inr (196, 23), 0)]), (((nat_lit 38), [lcn_898, lcn_167, lcn_455, lcn_102, lcn_446, lcn_545, lcn_598], [], [sl_1887, sl_1431, sl_1432], [], (931, [(1, -4), (3, -1)])), [(.inl 4, .inr (196, 23), 0)]), (((nat_lit 109), [lcn_898, lcn_167, lcn_455, lcn_102, lcn_351, lcn_1905], [], [sl_1920, sl_1431, sl_1432], [], (900, [(2, -53)])), [(.inl 5, .inr (196, 23), 7)]), (((nat_lit 125), [lcn_898, lcn_167, lcn_455, lcn_102, lcn_351, lcn_1902, lcn_473, lcn_1921], [], [sl_1920, sl_1431, sl_1432], [], (873, [(2, -53), (3, 26), (4, -1)])), [(.inl 5, .inr (196, 23), 7)])]) (fk := []) (rk := (933, [])) (fuel := 3000) (by decide +kernel) (List.forall_mem_cons.mpr ⟨⟨ml_12_318, S_984⟩, List.forall_mem_cons.mpr ⟨⟨ml_12_265, S_917⟩, List.forall_mem_cons.mpr ⟨⟨ml_12_280, S_920⟩, List.forall_mem_cons.mpr ⟨⟨ml_12_321, S_985⟩, fun _ h => nomatch h⟩⟩⟩⟩) odX12_newSongs
def pon_1922 : aPo := (some (.inl aTop), [none, some [((.ofNat (nat_lit 2)), (.ofNat (nat_lit 5)), (nat_lit 1))], some [((.ofNat (nat_lit 1)), (.ofNat (nat_lit 5)), (nat_lit 1))]], [sl_867, sl_1428, sl_1431, sl_1432], [])
def mdn_1923 : List (Nat × Nat × Nat) := [((nat_lit 196), (nat_lit 0), (nat_lit 1)), ((nat_lit 196), (nat_lit 11), (nat_lit 12)), ((nat_lit 196), (nat_lit 23), (nat_lit 24)), ((nat_lit 204), (nat_lit 0), (nat_lit 1031))]
set_option maxRecDepth 100000 in
theorem btX12_byTurns : bTab oX12_byTurns tX12_byTurns := ⟨ofX12_byTurns, by decide +kernel⟩
def ct_992 : aCt := (mX12_byTurns, [ag_861, ag_1, ag_1], ([], []), [pon_1922, pon_1837], mdn_1923, [], (nat_lit 2))
set_option maxRecDepth 100000 in
theorem S_992 : aSpec wd ct_992 := bChk_ok wx_ok btX12_byTurns (nds := []) (fk := [25]) (rk := (1, [])) (sp := 0) (fuel := 3000) (by decide +kernel) (lk_d S_447 ml_12_167 (lk_d S_908 ml_12_170 (lk_d S_449 ml_12_170 (lk_d S_988 ml_12_327 (lk_d S_989 ml_12_327 (lk_d S_990 ml_12_327 (lk_d S_991 ml_12_327 (lk_d S_974 ml_12_324 lk_n)))))))) odX12_byTurns
def pon_1924 : aPo := (some (.inl [((.negSucc (nat_lit 2147483647)), (.ofNat (nat_lit 7)), (nat_lit 1))]), [], [], [])
def lcn_1925 : Nat × aAg := ((nat_lit 3), .inl [((.negSucc (nat_lit 2147483647)), (.ofNat (nat_lit 7)), (nat_lit 1))])
set_option maxRecDepth 100000 in
theorem btX12_nearOf : bTab oX12_nearOf tX12_nearOf := ⟨ofX12_nearOf, by decide +kernel⟩
def ct_993 : aCt := (mX12_nearOf, [ag_861, ag_190, ag_170], ([sl_1431, sl_1432, sl_1808], []), [pon_1924], [], [], (nat_lit 3))
set_option maxRecDepth 100000 in
theorem S_993 : aSpec wd ct_993 := bChk_ok wx_ok btX12_nearOf (nds := [((nat_lit 9), [lcn_898, lcn_540, lcn_589, lcn_1925, lcn_351, lcn_648], [], [sl_1431, sl_1432, sl_1808], [], (7, [(3, -1)]))]) (fk := []) (rk := (8, [])) (sp := 512) (fuel := 3000) (by decide +kernel) (lk_d S_917 ml_12_265 (lk_d S_923 ml_12_284 (lk_d S_929 ml_12_287 lk_n))) odX12_nearOf
def pon_1926 : aPo := (some (.inl [((.negSucc (nat_lit 2147483647)), (.ofNat (nat_lit 7)), (nat_lit 1))]), [none, some [((.ofNat (nat_lit 0)), (.ofNat (nat_lit 7)), (nat_lit 1))]], [sl_867, sl_1428, sl_1431, sl_1432, sl_1808], [])
set_option maxRecDepth 100000 in
theorem btX12_near : bTab oX12_near tX12_near := ⟨ofX12_near, by decide +kernel⟩
def ct_994 : aCt := (mX12_near, [ag_861, ag_1], ([], []), [pon_1926, pon_1804], mdn_869, [], (nat_lit 4))
set_option maxRecDepth 100000 in
theorem S_994 : aSpec wd ct_994 := bChk_ok wx_ok btX12_near (nds := []) (fk := []) (rk := (1, [])) (sp := 0) (fuel := 3000) (by decide +kernel) (lk_d S_447 ml_12_167 (lk_d S_908 ml_12_170 (lk_d S_993 ml_12_308 (lk_d S_911 ml_12_274 lk_n)))) odX12_near
def ct_995 : aCt := (mX12_nearOf, [ag_861, ag_190, ag_53], ([sl_1431, sl_1432, sl_1808], []), [pon_130], [], [], (nat_lit 3))
set_option maxRecDepth 100000 in
theorem S_995 : aSpec wd ct_995 := bChk_ok wx_ok btX12_nearOf (nds := [((nat_lit 9), [lcn_898, lcn_540, lcn_444, lcn_1925, lcn_351, lcn_648], [], [sl_1431, sl_1432, sl_1808], [], (7, [(3, -1)]))]) (fk := []) (rk := (8, [])) (sp := 512) (fuel := 3000) (by decide +kernel) (lk_d S_917 ml_12_265 (lk_d S_923 ml_12_284 (lk_d S_929 ml_12_287 lk_n))) odX12_nearOf
def pon_1927 : aPo := (some (.inl aTop), [none, some [((.ofNat (nat_lit 0)), (.ofNat (nat_lit 7)), (nat_lit 1))]], [sl_867, sl_1428, sl_1431, sl_1432, sl_1808], [])
set_option maxRecDepth 100000 in
theorem btX12_asNear : bTab oX12_asNear tX12_asNear := ⟨ofX12_asNear, by decide +kernel⟩
def ct_996 : aCt := (mX12_asNear, [ag_861, ag_1], ([], []), [pon_1927, pon_1804], mdn_869, [], (nat_lit 4))
set_option maxRecDepth 100000 in
theorem S_996 : aSpec wd ct_996 := bChk_ok wx_ok btX12_asNear (nds := []) (fk := []) (rk := (1, [])) (sp := 0) (fuel := 3000) (by decide +kernel) (lk_d S_447 ml_12_167 (lk_d S_908 ml_12_170 (lk_d S_995 ml_12_308 (lk_d S_911 ml_12_274 lk_n)))) odX12_asNear
def pon_1928 : aPo := (some (.inl [((.negSucc (nat_lit 1)), (.negSucc (nat_lit 1)), (nat_lit 1)), ((.ofNat (nat_lit 0)), (.ofNat (nat_lit 6)), (nat_lit 1))]), [none, some [((.ofNat (nat_lit 0)), (.ofNat (nat_lit 7)), (nat_lit 1))], some [((.ofNat (nat_lit 0)), (.ofNat (nat_lit 99)), (nat_lit 1))]], [sl_867, sl_1428, sl_1431, sl_1432, sl_1808], [])
def pon_1929 : aPo := (some (.inl [((.negSucc (nat_lit 1)), (.negSucc (nat_lit 1)), (nat_lit 1))]), [none, some [((.ofNat (nat_lit 0)), (.ofNat (nat_lit 7)), (nat_lit 1))], some [((.ofNat (nat_lit 0)), (.ofNat (nat_lit 99)), (nat_lit 1))]], [sl_867, sl_1428, sl_1431, sl_1432, sl_1808], [])
set_option maxRecDepth 100000 in
theorem btX12_heardIn : bTab oX12_heardIn tX12_heardIn := ⟨ofX12_heardIn, by decide +kernel⟩
def ct_997 : aCt := (mX12_heardIn, [ag_861, ag_1, ag_1], ([], []), [pon_1928, pon_1837, pon_1929], mdn_869, [], (nat_lit 4))
set_option maxRecDepth 100000 in
theorem S_997 : aSpec wd ct_997 := bChk_ok wx_ok btX12_heardIn (nds := []) (fk := []) (rk := (1, [])) (sp := 0) (fuel := 3000) (by decide +kernel) (lk_d S_447 ml_12_167 (lk_d S_449 ml_12_170 (lk_d S_908 ml_12_170 (lk_d S_930 ml_12_291 (lk_d S_911 ml_12_274 (lk_d S_615 ml_12_149 lk_n)))))) odX12_heardIn
set_option maxRecDepth 100000 in
theorem btX12_hearsItself : bTab oX12_hearsItself tX12_hearsItself := ⟨ofX12_hearsItself, by decide +kernel⟩
def ct_998 : aCt := (mX12_hearsItself, [ag_861, ag_125, ag_508], ([sl_1431, sl_1432], []), [pon_453], [], [], (nat_lit 1))
set_option maxRecDepth 100000 in
theorem S_998 : aSpec wd ct_998 := bChk_ok wx_ok btX12_hearsItself (nds := [((nat_lit 5), [lcn_898, lcn_249, lcn_1822, lcn_517, lcn_446], [], [sl_1431, sl_1432], [], (134, [(3, -1)])), ((nat_lit 77), [lcn_898, lcn_249, lcn_1822, lcn_517, lcn_451, lcn_648], [], [sl_1431, sl_1432], [], (63, [(3, 64), (4, -8)])), ((nat_lit 117), [lcn_898, lcn_249, lcn_1822, lcn_517, lcn_451, lcn_993, lcn_1820, lcn_1821], [], [sl_1431, sl_1432], [], (62, [(3, 64), (4, -8), (6, -1)]))]) (fk := []) (rk := (135, [])) (sp := 166153499473265599840427711181881376) (fuel := 3000) (by decide +kernel) (lk_d S_917 ml_12_265 (lk_d S_920 ml_12_280 lk_n)) odX12_hearsItself
def pon_1930 : aPo := (some (.inl [((.ofNat (nat_lit 0)), (.ofNat (nat_lit 99)), (nat_lit 1))]), [], [sl_867, sl_1428, sl_1431, sl_1432], [])
set_option maxRecDepth 100000 in
theorem btX12_strange : bTab oX12_strange tX12_strange := ⟨ofX12_strange, by decide +kernel⟩
def ct_999 : aCt := (mX12_strange, [ag_861, ag_1], ([], []), [pon_1930, pon_1804, pon_1873], mdn_869, [], (nat_lit 2))
set_option maxRecDepth 100000 in
theorem S_999 : aSpec wd ct_999 := bChk_ok wx_ok btX12_strange (nds := [((nat_lit 20), [lcn_898, lcn_249, lcn_511], [], [sl_867, sl_1428, sl_1431, sl_1432], [], (100, [(1, -1)]))]) (fk := []) (rk := (101, [])) (sp := 1048576) (fuel := 3000) (by decide +kernel) (lk_d S_447 ml_12_167 (lk_d S_908 ml_12_170 (lk_d S_998 ml_12_331 (lk_d S_916 ml_12_277 lk_n)))) odX12_strange
def ct_1000 : aCt := (mX12_isIsland, [ag_861, ag_1], ([sl_1428, sl_1431, sl_1432, sl_1799], []), [pon_37, pon_374], [], [], (nat_lit 1))
set_option maxRecDepth 100000 in
theorem S_1000 : aSpec wd ct_1000 := bChk_ok wx_ok btX12_isIsland (nds := []) (fk := []) (rk := (1, [])) (sp := 0) (fuel := 3000) (by decide +kernel) (lk_d S_915 ml_12_149 lk_n) odX12_isIsland
def pon_1931 : aPo := (some (.inl aTop), [none, none, some [((.ofNat (nat_lit 0)), (.ofNat (nat_lit 3)), (nat_lit 1))], none], [], [])
set_option maxRecDepth 100000 in
theorem btX12_dayBy : bTab oX12_dayBy tX12_dayBy := ⟨ofX12_dayBy, by decide +kernel⟩
def ct_1001 : aCt := (mX12_dayBy, [ag_861, ag_170, ag_361, ag_1], ([sl_1829], []), [pon_1931], [], [], (nat_lit 3))
set_option maxRecDepth 100000 in
theorem S_1001 : aSpec wd ct_1001 := bChk_ok wx_ok btX12_dayBy (nds := []) (fk := []) (rk := (1, [])) (sp := 0) (fuel := 3000) (by decide +kernel) (lk_d S_X12_setsOut_11 ml_12_334 lk_n) odX12_dayBy
def mdn_1932 : List (Nat × Nat × Nat) := [((nat_lit 205), (nat_lit 0), (nat_lit 7))]
set_option maxRecDepth 100000 in
theorem btX12_goesBy : bTab oX12_goesBy tX12_goesBy := ⟨ofX12_goesBy, by decide +kernel⟩
def ct_1002 : aCt := (mX12_goesBy, [ag_861, ag_170, ag_361, ag_125], ([sl_1829], []), [pon_49], mdn_1932, [], (nat_lit 4))
set_option maxRecDepth 100000 in
theorem S_1002 : aSpec wd ct_1002 := bChk_ok wx_ok btX12_goesBy (nds := []) (fk := []) (rk := (1, [])) (sp := 0) (fuel := 3000) (by decide +kernel) (lk_d S_1001 ml_12_346 lk_n) odX12_goesBy
def sl_1933 : (Nat × Nat) × aI := (((nat_lit 199), (nat_lit 5)), [((.ofNat (nat_lit 2)), (.ofNat (nat_lit 12)), (nat_lit 1))])
def ct_1003 : aCt := (mX12_dayBy, [ag_861, ag_53, ag_361, ag_1], ([sl_1933], []), [pon_1931], [], [], (nat_lit 3))
set_option maxRecDepth 100000 in
theorem S_1003 : aSpec wd ct_1003 := bChk_ok wx_ok btX12_dayBy (nds := []) (fk := []) (rk := (1, [])) (sp := 0) (fuel := 3000) (by decide +kernel) (lk_d S_X12_setsOut_10 ml_12_334 lk_n) odX12_dayBy
def ct_1004 : aCt := (mX12_goesBy, [ag_861, ag_53, ag_361, ag_125], ([sl_1933], []), [pon_49], mdn_1932, [], (nat_lit 4))
set_option maxRecDepth 100000 in
theorem S_1004 : aSpec wd ct_1004 := bChk_ok wx_ok btX12_goesBy (nds := []) (fk := []) (rk := (1, [])) (sp := 0) (fuel := 3000) (by decide +kernel) (lk_d S_1003 ml_12_346 lk_n) odX12_goesBy
def sl_1934 : (Nat × Nat) × aI := (((nat_lit 199), (nat_lit 5)), [((.ofNat (nat_lit 3)), (.ofNat (nat_lit 12)), (nat_lit 1))])
def ct_1005 : aCt := (mX12_dayBy, [ag_861, ag_22, ag_361, ag_1], ([sl_1934], []), [pon_1931], [], [], (nat_lit 3))
set_option maxRecDepth 100000 in
theorem S_1005 : aSpec wd ct_1005 := bChk_ok wx_ok btX12_dayBy (nds := []) (fk := []) (rk := (1, [])) (sp := 0) (fuel := 3000) (by decide +kernel) (lk_d S_X12_setsOut_9 ml_12_334 lk_n) odX12_dayBy
def ct_1006 : aCt := (mX12_goesBy, [ag_861, ag_22, ag_361, ag_125], ([sl_1934], []), [pon_49], mdn_1932, [], (nat_lit 4))
set_option maxRecDepth 100000 in
theorem S_1006 : aSpec wd ct_1006 := bChk_ok wx_ok btX12_goesBy (nds := []) (fk := []) (rk := (1, [])) (sp := 0) (fuel := 3000) (by decide +kernel) (lk_d S_1005 ml_12_346 lk_n) odX12_goesBy
def sl_1935 : (Nat × Nat) × aI := (((nat_lit 199), (nat_lit 5)), [((.ofNat (nat_lit 4)), (.ofNat (nat_lit 12)), (nat_lit 1))])
def ct_1007 : aCt := (mX12_dayBy, [ag_861, ag_122, ag_361, ag_1], ([sl_1935], []), [pon_1931], [], [], (nat_lit 3))
set_option maxRecDepth 100000 in
theorem S_1007 : aSpec wd ct_1007 := bChk_ok wx_ok btX12_dayBy (nds := []) (fk := []) (rk := (1, [])) (sp := 0) (fuel := 3000) (by decide +kernel) (lk_d S_X12_setsOut_8 ml_12_334 lk_n) odX12_dayBy
def ct_1008 : aCt := (mX12_goesBy, [ag_861, ag_122, ag_361, ag_125], ([sl_1935], []), [pon_49], mdn_1932, [], (nat_lit 4))
set_option maxRecDepth 100000 in
theorem S_1008 : aSpec wd ct_1008 := bChk_ok wx_ok btX12_goesBy (nds := []) (fk := []) (rk := (1, [])) (sp := 0) (fuel := 3000) (by decide +kernel) (lk_d S_1007 ml_12_346 lk_n) odX12_goesBy
def sl_1936 : (Nat × Nat) × aI := (((nat_lit 199), (nat_lit 5)), [((.ofNat (nat_lit 5)), (.ofNat (nat_lit 12)), (nat_lit 1))])
def ct_1009 : aCt := (mX12_dayBy, [ag_861, ag_159, ag_361, ag_1], ([sl_1936], []), [pon_1931], [], [], (nat_lit 3))
set_option maxRecDepth 100000 in
theorem S_1009 : aSpec wd ct_1009 := bChk_ok wx_ok btX12_dayBy (nds := []) (fk := []) (rk := (1, [])) (sp := 0) (fuel := 3000) (by decide +kernel) (lk_d S_X12_setsOut_7 ml_12_334 lk_n) odX12_dayBy
def ct_1010 : aCt := (mX12_goesBy, [ag_861, ag_159, ag_361, ag_125], ([sl_1936], []), [pon_49], mdn_1932, [], (nat_lit 4))
set_option maxRecDepth 100000 in
theorem S_1010 : aSpec wd ct_1010 := bChk_ok wx_ok btX12_goesBy (nds := []) (fk := []) (rk := (1, [])) (sp := 0) (fuel := 3000) (by decide +kernel) (lk_d S_1009 ml_12_346 lk_n) odX12_goesBy
def sl_1937 : (Nat × Nat) × aI := (((nat_lit 199), (nat_lit 5)), [((.ofNat (nat_lit 6)), (.ofNat (nat_lit 12)), (nat_lit 1))])
def ct_1011 : aCt := (mX12_dayBy, [ag_861, ag_150, ag_361, ag_1], ([sl_1937], []), [pon_1931], [], [], (nat_lit 3))
set_option maxRecDepth 100000 in
theorem S_1011 : aSpec wd ct_1011 := bChk_ok wx_ok btX12_dayBy (nds := []) (fk := []) (rk := (1, [])) (sp := 0) (fuel := 3000) (by decide +kernel) (lk_d S_X12_setsOut_6 ml_12_334 lk_n) odX12_dayBy
def ct_1012 : aCt := (mX12_goesBy, [ag_861, ag_150, ag_361, ag_125], ([sl_1937], []), [pon_49], mdn_1932, [], (nat_lit 4))
set_option maxRecDepth 100000 in
theorem S_1012 : aSpec wd ct_1012 := bChk_ok wx_ok btX12_goesBy (nds := []) (fk := []) (rk := (1, [])) (sp := 0) (fuel := 3000) (by decide +kernel) (lk_d S_1011 ml_12_346 lk_n) odX12_goesBy
def sl_1938 : (Nat × Nat) × aI := (((nat_lit 199), (nat_lit 5)), [((.ofNat (nat_lit 7)), (.ofNat (nat_lit 12)), (nat_lit 1))])
def ct_1013 : aCt := (mX12_dayBy, [ag_861, ag_153, ag_361, ag_1], ([sl_1938], []), [pon_1931], [], [], (nat_lit 3))
set_option maxRecDepth 100000 in
theorem S_1013 : aSpec wd ct_1013 := bChk_ok wx_ok btX12_dayBy (nds := []) (fk := []) (rk := (1, [])) (sp := 0) (fuel := 3000) (by decide +kernel) (lk_d S_X12_setsOut_5 ml_12_334 lk_n) odX12_dayBy
def ct_1014 : aCt := (mX12_goesBy, [ag_861, ag_153, ag_361, ag_125], ([sl_1938], []), [pon_49], mdn_1932, [], (nat_lit 4))
set_option maxRecDepth 100000 in
theorem S_1014 : aSpec wd ct_1014 := bChk_ok wx_ok btX12_goesBy (nds := []) (fk := []) (rk := (1, [])) (sp := 0) (fuel := 3000) (by decide +kernel) (lk_d S_1013 ml_12_346 lk_n) odX12_goesBy
def sl_1939 : (Nat × Nat) × aI := (((nat_lit 199), (nat_lit 5)), [((.ofNat (nat_lit 8)), (.ofNat (nat_lit 12)), (nat_lit 1))])
def ct_1015 : aCt := (mX12_dayBy, [ag_861, ag_133, ag_361, ag_1], ([sl_1939], []), [pon_1931], [], [], (nat_lit 3))
set_option maxRecDepth 100000 in
theorem S_1015 : aSpec wd ct_1015 := bChk_ok wx_ok btX12_dayBy (nds := []) (fk := []) (rk := (1, [])) (sp := 0) (fuel := 3000) (by decide +kernel) (lk_d S_X12_setsOut_4 ml_12_334 lk_n) odX12_dayBy
def ct_1016 : aCt := (mX12_goesBy, [ag_861, ag_133, ag_361, ag_125], ([sl_1939], []), [pon_49], mdn_1932, [], (nat_lit 4))
set_option maxRecDepth 100000 in
theorem S_1016 : aSpec wd ct_1016 := bChk_ok wx_ok btX12_goesBy (nds := []) (fk := []) (rk := (1, [])) (sp := 0) (fuel := 3000) (by decide +kernel) (lk_d S_1015 ml_12_346 lk_n) odX12_goesBy
def sl_1940 : (Nat × Nat) × aI := (((nat_lit 199), (nat_lit 5)), [((.ofNat (nat_lit 9)), (.ofNat (nat_lit 12)), (nat_lit 1))])
def ct_1017 : aCt := (mX12_dayBy, [ag_861, ag_1849, ag_361, ag_1], ([sl_1940], []), [pon_1931], [], [], (nat_lit 3))
set_option maxRecDepth 100000 in
theorem S_1017 : aSpec wd ct_1017 := bChk_ok wx_ok btX12_dayBy (nds := []) (fk := []) (rk := (1, [])) (sp := 0) (fuel := 3000) (by decide +kernel) (lk_d S_X12_setsOut_3 ml_12_334 lk_n) odX12_dayBy
def ct_1018 : aCt := (mX12_goesBy, [ag_861, ag_1849, ag_361, ag_125], ([sl_1940], []), [pon_49], mdn_1932, [], (nat_lit 4))
set_option maxRecDepth 100000 in
theorem S_1018 : aSpec wd ct_1018 := bChk_ok wx_ok btX12_goesBy (nds := []) (fk := []) (rk := (1, [])) (sp := 0) (fuel := 3000) (by decide +kernel) (lk_d S_1017 ml_12_346 lk_n) odX12_goesBy
def sl_1941 : (Nat × Nat) × aI := (((nat_lit 199), (nat_lit 5)), [((.ofNat (nat_lit 10)), (.ofNat (nat_lit 12)), (nat_lit 1))])
def ct_1019 : aCt := (mX12_dayBy, [ag_861, ag_1845, ag_361, ag_1], ([sl_1941], []), [pon_1931], [], [], (nat_lit 3))
set_option maxRecDepth 100000 in
theorem S_1019 : aSpec wd ct_1019 := bChk_ok wx_ok btX12_dayBy (nds := []) (fk := []) (rk := (1, [])) (sp := 0) (fuel := 3000) (by decide +kernel) (lk_d S_X12_setsOut_2 ml_12_334 lk_n) odX12_dayBy
def ct_1020 : aCt := (mX12_goesBy, [ag_861, ag_1845, ag_361, ag_125], ([sl_1941], []), [pon_49], mdn_1932, [], (nat_lit 4))
set_option maxRecDepth 100000 in
theorem S_1020 : aSpec wd ct_1020 := bChk_ok wx_ok btX12_goesBy (nds := []) (fk := []) (rk := (1, [])) (sp := 0) (fuel := 3000) (by decide +kernel) (lk_d S_1019 ml_12_346 lk_n) odX12_goesBy
def sl_1942 : (Nat × Nat) × aI := (((nat_lit 199), (nat_lit 5)), [((.ofNat (nat_lit 11)), (.ofNat (nat_lit 12)), (nat_lit 1))])
def ct_1021 : aCt := (mX12_dayBy, [ag_861, ag_1841, ag_361, ag_1], ([sl_1942], []), [pon_1931], [], [], (nat_lit 3))
set_option maxRecDepth 100000 in
theorem S_1021 : aSpec wd ct_1021 := bChk_ok wx_ok btX12_dayBy (nds := []) (fk := []) (rk := (1, [])) (sp := 0) (fuel := 3000) (by decide +kernel) (lk_d S_X12_setsOut_1 ml_12_334 lk_n) odX12_dayBy
def ct_1022 : aCt := (mX12_goesBy, [ag_861, ag_1841, ag_361, ag_125], ([sl_1942], []), [pon_49], mdn_1932, [], (nat_lit 4))
set_option maxRecDepth 100000 in
theorem S_1022 : aSpec wd ct_1022 := bChk_ok wx_ok btX12_goesBy (nds := []) (fk := []) (rk := (1, [])) (sp := 0) (fuel := 3000) (by decide +kernel) (lk_d S_1021 ml_12_346 lk_n) odX12_goesBy
def ct_1023 : aCt := (mX12_dayBy, [ag_861, ag_1192, ag_361, ag_1], ([sl_1840], []), [pon_1931], [], [], (nat_lit 3))
set_option maxRecDepth 100000 in
theorem S_1023 : aSpec wd ct_1023 := bChk_ok wx_ok btX12_dayBy (nds := []) (fk := []) (rk := (1, [])) (sp := 0) (fuel := 3000) (by decide +kernel) (lk_d S_X12_setsOut_0 ml_12_334 lk_n) odX12_dayBy
def ct_1024 : aCt := (mX12_goesBy, [ag_861, ag_1192, ag_361, ag_125], ([sl_1840], []), [pon_49], mdn_1932, [], (nat_lit 4))
set_option maxRecDepth 100000 in
theorem S_1024 : aSpec wd ct_1024 := bChk_ok wx_ok btX12_goesBy (nds := []) (fk := []) (rk := (1, [])) (sp := 0) (fuel := 3000) (by decide +kernel) (lk_d S_1023 ml_12_346 lk_n) odX12_goesBy
def mdn_1943 : List (Nat × Nat × Nat) := [((nat_lit 205), (nat_lit 0), (nat_lit 7)), ((nat_lit 206), (nat_lit 0), (nat_lit 7))]
def lcn_1944 : Nat × aAg := ((nat_lit 5), .inl [((.negSucc (nat_lit 0)), (.ofNat (nat_lit 6)), (nat_lit 1))])
def lcn_1945 : Nat × aAg := ((nat_lit 6), .inl [((.ofNat (nat_lit 1)), (.ofNat (nat_lit 1)), (nat_lit 1))])
def lcn_1946 : Nat × aAg := ((nat_lit 6), .inl [((.ofNat (nat_lit 2)), (.ofNat (nat_lit 2)), (nat_lit 1))])
def lcn_1947 : Nat × aAg := ((nat_lit 6), .inl [((.ofNat (nat_lit 3)), (.ofNat (nat_lit 3)), (nat_lit 1))])
def lcn_1948 : Nat × aAg := ((nat_lit 6), .inl [((.ofNat (nat_lit 4)), (.ofNat (nat_lit 4)), (nat_lit 1))])
def lcn_1949 : Nat × aAg := ((nat_lit 6), .inl [((.ofNat (nat_lit 5)), (.ofNat (nat_lit 5)), (nat_lit 1))])
def lcn_1950 : Nat × aAg := ((nat_lit 6), .inl [((.ofNat (nat_lit 6)), (.ofNat (nat_lit 6)), (nat_lit 1))])
def lcn_1951 : Nat × aAg := ((nat_lit 6), .inl [((.ofNat (nat_lit 7)), (.ofNat (nat_lit 7)), (nat_lit 1))])
def lcn_1952 : Nat × aAg := ((nat_lit 6), .inl [((.ofNat (nat_lit 8)), (.ofNat (nat_lit 8)), (nat_lit 1))])
def lcn_1953 : Nat × aAg := ((nat_lit 6), .inl [((.ofNat (nat_lit 9)), (.ofNat (nat_lit 9)), (nat_lit 1))])
def lcn_1954 : Nat × aAg := ((nat_lit 6), .inl [((.ofNat (nat_lit 10)), (.ofNat (nat_lit 10)), (nat_lit 1))])
def lcn_1955 : Nat × aAg := ((nat_lit 6), .inl [((.ofNat (nat_lit 11)), (.ofNat (nat_lit 11)), (nat_lit 1))])
def lcn_1956 : Nat × aAg := ((nat_lit 6), .inl [((.ofNat (nat_lit 12)), (.ofNat (nat_lit 12)), (nat_lit 1))])
set_option maxRecDepth 100000 in
theorem btX12_layDays : bTab oX12_layDays tX12_layDays := ⟨ofX12_layDays, by decide +kernel⟩
def ct_1025 : aCt := (mX12_layDays, [ag_861, ag_361, ag_125, ag_1], ([], []), [pon_49], mdn_1943, [], (nat_lit 5))
set_option maxRecDepth 100000 in
theorem S_1025 : aSpec wd ct_1025 := bChk_ok wx_ok btX12_layDays (nds := [((nat_lit 3), [lcn_898, lcn_640, lcn_250, lcn_517, lcn_445], [], [], [], (183, [(3, -1)])), ((nat_lit 44), [lcn_898, lcn_640, lcn_250, lcn_517, lcn_445], [], [], [], (175, [(3, -22)])), ((nat_lit 61), [lcn_898, lcn_640, lcn_250, lcn_517, lcn_446, lcn_1944, lcn_369], [], [sl_1432], [], (174, [(3, -22), (5, -1)])), ((nat_lit 144), [lcn_898, lcn_640, lcn_250, lcn_517, lcn_446, lcn_993, lcn_596], [], [sl_1432], [], (166, [(3, -22)])), ((nat_lit 144), [lcn_898, lcn_640, lcn_250, lcn_517, lcn_446, lcn_993, lcn_1945], [], [sl_1432, sl_1829], [], (165, [(3, -22)])), ((nat_lit 144), [lcn_898, lcn_640, lcn_250, lcn_517, lcn_446, lcn_993, lcn_1946], [], [sl_1432, sl_1933], [], (164, [(3, -22)])), ((nat_lit 144), [lcn_898, lcn_640, lcn_250, lcn_517, lcn_446, lcn_993, lcn_1947], [], [sl_1432, sl_1934], [], (163, [(3, -22)])), ((nat_lit 144), [lcn_898, lcn_640, lcn_250, lcn_517, lcn_446, lcn_993, lcn_1948], [], [sl_1432, sl_1935], [], (162, [(3, -22)])), ((nat_lit 144), [lcn_898, lcn_640, lcn_250, lcn_517, lcn_446, lcn_993, lcn_1949], [], [sl_1432, sl_1936], [], (161, [(3, -22)])), ((nat_lit 144), [lcn_898, lcn_640, lcn_250, lcn_517, lcn_446, lcn_993, lcn_1950], [], [sl_1432, sl_1937], [], (160, [(3, -22)])), ((nat_lit 144), [lcn_898, lcn_640, lcn_250, lcn_517, lcn_446, lcn_993, lcn_1951], [], [sl_1432, sl_1938], [], (159, [(3, -22)])), ((nat_lit 144), [lcn_898, lcn_640, lcn_250, lcn_517, lcn_446, lcn_993, lcn_1952], [], [sl_1432, sl_1939], [], (158, [(3, -22)])), ((nat_lit 144), [lcn_898, lcn_640, lcn_250, lcn_517, lcn_446, lcn_993, lcn_1953], [], [sl_1432, sl_1940], [], (157, [(3, -22)])), ((nat_lit 144), [lcn_898, lcn_640, lcn_250, lcn_517, lcn_446, lcn_993, lcn_1954], [], [sl_1432, sl_1941], [], (156, [(3, -22)])), ((nat_lit 144), [lcn_898, lcn_640, lcn_250, lcn_517, lcn_446, lcn_993, lcn_1955], [], [sl_1432, sl_1942], [], (155, [(3, -22)])), ((nat_lit 144), [lcn_898, lcn_640, lcn_250, lcn_517, lcn_446, lcn_993, lcn_1956], [], [sl_1432, sl_1840], [], (154, [(3, -22)]))]) (fk := []) (rk := (184, [])) (sp := 22300745198530623141535720578508962905718792) (fuel := 3000) (by decide +kernel) (lk_d S_1024 ml_12_342 (lk_d S_1022 ml_12_342 (lk_d S_1020 ml_12_342 (lk_d S_1018 ml_12_342 (lk_d S_1016 ml_12_342 (lk_d S_1014 ml_12_342 (lk_d S_1012 ml_12_342 (lk_d S_1010 ml_12_342 (lk_d S_1008 ml_12_342 (lk_d S_1006 ml_12_342 (lk_d S_1004 ml_12_342 (lk_d S_1002 ml_12_342 (lk_d S_936 ml_12_302 lk_n))))))))))))) odX12_layDays
set_option maxRecDepth 100000 in
theorem btX12_arrivalOf : bTab oX12_arrivalOf tX12_arrivalOf := ⟨ofX12_arrivalOf, by decide +kernel⟩
def ct_1026 : aCt := (mX12_arrivalOf, [ag_861, ag_361, ag_125, ag_125, ag_1], ([], []), [pon_130, pon_52], mdn_1943, [], (nat_lit 6))
set_option maxRecDepth 100000 in
theorem S_1026 : aSpec wd ct_1026 := bChk_ok wx_ok btX12_arrivalOf (nds := []) (fk := []) (rk := (1, [])) (sp := 0) (fuel := 3000) (by decide +kernel) (lk_d S_1025 ml_12_349 lk_n) odX12_arrivalOf
def pon_1957 : aPo := (some (.inl aTop), [none, some [((.ofNat (nat_lit 0)), (.ofNat (nat_lit 4)), (nat_lit 1))], some [((.ofNat (nat_lit 0)), (.ofNat (nat_lit 6)), (nat_lit 1))], some [((.ofNat (nat_lit 0)), (.ofNat (nat_lit 6)), (nat_lit 1))], some [((.ofNat (nat_lit 0)), (.ofNat (nat_lit 9999)), (nat_lit 1))]], [sl_867, sl_1428, sl_1431, sl_1432, sl_1799], [])
def pon_1958 : aPo := (some (.inl [((.negSucc (nat_lit 1)), (.negSucc (nat_lit 1)), (nat_lit 1))]), [none, some [((.ofNat (nat_lit 0)), (.ofNat (nat_lit 4)), (nat_lit 1))], some [((.ofNat (nat_lit 0)), (.ofNat (nat_lit 6)), (nat_lit 1))], some [((.ofNat (nat_lit 0)), (.ofNat (nat_lit 6)), (nat_lit 1))], some [((.ofNat (nat_lit 0)), (.ofNat (nat_lit 9999)), (nat_lit 1))]], [sl_867, sl_1428, sl_1431, sl_1432, sl_1799], [])
def mdn_1959 : List (Nat × Nat × Nat) := [((nat_lit 196), (nat_lit 0), (nat_lit 1)), ((nat_lit 196), (nat_lit 11), (nat_lit 12)), ((nat_lit 205), (nat_lit 0), (nat_lit 7)), ((nat_lit 206), (nat_lit 0), (nat_lit 7))]
set_option maxRecDepth 100000 in
theorem btX12_arrival : bTab oX12_arrival tX12_arrival := ⟨ofX12_arrival, by decide +kernel⟩
def ct_1027 : aCt := (mX12_arrival, [ag_861, ag_1, ag_1, ag_1, ag_1], ([], []), [pon_1957, pon_1837, pon_1958], mdn_1959, [], (nat_lit 7))
set_option maxRecDepth 100000 in
theorem S_1027 : aSpec wd ct_1027 := bChk_ok wx_ok btX12_arrival (nds := []) (fk := []) (rk := (1, [])) (sp := 0) (fuel := 3000) (by decide +kernel) (lk_d S_447 ml_12_167 (lk_d S_449 ml_12_170 (lk_d S_908 ml_12_170 (lk_d S_906 ml_12_271 (lk_d S_1000 ml_12_277 (lk_d S_904 ml_12_268 (lk_d S_725 ml_12_149 (lk_d S_1026 ml_12_352 lk_n)))))))) odX12_arrival
def pon_1960 : aPo := (some (.inl [((.ofNat (nat_lit 1)), (.ofNat (nat_lit 1)), (nat_lit 1))]), [none, some [((.ofNat (nat_lit 0)), (.ofNat (nat_lit 7)), (nat_lit 1))]], [sl_1808], [])
def ct_1028 : aCt := (mX12_isBox, [ag_861, ag_1], ([sl_1428, sl_1431, sl_1432, sl_1799], []), [pon_37, pon_1960], [], [], (nat_lit 1))
set_option maxRecDepth 100000 in
theorem S_1028 : aSpec wd ct_1028 := bChk_ok wx_ok btX12_isBox (nds := []) (fk := []) (rk := (1, [])) (sp := 0) (fuel := 3000) (by decide +kernel) (lk_d S_910 ml_12_149 lk_n) odX12_isBox
def ct_1029 : aCt := (mX12_ofWhale, [ag_861, ag_217, ag_170], ([sl_1431, sl_1432, sl_1799, sl_1808], []), [pon_346], [], [], (nat_lit 0))
set_option maxRecDepth 100000 in
theorem S_1029 : aSpec wd ct_1029 := bChk_ok wx_ok btX12_ofWhale (nds := []) (fk := []) (rk := (1, [])) (sp := 0) (fuel := 3000) (by decide +kernel) lk_n odX12_ofWhale
def ct_1030 : aCt := (mX12_heardNow, [ag_861, ag_190], ([sl_1431, sl_1432, sl_1799, sl_1808], []), [pon_365, pon_52], [], [], (nat_lit 4))
set_option maxRecDepth 100000 in
theorem S_1030 : aSpec wd ct_1030 := bChk_ok wx_ok btX12_heardNow (nds := []) (fk := []) (rk := (1, [])) (sp := 0) (fuel := 3000) (by decide +kernel) (lk_d S_930 ml_12_291 lk_n) odX12_heardNow
def ct_1031 : aCt := (mX12_ofBox, [ag_861, ag_190, ag_22], ([sl_1431, sl_1432, sl_1799, sl_1808], []), [pon_130], [], [], (nat_lit 0))
set_option maxRecDepth 100000 in
theorem S_1031 : aSpec wd ct_1031 := bChk_ok wx_ok btX12_ofBox (nds := []) (fk := []) (rk := (1, [])) (sp := 0) (fuel := 3000) (by decide +kernel) lk_n odX12_ofBox
def ct_1032 : aCt := (mX12_ofBox, [ag_861, ag_190, ag_170], ([sl_1431, sl_1432, sl_1799, sl_1808], []), [pon_264], [], [], (nat_lit 0))
set_option maxRecDepth 100000 in
theorem S_1032 : aSpec wd ct_1032 := bChk_ok wx_ok btX12_ofBox (nds := []) (fk := []) (rk := (1, [])) (sp := 0) (fuel := 3000) (by decide +kernel) lk_n odX12_ofBox
def ct_1033 : aCt := (mX12_ofBox, [ag_861, ag_190, ag_122], ([sl_1431, sl_1432, sl_1799, sl_1808], []), [pon_130], [], [], (nat_lit 0))
set_option maxRecDepth 100000 in
theorem S_1033 : aSpec wd ct_1033 := bChk_ok wx_ok btX12_ofBox (nds := []) (fk := []) (rk := (1, [])) (sp := 0) (fuel := 3000) (by decide +kernel) lk_n odX12_ofBox
def ag_1961 : aAg := .inl [((.ofNat (nat_lit 0)), (.ofNat (nat_lit 2147483647)), (nat_lit 1))]
def pon_1962 : aPo := (some (.inl [((.ofNat (nat_lit 0)), (.ofNat (nat_lit 2147483647)), (nat_lit 1))]), [none, some aTop], [], [])
set_option maxRecDepth 100000 in
theorem btX12_later : bTab oX12_later tX12_later := ⟨ofX12_later, by decide +kernel⟩
def ct_1034 : aCt := (mX12_later, [ag_1961, ag_1], ([], []), [pon_1962], [], [], (nat_lit 0))
set_option maxRecDepth 100000 in
theorem S_1034 : aSpec wd ct_1034 := bChk_ok wx_ok btX12_later (nds := []) (fk := []) (rk := (1, [])) (sp := 0) (fuel := 3000) (by decide +kernel) lk_n odX12_later
def mdn_1963 : List (Nat × Nat × Nat) := [((nat_lit 196), (nat_lit 26), (nat_lit 28)), ((nat_lit 205), (nat_lit 0), (nat_lit 7)), ((nat_lit 206), (nat_lit 0), (nat_lit 7))]
set_option maxRecDepth 100000 in
theorem btX12_lays : bTab oX12_lays tX12_lays := ⟨ofX12_lays, by decide +kernel⟩
def ct_1035 : aCt := (mX12_lays, [ag_861, ag_217, ag_190], ([sl_1431, sl_1432, sl_1799, sl_1808], []), [pon_37, pon_38], mdn_1963, [], (nat_lit 7))
set_option maxRecDepth 100000 in
theorem S_1035 : aSpec wd ct_1035 := bChk_ok wx_ok btX12_lays (nds := []) (fk := []) (rk := (1, [])) (sp := 0) (fuel := 3000) (by decide +kernel) (lk_d S_1029 ml_12_271 (lk_d S_1030 ml_12_295 (lk_d S_1031 ml_12_262 (lk_d S_1032 ml_12_262 (lk_d S_1033 ml_12_262 (lk_d S_1026 ml_12_352 (lk_d S_1034 ml_12_355 lk_n))))))) odX12_lays
def ct_1036 : aCt := (mX12_ofWhale, [ag_861, ag_217, ag_22], ([sl_1431, sl_1432, sl_1799, sl_1808], []), [pon_130], [], [], (nat_lit 0))
set_option maxRecDepth 100000 in
theorem S_1036 : aSpec wd ct_1036 := bChk_ok wx_ok btX12_ofWhale (nds := []) (fk := []) (rk := (1, [])) (sp := 0) (fuel := 3000) (by decide +kernel) lk_n odX12_ofWhale
set_option maxRecDepth 100000 in
theorem btX12_bringsOf : bTab oX12_bringsOf tX12_bringsOf := ⟨ofX12_bringsOf, by decide +kernel⟩
def ct_1037 : aCt := (mX12_bringsOf, [ag_861, ag_217, ag_190], ([sl_1431, sl_1432, sl_1799, sl_1808], []), [pon_130, pon_52], mdn_1963, [], (nat_lit 8))
set_option maxRecDepth 100000 in
theorem S_1037 : aSpec wd ct_1037 := bChk_ok wx_ok btX12_bringsOf (nds := []) (fk := []) (rk := (1, [])) (sp := 0) (fuel := 3000) (by decide +kernel) (lk_d S_1036 ml_12_271 (lk_d S_1035 ml_12_364 lk_n)) odX12_bringsOf
def pon_1964 : aPo := (some (.inl aTop), [none, some [((.ofNat (nat_lit 0)), (.ofNat (nat_lit 4)), (nat_lit 1))], some [((.ofNat (nat_lit 0)), (.ofNat (nat_lit 7)), (nat_lit 1))]], [sl_867, sl_1428, sl_1431, sl_1432, sl_1799, sl_1808], [])
def pon_1965 : aPo := (some (.inl [((.negSucc (nat_lit 1)), (.negSucc (nat_lit 1)), (nat_lit 1))]), [none, some [((.ofNat (nat_lit 0)), (.ofNat (nat_lit 4)), (nat_lit 1))], some [((.ofNat (nat_lit 0)), (.ofNat (nat_lit 7)), (nat_lit 1))]], [sl_867, sl_1428, sl_1431, sl_1432, sl_1799, sl_1808], [])
def mdn_1966 : List (Nat × Nat × Nat) := [((nat_lit 196), (nat_lit 0), (nat_lit 1)), ((nat_lit 196), (nat_lit 11), (nat_lit 12)), ((nat_lit 196), (nat_lit 26), (nat_lit 28)), ((nat_lit 205), (nat_lit 0), (nat_lit 7)), ((nat_lit 206), (nat_lit 0), (nat_lit 7))]
set_option maxRecDepth 100000 in
theorem btX12_brings : bTab oX12_brings tX12_brings := ⟨ofX12_brings, by decide +kernel⟩
def ct_1038 : aCt := (mX12_brings, [ag_861, ag_1, ag_1], ([], []), [pon_1964, pon_1804, pon_1965], mdn_1966, [], (nat_lit 9))
set_option maxRecDepth 100000 in
theorem S_1038 : aSpec wd ct_1038 := bChk_ok wx_ok btX12_brings (nds := []) (fk := []) (rk := (1, [])) (sp := 0) (fuel := 3000) (by decide +kernel) (lk_d S_447 ml_12_167 (lk_d S_908 ml_12_170 (lk_d S_1037 ml_12_367 (lk_d S_1028 ml_12_274 (lk_d S_904 ml_12_268 lk_n))))) odX12_brings
def pon_1967 : aPo := (some (.inl [((.negSucc (nat_lit 1)), (.negSucc (nat_lit 1)), (nat_lit 1)), ((.ofNat (nat_lit 0)), (.ofNat (nat_lit 4)), (nat_lit 1))]), [], [sl_867, sl_1428, sl_1431, sl_1432, sl_1808], [])
set_option maxRecDepth 100000 in
theorem btX12_soonest : bTab oX12_soonest tX12_soonest := ⟨ofX12_soonest, by decide +kernel⟩
def ct_1039 : aCt := (mX12_soonest, [ag_861, ag_1], ([], []), [pon_1967, pon_1804], mdn_1966, [], (nat_lit 9))
set_option maxRecDepth 100000 in
theorem S_1039 : aSpec wd ct_1039 := bChk_ok wx_ok btX12_soonest (nds := [((nat_lit 23), [lcn_898, lcn_540, lcn_542, lcn_433], [], [sl_867, sl_1428, sl_1431, sl_1432, sl_1808], [], (5, [(2, -1)]))]) (fk := []) (rk := (6, [])) (sp := 8388608) (fuel := 3000) (by decide +kernel) (lk_d S_447 ml_12_167 (lk_d S_908 ml_12_170 (lk_d S_1037 ml_12_367 (lk_d S_911 ml_12_274 lk_n)))) odX12_soonest
def ct_1040 : aCt := (mX12_ofWhale, [ag_861, ag_217, ag_122], ([sl_1431, sl_1432, sl_1799, sl_1808], []), [pon_130], [], [], (nat_lit 0))
set_option maxRecDepth 100000 in
theorem S_1040 : aSpec wd ct_1040 := bChk_ok wx_ok btX12_ofWhale (nds := []) (fk := []) (rk := (1, [])) (sp := 0) (fuel := 3000) (by decide +kernel) lk_n odX12_ofWhale
def pon_1968 : aPo := (some (.inl [((.negSucc (nat_lit 1)), (.negSucc (nat_lit 1)), (nat_lit 1)), ((.ofNat (nat_lit 0)), (.ofNat (nat_lit 4)), (nat_lit 1))]), [], [], [])
def lcn_1969 : Nat × aAg := ((nat_lit 2), .inl [((.negSucc (nat_lit 0)), (.negSucc (nat_lit 0)), (nat_lit 1))])
set_option maxRecDepth 100000 in
theorem btX12_surestBut : bTab oX12_surestBut tX12_surestBut := ⟨ofX12_surestBut, by decide +kernel⟩
def ct_1041 : aCt := (mX12_surestBut, [ag_861, ag_190, ag_885], ([sl_1431, sl_1432, sl_1808], []), [pon_1968], mdn_1963, [], (nat_lit 9))
set_option maxRecDepth 100000 in
theorem S_1041 : aSpec wd ct_1041 := bChk_ok wx_ok btX12_surestBut (nds := [((nat_lit 6), [lcn_898, lcn_540, lcn_1969, lcn_555, lcn_447], [], [sl_1431, sl_1432, sl_1808], [], (5, [(2, -1)]))]) (fk := []) (rk := (6, [])) (sp := 64) (fuel := 3000) (by decide +kernel) (lk_d S_1040 ml_12_271 (lk_d S_1037 ml_12_367 lk_n)) odX12_surestBut
def pon_1970 : aPo := (some (.inl [((.negSucc (nat_lit 1)), (.negSucc (nat_lit 1)), (nat_lit 1)), ((.ofNat (nat_lit 0)), (.ofNat (nat_lit 4)), (nat_lit 1))]), [none, some [((.ofNat (nat_lit 0)), (.ofNat (nat_lit 7)), (nat_lit 1))]], [sl_867, sl_1428, sl_1431, sl_1432, sl_1808], [])
set_option maxRecDepth 100000 in
theorem btX12_surest : bTab oX12_surest tX12_surest := ⟨ofX12_surest, by decide +kernel⟩
def ct_1042 : aCt := (mX12_surest, [ag_861, ag_1], ([], []), [pon_1970, pon_1804], mdn_1966, [], (nat_lit 10))
set_option maxRecDepth 100000 in
theorem S_1042 : aSpec wd ct_1042 := bChk_ok wx_ok btX12_surest (nds := []) (fk := []) (rk := (1, [])) (sp := 0) (fuel := 3000) (by decide +kernel) (lk_d S_447 ml_12_167 (lk_d S_908 ml_12_170 (lk_d S_1041 ml_12_370 (lk_d S_911 ml_12_274 lk_n)))) odX12_surest
def ag_1971 : aAg := .inl [((.negSucc (nat_lit 1)), (.negSucc (nat_lit 1)), (nat_lit 1))]
def ct_1043 : aCt := (mX12_in, [ag_1971, ag_170, ag_560], ([], []), [pon_37], mdn_872, [], (nat_lit 0))
set_option maxRecDepth 100000 in
theorem S_1043 : aSpec wd ct_1043 := bChk_ok wx_ok btX12_in (nds := []) (fk := []) (rk := (1, [])) (sp := 0) (fuel := 3000) (by decide +kernel) lk_n odX12_in
end Pk0
section Pk1
def ct_1044 : aCt := (mX12_in, [ag_1, ag_170, ag_560], ([], []), [pon_870, pon_1834], mdn_872, [], (nat_lit 0))
set_option maxRecDepth 100000 in
theorem S_1044 : aSpec wd ct_1044 := bChk_ok wx_ok btX12_in (nds := []) (fk := []) (rk := (1, [])) (sp := 0) (fuel := 3000) (by decide +kernel) lk_n odX12_in
def pon_1972 : aPo := (some (.inl [((.ofNat (nat_lit 0)), (.ofNat (nat_lit 31)), (nat_lit 1))]), [], [sl_867, sl_1428, sl_1431, sl_1432, sl_1808], [])
set_option maxRecDepth 100000 in
theorem btX12_by : bTab oX12_by tX12_by := ⟨ofX12_by, by decide +kernel⟩
def ct_1045 : aCt := (mX12_by, [ag_861, ag_1, ag_1], ([], []), [pon_1972, pon_1837], mdn_1966, [], (nat_lit 9))
set_option maxRecDepth 100000 in
theorem S_1045 : aSpec wd ct_1045 := bChk_ok wx_ok btX12_by (nds := [((nat_lit 40), [lcn_898, lcn_540, lcn_563, lcn_564, lcn_447], [], [sl_867, sl_1428, sl_1431, sl_1432, sl_1808], [], (5, [(3, -1)]))]) (fk := []) (rk := (6, [])) (sp := 1099511627776) (fuel := 3000) (by decide +kernel) (lk_d S_447 ml_12_167 (lk_d S_449 ml_12_170 (lk_d S_908 ml_12_170 (lk_d S_1037 ml_12_367 (lk_d S_1043 ml_12_149 (lk_d S_911 ml_12_274 (lk_d S_939 ml_12_149 (lk_d S_1044 ml_12_149 lk_n)))))))) odX12_by
def sl_1973 : (Nat × Nat) × aI := (((nat_lit 196), (nat_lit 11)), [((.ofNat (nat_lit 6)), (.ofNat (nat_lit 6)), (nat_lit 1))])
def pon_1974 : aPo := (some (.inl [((.negSucc (nat_lit 0)), (.negSucc (nat_lit 0)), (nat_lit 1))]), [], [sl_1973], [])
def ct_1046 : aCt := (mX12_no, [ag_861, ag_153], ([sl_867], []), [pon_1974], mdn_875, [], (nat_lit 0))
set_option maxRecDepth 100000 in
theorem S_1046 : aSpec wd ct_1046 := bChk_ok wx_ok btX12_no (nds := []) (fk := []) (rk := (1, [])) (sp := 0) (fuel := 3000) (by decide +kernel) lk_n odX12_no
def ct_1047 : aCt := (mX12_surestBut, [ag_861, ag_190, ag_217], ([sl_1431, sl_1432, sl_1808], []), [pon_1968], mdn_1963, [], (nat_lit 9))
set_option maxRecDepth 100000 in
theorem S_1047 : aSpec wd ct_1047 := bChk_ok wx_ok btX12_surestBut (nds := [((nat_lit 6), [lcn_898, lcn_540, lcn_612, lcn_555, lcn_447], [], [sl_1431, sl_1432, sl_1808], [], (5, [(3, -1)]))]) (fk := []) (rk := (6, [])) (sp := 64) (fuel := 3000) (by decide +kernel) (lk_d S_1040 ml_12_271 (lk_d S_1037 ml_12_367 lk_n)) odX12_surestBut
def ct_1048 : aCt := (mX12_ofWhale, [ag_861, ag_217, ag_122], ([sl_1431, sl_1432, sl_1808], []), [pon_130], [], [], (nat_lit 0))
set_option maxRecDepth 100000 in
theorem S_1048 : aSpec wd ct_1048 := bChk_ok wx_ok btX12_ofWhale (nds := []) (fk := []) (rk := (1, [])) (sp := 0) (fuel := 3000) (by decide +kernel) lk_n odX12_ofWhale
def sl_1975 : (Nat × Nat) × aI := (((nat_lit 196), (nat_lit 11)), [((.ofNat (nat_lit 0)), (.ofNat (nat_lit 1)), (nat_lit 1)), ((.ofNat (nat_lit 6)), (.ofNat (nat_lit 6)), (nat_lit 1))])
def pon_1976 : aPo := (some (.inr ()), [], [sl_1975], [])
set_option maxRecDepth 100000 in
theorem btX12_registered : bTab oX12_registered tX12_registered := ⟨ofX12_registered, by decide +kernel⟩
def ct_1049 : aCt := (mX12_registered, [ag_861, ag_1, ag_535], ([], []), [pon_1976], mdn_1966, [], (nat_lit 10))
set_option maxRecDepth 100000 in
theorem S_1049 : aSpec wd ct_1049 := bChk_ok wx_ok btX12_registered (nds := []) (fk := []) (rk := (1, [])) (sp := 0) (fuel := 3000) (by decide +kernel) (lk_d S_447 ml_12_167 (lk_d S_1046 ml_12_170 (lk_d S_908 ml_12_170 (lk_d S_X12_lowest_0 ml_12_375 (lk_d S_1048 ml_12_271 (lk_d S_1041 ml_12_370 (lk_d S_1047 ml_12_370 (lk_d S_911 ml_12_274 lk_n)))))))) odX12_registered
def sl_1977 : (Nat × Nat) × aI := (((nat_lit 199), (nat_lit 7)), [((.ofNat (nat_lit 8)), (.ofNat (nat_lit 8)), (nat_lit 1))])
def mdn_1978 : List (Nat × Nat × Nat) := [((nat_lit 196), (nat_lit 31), (nat_lit 33)), ((nat_lit 208), (nat_lit 0), (nat_lit 8))]
set_option maxRecDepth 100000 in
theorem btX12_tryMatch : bTab oX12_tryMatch tX12_tryMatch := ⟨ofX12_tryMatch, by decide +kernel⟩
def ct_1050 : aCt := (mX12_tryMatch, [ag_861, ag_1849, ag_605, ag_1, ag_1], ([sl_1977], []), [pon_49], mdn_1978, [], (nat_lit 2))
set_option maxRecDepth 100000 in
theorem S_1050 : aSpec wd ct_1050 := bChk_ok wx_ok btX12_tryMatch (nds := []) (fk := []) (rk := (1, [])) (sp := 0) (fuel := 3000) (by decide +kernel) (lk_d S_X12_copy_24 ml_12_176 lk_n) odX12_tryMatch
def sl_1979 : (Nat × Nat) × aI := (((nat_lit 199), (nat_lit 7)), [((.ofNat (nat_lit 7)), (.ofNat (nat_lit 8)), (nat_lit 1))])
def mdn_1980 : List (Nat × Nat × Nat) := [((nat_lit 196), (nat_lit 31), (nat_lit 33)), ((nat_lit 207), (nat_lit 7), (nat_lit 8)), ((nat_lit 208), (nat_lit 0), (nat_lit 8))]
def lcn_1981 : Nat × aAg := ((nat_lit 1), .inl [((.ofNat (nat_lit 7)), (.ofNat (nat_lit 7)), (nat_lit 1))])
def lcn_1982 : Nat × aAg := ((nat_lit 2), .inl [((.ofNat (nat_lit 0)), (.ofNat (nat_lit 31)), (nat_lit 1))])
def ct_1051 : aCt := (mX12_tryMatch, [ag_861, ag_133, ag_605, ag_1, ag_1], ([sl_1979], []), [pon_49], mdn_1980, [], (nat_lit 3))
set_option maxRecDepth 100000 in
theorem S_1051 : aSpec wd ct_1051 := bChk_ok wx_ok btX12_tryMatch (nds := [((nat_lit 66), [lcn_898, lcn_1981, lcn_1982, lcn_517, lcn_351, lcn_1037], [], [sl_1977], [], (5, [(3, -1)]))]) (fk := []) (rk := (6, [])) (sp := 73786976294838206464) (fuel := 3000) (by decide +kernel) (lk_d S_X12_copy_23 ml_12_176 (lk_d S_935 ml_12_298 (lk_d S_1050 ml_12_385 lk_n))) odX12_tryMatch
def sl_1983 : (Nat × Nat) × aI := (((nat_lit 199), (nat_lit 7)), [((.ofNat (nat_lit 6)), (.ofNat (nat_lit 8)), (nat_lit 1))])
def mdn_1984 : List (Nat × Nat × Nat) := [((nat_lit 196), (nat_lit 31), (nat_lit 33)), ((nat_lit 207), (nat_lit 6), (nat_lit 8)), ((nat_lit 208), (nat_lit 0), (nat_lit 8))]
def ct_1052 : aCt := (mX12_tryMatch, [ag_861, ag_153, ag_605, ag_1, ag_1], ([sl_1983], []), [pon_49], mdn_1984, [], (nat_lit 4))
set_option maxRecDepth 100000 in
theorem S_1052 : aSpec wd ct_1052 := bChk_ok wx_ok btX12_tryMatch (nds := [((nat_lit 66), [lcn_898, lcn_979, lcn_1982, lcn_517, lcn_351, lcn_1037], [], [sl_1979], [], (5, [(3, -1)]))]) (fk := []) (rk := (6, [])) (sp := 73786976294838206464) (fuel := 3000) (by decide +kernel) (lk_d S_X12_copy_22 ml_12_176 (lk_d S_935 ml_12_298 (lk_d S_1051 ml_12_385 lk_n))) odX12_tryMatch
def sl_1985 : (Nat × Nat) × aI := (((nat_lit 199), (nat_lit 7)), [((.ofNat (nat_lit 5)), (.ofNat (nat_lit 8)), (nat_lit 1))])
def mdn_1986 : List (Nat × Nat × Nat) := [((nat_lit 196), (nat_lit 31), (nat_lit 33)), ((nat_lit 207), (nat_lit 5), (nat_lit 8)), ((nat_lit 208), (nat_lit 0), (nat_lit 8))]
def ct_1053 : aCt := (mX12_tryMatch, [ag_861, ag_150, ag_605, ag_1, ag_1], ([sl_1985], []), [pon_49], mdn_1986, [], (nat_lit 5))
set_option maxRecDepth 100000 in
theorem S_1053 : aSpec wd ct_1053 := bChk_ok wx_ok btX12_tryMatch (nds := [((nat_lit 66), [lcn_898, lcn_978, lcn_1982, lcn_517, lcn_351, lcn_1037], [], [sl_1983], [], (5, [(3, -1)]))]) (fk := []) (rk := (6, [])) (sp := 73786976294838206464) (fuel := 3000) (by decide +kernel) (lk_d S_X12_copy_21 ml_12_176 (lk_d S_935 ml_12_298 (lk_d S_1052 ml_12_385 lk_n))) odX12_tryMatch
def sl_1987 : (Nat × Nat) × aI := (((nat_lit 199), (nat_lit 7)), [((.ofNat (nat_lit 4)), (.ofNat (nat_lit 8)), (nat_lit 1))])
def mdn_1988 : List (Nat × Nat × Nat) := [((nat_lit 196), (nat_lit 31), (nat_lit 33)), ((nat_lit 207), (nat_lit 4), (nat_lit 8)), ((nat_lit 208), (nat_lit 0), (nat_lit 8))]
def ct_1054 : aCt := (mX12_tryMatch, [ag_861, ag_159, ag_605, ag_1, ag_1], ([sl_1987], []), [pon_49], mdn_1988, [], (nat_lit 6))
set_option maxRecDepth 100000 in
theorem S_1054 : aSpec wd ct_1054 := bChk_ok wx_ok btX12_tryMatch (nds := [((nat_lit 66), [lcn_898, lcn_977, lcn_1982, lcn_517, lcn_351, lcn_1037], [], [sl_1985], [], (5, [(3, -1)]))]) (fk := []) (rk := (6, [])) (sp := 73786976294838206464) (fuel := 3000) (by decide +kernel) (lk_d S_X12_copy_20 ml_12_176 (lk_d S_935 ml_12_298 (lk_d S_1053 ml_12_385 lk_n))) odX12_tryMatch
def sl_1989 : (Nat × Nat) × aI := (((nat_lit 199), (nat_lit 7)), [((.ofNat (nat_lit 3)), (.ofNat (nat_lit 8)), (nat_lit 1))])
def mdn_1990 : List (Nat × Nat × Nat) := [((nat_lit 196), (nat_lit 31), (nat_lit 33)), ((nat_lit 207), (nat_lit 3), (nat_lit 8)), ((nat_lit 208), (nat_lit 0), (nat_lit 8))]
def ct_1055 : aCt := (mX12_tryMatch, [ag_861, ag_122, ag_605, ag_1, ag_1], ([sl_1989], []), [pon_49], mdn_1990, [], (nat_lit 7))
set_option maxRecDepth 100000 in
theorem S_1055 : aSpec wd ct_1055 := bChk_ok wx_ok btX12_tryMatch (nds := [((nat_lit 66), [lcn_898, lcn_976, lcn_1982, lcn_517, lcn_351, lcn_1037], [], [sl_1987], [], (5, [(3, -1)]))]) (fk := []) (rk := (6, [])) (sp := 73786976294838206464) (fuel := 3000) (by decide +kernel) (lk_d S_X12_copy_19 ml_12_176 (lk_d S_935 ml_12_298 (lk_d S_1054 ml_12_385 lk_n))) odX12_tryMatch
def sl_1991 : (Nat × Nat) × aI := (((nat_lit 199), (nat_lit 7)), [((.ofNat (nat_lit 2)), (.ofNat (nat_lit 8)), (nat_lit 1))])
def mdn_1992 : List (Nat × Nat × Nat) := [((nat_lit 196), (nat_lit 31), (nat_lit 33)), ((nat_lit 207), (nat_lit 2), (nat_lit 8)), ((nat_lit 208), (nat_lit 0), (nat_lit 8))]
def ct_1056 : aCt := (mX12_tryMatch, [ag_861, ag_22, ag_605, ag_1, ag_1], ([sl_1991], []), [pon_49], mdn_1992, [], (nat_lit 8))
set_option maxRecDepth 100000 in
theorem S_1056 : aSpec wd ct_1056 := bChk_ok wx_ok btX12_tryMatch (nds := [((nat_lit 66), [lcn_898, lcn_167, lcn_1982, lcn_517, lcn_351, lcn_1037], [], [sl_1989], [], (5, [(3, -1)]))]) (fk := []) (rk := (6, [])) (sp := 73786976294838206464) (fuel := 3000) (by decide +kernel) (lk_d S_X12_copy_18 ml_12_176 (lk_d S_935 ml_12_298 (lk_d S_1055 ml_12_385 lk_n))) odX12_tryMatch
def mdn_1993 : List (Nat × Nat × Nat) := [((nat_lit 196), (nat_lit 31), (nat_lit 33)), ((nat_lit 207), (nat_lit 1), (nat_lit 8)), ((nat_lit 208), (nat_lit 0), (nat_lit 8))]
def ct_1057 : aCt := (mX12_tryMatch, [ag_861, ag_53, ag_605, ag_1, ag_1], ([sl_1808], []), [pon_49], mdn_1993, [], (nat_lit 9))
set_option maxRecDepth 100000 in
theorem S_1057 : aSpec wd ct_1057 := bChk_ok wx_ok btX12_tryMatch (nds := [((nat_lit 66), [lcn_898, lcn_202, lcn_1982, lcn_517, lcn_351, lcn_1037], [], [sl_1991], [], (5, [(3, -1)]))]) (fk := []) (rk := (6, [])) (sp := 73786976294838206464) (fuel := 3000) (by decide +kernel) (lk_d S_X12_copy_17 ml_12_176 (lk_d S_935 ml_12_298 (lk_d S_1056 ml_12_385 lk_n))) odX12_tryMatch
def mdn_1994 : List (Nat × Nat × Nat) := [((nat_lit 196), (nat_lit 31), (nat_lit 33)), ((nat_lit 207), (nat_lit 0), (nat_lit 8)), ((nat_lit 208), (nat_lit 0), (nat_lit 8))]
def ct_1058 : aCt := (mX12_tryMatch, [ag_861, ag_170, ag_605, ag_1, ag_1], ([], []), [pon_49], mdn_1994, [], (nat_lit 10))
set_option maxRecDepth 100000 in
theorem S_1058 : aSpec wd ct_1058 := bChk_ok wx_ok btX12_tryMatch (nds := [((nat_lit 66), [lcn_898, lcn_175, lcn_1982, lcn_517, lcn_351, lcn_1037], [], [sl_1808], [], (5, [(3, -1)]))]) (fk := []) (rk := (6, [])) (sp := 73786976294838206464) (fuel := 3000) (by decide +kernel) (lk_d S_X12_copy_16 ml_12_176 (lk_d S_935 ml_12_298 (lk_d S_1057 ml_12_385 lk_n))) odX12_tryMatch
def mdn_1995 : List (Nat × Nat × Nat) := [((nat_lit 196), (nat_lit 26), (nat_lit 28)), ((nat_lit 196), (nat_lit 31), (nat_lit 33)), ((nat_lit 205), (nat_lit 0), (nat_lit 7)), ((nat_lit 206), (nat_lit 0), (nat_lit 7)), ((nat_lit 207), (nat_lit 0), (nat_lit 8)), ((nat_lit 208), (nat_lit 0), (nat_lit 8)), ((nat_lit 209), (nat_lit 0), (nat_lit 40))]
def lcn_1996 : Nat × aAg := ((nat_lit 1), .inl [((.ofNat (nat_lit 0)), (.ofNat (nat_lit 8)), (nat_lit 1))])
set_option maxRecDepth 100000 in
theorem btX12_seekMatch : bTab oX12_seekMatch tX12_seekMatch := ⟨ofX12_seekMatch, by decide +kernel⟩
def ct_1059 : aCt := (mX12_seekMatch, [ag_861], ([sl_1431, sl_1432], []), [pon_49], mdn_1995, [], (nat_lit 11))
set_option maxRecDepth 100000 in
theorem S_1059 : aSpec wd ct_1059 := bChk_ok wx_ok btX12_seekMatch (nds := [((nat_lit 2), [lcn_898, lcn_1996], [], [sl_1431, sl_1432], [], (62, [(0, -7)])), ((nat_lit 15), [lcn_898, lcn_540, lcn_293], [], [sl_1431, sl_1432, sl_1808], [], (61, [(0, -7), (1, -1)]))]) (fk := []) (rk := (63, [])) (sp := 32772) (fuel := 3000) (by decide +kernel) (lk_d S_1037 ml_12_367 (lk_d S_1058 ml_12_385 lk_n)) odX12_seekMatch
def mdn_1997 : List (Nat × Nat × Nat) := [((nat_lit 196), (nat_lit 0), (nat_lit 1)), ((nat_lit 196), (nat_lit 11), (nat_lit 12)), ((nat_lit 196), (nat_lit 26), (nat_lit 28)), ((nat_lit 196), (nat_lit 31), (nat_lit 33)), ((nat_lit 205), (nat_lit 0), (nat_lit 7)), ((nat_lit 206), (nat_lit 0), (nat_lit 7)), ((nat_lit 207), (nat_lit 0), (nat_lit 8)), ((nat_lit 208), (nat_lit 0), (nat_lit 8)), ((nat_lit 209), (nat_lit 0), (nat_lit 40))]
set_option maxRecDepth 100000 in
theorem btX12_match : bTab oX12_match tX12_match := ⟨ofX12_match, by decide +kernel⟩
def ct_1060 : aCt := (mX12_match, [ag_861], ([], []), [pon_1868, pon_1872], mdn_1997, [], (nat_lit 12))
set_option maxRecDepth 100000 in
theorem S_1060 : aSpec wd ct_1060 := bChk_ok wx_ok btX12_match (nds := []) (fk := []) (rk := (1, [])) (sp := 0) (fuel := 3000) (by decide +kernel) (lk_d S_1059 ml_12_389 (lk_d S_447 ml_12_167 (lk_d S_908 ml_12_170 lk_n))) odX12_match
set_option maxRecDepth 100000 in
theorem btX12_matchDays : bTab oX12_matchDays tX12_matchDays := ⟨ofX12_matchDays, by decide +kernel⟩
def ct_1061 : aCt := (mX12_matchDays, [ag_861], ([], []), [pon_1868, pon_1872], mdn_1997, [], (nat_lit 12))
set_option maxRecDepth 100000 in
theorem S_1061 : aSpec wd ct_1061 := bChk_ok wx_ok btX12_matchDays (nds := []) (fk := []) (rk := (1, [])) (sp := 0) (fuel := 3000) (by decide +kernel) (lk_d S_1059 ml_12_389 (lk_d S_447 ml_12_167 (lk_d S_908 ml_12_170 lk_n))) odX12_matchDays
def ct_1062 : aCt := (mX12_tryMatch, [ag_861, ag_170, ag_605, ag_1, ag_1], ([sl_1808], []), [pon_49], mdn_1994, [], (nat_lit 10))
set_option maxRecDepth 100000 in
theorem S_1062 : aSpec wd ct_1062 := bChk_ok wx_ok btX12_tryMatch (nds := [((nat_lit 66), [lcn_898, lcn_175, lcn_1982, lcn_517, lcn_351, lcn_1037], [], [sl_1808], [], (5, [(3, -1)]))]) (fk := []) (rk := (6, [])) (sp := 73786976294838206464) (fuel := 3000) (by decide +kernel) (lk_d S_935 ml_12_298 (lk_d S_1057 ml_12_385 lk_n)) odX12_tryMatch
def ct_1063 : aCt := (mX12_seekMatch, [ag_861], ([sl_1431, sl_1432, sl_1808], []), [pon_49], mdn_1995, [], (nat_lit 11))
set_option maxRecDepth 100000 in
theorem S_1063 : aSpec wd ct_1063 := bChk_ok wx_ok btX12_seekMatch (nds := [((nat_lit 2), [lcn_898, lcn_1996], [], [sl_1431, sl_1432, sl_1808], [], (62, [(0, -7)])), ((nat_lit 15), [lcn_898, lcn_540, lcn_293], [], [sl_1431, sl_1432, sl_1808], [], (61, [(0, -7), (1, -1)]))]) (fk := []) (rk := (63, [])) (sp := 32772) (fuel := 3000) (by decide +kernel) (lk_d S_1037 ml_12_367 (lk_d S_1062 ml_12_385 lk_n)) odX12_seekMatch
set_option maxRecDepth 100000 in
theorem btX12_matchOf : bTab oX12_matchOf tX12_matchOf := ⟨ofX12_matchOf, by decide +kernel⟩
def ct_1064 : aCt := (mX12_matchOf, [ag_861, ag_1], ([], []), [pon_1927, pon_1804], mdn_1997, [], (nat_lit 12))
set_option maxRecDepth 100000 in
theorem S_1064 : aSpec wd ct_1064 := bChk_ok wx_ok btX12_matchOf (nds := []) (fk := []) (rk := (1, [])) (sp := 0) (fuel := 3000) (by decide +kernel) (lk_d S_1063 ml_12_389 (lk_d S_447 ml_12_167 (lk_d S_908 ml_12_170 (lk_d S_911 ml_12_274 lk_n)))) odX12_matchOf
def ct_1065 : aCt := (mX12_in, [ag_1, ag_170, ag_190], ([], []), [pon_870, pon_1854], mdn_872, [], (nat_lit 0))
set_option maxRecDepth 100000 in
theorem S_1065 : aSpec wd ct_1065 := bChk_ok wx_ok btX12_in (nds := []) (fk := []) (rk := (1, [])) (sp := 0) (fuel := 3000) (by decide +kernel) lk_n odX12_in
def ct_1066 : aCt := (mX12_isBox, [ag_861, ag_1], ([sl_1428, sl_1431, sl_1432, sl_1808], []), [pon_37, pon_619], [], [], (nat_lit 1))
set_option maxRecDepth 100000 in
theorem S_1066 : aSpec wd ct_1066 := bChk_ok wx_ok btX12_isBox (nds := []) (fk := []) (rk := (1, [])) (sp := 0) (fuel := 3000) (by decide +kernel) (lk_d S_1065 ml_12_149 lk_n) odX12_isBox
def pon_1998 : aPo := (some (.inl [((.ofNat (nat_lit 1)), (.ofNat (nat_lit 1)), (nat_lit 1))]), [none, some [((.ofNat (nat_lit 0)), (.ofNat (nat_lit 4)), (nat_lit 1))]], [sl_1799], [])
def ct_1067 : aCt := (mX12_isWhale, [ag_861, ag_1], ([sl_1428, sl_1431, sl_1432, sl_1808], []), [pon_37, pon_1998], [], [], (nat_lit 1))
set_option maxRecDepth 100000 in
theorem S_1067 : aSpec wd ct_1067 := bChk_ok wx_ok btX12_isWhale (nds := []) (fk := []) (rk := (1, [])) (sp := 0) (fuel := 3000) (by decide +kernel) (lk_d S_903 ml_12_149 lk_n) odX12_isWhale
def ct_1068 : aCt := (mX12_in, [ag_1, ag_170, ag_217], ([], []), [pon_870, pon_1369], mdn_872, [], (nat_lit 0))
set_option maxRecDepth 100000 in
theorem S_1068 : aSpec wd ct_1068 := bChk_ok wx_ok btX12_in (nds := []) (fk := []) (rk := (1, [])) (sp := 0) (fuel := 3000) (by decide +kernel) lk_n odX12_in
def ct_1069 : aCt := (mX12_isWhale, [ag_861, ag_1], ([sl_1428, sl_1431, sl_1432, sl_1799, sl_1808], []), [pon_37, pon_621], [], [], (nat_lit 1))
set_option maxRecDepth 100000 in
theorem S_1069 : aSpec wd ct_1069 := bChk_ok wx_ok btX12_isWhale (nds := []) (fk := []) (rk := (1, [])) (sp := 0) (fuel := 3000) (by decide +kernel) (lk_d S_1068 ml_12_149 lk_n) odX12_isWhale
def ct_1070 : aCt := (mX12_later, [ag_1, ag_1], ([], []), [pon_130], [], [], (nat_lit 0))
set_option maxRecDepth 100000 in
theorem S_1070 : aSpec wd ct_1070 := bChk_ok wx_ok btX12_later (nds := []) (fk := []) (rk := (1, [])) (sp := 0) (fuel := 3000) (by decide +kernel) lk_n odX12_later
def pon_1999 : aPo := (some (.inl [((.negSucc (nat_lit 2147483647)), (.ofNat (nat_lit 2147483646)), (nat_lit 1))]), [none, some [((.ofNat (nat_lit 0)), (.ofNat (nat_lit 7)), (nat_lit 1))], some [((.ofNat (nat_lit 0)), (.ofNat (nat_lit 4)), (nat_lit 1))], some [((.ofNat (nat_lit 0)), (.ofNat (nat_lit 7)), (nat_lit 1))], some [((.ofNat (nat_lit 0)), (.ofNat (nat_lit 4)), (nat_lit 1))]], [sl_867, sl_1428, sl_1431, sl_1432, sl_1799, sl_1808], [])
def pon_2000 : aPo := (some (.inl [((.negSucc (nat_lit 1)), (.negSucc (nat_lit 1)), (nat_lit 1))]), [none, some [((.ofNat (nat_lit 0)), (.ofNat (nat_lit 7)), (nat_lit 1))], some [((.ofNat (nat_lit 0)), (.ofNat (nat_lit 4)), (nat_lit 1))], some [((.ofNat (nat_lit 0)), (.ofNat (nat_lit 7)), (nat_lit 1))], some [((.ofNat (nat_lit 0)), (.ofNat (nat_lit 4)), (nat_lit 1))]], [sl_867, sl_1428, sl_1431, sl_1432, sl_1799, sl_1808], [])
set_option maxRecDepth 100000 in
theorem btX12_meet : bTab oX12_meet tX12_meet := ⟨ofX12_meet, by decide +kernel⟩
def ct_1071 : aCt := (mX12_meet, [ag_861, ag_1, ag_1, ag_1, ag_1], ([], []), [pon_1999, pon_1804, pon_2000], mdn_1966, [], (nat_lit 8))
set_option maxRecDepth 100000 in
theorem S_1071 : aSpec wd ct_1071 := bChk_ok wx_ok btX12_meet (nds := []) (fk := []) (rk := (1, [])) (sp := 0) (fuel := 3000) (by decide +kernel) (lk_d S_447 ml_12_167 (lk_d S_908 ml_12_170 (lk_d S_1030 ml_12_295 (lk_d S_1032 ml_12_262 (lk_d S_1035 ml_12_364 (lk_d S_1069 ml_12_268 (lk_d S_1066 ml_12_274 (lk_d S_1067 ml_12_268 (lk_d S_911 ml_12_274 (lk_d S_1070 ml_12_355 lk_n)))))))))) odX12_meet
def ct_1072 : aCt := (mX12_ofWhale, [ag_861, ag_217, ag_53], ([sl_1431, sl_1432, sl_1799], []), [pon_264], [], [], (nat_lit 0))
set_option maxRecDepth 100000 in
theorem S_1072 : aSpec wd ct_1072 := bChk_ok wx_ok btX12_ofWhale (nds := []) (fk := []) (rk := (1, [])) (sp := 0) (fuel := 3000) (by decide +kernel) lk_n odX12_ofWhale
def sl_2001 : (Nat × Nat) × aI := (((nat_lit 199), (nat_lit 8)), [((.ofNat (nat_lit 1)), (.ofNat (nat_lit 8)), (nat_lit 1))])
def ct_1073 : aCt := (mX12_ofWhale, [ag_861, ag_217, ag_170], ([sl_1431, sl_1432, sl_1799, sl_2001], []), [pon_346], [], [], (nat_lit 0))
set_option maxRecDepth 100000 in
theorem S_1073 : aSpec wd ct_1073 := bChk_ok wx_ok btX12_ofWhale (nds := []) (fk := []) (rk := (1, [])) (sp := 0) (fuel := 3000) (by decide +kernel) lk_n odX12_ofWhale
def ct_1074 : aCt := (mX12_in, [ag_1971, ag_170, ag_1], ([], []), [pon_37], mdn_872, [], (nat_lit 0))
set_option maxRecDepth 100000 in
theorem S_1074 : aSpec wd ct_1074 := bChk_ok wx_ok btX12_in (nds := []) (fk := []) (rk := (1, [])) (sp := 0) (fuel := 3000) (by decide +kernel) lk_n odX12_in
def pon_2002 : aPo := (some (.inl [((.ofNat (nat_lit 1)), (.ofNat (nat_lit 1)), (nat_lit 1))]), [some [((.ofNat (nat_lit 0)), (.ofNat (nat_lit 2147483647)), (nat_lit 1))], none, some [((.ofNat (nat_lit 0)), (.ofNat (nat_lit 2147483647)), (nat_lit 1))]], [], [])
def ct_1075 : aCt := (mX12_in, [ag_1, ag_170, ag_1], ([], []), [pon_1198, pon_2002], mdn_872, [], (nat_lit 0))
set_option maxRecDepth 100000 in
theorem S_1075 : aSpec wd ct_1075 := bChk_ok wx_ok btX12_in (nds := []) (fk := []) (rk := (1, [])) (sp := 0) (fuel := 3000) (by decide +kernel) lk_n odX12_in
def mdn_2003 : List (Nat × Nat × Nat) := [((nat_lit 196), (nat_lit 33), (nat_lit 35)), ((nat_lit 205), (nat_lit 0), (nat_lit 7)), ((nat_lit 206), (nat_lit 0), (nat_lit 7))]
set_option maxRecDepth 100000 in
theorem btX12_fitsAll : bTab oX12_fitsAll tX12_fitsAll := ⟨ofX12_fitsAll, by decide +kernel⟩
def ct_1076 : aCt := (mX12_fitsAll, [ag_861, ag_217], ([sl_1431, sl_1432, sl_1799], []), [pon_453], mdn_2003, [], (nat_lit 7))
set_option maxRecDepth 100000 in
theorem S_1076 : aSpec wd ct_1076 := bChk_ok wx_ok btX12_fitsAll (nds := [((nat_lit 19), [lcn_898, lcn_265, lcn_615, lcn_408], [], [sl_1431, sl_1432, sl_1799], [], (8, [(1, 9), (2, -1)]))]) (fk := []) (rk := (18, [])) (sp := 524288) (fuel := 3000) (by decide +kernel) (lk_d S_1073 ml_12_271 (lk_d S_1072 ml_12_271 (lk_d S_1074 ml_12_149 (lk_d S_1026 ml_12_352 (lk_d S_1075 ml_12_149 lk_n))))) odX12_fitsAll
def pon_2004 : aPo := (some (.inl [((.ofNat (nat_lit 0)), (.ofNat (nat_lit 31)), (nat_lit 1))]), [], [sl_867, sl_1428, sl_1431, sl_1432], [])
def mdn_2005 : List (Nat × Nat × Nat) := [((nat_lit 196), (nat_lit 0), (nat_lit 1)), ((nat_lit 196), (nat_lit 11), (nat_lit 12)), ((nat_lit 196), (nat_lit 33), (nat_lit 35)), ((nat_lit 205), (nat_lit 0), (nat_lit 7)), ((nat_lit 206), (nat_lit 0), (nat_lit 7))]
set_option maxRecDepth 100000 in
theorem btX12_fits : bTab oX12_fits tX12_fits := ⟨ofX12_fits, by decide +kernel⟩
def ct_1077 : aCt := (mX12_fits, [ag_861], ([], []), [pon_2004, pon_1872], mdn_2005, [], (nat_lit 8))
set_option maxRecDepth 100000 in
theorem S_1077 : aSpec wd ct_1077 := bChk_ok wx_ok btX12_fits (nds := [((nat_lit 21), [lcn_898, lcn_635, lcn_293], [], [sl_867, sl_1428, sl_1431, sl_1432], [], (5, [(1, -1)]))]) (fk := []) (rk := (6, [])) (sp := 2097152) (fuel := 3000) (by decide +kernel) (lk_d S_447 ml_12_167 (lk_d S_908 ml_12_170 (lk_d S_1076 ml_12_398 lk_n))) odX12_fits
def lcn_2006 : Nat × aAg := ((nat_lit 3), .inl [((.ofNat (nat_lit 0)), (.ofNat (nat_lit 127)), (nat_lit 1))])
set_option maxRecDepth 100000 in
theorem btX12_reachOf : bTab oX12_reachOf tX12_reachOf := ⟨ofX12_reachOf, by decide +kernel⟩
def ct_1078 : aCt := (mX12_reachOf, [ag_861, ag_217, ag_560], ([sl_1431, sl_1432, sl_1799], []), [pon_637], mdn_2003, [], (nat_lit 8))
set_option maxRecDepth 100000 in
theorem S_1078 : aSpec wd ct_1078 := bChk_ok wx_ok btX12_reachOf (nds := [((nat_lit 29), [lcn_898, lcn_265, lcn_563, lcn_2006, lcn_445], [], [sl_1431, sl_1432, sl_1799], [], (7, [(3, -1)]))]) (fk := []) (rk := (8, [])) (sp := 536870912) (fuel := 3000) (by decide +kernel) (lk_d S_1076 ml_12_398 (lk_d S_906 ml_12_271 (lk_d S_1025 ml_12_349 lk_n))) odX12_reachOf
def pon_2007 : aPo := (some (.inl [((.ofNat (nat_lit 0)), (.ofNat (nat_lit 127)), (nat_lit 1))]), [none, some [((.ofNat (nat_lit 0)), (.ofNat (nat_lit 4)), (nat_lit 1))], some [((.ofNat (nat_lit 0)), (.ofNat (nat_lit 99999)), (nat_lit 1))]], [sl_867, sl_1428, sl_1431, sl_1432, sl_1799], [])
set_option maxRecDepth 100000 in
theorem btX12_reach : bTab oX12_reach tX12_reach := ⟨ofX12_reach, by decide +kernel⟩
def ct_1079 : aCt := (mX12_reach, [ag_861, ag_1, ag_1], ([], []), [pon_2007, pon_1837], mdn_2005, [], (nat_lit 9))
set_option maxRecDepth 100000 in
theorem S_1079 : aSpec wd ct_1079 := bChk_ok wx_ok btX12_reach (nds := []) (fk := []) (rk := (1, [])) (sp := 0) (fuel := 3000) (by decide +kernel) (lk_d S_447 ml_12_167 (lk_d S_449 ml_12_170 (lk_d S_908 ml_12_170 (lk_d S_1078 ml_12_401 (lk_d S_904 ml_12_268 (lk_d S_939 ml_12_149 lk_n)))))) odX12_reach
def pon_2008 : aPo := (some (.inl [((.negSucc (nat_lit 0)), (.ofNat (nat_lit 6)), (nat_lit 1))]), [], [sl_867, sl_1428, sl_1431, sl_1432], [])
def lcn_2009 : Nat × aAg := ((nat_lit 3), .inl [((.negSucc (nat_lit 2147483647)), (.ofNat (nat_lit 1000000)), (nat_lit 1))])
set_option maxRecDepth 100000 in
theorem btX12_pier : bTab oX12_pier tX12_pier := ⟨ofX12_pier, by decide +kernel⟩
def ct_1080 : aCt := (mX12_pier, [ag_861, ag_1], ([], []), [pon_2008, pon_1837], mdn_2005, [], (nat_lit 9))
set_option maxRecDepth 100000 in
theorem S_1080 : aSpec wd ct_1080 := bChk_ok wx_ok btX12_pier (nds := [((nat_lit 43), [lcn_898, lcn_645, lcn_266, lcn_2009, lcn_445], [], [sl_867, sl_1428, sl_1431, sl_1432], [], (55, [(3, -7)])), ((nat_lit 63), [lcn_898, lcn_645, lcn_266, lcn_2009, lcn_446, lcn_545, lcn_1820, lcn_1883], [], [sl_867, sl_1428, sl_1431, sl_1432], [], (54, [(3, -7), (6, -1)]))]) (fk := []) (rk := (56, [])) (sp := 9223380832947798016) (fuel := 3000) (by decide +kernel) (lk_d S_447 ml_12_167 (lk_d S_908 ml_12_170 (lk_d S_449 ml_12_170 (lk_d S_1076 ml_12_398 (lk_d S_1078 ml_12_401 (lk_d S_939 ml_12_149 (lk_d S_935 ml_12_298 lk_n))))))) odX12_pier
def lcn_2010 : Nat × aAg := ((nat_lit 0), .inl [((.ofNat (nat_lit 0)), (.ofNat (nat_lit 4095)), (nat_lit 1))])
set_option maxRecDepth 100000 in
theorem btX12_ones : bTab oX12_ones tX12_ones := ⟨ofX12_ones, by decide +kernel⟩
def ct_1081 : aCt := (mX12_ones, [ag_655], ([], []), [pon_130], [], [], (nat_lit 0))
set_option maxRecDepth 100000 in
theorem S_1081 : aSpec wd ct_1081 := bChk_ok wx_ok btX12_ones (nds := [((nat_lit 4), [lcn_2010, lcn_271, lcn_666], [], [], [], (12, [(2, -1)]))]) (fk := []) (rk := (13, [])) (sp := 16) (fuel := 3000) (by decide +kernel) lk_n odX12_ones
def pon_2011 : aPo := (some (.inl [((.ofNat (nat_lit 0)), (.ofNat (nat_lit 4095)), (nat_lit 1))]), [], [sl_867, sl_1428, sl_1431, sl_1432], [])
def lcn_2012 : Nat × aAg := ((nat_lit 3), .inl [((.ofNat (nat_lit 0)), (.ofNat (nat_lit 4095)), (nat_lit 1))])
def lcn_2013 : Nat × aAg := ((nat_lit 4), .inl [((.ofNat (nat_lit 0)), (.ofNat (nat_lit 4096)), (nat_lit 1))])
set_option maxRecDepth 100000 in
theorem btX12_watch : bTab oX12_watch tX12_watch := ⟨ofX12_watch, by decide +kernel⟩
def ct_1082 : aCt := (mX12_watch, [ag_861, ag_1, ag_1], ([], []), [pon_2011, pon_1804], mdn_869, [], (nat_lit 4))
set_option maxRecDepth 100000 in
theorem S_1082 : aSpec wd ct_1082 := bChk_ok wx_ok btX12_watch (nds := [((nat_lit 45), [lcn_898, lcn_249, lcn_250, lcn_2012, lcn_2013], [], [sl_867, sl_1428, sl_1431, sl_1432], [], (4096, [(3, -1)]))]) (fk := []) (rk := (4097, [])) (sp := 35184372088832) (fuel := 3000) (by decide +kernel) (lk_d S_447 ml_12_167 (lk_d S_908 ml_12_170 (lk_d S_1081 ml_12_404 (lk_d S_933 ml_12_277 (lk_d S_916 ml_12_277 (lk_d S_X12_doLead_0 ml_12_407 lk_n)))))) odX12_watch
def mdn_2014 : List (Nat × Nat × Nat) := [((nat_lit 210), (nat_lit 0), (nat_lit 49))]
set_option maxRecDepth 100000 in
theorem btX12_layFar : bTab oX12_layFar tX12_layFar := ⟨ofX12_layFar, by decide +kernel⟩
def ct_1083 : aCt := (mX12_layFar, [ag_861], ([sl_1431, sl_1432], []), [pon_49], mdn_2014, [], (nat_lit 3))
set_option maxRecDepth 100000 in
theorem S_1083 : aSpec wd ct_1083 := bChk_ok wx_ok btX12_layFar (nds := [((nat_lit 2), [lcn_898, lcn_540], [], [sl_1431, sl_1432], [], (655, [(0, -9)])), ((nat_lit 10), [lcn_898, lcn_249, lcn_411], [], [sl_1431, sl_1432], [], (654, [(0, -9), (1, -1)])), ((nat_lit 109), [lcn_898, lcn_540], [], [sl_1431, sl_1432], [], (583, [(0, -73)])), ((nat_lit 117), [lcn_898, lcn_249, lcn_411], [], [sl_1431, sl_1432], [], (582, [(0, -73), (1, -9)])), ((nat_lit 125), [lcn_898, lcn_249, lcn_250, lcn_438], [], [sl_1431, sl_1432], [], (581, [(0, -73), (1, -9), (2, -1)]))]) (fk := []) (rk := (656, [])) (sp := 42702098401697739270488368123547223044) (fuel := 3000) (by decide +kernel) (lk_d S_937 ml_12_305 lk_n) odX12_layFar
def sl_2015 : (Nat × Nat) × aI := (((nat_lit 199), (nat_lit 4)), [((.ofNat (nat_lit 7)), (.ofNat (nat_lit 7)), (nat_lit 1))])
def mdn_2016 : List (Nat × Nat × Nat) := [((nat_lit 196), (nat_lit 38), (nat_lit 39)), ((nat_lit 212), (nat_lit 0), (nat_lit 7))]
set_option maxRecDepth 100000 in
theorem btX12_tryRound : bTab oX12_tryRound tX12_tryRound := ⟨ofX12_tryRound, by decide +kernel⟩
def ct_1084 : aCt := (mX12_tryRound, [ag_861, ag_133, ag_650, ag_1], ([sl_1431, sl_2015], []), [pon_49], mdn_2016, [], (nat_lit 2))
set_option maxRecDepth 100000 in
theorem S_1084 : aSpec wd ct_1084 := bChk_ok wx_ok btX12_tryRound (nds := []) (fk := []) (rk := (1, [])) (sp := 0) (fuel := 3000) (by decide +kernel) (lk_d S_X12_copy_31 ml_12_176 lk_n) odX12_tryRound
def sl_2017 : (Nat × Nat) × aI := (((nat_lit 199), (nat_lit 4)), [((.ofNat (nat_lit 6)), (.ofNat (nat_lit 7)), (nat_lit 1))])
def mdn_2018 : List (Nat × Nat × Nat) := [((nat_lit 196), (nat_lit 38), (nat_lit 39)), ((nat_lit 211), (nat_lit 6), (nat_lit 7)), ((nat_lit 212), (nat_lit 0), (nat_lit 7))]
def lcn_2019 : Nat × aAg := ((nat_lit 3), .inl [((.negSucc (nat_lit 2147483647)), (.ofNat (nat_lit 2147483646)), (nat_lit 1))])
def ct_1085 : aCt := (mX12_tryRound, [ag_861, ag_153, ag_650, ag_1], ([sl_1431, sl_2017], []), [pon_49], mdn_2018, [], (nat_lit 3))
set_option maxRecDepth 100000 in
theorem S_1085 : aSpec wd ct_1085 := bChk_ok wx_ok btX12_tryRound (nds := [((nat_lit 42), [lcn_898, lcn_979, lcn_670, lcn_2019, lcn_445], [], [sl_1431, sl_2015], [], (7, [(2, -1)]))]) (fk := []) (rk := (8, [])) (sp := 4398046511104) (fuel := 3000) (by decide +kernel) (lk_d S_X12_copy_30 ml_12_176 (lk_d S_935 ml_12_298 (lk_d S_1084 ml_12_413 lk_n))) odX12_tryRound
def sl_2020 : (Nat × Nat) × aI := (((nat_lit 199), (nat_lit 4)), [((.ofNat (nat_lit 5)), (.ofNat (nat_lit 7)), (nat_lit 1))])
def mdn_2021 : List (Nat × Nat × Nat) := [((nat_lit 196), (nat_lit 38), (nat_lit 39)), ((nat_lit 211), (nat_lit 5), (nat_lit 7)), ((nat_lit 212), (nat_lit 0), (nat_lit 7))]
def ct_1086 : aCt := (mX12_tryRound, [ag_861, ag_150, ag_650, ag_1], ([sl_1431, sl_2020], []), [pon_49], mdn_2021, [], (nat_lit 4))
set_option maxRecDepth 100000 in
theorem S_1086 : aSpec wd ct_1086 := bChk_ok wx_ok btX12_tryRound (nds := [((nat_lit 42), [lcn_898, lcn_978, lcn_670, lcn_2019, lcn_445], [], [sl_1431, sl_2017], [], (7, [(2, -1)]))]) (fk := []) (rk := (8, [])) (sp := 4398046511104) (fuel := 3000) (by decide +kernel) (lk_d S_X12_copy_29 ml_12_176 (lk_d S_935 ml_12_298 (lk_d S_1085 ml_12_413 lk_n))) odX12_tryRound
def sl_2022 : (Nat × Nat) × aI := (((nat_lit 199), (nat_lit 4)), [((.ofNat (nat_lit 4)), (.ofNat (nat_lit 7)), (nat_lit 1))])
def mdn_2023 : List (Nat × Nat × Nat) := [((nat_lit 196), (nat_lit 38), (nat_lit 39)), ((nat_lit 211), (nat_lit 4), (nat_lit 7)), ((nat_lit 212), (nat_lit 0), (nat_lit 7))]
def ct_1087 : aCt := (mX12_tryRound, [ag_861, ag_159, ag_650, ag_1], ([sl_1431, sl_2022], []), [pon_49], mdn_2023, [], (nat_lit 5))
set_option maxRecDepth 100000 in
theorem S_1087 : aSpec wd ct_1087 := bChk_ok wx_ok btX12_tryRound (nds := [((nat_lit 42), [lcn_898, lcn_977, lcn_670, lcn_2019, lcn_445], [], [sl_1431, sl_2020], [], (7, [(2, -1)]))]) (fk := []) (rk := (8, [])) (sp := 4398046511104) (fuel := 3000) (by decide +kernel) (lk_d S_X12_copy_28 ml_12_176 (lk_d S_935 ml_12_298 (lk_d S_1086 ml_12_413 lk_n))) odX12_tryRound
def sl_2024 : (Nat × Nat) × aI := (((nat_lit 199), (nat_lit 4)), [((.ofNat (nat_lit 3)), (.ofNat (nat_lit 7)), (nat_lit 1))])
def mdn_2025 : List (Nat × Nat × Nat) := [((nat_lit 196), (nat_lit 38), (nat_lit 39)), ((nat_lit 211), (nat_lit 3), (nat_lit 7)), ((nat_lit 212), (nat_lit 0), (nat_lit 7))]
def ct_1088 : aCt := (mX12_tryRound, [ag_861, ag_122, ag_650, ag_1], ([sl_1431, sl_2024], []), [pon_49], mdn_2025, [], (nat_lit 6))
set_option maxRecDepth 100000 in
theorem S_1088 : aSpec wd ct_1088 := bChk_ok wx_ok btX12_tryRound (nds := [((nat_lit 42), [lcn_898, lcn_976, lcn_670, lcn_2019, lcn_445], [], [sl_1431, sl_2022], [], (7, [(2, -1)]))]) (fk := []) (rk := (8, [])) (sp := 4398046511104) (fuel := 3000) (by decide +kernel) (lk_d S_X12_copy_27 ml_12_176 (lk_d S_935 ml_12_298 (lk_d S_1087 ml_12_413 lk_n))) odX12_tryRound
def sl_2026 : (Nat × Nat) × aI := (((nat_lit 199), (nat_lit 4)), [((.ofNat (nat_lit 2)), (.ofNat (nat_lit 7)), (nat_lit 1))])
def mdn_2027 : List (Nat × Nat × Nat) := [((nat_lit 196), (nat_lit 38), (nat_lit 39)), ((nat_lit 211), (nat_lit 2), (nat_lit 7)), ((nat_lit 212), (nat_lit 0), (nat_lit 7))]
def ct_1089 : aCt := (mX12_tryRound, [ag_861, ag_22, ag_650, ag_1], ([sl_1431, sl_2026], []), [pon_49], mdn_2027, [], (nat_lit 7))
set_option maxRecDepth 100000 in
theorem S_1089 : aSpec wd ct_1089 := bChk_ok wx_ok btX12_tryRound (nds := [((nat_lit 42), [lcn_898, lcn_167, lcn_670, lcn_2019, lcn_445], [], [sl_1431, sl_2024], [], (7, [(2, -1)]))]) (fk := []) (rk := (8, [])) (sp := 4398046511104) (fuel := 3000) (by decide +kernel) (lk_d S_X12_copy_26 ml_12_176 (lk_d S_935 ml_12_298 (lk_d S_1088 ml_12_413 lk_n))) odX12_tryRound
def ag_2028 : aAg := .inl [((.ofNat (nat_lit 1)), (.ofNat (nat_lit 64)), (nat_lit 1))]
def mdn_2029 : List (Nat × Nat × Nat) := [((nat_lit 196), (nat_lit 38), (nat_lit 39)), ((nat_lit 211), (nat_lit 1), (nat_lit 7)), ((nat_lit 212), (nat_lit 0), (nat_lit 7))]
def lcn_2030 : Nat × aAg := ((nat_lit 2), .inl [((.ofNat (nat_lit 1)), (.ofNat (nat_lit 64)), (nat_lit 1))])
def ct_1090 : aCt := (mX12_tryRound, [ag_861, ag_53, ag_2028, ag_170], ([sl_1431, sl_1432], []), [pon_49], mdn_2029, [], (nat_lit 8))
set_option maxRecDepth 100000 in
theorem S_1090 : aSpec wd ct_1090 := bChk_ok wx_ok btX12_tryRound (nds := [((nat_lit 42), [lcn_898, lcn_202, lcn_2030, lcn_101, lcn_445], [], [sl_1431, sl_2026], [], (7, [(1, -1)]))]) (fk := []) (rk := (8, [])) (sp := 4398046511104) (fuel := 3000) (by decide +kernel) (lk_d S_X12_copy_25 ml_12_176 (lk_d S_935 ml_12_298 (lk_d S_1089 ml_12_413 lk_n))) odX12_tryRound
def pon_2031 : aPo := (some (.inl [((.negSucc (nat_lit 2147483647)), (.ofNat (nat_lit 999999)), (nat_lit 1)), ((.ofNat (nat_lit 1000001)), (.ofNat (nat_lit 2147483647)), (nat_lit 1))]), [], [], [])
def mdn_2032 : List (Nat × Nat × Nat) := [((nat_lit 196), (nat_lit 38), (nat_lit 39)), ((nat_lit 210), (nat_lit 0), (nat_lit 49)), ((nat_lit 211), (nat_lit 0), (nat_lit 7)), ((nat_lit 212), (nat_lit 0), (nat_lit 7))]
set_option maxRecDepth 100000 in
theorem btX12_seekRound : bTab oX12_seekRound tX12_seekRound := ⟨ofX12_seekRound, by decide +kernel⟩
def ct_1091 : aCt := (mX12_seekRound, [ag_861, ag_125], ([sl_1431, sl_1432], []), [pon_2031, pon_52], mdn_2032, [], (nat_lit 9))
set_option maxRecDepth 100000 in
theorem S_1091 : aSpec wd ct_1091 := bChk_ok wx_ok btX12_seekRound (nds := []) (fk := []) (rk := (1, [])) (sp := 0) (fuel := 3000) (by decide +kernel) (lk_d S_1083 ml_12_416 (lk_d S_1090 ml_12_413 lk_n)) odX12_seekRound
def pon_2033 : aPo := (some (.inl [((.negSucc (nat_lit 2147483647)), (.ofNat (nat_lit 999999)), (nat_lit 1)), ((.ofNat (nat_lit 1000001)), (.ofNat (nat_lit 2147483647)), (nat_lit 1))]), [none, some [((.ofNat (nat_lit 0)), (.ofNat (nat_lit 6)), (nat_lit 1))]], [sl_867, sl_1428, sl_1431, sl_1432], [])
def pon_2034 : aPo := (some (.inl [((.negSucc (nat_lit 1)), (.negSucc (nat_lit 1)), (nat_lit 1))]), [none, some [((.ofNat (nat_lit 0)), (.ofNat (nat_lit 6)), (nat_lit 1))]], [sl_867, sl_1428, sl_1431, sl_1432], [])
def mdn_2035 : List (Nat × Nat × Nat) := [((nat_lit 196), (nat_lit 0), (nat_lit 1)), ((nat_lit 196), (nat_lit 11), (nat_lit 12)), ((nat_lit 196), (nat_lit 38), (nat_lit 39)), ((nat_lit 210), (nat_lit 0), (nat_lit 49)), ((nat_lit 211), (nat_lit 0), (nat_lit 7)), ((nat_lit 212), (nat_lit 0), (nat_lit 7))]
set_option maxRecDepth 100000 in
theorem btX12_round : bTab oX12_round tX12_round := ⟨ofX12_round, by decide +kernel⟩
def ct_1092 : aCt := (mX12_round, [ag_861, ag_1], ([], []), [pon_2033, pon_1804, pon_2034], mdn_2035, [], (nat_lit 10))
set_option maxRecDepth 100000 in
theorem S_1092 : aSpec wd ct_1092 := bChk_ok wx_ok btX12_round (nds := []) (fk := []) (rk := (1, [])) (sp := 0) (fuel := 3000) (by decide +kernel) (lk_d S_447 ml_12_167 (lk_d S_908 ml_12_170 (lk_d S_1091 ml_12_419 (lk_d S_916 ml_12_277 lk_n)))) odX12_round
def sl_2036 : (Nat × Nat) × aI := (((nat_lit 196), (nat_lit 11)), [((.ofNat (nat_lit 1)), (.ofNat (nat_lit 1)), (nat_lit 1)), ((.ofNat (nat_lit 6)), (.ofNat (nat_lit 6)), (nat_lit 1))])
def pon_2037 : aPo := (some (.inl [((.negSucc (nat_lit 0)), (.negSucc (nat_lit 0)), (nat_lit 1))]), [], [sl_2036], [])
set_option maxRecDepth 100000 in
theorem btX12_roundAt : bTab oX12_roundAt tX12_roundAt := ⟨ofX12_roundAt, by decide +kernel⟩
def ct_1093 : aCt := (mX12_roundAt, [ag_861, ag_1, ag_1], ([], []), [pon_1869, pon_2037], mdn_2035, [], (nat_lit 10))
set_option maxRecDepth 100000 in
theorem S_1093 : aSpec wd ct_1093 := bChk_ok wx_ok btX12_roundAt (nds := []) (fk := []) (rk := (1, [])) (sp := 0) (fuel := 3000) (by decide +kernel) (lk_d S_447 ml_12_167 (lk_d S_1046 ml_12_170 (lk_d S_908 ml_12_170 (lk_d S_1091 ml_12_419 (lk_d S_916 ml_12_277 (lk_d S_915 ml_12_149 lk_n)))))) odX12_roundAt
set_option maxRecDepth 100000 in
theorem btX12_decade : bTab oX12_decade tX12_decade := ⟨ofX12_decade, by decide +kernel⟩
def ct_1094 : aCt := (mX12_decade, [ag_861, ag_1, ag_1], ([sl_1871], []), [pon_1804], mdn_869, [], (nat_lit 1))
set_option maxRecDepth 100000 in
theorem S_1094 : aSpec wd ct_1094 := bChk_ok wx_ok btX12_decade (nds := []) (fk := []) (rk := (1, [])) (sp := 0) (fuel := 3000) (by decide +kernel) (lk_d S_447 ml_12_167 (lk_d S_908 ml_12_170 lk_n)) odX12_decade
def pon_2038 : aPo := (some (.inl [((.ofNat (nat_lit 0)), (.ofNat (nat_lit 0)), (nat_lit 1))]), [some [((.negSucc (nat_lit 2147483647)), (.negSucc (nat_lit 0)), (nat_lit 1)), ((.ofNat (nat_lit 65537)), (.ofNat (nat_lit 2147483647)), (nat_lit 1))], none, none], [], [])
def pon_2039 : aPo := (some (.inl [((.ofNat (nat_lit 1)), (.ofNat (nat_lit 1)), (nat_lit 1))]), [some [((.ofNat (nat_lit 0)), (.ofNat (nat_lit 65536)), (nat_lit 1))], none, none], [], [])
def ct_1095 : aCt := (mX12_in, [ag_1, ag_170, ag_681], ([], []), [pon_2038, pon_2039], mdn_872, [], (nat_lit 0))
set_option maxRecDepth 100000 in
theorem S_1095 : aSpec wd ct_1095 := bChk_ok wx_ok btX12_in (nds := []) (fk := []) (rk := (1, [])) (sp := 0) (fuel := 3000) (by decide +kernel) lk_n odX12_in
def sl_2040 : (Nat × Nat) × aI := (((nat_lit 199), (nat_lit 4)), [((.ofNat (nat_lit 1)), (.ofNat (nat_lit 1)), (nat_lit 1))])
def ct_1096 : aCt := (mX12_ofBox, [ag_861, ag_170, ag_53], ([sl_1431, sl_2040, sl_1808], []), [pon_37], [], [], (nat_lit 0))
set_option maxRecDepth 100000 in
theorem S_1096 : aSpec wd ct_1096 := bChk_ok wx_ok btX12_ofBox (nds := []) (fk := []) (rk := (1, [])) (sp := 0) (fuel := 3000) (by decide +kernel) lk_n odX12_ofBox
def pon_2041 : aPo := (some (.inl [((.ofNat (nat_lit 2)), (.ofNat (nat_lit 6)), (nat_lit 1))]), [], [], [])
def ct_1097 : aCt := (mX12_songLong, [ag_861, ag_170], ([sl_2040], []), [pon_2041], [], [], (nat_lit 0))
set_option maxRecDepth 100000 in
theorem S_1097 : aSpec wd ct_1097 := bChk_ok wx_ok btX12_songLong (nds := []) (fk := []) (rk := (1, [])) (sp := 0) (fuel := 3000) (by decide +kernel) lk_n odX12_songLong
def ct_1098 : aCt := (mX12_boxLong, [ag_861, ag_170], ([sl_1431, sl_2040, sl_1808], []), [pon_2041], [], [], (nat_lit 1))
set_option maxRecDepth 100000 in
theorem S_1098 : aSpec wd ct_1098 := bChk_ok wx_ok btX12_boxLong (nds := []) (fk := [7]) (rk := (1, [])) (sp := 0) (fuel := 3000) (by decide +kernel) (lk_d S_1097 ml_12_265 (lk_d S_1096 ml_12_262 lk_n)) odX12_boxLong
def ct_1099 : aCt := (mX12_ofBox, [ag_861, ag_53, ag_53], ([sl_1431, sl_2040, sl_1991], []), [pon_37], [], [], (nat_lit 0))
set_option maxRecDepth 100000 in
theorem S_1099 : aSpec wd ct_1099 := bChk_ok wx_ok btX12_ofBox (nds := []) (fk := []) (rk := (1, [])) (sp := 0) (fuel := 3000) (by decide +kernel) lk_n odX12_ofBox
def ct_1100 : aCt := (mX12_boxLong, [ag_861, ag_53], ([sl_1431, sl_2040, sl_1991], []), [pon_2041], [], [], (nat_lit 1))
set_option maxRecDepth 100000 in
theorem S_1100 : aSpec wd ct_1100 := bChk_ok wx_ok btX12_boxLong (nds := []) (fk := [7]) (rk := (1, [])) (sp := 0) (fuel := 3000) (by decide +kernel) (lk_d S_1097 ml_12_265 (lk_d S_1099 ml_12_262 lk_n)) odX12_boxLong
def ct_1101 : aCt := (mX12_ofBox, [ag_861, ag_22, ag_53], ([sl_1431, sl_2040, sl_1989], []), [pon_37], [], [], (nat_lit 0))
set_option maxRecDepth 100000 in
theorem S_1101 : aSpec wd ct_1101 := bChk_ok wx_ok btX12_ofBox (nds := []) (fk := []) (rk := (1, [])) (sp := 0) (fuel := 3000) (by decide +kernel) lk_n odX12_ofBox
def ct_1102 : aCt := (mX12_boxLong, [ag_861, ag_22], ([sl_1431, sl_2040, sl_1989], []), [pon_2041], [], [], (nat_lit 1))
set_option maxRecDepth 100000 in
theorem S_1102 : aSpec wd ct_1102 := bChk_ok wx_ok btX12_boxLong (nds := []) (fk := [7]) (rk := (1, [])) (sp := 0) (fuel := 3000) (by decide +kernel) (lk_d S_1097 ml_12_265 (lk_d S_1101 ml_12_262 lk_n)) odX12_boxLong
def ct_1103 : aCt := (mX12_ofBox, [ag_861, ag_122, ag_53], ([sl_1431, sl_2040, sl_1987], []), [pon_37], [], [], (nat_lit 0))
set_option maxRecDepth 100000 in
theorem S_1103 : aSpec wd ct_1103 := bChk_ok wx_ok btX12_ofBox (nds := []) (fk := []) (rk := (1, [])) (sp := 0) (fuel := 3000) (by decide +kernel) lk_n odX12_ofBox
def ct_1104 : aCt := (mX12_boxLong, [ag_861, ag_122], ([sl_1431, sl_2040, sl_1987], []), [pon_2041], [], [], (nat_lit 1))
set_option maxRecDepth 100000 in
theorem S_1104 : aSpec wd ct_1104 := bChk_ok wx_ok btX12_boxLong (nds := []) (fk := [7]) (rk := (1, [])) (sp := 0) (fuel := 3000) (by decide +kernel) (lk_d S_1097 ml_12_265 (lk_d S_1103 ml_12_262 lk_n)) odX12_boxLong
def ct_1105 : aCt := (mX12_ofBox, [ag_861, ag_159, ag_53], ([sl_1431, sl_2040, sl_1985], []), [pon_37], [], [], (nat_lit 0))
set_option maxRecDepth 100000 in
theorem S_1105 : aSpec wd ct_1105 := bChk_ok wx_ok btX12_ofBox (nds := []) (fk := []) (rk := (1, [])) (sp := 0) (fuel := 3000) (by decide +kernel) lk_n odX12_ofBox
def ct_1106 : aCt := (mX12_boxLong, [ag_861, ag_159], ([sl_1431, sl_2040, sl_1985], []), [pon_2041], [], [], (nat_lit 1))
set_option maxRecDepth 100000 in
theorem S_1106 : aSpec wd ct_1106 := bChk_ok wx_ok btX12_boxLong (nds := []) (fk := [7]) (rk := (1, [])) (sp := 0) (fuel := 3000) (by decide +kernel) (lk_d S_1097 ml_12_265 (lk_d S_1105 ml_12_262 lk_n)) odX12_boxLong
def ct_1107 : aCt := (mX12_ofBox, [ag_861, ag_150, ag_53], ([sl_1431, sl_2040, sl_1983], []), [pon_37], [], [], (nat_lit 0))
set_option maxRecDepth 100000 in
theorem S_1107 : aSpec wd ct_1107 := bChk_ok wx_ok btX12_ofBox (nds := []) (fk := []) (rk := (1, [])) (sp := 0) (fuel := 3000) (by decide +kernel) lk_n odX12_ofBox
def ct_1108 : aCt := (mX12_boxLong, [ag_861, ag_150], ([sl_1431, sl_2040, sl_1983], []), [pon_2041], [], [], (nat_lit 1))
set_option maxRecDepth 100000 in
theorem S_1108 : aSpec wd ct_1108 := bChk_ok wx_ok btX12_boxLong (nds := []) (fk := [7]) (rk := (1, [])) (sp := 0) (fuel := 3000) (by decide +kernel) (lk_d S_1097 ml_12_265 (lk_d S_1107 ml_12_262 lk_n)) odX12_boxLong
def ct_1109 : aCt := (mX12_ofBox, [ag_861, ag_153, ag_53], ([sl_1431, sl_2040, sl_1979], []), [pon_37], [], [], (nat_lit 0))
set_option maxRecDepth 100000 in
theorem S_1109 : aSpec wd ct_1109 := bChk_ok wx_ok btX12_ofBox (nds := []) (fk := []) (rk := (1, [])) (sp := 0) (fuel := 3000) (by decide +kernel) lk_n odX12_ofBox
def ct_1110 : aCt := (mX12_boxLong, [ag_861, ag_153], ([sl_1431, sl_2040, sl_1979], []), [pon_2041], [], [], (nat_lit 1))
set_option maxRecDepth 100000 in
theorem S_1110 : aSpec wd ct_1110 := bChk_ok wx_ok btX12_boxLong (nds := []) (fk := [7]) (rk := (1, [])) (sp := 0) (fuel := 3000) (by decide +kernel) (lk_d S_1097 ml_12_265 (lk_d S_1109 ml_12_262 lk_n)) odX12_boxLong
def ct_1111 : aCt := (mX12_ofBox, [ag_861, ag_133, ag_53], ([sl_1431, sl_2040, sl_1977], []), [pon_37], [], [], (nat_lit 0))
set_option maxRecDepth 100000 in
theorem S_1111 : aSpec wd ct_1111 := bChk_ok wx_ok btX12_ofBox (nds := []) (fk := []) (rk := (1, [])) (sp := 0) (fuel := 3000) (by decide +kernel) lk_n odX12_ofBox
def ct_1112 : aCt := (mX12_boxLong, [ag_861, ag_133], ([sl_1431, sl_2040, sl_1977], []), [pon_2041], [], [], (nat_lit 1))
set_option maxRecDepth 100000 in
theorem S_1112 : aSpec wd ct_1112 := bChk_ok wx_ok btX12_boxLong (nds := []) (fk := [7]) (rk := (1, [])) (sp := 0) (fuel := 3000) (by decide +kernel) (lk_d S_1097 ml_12_265 (lk_d S_1111 ml_12_262 lk_n)) odX12_boxLong
def pon_2042 : aPo := (some (.inl aTop), [], [sl_867, sl_1428, sl_1431], [])
def lcn_2043 : Nat × aAg := ((nat_lit 3), .inl [((.ofNat (nat_lit 0)), (.ofNat (nat_lit 65536)), (nat_lit 1))])
def lcn_2044 : Nat × aAg := ((nat_lit 2), .inl [((.ofNat (nat_lit 1)), (.ofNat (nat_lit 50)), (nat_lit 1))])
def lcn_2045 : Nat × aAg := ((nat_lit 7), .inl [((.negSucc (nat_lit 0)), (.ofNat (nat_lit 5)), (nat_lit 1))])
def lcn_2046 : Nat × aAg := ((nat_lit 8), .inl [((.ofNat (nat_lit 0)), (.ofNat (nat_lit 3)), (nat_lit 1))])
def ct_1113 : aCt := (mX12_decade, [ag_861, ag_1, ag_1], ([sl_2040], []), [pon_2042, pon_1837], mdn_869, [], (nat_lit 4))
set_option maxRecDepth 100000 in
theorem S_1113 : aSpec wd ct_1113 := bChk_ok wx_ok btX12_decade (nds := [((nat_lit 52), [lcn_898, lcn_695, lcn_696, lcn_2043, lcn_351, lcn_1899], [], [sl_867, sl_1428, sl_1431, sl_2040], [], (759, [(4, -10)])), ((nat_lit 61), [lcn_898, lcn_695, lcn_2044, lcn_2043, lcn_351, lcn_1897, lcn_596], [], [sl_867, sl_1428, sl_1431, sl_2040], [], (758, [(4, -10)])), ((nat_lit 61), [lcn_898, lcn_695, lcn_2044, lcn_2043, lcn_351, lcn_1897, lcn_1945, lcn_2045, lcn_2046], [], [sl_867, sl_1428, sl_1431, sl_2040, sl_1808], [], (757, [(4, -10)])), ((nat_lit 61), [lcn_898, lcn_695, lcn_2044, lcn_2043, lcn_351, lcn_1897, lcn_1946, lcn_2045, lcn_2046], [], [sl_867, sl_1428, sl_1431, sl_2040, sl_1991], [], (756, [(4, -10)])), ((nat_lit 61), [lcn_898, lcn_695, lcn_2044, lcn_2043, lcn_351, lcn_1897, lcn_1947, lcn_2045, lcn_2046], [], [sl_867, sl_1428, sl_1431, sl_2040, sl_1989], [], (755, [(4, -10)])), ((nat_lit 61), [lcn_898, lcn_695, lcn_2044, lcn_2043, lcn_351, lcn_1897, lcn_1948, lcn_2045, lcn_2046], [], [sl_867, sl_1428, sl_1431, sl_2040, sl_1987], [], (754, [(4, -10)])), ((nat_lit 61), [lcn_898, lcn_695, lcn_2044, lcn_2043, lcn_351, lcn_1897, lcn_1949, lcn_2045, lcn_2046], [], [sl_867, sl_1428, sl_1431, sl_2040, sl_1985], [], (753, [(4, -10)])), ((nat_lit 61), [lcn_898, lcn_695, lcn_2044, lcn_2043, lcn_351, lcn_1897, lcn_1950, lcn_2045, lcn_2046], [], [sl_867, sl_1428, sl_1431, sl_2040, sl_1983], [], (752, [(4, -10)])), ((nat_lit 61), [lcn_898, lcn_695, lcn_2044, lcn_2043, lcn_351, lcn_1897, lcn_1951, lcn_2045, lcn_2046], [], [sl_867, sl_1428, sl_1431, sl_2040, sl_1979], [], (751, [(4, -10)])), ((nat_lit 61), [lcn_898, lcn_695, lcn_2044, lcn_2043, lcn_351, lcn_1897, lcn_1952, lcn_2045, lcn_2046], [], [sl_867, sl_1428, sl_1431, sl_2040, sl_1977], [], (750, [(4, -10)]))]) (fk := []) (rk := (760, [])) (sp := 2310346608841064448) (fuel := 3000) (by decide +kernel) (lk_d S_447 ml_12_167 (lk_d S_1112 ml_12_284 (lk_d S_1110 ml_12_284 (lk_d S_1108 ml_12_284 (lk_d S_1106 ml_12_284 (lk_d S_1104 ml_12_284 (lk_d S_1102 ml_12_284 (lk_d S_1100 ml_12_284 (lk_d S_1098 ml_12_284 (lk_d S_908 ml_12_170 (lk_d S_449 ml_12_170 (lk_d S_1111 ml_12_262 (lk_d S_1109 ml_12_262 (lk_d S_1107 ml_12_262 (lk_d S_1105 ml_12_262 (lk_d S_1103 ml_12_262 (lk_d S_1101 ml_12_262 (lk_d S_1099 ml_12_262 (lk_d S_1096 ml_12_262 (lk_d S_930 ml_12_291 (lk_d S_1095 ml_12_149 (lk_d S_474 ml_12_149 lk_n)))))))))))))))))))))) odX12_decade
end Pk1
section Pk2
def sl_2047 : (Nat × Nat) × aI := (((nat_lit 199), (nat_lit 4)), [((.ofNat (nat_lit 2)), (.ofNat (nat_lit 2)), (nat_lit 1))])
def ct_1114 : aCt := (mX12_ofBox, [ag_861, ag_170, ag_53], ([sl_1431, sl_2047, sl_1808], []), [pon_453], [], [], (nat_lit 0))
set_option maxRecDepth 100000 in
theorem S_1114 : aSpec wd ct_1114 := bChk_ok wx_ok btX12_ofBox (nds := []) (fk := []) (rk := (1, [])) (sp := 0) (fuel := 3000) (by decide +kernel) lk_n odX12_ofBox
def ct_1115 : aCt := (mX12_songLong, [ag_861, ag_170], ([sl_2047], []), [pon_2041], [], [], (nat_lit 0))
set_option maxRecDepth 100000 in
theorem S_1115 : aSpec wd ct_1115 := bChk_ok wx_ok btX12_songLong (nds := []) (fk := []) (rk := (1, [])) (sp := 0) (fuel := 3000) (by decide +kernel) lk_n odX12_songLong
def ct_1116 : aCt := (mX12_songLong, [ag_861, ag_53], ([sl_2047], []), [pon_2041], [], [], (nat_lit 0))
set_option maxRecDepth 100000 in
theorem S_1116 : aSpec wd ct_1116 := bChk_ok wx_ok btX12_songLong (nds := []) (fk := []) (rk := (1, [])) (sp := 0) (fuel := 3000) (by decide +kernel) lk_n odX12_songLong
def ct_1117 : aCt := (mX12_boxLong, [ag_861, ag_170], ([sl_1431, sl_2047, sl_1808], []), [pon_2041], [], [], (nat_lit 1))
set_option maxRecDepth 100000 in
theorem S_1117 : aSpec wd ct_1117 := bChk_ok wx_ok btX12_boxLong (nds := []) (fk := [7]) (rk := (1, [])) (sp := 0) (fuel := 3000) (by decide +kernel) (lk_d S_1115 ml_12_265 (lk_d S_1116 ml_12_265 (lk_d S_1114 ml_12_262 lk_n))) odX12_boxLong
def ct_1118 : aCt := (mX12_ofBox, [ag_861, ag_53, ag_53], ([sl_1431, sl_2047, sl_1991], []), [pon_453], [], [], (nat_lit 0))
set_option maxRecDepth 100000 in
theorem S_1118 : aSpec wd ct_1118 := bChk_ok wx_ok btX12_ofBox (nds := []) (fk := []) (rk := (1, [])) (sp := 0) (fuel := 3000) (by decide +kernel) lk_n odX12_ofBox
def ct_1119 : aCt := (mX12_boxLong, [ag_861, ag_53], ([sl_1431, sl_2047, sl_1991], []), [pon_2041], [], [], (nat_lit 1))
set_option maxRecDepth 100000 in
theorem S_1119 : aSpec wd ct_1119 := bChk_ok wx_ok btX12_boxLong (nds := []) (fk := [7]) (rk := (1, [])) (sp := 0) (fuel := 3000) (by decide +kernel) (lk_d S_1115 ml_12_265 (lk_d S_1116 ml_12_265 (lk_d S_1118 ml_12_262 lk_n))) odX12_boxLong
def ct_1120 : aCt := (mX12_ofBox, [ag_861, ag_22, ag_53], ([sl_1431, sl_2047, sl_1989], []), [pon_453], [], [], (nat_lit 0))
set_option maxRecDepth 100000 in
theorem S_1120 : aSpec wd ct_1120 := bChk_ok wx_ok btX12_ofBox (nds := []) (fk := []) (rk := (1, [])) (sp := 0) (fuel := 3000) (by decide +kernel) lk_n odX12_ofBox
def ct_1121 : aCt := (mX12_boxLong, [ag_861, ag_22], ([sl_1431, sl_2047, sl_1989], []), [pon_2041], [], [], (nat_lit 1))
set_option maxRecDepth 100000 in
theorem S_1121 : aSpec wd ct_1121 := bChk_ok wx_ok btX12_boxLong (nds := []) (fk := [7]) (rk := (1, [])) (sp := 0) (fuel := 3000) (by decide +kernel) (lk_d S_1115 ml_12_265 (lk_d S_1116 ml_12_265 (lk_d S_1120 ml_12_262 lk_n))) odX12_boxLong
def ct_1122 : aCt := (mX12_ofBox, [ag_861, ag_122, ag_53], ([sl_1431, sl_2047, sl_1987], []), [pon_453], [], [], (nat_lit 0))
set_option maxRecDepth 100000 in
theorem S_1122 : aSpec wd ct_1122 := bChk_ok wx_ok btX12_ofBox (nds := []) (fk := []) (rk := (1, [])) (sp := 0) (fuel := 3000) (by decide +kernel) lk_n odX12_ofBox
def ct_1123 : aCt := (mX12_boxLong, [ag_861, ag_122], ([sl_1431, sl_2047, sl_1987], []), [pon_2041], [], [], (nat_lit 1))
set_option maxRecDepth 100000 in
theorem S_1123 : aSpec wd ct_1123 := bChk_ok wx_ok btX12_boxLong (nds := []) (fk := [7]) (rk := (1, [])) (sp := 0) (fuel := 3000) (by decide +kernel) (lk_d S_1115 ml_12_265 (lk_d S_1116 ml_12_265 (lk_d S_1122 ml_12_262 lk_n))) odX12_boxLong
def ct_1124 : aCt := (mX12_ofBox, [ag_861, ag_159, ag_53], ([sl_1431, sl_2047, sl_1985], []), [pon_453], [], [], (nat_lit 0))
set_option maxRecDepth 100000 in
theorem S_1124 : aSpec wd ct_1124 := bChk_ok wx_ok btX12_ofBox (nds := []) (fk := []) (rk := (1, [])) (sp := 0) (fuel := 3000) (by decide +kernel) lk_n odX12_ofBox
def ct_1125 : aCt := (mX12_boxLong, [ag_861, ag_159], ([sl_1431, sl_2047, sl_1985], []), [pon_2041], [], [], (nat_lit 1))
set_option maxRecDepth 100000 in
theorem S_1125 : aSpec wd ct_1125 := bChk_ok wx_ok btX12_boxLong (nds := []) (fk := [7]) (rk := (1, [])) (sp := 0) (fuel := 3000) (by decide +kernel) (lk_d S_1115 ml_12_265 (lk_d S_1116 ml_12_265 (lk_d S_1124 ml_12_262 lk_n))) odX12_boxLong
def ct_1126 : aCt := (mX12_ofBox, [ag_861, ag_150, ag_53], ([sl_1431, sl_2047, sl_1983], []), [pon_453], [], [], (nat_lit 0))
set_option maxRecDepth 100000 in
theorem S_1126 : aSpec wd ct_1126 := bChk_ok wx_ok btX12_ofBox (nds := []) (fk := []) (rk := (1, [])) (sp := 0) (fuel := 3000) (by decide +kernel) lk_n odX12_ofBox
def ct_1127 : aCt := (mX12_boxLong, [ag_861, ag_150], ([sl_1431, sl_2047, sl_1983], []), [pon_2041], [], [], (nat_lit 1))
set_option maxRecDepth 100000 in
theorem S_1127 : aSpec wd ct_1127 := bChk_ok wx_ok btX12_boxLong (nds := []) (fk := [7]) (rk := (1, [])) (sp := 0) (fuel := 3000) (by decide +kernel) (lk_d S_1115 ml_12_265 (lk_d S_1116 ml_12_265 (lk_d S_1126 ml_12_262 lk_n))) odX12_boxLong
def ct_1128 : aCt := (mX12_ofBox, [ag_861, ag_153, ag_53], ([sl_1431, sl_2047, sl_1979], []), [pon_453], [], [], (nat_lit 0))
set_option maxRecDepth 100000 in
theorem S_1128 : aSpec wd ct_1128 := bChk_ok wx_ok btX12_ofBox (nds := []) (fk := []) (rk := (1, [])) (sp := 0) (fuel := 3000) (by decide +kernel) lk_n odX12_ofBox
def ct_1129 : aCt := (mX12_boxLong, [ag_861, ag_153], ([sl_1431, sl_2047, sl_1979], []), [pon_2041], [], [], (nat_lit 1))
set_option maxRecDepth 100000 in
theorem S_1129 : aSpec wd ct_1129 := bChk_ok wx_ok btX12_boxLong (nds := []) (fk := [7]) (rk := (1, [])) (sp := 0) (fuel := 3000) (by decide +kernel) (lk_d S_1115 ml_12_265 (lk_d S_1116 ml_12_265 (lk_d S_1128 ml_12_262 lk_n))) odX12_boxLong
def ct_1130 : aCt := (mX12_ofBox, [ag_861, ag_133, ag_53], ([sl_1431, sl_2047, sl_1977], []), [pon_453], [], [], (nat_lit 0))
set_option maxRecDepth 100000 in
theorem S_1130 : aSpec wd ct_1130 := bChk_ok wx_ok btX12_ofBox (nds := []) (fk := []) (rk := (1, [])) (sp := 0) (fuel := 3000) (by decide +kernel) lk_n odX12_ofBox
def ct_1131 : aCt := (mX12_boxLong, [ag_861, ag_133], ([sl_1431, sl_2047, sl_1977], []), [pon_2041], [], [], (nat_lit 1))
set_option maxRecDepth 100000 in
theorem S_1131 : aSpec wd ct_1131 := bChk_ok wx_ok btX12_boxLong (nds := []) (fk := [7]) (rk := (1, [])) (sp := 0) (fuel := 3000) (by decide +kernel) (lk_d S_1115 ml_12_265 (lk_d S_1116 ml_12_265 (lk_d S_1130 ml_12_262 lk_n))) odX12_boxLong
def ct_1132 : aCt := (mX12_decade, [ag_861, ag_1, ag_1], ([sl_2047], []), [pon_2042, pon_1837], mdn_869, [], (nat_lit 4))
set_option maxRecDepth 100000 in
theorem S_1132 : aSpec wd ct_1132 := bChk_ok wx_ok btX12_decade (nds := [((nat_lit 52), [lcn_898, lcn_695, lcn_696, lcn_2043, lcn_351, lcn_1899], [], [sl_867, sl_1428, sl_1431, sl_2047], [], (759, [(4, -10)])), ((nat_lit 61), [lcn_898, lcn_695, lcn_2044, lcn_2043, lcn_351, lcn_1897, lcn_596], [], [sl_867, sl_1428, sl_1431, sl_2047], [], (758, [(4, -10)])), ((nat_lit 61), [lcn_898, lcn_695, lcn_2044, lcn_2043, lcn_351, lcn_1897, lcn_1945, lcn_2045, lcn_2046], [], [sl_867, sl_1428, sl_1431, sl_2047, sl_1808], [], (757, [(4, -10)])), ((nat_lit 61), [lcn_898, lcn_695, lcn_2044, lcn_2043, lcn_351, lcn_1897, lcn_1946, lcn_2045, lcn_2046], [], [sl_867, sl_1428, sl_1431, sl_2047, sl_1991], [], (756, [(4, -10)])), ((nat_lit 61), [lcn_898, lcn_695, lcn_2044, lcn_2043, lcn_351, lcn_1897, lcn_1947, lcn_2045, lcn_2046], [], [sl_867, sl_1428, sl_1431, sl_2047, sl_1989], [], (755, [(4, -10)])), ((nat_lit 61), [lcn_898, lcn_695, lcn_2044, lcn_2043, lcn_351, lcn_1897, lcn_1948, lcn_2045, lcn_2046], [], [sl_867, sl_1428, sl_1431, sl_2047, sl_1987], [], (754, [(4, -10)])), ((nat_lit 61), [lcn_898, lcn_695, lcn_2044, lcn_2043, lcn_351, lcn_1897, lcn_1949, lcn_2045, lcn_2046], [], [sl_867, sl_1428, sl_1431, sl_2047, sl_1985], [], (753, [(4, -10)])), ((nat_lit 61), [lcn_898, lcn_695, lcn_2044, lcn_2043, lcn_351, lcn_1897, lcn_1950, lcn_2045, lcn_2046], [], [sl_867, sl_1428, sl_1431, sl_2047, sl_1983], [], (752, [(4, -10)])), ((nat_lit 61), [lcn_898, lcn_695, lcn_2044, lcn_2043, lcn_351, lcn_1897, lcn_1951, lcn_2045, lcn_2046], [], [sl_867, sl_1428, sl_1431, sl_2047, sl_1979], [], (751, [(4, -10)])), ((nat_lit 61), [lcn_898, lcn_695, lcn_2044, lcn_2043, lcn_351, lcn_1897, lcn_1952, lcn_2045, lcn_2046], [], [sl_867, sl_1428, sl_1431, sl_2047, sl_1977], [], (750, [(4, -10)]))]) (fk := []) (rk := (760, [])) (sp := 2310346608841064448) (fuel := 3000) (by decide +kernel) (lk_d S_447 ml_12_167 (lk_d S_1131 ml_12_284 (lk_d S_1129 ml_12_284 (lk_d S_1127 ml_12_284 (lk_d S_1125 ml_12_284 (lk_d S_1123 ml_12_284 (lk_d S_1121 ml_12_284 (lk_d S_1119 ml_12_284 (lk_d S_1117 ml_12_284 (lk_d S_908 ml_12_170 (lk_d S_449 ml_12_170 (lk_d S_1130 ml_12_262 (lk_d S_1128 ml_12_262 (lk_d S_1126 ml_12_262 (lk_d S_1124 ml_12_262 (lk_d S_1122 ml_12_262 (lk_d S_1120 ml_12_262 (lk_d S_1118 ml_12_262 (lk_d S_1114 ml_12_262 (lk_d S_930 ml_12_291 (lk_d S_1095 ml_12_149 (lk_d S_474 ml_12_149 lk_n)))))))))))))))))))))) odX12_decade
def sl_2048 : (Nat × Nat) × aI := (((nat_lit 199), (nat_lit 4)), [((.ofNat (nat_lit 3)), (.ofNat (nat_lit 3)), (nat_lit 1))])
def ct_1133 : aCt := (mX12_ofBox, [ag_861, ag_170, ag_53], ([sl_1431, sl_2048, sl_1808], []), [pon_599], [], [], (nat_lit 0))
set_option maxRecDepth 100000 in
theorem S_1133 : aSpec wd ct_1133 := bChk_ok wx_ok btX12_ofBox (nds := []) (fk := []) (rk := (1, [])) (sp := 0) (fuel := 3000) (by decide +kernel) lk_n odX12_ofBox
def ct_1134 : aCt := (mX12_songLong, [ag_861, ag_170], ([sl_2048], []), [pon_2041], [], [], (nat_lit 0))
set_option maxRecDepth 100000 in
theorem S_1134 : aSpec wd ct_1134 := bChk_ok wx_ok btX12_songLong (nds := []) (fk := []) (rk := (1, [])) (sp := 0) (fuel := 3000) (by decide +kernel) lk_n odX12_songLong
def ct_1135 : aCt := (mX12_songLong, [ag_861, ag_53], ([sl_2048], []), [pon_2041], [], [], (nat_lit 0))
set_option maxRecDepth 100000 in
theorem S_1135 : aSpec wd ct_1135 := bChk_ok wx_ok btX12_songLong (nds := []) (fk := []) (rk := (1, [])) (sp := 0) (fuel := 3000) (by decide +kernel) lk_n odX12_songLong
def ct_1136 : aCt := (mX12_songLong, [ag_861, ag_22], ([sl_2048], []), [pon_2041], [], [], (nat_lit 0))
set_option maxRecDepth 100000 in
theorem S_1136 : aSpec wd ct_1136 := bChk_ok wx_ok btX12_songLong (nds := []) (fk := []) (rk := (1, [])) (sp := 0) (fuel := 3000) (by decide +kernel) lk_n odX12_songLong
def ct_1137 : aCt := (mX12_boxLong, [ag_861, ag_170], ([sl_1431, sl_2048, sl_1808], []), [pon_2041], [], [], (nat_lit 1))
set_option maxRecDepth 100000 in
theorem S_1137 : aSpec wd ct_1137 := bChk_ok wx_ok btX12_boxLong (nds := []) (fk := [7]) (rk := (1, [])) (sp := 0) (fuel := 3000) (by decide +kernel) (lk_d S_1134 ml_12_265 (lk_d S_1135 ml_12_265 (lk_d S_1136 ml_12_265 (lk_d S_1133 ml_12_262 lk_n)))) odX12_boxLong
def ct_1138 : aCt := (mX12_ofBox, [ag_861, ag_53, ag_53], ([sl_1431, sl_2048, sl_1991], []), [pon_599], [], [], (nat_lit 0))
set_option maxRecDepth 100000 in
theorem S_1138 : aSpec wd ct_1138 := bChk_ok wx_ok btX12_ofBox (nds := []) (fk := []) (rk := (1, [])) (sp := 0) (fuel := 3000) (by decide +kernel) lk_n odX12_ofBox
def ct_1139 : aCt := (mX12_boxLong, [ag_861, ag_53], ([sl_1431, sl_2048, sl_1991], []), [pon_2041], [], [], (nat_lit 1))
set_option maxRecDepth 100000 in
theorem S_1139 : aSpec wd ct_1139 := bChk_ok wx_ok btX12_boxLong (nds := []) (fk := [7]) (rk := (1, [])) (sp := 0) (fuel := 3000) (by decide +kernel) (lk_d S_1134 ml_12_265 (lk_d S_1135 ml_12_265 (lk_d S_1136 ml_12_265 (lk_d S_1138 ml_12_262 lk_n)))) odX12_boxLong
def ct_1140 : aCt := (mX12_ofBox, [ag_861, ag_22, ag_53], ([sl_1431, sl_2048, sl_1989], []), [pon_599], [], [], (nat_lit 0))
set_option maxRecDepth 100000 in
theorem S_1140 : aSpec wd ct_1140 := bChk_ok wx_ok btX12_ofBox (nds := []) (fk := []) (rk := (1, [])) (sp := 0) (fuel := 3000) (by decide +kernel) lk_n odX12_ofBox
def ct_1141 : aCt := (mX12_boxLong, [ag_861, ag_22], ([sl_1431, sl_2048, sl_1989], []), [pon_2041], [], [], (nat_lit 1))
set_option maxRecDepth 100000 in
theorem S_1141 : aSpec wd ct_1141 := bChk_ok wx_ok btX12_boxLong (nds := []) (fk := [7]) (rk := (1, [])) (sp := 0) (fuel := 3000) (by decide +kernel) (lk_d S_1134 ml_12_265 (lk_d S_1135 ml_12_265 (lk_d S_1136 ml_12_265 (lk_d S_1140 ml_12_262 lk_n)))) odX12_boxLong
def ct_1142 : aCt := (mX12_ofBox, [ag_861, ag_122, ag_53], ([sl_1431, sl_2048, sl_1987], []), [pon_599], [], [], (nat_lit 0))
set_option maxRecDepth 100000 in
theorem S_1142 : aSpec wd ct_1142 := bChk_ok wx_ok btX12_ofBox (nds := []) (fk := []) (rk := (1, [])) (sp := 0) (fuel := 3000) (by decide +kernel) lk_n odX12_ofBox
def ct_1143 : aCt := (mX12_boxLong, [ag_861, ag_122], ([sl_1431, sl_2048, sl_1987], []), [pon_2041], [], [], (nat_lit 1))
set_option maxRecDepth 100000 in
theorem S_1143 : aSpec wd ct_1143 := bChk_ok wx_ok btX12_boxLong (nds := []) (fk := [7]) (rk := (1, [])) (sp := 0) (fuel := 3000) (by decide +kernel) (lk_d S_1134 ml_12_265 (lk_d S_1135 ml_12_265 (lk_d S_1136 ml_12_265 (lk_d S_1142 ml_12_262 lk_n)))) odX12_boxLong
def ct_1144 : aCt := (mX12_ofBox, [ag_861, ag_159, ag_53], ([sl_1431, sl_2048, sl_1985], []), [pon_599], [], [], (nat_lit 0))
set_option maxRecDepth 100000 in
theorem S_1144 : aSpec wd ct_1144 := bChk_ok wx_ok btX12_ofBox (nds := []) (fk := []) (rk := (1, [])) (sp := 0) (fuel := 3000) (by decide +kernel) lk_n odX12_ofBox
def ct_1145 : aCt := (mX12_boxLong, [ag_861, ag_159], ([sl_1431, sl_2048, sl_1985], []), [pon_2041], [], [], (nat_lit 1))
set_option maxRecDepth 100000 in
theorem S_1145 : aSpec wd ct_1145 := bChk_ok wx_ok btX12_boxLong (nds := []) (fk := [7]) (rk := (1, [])) (sp := 0) (fuel := 3000) (by decide +kernel) (lk_d S_1134 ml_12_265 (lk_d S_1135 ml_12_265 (lk_d S_1136 ml_12_265 (lk_d S_1144 ml_12_262 lk_n)))) odX12_boxLong
def ct_1146 : aCt := (mX12_ofBox, [ag_861, ag_150, ag_53], ([sl_1431, sl_2048, sl_1983], []), [pon_599], [], [], (nat_lit 0))
set_option maxRecDepth 100000 in
theorem S_1146 : aSpec wd ct_1146 := bChk_ok wx_ok btX12_ofBox (nds := []) (fk := []) (rk := (1, [])) (sp := 0) (fuel := 3000) (by decide +kernel) lk_n odX12_ofBox
def ct_1147 : aCt := (mX12_boxLong, [ag_861, ag_150], ([sl_1431, sl_2048, sl_1983], []), [pon_2041], [], [], (nat_lit 1))
set_option maxRecDepth 100000 in
theorem S_1147 : aSpec wd ct_1147 := bChk_ok wx_ok btX12_boxLong (nds := []) (fk := [7]) (rk := (1, [])) (sp := 0) (fuel := 3000) (by decide +kernel) (lk_d S_1134 ml_12_265 (lk_d S_1135 ml_12_265 (lk_d S_1136 ml_12_265 (lk_d S_1146 ml_12_262 lk_n)))) odX12_boxLong
def ct_1148 : aCt := (mX12_ofBox, [ag_861, ag_153, ag_53], ([sl_1431, sl_2048, sl_1979], []), [pon_599], [], [], (nat_lit 0))
set_option maxRecDepth 100000 in
theorem S_1148 : aSpec wd ct_1148 := bChk_ok wx_ok btX12_ofBox (nds := []) (fk := []) (rk := (1, [])) (sp := 0) (fuel := 3000) (by decide +kernel) lk_n odX12_ofBox
def ct_1149 : aCt := (mX12_boxLong, [ag_861, ag_153], ([sl_1431, sl_2048, sl_1979], []), [pon_2041], [], [], (nat_lit 1))
set_option maxRecDepth 100000 in
theorem S_1149 : aSpec wd ct_1149 := bChk_ok wx_ok btX12_boxLong (nds := []) (fk := [7]) (rk := (1, [])) (sp := 0) (fuel := 3000) (by decide +kernel) (lk_d S_1134 ml_12_265 (lk_d S_1135 ml_12_265 (lk_d S_1136 ml_12_265 (lk_d S_1148 ml_12_262 lk_n)))) odX12_boxLong
def ct_1150 : aCt := (mX12_ofBox, [ag_861, ag_133, ag_53], ([sl_1431, sl_2048, sl_1977], []), [pon_599], [], [], (nat_lit 0))
set_option maxRecDepth 100000 in
theorem S_1150 : aSpec wd ct_1150 := bChk_ok wx_ok btX12_ofBox (nds := []) (fk := []) (rk := (1, [])) (sp := 0) (fuel := 3000) (by decide +kernel) lk_n odX12_ofBox
def ct_1151 : aCt := (mX12_boxLong, [ag_861, ag_133], ([sl_1431, sl_2048, sl_1977], []), [pon_2041], [], [], (nat_lit 1))
set_option maxRecDepth 100000 in
theorem S_1151 : aSpec wd ct_1151 := bChk_ok wx_ok btX12_boxLong (nds := []) (fk := [7]) (rk := (1, [])) (sp := 0) (fuel := 3000) (by decide +kernel) (lk_d S_1134 ml_12_265 (lk_d S_1135 ml_12_265 (lk_d S_1136 ml_12_265 (lk_d S_1150 ml_12_262 lk_n)))) odX12_boxLong
def ct_1152 : aCt := (mX12_decade, [ag_861, ag_1, ag_1], ([sl_2048], []), [pon_2042, pon_1837], mdn_869, [], (nat_lit 4))
set_option maxRecDepth 100000 in
theorem S_1152 : aSpec wd ct_1152 := bChk_ok wx_ok btX12_decade (nds := [((nat_lit 52), [lcn_898, lcn_695, lcn_696, lcn_2043, lcn_351, lcn_1899], [], [sl_867, sl_1428, sl_1431, sl_2048], [], (759, [(4, -10)])), ((nat_lit 61), [lcn_898, lcn_695, lcn_2044, lcn_2043, lcn_351, lcn_1897, lcn_596], [], [sl_867, sl_1428, sl_1431, sl_2048], [], (758, [(4, -10)])), ((nat_lit 61), [lcn_898, lcn_695, lcn_2044, lcn_2043, lcn_351, lcn_1897, lcn_1945, lcn_2045, lcn_2046], [], [sl_867, sl_1428, sl_1431, sl_2048, sl_1808], [], (757, [(4, -10)])), ((nat_lit 61), [lcn_898, lcn_695, lcn_2044, lcn_2043, lcn_351, lcn_1897, lcn_1946, lcn_2045, lcn_2046], [], [sl_867, sl_1428, sl_1431, sl_2048, sl_1991], [], (756, [(4, -10)])), ((nat_lit 61), [lcn_898, lcn_695, lcn_2044, lcn_2043, lcn_351, lcn_1897, lcn_1947, lcn_2045, lcn_2046], [], [sl_867, sl_1428, sl_1431, sl_2048, sl_1989], [], (755, [(4, -10)])), ((nat_lit 61), [lcn_898, lcn_695, lcn_2044, lcn_2043, lcn_351, lcn_1897, lcn_1948, lcn_2045, lcn_2046], [], [sl_867, sl_1428, sl_1431, sl_2048, sl_1987], [], (754, [(4, -10)])), ((nat_lit 61), [lcn_898, lcn_695, lcn_2044, lcn_2043, lcn_351, lcn_1897, lcn_1949, lcn_2045, lcn_2046], [], [sl_867, sl_1428, sl_1431, sl_2048, sl_1985], [], (753, [(4, -10)])), ((nat_lit 61), [lcn_898, lcn_695, lcn_2044, lcn_2043, lcn_351, lcn_1897, lcn_1950, lcn_2045, lcn_2046], [], [sl_867, sl_1428, sl_1431, sl_2048, sl_1983], [], (752, [(4, -10)])), ((nat_lit 61), [lcn_898, lcn_695, lcn_2044, lcn_2043, lcn_351, lcn_1897, lcn_1951, lcn_2045, lcn_2046], [], [sl_867, sl_1428, sl_1431, sl_2048, sl_1979], [], (751, [(4, -10)])), ((nat_lit 61), [lcn_898, lcn_695, lcn_2044, lcn_2043, lcn_351, lcn_1897, lcn_1952, lcn_2045, lcn_2046], [], [sl_867, sl_1428, sl_1431, sl_2048, sl_1977], [], (750, [(4, -10)]))]) (fk := []) (rk := (760, [])) (sp := 2310346608841064448) (fuel := 3000) (by decide +kernel) (lk_d S_447 ml_12_167 (lk_d S_1151 ml_12_284 (lk_d S_1149 ml_12_284 (lk_d S_1147 ml_12_284 (lk_d S_1145 ml_12_284 (lk_d S_1143 ml_12_284 (lk_d S_1141 ml_12_284 (lk_d S_1139 ml_12_284 (lk_d S_1137 ml_12_284 (lk_d S_908 ml_12_170 (lk_d S_449 ml_12_170 (lk_d S_1150 ml_12_262 (lk_d S_1148 ml_12_262 (lk_d S_1146 ml_12_262 (lk_d S_1144 ml_12_262 (lk_d S_1142 ml_12_262 (lk_d S_1140 ml_12_262 (lk_d S_1138 ml_12_262 (lk_d S_1133 ml_12_262 (lk_d S_930 ml_12_291 (lk_d S_1095 ml_12_149 (lk_d S_474 ml_12_149 lk_n)))))))))))))))))))))) odX12_decade
def sl_2049 : (Nat × Nat) × aI := (((nat_lit 199), (nat_lit 4)), [((.ofNat (nat_lit 4)), (.ofNat (nat_lit 4)), (nat_lit 1))])
def ct_1153 : aCt := (mX12_ofBox, [ag_861, ag_170, ag_53], ([sl_1431, sl_2049, sl_1808], []), [pon_346], [], [], (nat_lit 0))
set_option maxRecDepth 100000 in
theorem S_1153 : aSpec wd ct_1153 := bChk_ok wx_ok btX12_ofBox (nds := []) (fk := []) (rk := (1, [])) (sp := 0) (fuel := 3000) (by decide +kernel) lk_n odX12_ofBox
def ct_1154 : aCt := (mX12_songLong, [ag_861, ag_170], ([sl_2049], []), [pon_2041], [], [], (nat_lit 0))
set_option maxRecDepth 100000 in
theorem S_1154 : aSpec wd ct_1154 := bChk_ok wx_ok btX12_songLong (nds := []) (fk := []) (rk := (1, [])) (sp := 0) (fuel := 3000) (by decide +kernel) lk_n odX12_songLong
def ct_1155 : aCt := (mX12_songLong, [ag_861, ag_53], ([sl_2049], []), [pon_2041], [], [], (nat_lit 0))
set_option maxRecDepth 100000 in
theorem S_1155 : aSpec wd ct_1155 := bChk_ok wx_ok btX12_songLong (nds := []) (fk := []) (rk := (1, [])) (sp := 0) (fuel := 3000) (by decide +kernel) lk_n odX12_songLong
def ct_1156 : aCt := (mX12_songLong, [ag_861, ag_22], ([sl_2049], []), [pon_2041], [], [], (nat_lit 0))
set_option maxRecDepth 100000 in
theorem S_1156 : aSpec wd ct_1156 := bChk_ok wx_ok btX12_songLong (nds := []) (fk := []) (rk := (1, [])) (sp := 0) (fuel := 3000) (by decide +kernel) lk_n odX12_songLong
def ct_1157 : aCt := (mX12_songLong, [ag_861, ag_122], ([sl_2049], []), [pon_2041], [], [], (nat_lit 0))
set_option maxRecDepth 100000 in
theorem S_1157 : aSpec wd ct_1157 := bChk_ok wx_ok btX12_songLong (nds := []) (fk := []) (rk := (1, [])) (sp := 0) (fuel := 3000) (by decide +kernel) lk_n odX12_songLong
def ct_1158 : aCt := (mX12_boxLong, [ag_861, ag_170], ([sl_1431, sl_2049, sl_1808], []), [pon_2041], [], [], (nat_lit 1))
set_option maxRecDepth 100000 in
theorem S_1158 : aSpec wd ct_1158 := bChk_ok wx_ok btX12_boxLong (nds := []) (fk := [7]) (rk := (1, [])) (sp := 0) (fuel := 3000) (by decide +kernel) (lk_d S_1154 ml_12_265 (lk_d S_1155 ml_12_265 (lk_d S_1156 ml_12_265 (lk_d S_1157 ml_12_265 (lk_d S_1153 ml_12_262 lk_n))))) odX12_boxLong
def ct_1159 : aCt := (mX12_ofBox, [ag_861, ag_53, ag_53], ([sl_1431, sl_2049, sl_1991], []), [pon_346], [], [], (nat_lit 0))
set_option maxRecDepth 100000 in
theorem S_1159 : aSpec wd ct_1159 := bChk_ok wx_ok btX12_ofBox (nds := []) (fk := []) (rk := (1, [])) (sp := 0) (fuel := 3000) (by decide +kernel) lk_n odX12_ofBox
def ct_1160 : aCt := (mX12_boxLong, [ag_861, ag_53], ([sl_1431, sl_2049, sl_1991], []), [pon_2041], [], [], (nat_lit 1))
set_option maxRecDepth 100000 in
theorem S_1160 : aSpec wd ct_1160 := bChk_ok wx_ok btX12_boxLong (nds := []) (fk := [7]) (rk := (1, [])) (sp := 0) (fuel := 3000) (by decide +kernel) (lk_d S_1154 ml_12_265 (lk_d S_1155 ml_12_265 (lk_d S_1156 ml_12_265 (lk_d S_1157 ml_12_265 (lk_d S_1159 ml_12_262 lk_n))))) odX12_boxLong
def ct_1161 : aCt := (mX12_ofBox, [ag_861, ag_22, ag_53], ([sl_1431, sl_2049, sl_1989], []), [pon_346], [], [], (nat_lit 0))
set_option maxRecDepth 100000 in
theorem S_1161 : aSpec wd ct_1161 := bChk_ok wx_ok btX12_ofBox (nds := []) (fk := []) (rk := (1, [])) (sp := 0) (fuel := 3000) (by decide +kernel) lk_n odX12_ofBox
def ct_1162 : aCt := (mX12_boxLong, [ag_861, ag_22], ([sl_1431, sl_2049, sl_1989], []), [pon_2041], [], [], (nat_lit 1))
set_option maxRecDepth 100000 in
theorem S_1162 : aSpec wd ct_1162 := bChk_ok wx_ok btX12_boxLong (nds := []) (fk := [7]) (rk := (1, [])) (sp := 0) (fuel := 3000) (by decide +kernel) (lk_d S_1154 ml_12_265 (lk_d S_1155 ml_12_265 (lk_d S_1156 ml_12_265 (lk_d S_1157 ml_12_265 (lk_d S_1161 ml_12_262 lk_n))))) odX12_boxLong
def ct_1163 : aCt := (mX12_ofBox, [ag_861, ag_122, ag_53], ([sl_1431, sl_2049, sl_1987], []), [pon_346], [], [], (nat_lit 0))
set_option maxRecDepth 100000 in
theorem S_1163 : aSpec wd ct_1163 := bChk_ok wx_ok btX12_ofBox (nds := []) (fk := []) (rk := (1, [])) (sp := 0) (fuel := 3000) (by decide +kernel) lk_n odX12_ofBox
def ct_1164 : aCt := (mX12_boxLong, [ag_861, ag_122], ([sl_1431, sl_2049, sl_1987], []), [pon_2041], [], [], (nat_lit 1))
set_option maxRecDepth 100000 in
theorem S_1164 : aSpec wd ct_1164 := bChk_ok wx_ok btX12_boxLong (nds := []) (fk := [7]) (rk := (1, [])) (sp := 0) (fuel := 3000) (by decide +kernel) (lk_d S_1154 ml_12_265 (lk_d S_1155 ml_12_265 (lk_d S_1156 ml_12_265 (lk_d S_1157 ml_12_265 (lk_d S_1163 ml_12_262 lk_n))))) odX12_boxLong
def ct_1165 : aCt := (mX12_ofBox, [ag_861, ag_159, ag_53], ([sl_1431, sl_2049, sl_1985], []), [pon_346], [], [], (nat_lit 0))
set_option maxRecDepth 100000 in
theorem S_1165 : aSpec wd ct_1165 := bChk_ok wx_ok btX12_ofBox (nds := []) (fk := []) (rk := (1, [])) (sp := 0) (fuel := 3000) (by decide +kernel) lk_n odX12_ofBox
def ct_1166 : aCt := (mX12_boxLong, [ag_861, ag_159], ([sl_1431, sl_2049, sl_1985], []), [pon_2041], [], [], (nat_lit 1))
set_option maxRecDepth 100000 in
theorem S_1166 : aSpec wd ct_1166 := bChk_ok wx_ok btX12_boxLong (nds := []) (fk := [7]) (rk := (1, [])) (sp := 0) (fuel := 3000) (by decide +kernel) (lk_d S_1154 ml_12_265 (lk_d S_1155 ml_12_265 (lk_d S_1156 ml_12_265 (lk_d S_1157 ml_12_265 (lk_d S_1165 ml_12_262 lk_n))))) odX12_boxLong
def ct_1167 : aCt := (mX12_ofBox, [ag_861, ag_150, ag_53], ([sl_1431, sl_2049, sl_1983], []), [pon_346], [], [], (nat_lit 0))
set_option maxRecDepth 100000 in
theorem S_1167 : aSpec wd ct_1167 := bChk_ok wx_ok btX12_ofBox (nds := []) (fk := []) (rk := (1, [])) (sp := 0) (fuel := 3000) (by decide +kernel) lk_n odX12_ofBox
def ct_1168 : aCt := (mX12_boxLong, [ag_861, ag_150], ([sl_1431, sl_2049, sl_1983], []), [pon_2041], [], [], (nat_lit 1))
set_option maxRecDepth 100000 in
theorem S_1168 : aSpec wd ct_1168 := bChk_ok wx_ok btX12_boxLong (nds := []) (fk := [7]) (rk := (1, [])) (sp := 0) (fuel := 3000) (by decide +kernel) (lk_d S_1154 ml_12_265 (lk_d S_1155 ml_12_265 (lk_d S_1156 ml_12_265 (lk_d S_1157 ml_12_265 (lk_d S_1167 ml_12_262 lk_n))))) odX12_boxLong
def ct_1169 : aCt := (mX12_ofBox, [ag_861, ag_153, ag_53], ([sl_1431, sl_2049, sl_1979], []), [pon_346], [], [], (nat_lit 0))
set_option maxRecDepth 100000 in
theorem S_1169 : aSpec wd ct_1169 := bChk_ok wx_ok btX12_ofBox (nds := []) (fk := []) (rk := (1, [])) (sp := 0) (fuel := 3000) (by decide +kernel) lk_n odX12_ofBox
def ct_1170 : aCt := (mX12_boxLong, [ag_861, ag_153], ([sl_1431, sl_2049, sl_1979], []), [pon_2041], [], [], (nat_lit 1))
set_option maxRecDepth 100000 in
theorem S_1170 : aSpec wd ct_1170 := bChk_ok wx_ok btX12_boxLong (nds := []) (fk := [7]) (rk := (1, [])) (sp := 0) (fuel := 3000) (by decide +kernel) (lk_d S_1154 ml_12_265 (lk_d S_1155 ml_12_265 (lk_d S_1156 ml_12_265 (lk_d S_1157 ml_12_265 (lk_d S_1169 ml_12_262 lk_n))))) odX12_boxLong
def ct_1171 : aCt := (mX12_ofBox, [ag_861, ag_133, ag_53], ([sl_1431, sl_2049, sl_1977], []), [pon_346], [], [], (nat_lit 0))
set_option maxRecDepth 100000 in
theorem S_1171 : aSpec wd ct_1171 := bChk_ok wx_ok btX12_ofBox (nds := []) (fk := []) (rk := (1, [])) (sp := 0) (fuel := 3000) (by decide +kernel) lk_n odX12_ofBox
def ct_1172 : aCt := (mX12_boxLong, [ag_861, ag_133], ([sl_1431, sl_2049, sl_1977], []), [pon_2041], [], [], (nat_lit 1))
set_option maxRecDepth 100000 in
theorem S_1172 : aSpec wd ct_1172 := bChk_ok wx_ok btX12_boxLong (nds := []) (fk := [7]) (rk := (1, [])) (sp := 0) (fuel := 3000) (by decide +kernel) (lk_d S_1154 ml_12_265 (lk_d S_1155 ml_12_265 (lk_d S_1156 ml_12_265 (lk_d S_1157 ml_12_265 (lk_d S_1171 ml_12_262 lk_n))))) odX12_boxLong
def ct_1173 : aCt := (mX12_decade, [ag_861, ag_1, ag_1], ([sl_2049], []), [pon_2042, pon_1837], mdn_869, [], (nat_lit 4))
set_option maxRecDepth 100000 in
theorem S_1173 : aSpec wd ct_1173 := bChk_ok wx_ok btX12_decade (nds := [((nat_lit 52), [lcn_898, lcn_695, lcn_696, lcn_2043, lcn_351, lcn_1899], [], [sl_867, sl_1428, sl_1431, sl_2049], [], (759, [(4, -10)])), ((nat_lit 61), [lcn_898, lcn_695, lcn_2044, lcn_2043, lcn_351, lcn_1897, lcn_596], [], [sl_867, sl_1428, sl_1431, sl_2049], [], (758, [(4, -10)])), ((nat_lit 61), [lcn_898, lcn_695, lcn_2044, lcn_2043, lcn_351, lcn_1897, lcn_1945, lcn_2045, lcn_2046], [], [sl_867, sl_1428, sl_1431, sl_2049, sl_1808], [], (757, [(4, -10)])), ((nat_lit 61), [lcn_898, lcn_695, lcn_2044, lcn_2043, lcn_351, lcn_1897, lcn_1946, lcn_2045, lcn_2046], [], [sl_867, sl_1428, sl_1431, sl_2049, sl_1991], [], (756, [(4, -10)])), ((nat_lit 61), [lcn_898, lcn_695, lcn_2044, lcn_2043, lcn_351, lcn_1897, lcn_1947, lcn_2045, lcn_2046], [], [sl_867, sl_1428, sl_1431, sl_2049, sl_1989], [], (755, [(4, -10)])), ((nat_lit 61), [lcn_898, lcn_695, lcn_2044, lcn_2043, lcn_351, lcn_1897, lcn_1948, lcn_2045, lcn_2046], [], [sl_867, sl_1428, sl_1431, sl_2049, sl_1987], [], (754, [(4, -10)])), ((nat_lit 61), [lcn_898, lcn_695, lcn_2044, lcn_2043, lcn_351, lcn_1897, lcn_1949, lcn_2045, lcn_2046], [], [sl_867, sl_1428, sl_1431, sl_2049, sl_1985], [], (753, [(4, -10)])), ((nat_lit 61), [lcn_898, lcn_695, lcn_2044, lcn_2043, lcn_351, lcn_1897, lcn_1950, lcn_2045, lcn_2046], [], [sl_867, sl_1428, sl_1431, sl_2049, sl_1983], [], (752, [(4, -10)])), ((nat_lit 61), [lcn_898, lcn_695, lcn_2044, lcn_2043, lcn_351, lcn_1897, lcn_1951, lcn_2045, lcn_2046], [], [sl_867, sl_1428, sl_1431, sl_2049, sl_1979], [], (751, [(4, -10)])), ((nat_lit 61), [lcn_898, lcn_695, lcn_2044, lcn_2043, lcn_351, lcn_1897, lcn_1952, lcn_2045, lcn_2046], [], [sl_867, sl_1428, sl_1431, sl_2049, sl_1977], [], (750, [(4, -10)]))]) (fk := []) (rk := (760, [])) (sp := 2310346608841064448) (fuel := 3000) (by decide +kernel) (lk_d S_447 ml_12_167 (lk_d S_1172 ml_12_284 (lk_d S_1170 ml_12_284 (lk_d S_1168 ml_12_284 (lk_d S_1166 ml_12_284 (lk_d S_1164 ml_12_284 (lk_d S_1162 ml_12_284 (lk_d S_1160 ml_12_284 (lk_d S_1158 ml_12_284 (lk_d S_908 ml_12_170 (lk_d S_449 ml_12_170 (lk_d S_1171 ml_12_262 (lk_d S_1169 ml_12_262 (lk_d S_1167 ml_12_262 (lk_d S_1165 ml_12_262 (lk_d S_1163 ml_12_262 (lk_d S_1161 ml_12_262 (lk_d S_1159 ml_12_262 (lk_d S_1153 ml_12_262 (lk_d S_930 ml_12_291 (lk_d S_1095 ml_12_149 (lk_d S_474 ml_12_149 lk_n)))))))))))))))))))))) odX12_decade
def sl_2050 : (Nat × Nat) × aI := (((nat_lit 199), (nat_lit 4)), [((.ofNat (nat_lit 5)), (.ofNat (nat_lit 5)), (nat_lit 1))])
def ct_1174 : aCt := (mX12_ofBox, [ag_861, ag_170, ag_53], ([sl_1431, sl_2050, sl_1808], []), [pon_606], [], [], (nat_lit 0))
set_option maxRecDepth 100000 in
theorem S_1174 : aSpec wd ct_1174 := bChk_ok wx_ok btX12_ofBox (nds := []) (fk := []) (rk := (1, [])) (sp := 0) (fuel := 3000) (by decide +kernel) lk_n odX12_ofBox
def ct_1175 : aCt := (mX12_songLong, [ag_861, ag_170], ([sl_2050], []), [pon_2041], [], [], (nat_lit 0))
set_option maxRecDepth 100000 in
theorem S_1175 : aSpec wd ct_1175 := bChk_ok wx_ok btX12_songLong (nds := []) (fk := []) (rk := (1, [])) (sp := 0) (fuel := 3000) (by decide +kernel) lk_n odX12_songLong
def ct_1176 : aCt := (mX12_songLong, [ag_861, ag_53], ([sl_2050], []), [pon_2041], [], [], (nat_lit 0))
set_option maxRecDepth 100000 in
theorem S_1176 : aSpec wd ct_1176 := bChk_ok wx_ok btX12_songLong (nds := []) (fk := []) (rk := (1, [])) (sp := 0) (fuel := 3000) (by decide +kernel) lk_n odX12_songLong
def ct_1177 : aCt := (mX12_songLong, [ag_861, ag_22], ([sl_2050], []), [pon_2041], [], [], (nat_lit 0))
set_option maxRecDepth 100000 in
theorem S_1177 : aSpec wd ct_1177 := bChk_ok wx_ok btX12_songLong (nds := []) (fk := []) (rk := (1, [])) (sp := 0) (fuel := 3000) (by decide +kernel) lk_n odX12_songLong
def ct_1178 : aCt := (mX12_songLong, [ag_861, ag_122], ([sl_2050], []), [pon_2041], [], [], (nat_lit 0))
set_option maxRecDepth 100000 in
theorem S_1178 : aSpec wd ct_1178 := bChk_ok wx_ok btX12_songLong (nds := []) (fk := []) (rk := (1, [])) (sp := 0) (fuel := 3000) (by decide +kernel) lk_n odX12_songLong
def ct_1179 : aCt := (mX12_songLong, [ag_861, ag_159], ([sl_2050], []), [pon_2041], [], [], (nat_lit 0))
set_option maxRecDepth 100000 in
theorem S_1179 : aSpec wd ct_1179 := bChk_ok wx_ok btX12_songLong (nds := []) (fk := []) (rk := (1, [])) (sp := 0) (fuel := 3000) (by decide +kernel) lk_n odX12_songLong
def ct_1180 : aCt := (mX12_boxLong, [ag_861, ag_170], ([sl_1431, sl_2050, sl_1808], []), [pon_2041], [], [], (nat_lit 1))
set_option maxRecDepth 100000 in
theorem S_1180 : aSpec wd ct_1180 := bChk_ok wx_ok btX12_boxLong (nds := []) (fk := [7]) (rk := (1, [])) (sp := 0) (fuel := 3000) (by decide +kernel) (lk_d S_1175 ml_12_265 (lk_d S_1176 ml_12_265 (lk_d S_1177 ml_12_265 (lk_d S_1178 ml_12_265 (lk_d S_1179 ml_12_265 (lk_d S_1174 ml_12_262 lk_n)))))) odX12_boxLong
def ct_1181 : aCt := (mX12_ofBox, [ag_861, ag_53, ag_53], ([sl_1431, sl_2050, sl_1991], []), [pon_606], [], [], (nat_lit 0))
set_option maxRecDepth 100000 in
theorem S_1181 : aSpec wd ct_1181 := bChk_ok wx_ok btX12_ofBox (nds := []) (fk := []) (rk := (1, [])) (sp := 0) (fuel := 3000) (by decide +kernel) lk_n odX12_ofBox
def ct_1182 : aCt := (mX12_boxLong, [ag_861, ag_53], ([sl_1431, sl_2050, sl_1991], []), [pon_2041], [], [], (nat_lit 1))
set_option maxRecDepth 100000 in
theorem S_1182 : aSpec wd ct_1182 := bChk_ok wx_ok btX12_boxLong (nds := []) (fk := [7]) (rk := (1, [])) (sp := 0) (fuel := 3000) (by decide +kernel) (lk_d S_1175 ml_12_265 (lk_d S_1176 ml_12_265 (lk_d S_1177 ml_12_265 (lk_d S_1178 ml_12_265 (lk_d S_1179 ml_12_265 (lk_d S_1181 ml_12_262 lk_n)))))) odX12_boxLong
def ct_1183 : aCt := (mX12_ofBox, [ag_861, ag_22, ag_53], ([sl_1431, sl_2050, sl_1989], []), [pon_606], [], [], (nat_lit 0))
set_option maxRecDepth 100000 in
theorem S_1183 : aSpec wd ct_1183 := bChk_ok wx_ok btX12_ofBox (nds := []) (fk := []) (rk := (1, [])) (sp := 0) (fuel := 3000) (by decide +kernel) lk_n odX12_ofBox
end Pk2
section Pk3
def ct_1184 : aCt := (mX12_boxLong, [ag_861, ag_22], ([sl_1431, sl_2050, sl_1989], []), [pon_2041], [], [], (nat_lit 1))
set_option maxRecDepth 100000 in
theorem S_1184 : aSpec wd ct_1184 := bChk_ok wx_ok btX12_boxLong (nds := []) (fk := [7]) (rk := (1, [])) (sp := 0) (fuel := 3000) (by decide +kernel) (lk_d S_1175 ml_12_265 (lk_d S_1176 ml_12_265 (lk_d S_1177 ml_12_265 (lk_d S_1178 ml_12_265 (lk_d S_1179 ml_12_265 (lk_d S_1183 ml_12_262 lk_n)))))) odX12_boxLong
def ct_1185 : aCt := (mX12_ofBox, [ag_861, ag_122, ag_53], ([sl_1431, sl_2050, sl_1987], []), [pon_606], [], [], (nat_lit 0))
set_option maxRecDepth 100000 in
theorem S_1185 : aSpec wd ct_1185 := bChk_ok wx_ok btX12_ofBox (nds := []) (fk := []) (rk := (1, [])) (sp := 0) (fuel := 3000) (by decide +kernel) lk_n odX12_ofBox
def ct_1186 : aCt := (mX12_boxLong, [ag_861, ag_122], ([sl_1431, sl_2050, sl_1987], []), [pon_2041], [], [], (nat_lit 1))
set_option maxRecDepth 100000 in
theorem S_1186 : aSpec wd ct_1186 := bChk_ok wx_ok btX12_boxLong (nds := []) (fk := [7]) (rk := (1, [])) (sp := 0) (fuel := 3000) (by decide +kernel) (lk_d S_1175 ml_12_265 (lk_d S_1176 ml_12_265 (lk_d S_1177 ml_12_265 (lk_d S_1178 ml_12_265 (lk_d S_1179 ml_12_265 (lk_d S_1185 ml_12_262 lk_n)))))) odX12_boxLong
def ct_1187 : aCt := (mX12_ofBox, [ag_861, ag_159, ag_53], ([sl_1431, sl_2050, sl_1985], []), [pon_606], [], [], (nat_lit 0))
set_option maxRecDepth 100000 in
theorem S_1187 : aSpec wd ct_1187 := bChk_ok wx_ok btX12_ofBox (nds := []) (fk := []) (rk := (1, [])) (sp := 0) (fuel := 3000) (by decide +kernel) lk_n odX12_ofBox
def ct_1188 : aCt := (mX12_boxLong, [ag_861, ag_159], ([sl_1431, sl_2050, sl_1985], []), [pon_2041], [], [], (nat_lit 1))
set_option maxRecDepth 100000 in
theorem S_1188 : aSpec wd ct_1188 := bChk_ok wx_ok btX12_boxLong (nds := []) (fk := [7]) (rk := (1, [])) (sp := 0) (fuel := 3000) (by decide +kernel) (lk_d S_1175 ml_12_265 (lk_d S_1176 ml_12_265 (lk_d S_1177 ml_12_265 (lk_d S_1178 ml_12_265 (lk_d S_1179 ml_12_265 (lk_d S_1187 ml_12_262 lk_n)))))) odX12_boxLong
def ct_1189 : aCt := (mX12_ofBox, [ag_861, ag_150, ag_53], ([sl_1431, sl_2050, sl_1983], []), [pon_606], [], [], (nat_lit 0))
set_option maxRecDepth 100000 in
theorem S_1189 : aSpec wd ct_1189 := bChk_ok wx_ok btX12_ofBox (nds := []) (fk := []) (rk := (1, [])) (sp := 0) (fuel := 3000) (by decide +kernel) lk_n odX12_ofBox
def ct_1190 : aCt := (mX12_boxLong, [ag_861, ag_150], ([sl_1431, sl_2050, sl_1983], []), [pon_2041], [], [], (nat_lit 1))
set_option maxRecDepth 100000 in
theorem S_1190 : aSpec wd ct_1190 := bChk_ok wx_ok btX12_boxLong (nds := []) (fk := [7]) (rk := (1, [])) (sp := 0) (fuel := 3000) (by decide +kernel) (lk_d S_1175 ml_12_265 (lk_d S_1176 ml_12_265 (lk_d S_1177 ml_12_265 (lk_d S_1178 ml_12_265 (lk_d S_1179 ml_12_265 (lk_d S_1189 ml_12_262 lk_n)))))) odX12_boxLong
def ct_1191 : aCt := (mX12_ofBox, [ag_861, ag_153, ag_53], ([sl_1431, sl_2050, sl_1979], []), [pon_606], [], [], (nat_lit 0))
set_option maxRecDepth 100000 in
theorem S_1191 : aSpec wd ct_1191 := bChk_ok wx_ok btX12_ofBox (nds := []) (fk := []) (rk := (1, [])) (sp := 0) (fuel := 3000) (by decide +kernel) lk_n odX12_ofBox
def ct_1192 : aCt := (mX12_boxLong, [ag_861, ag_153], ([sl_1431, sl_2050, sl_1979], []), [pon_2041], [], [], (nat_lit 1))
set_option maxRecDepth 100000 in
theorem S_1192 : aSpec wd ct_1192 := bChk_ok wx_ok btX12_boxLong (nds := []) (fk := [7]) (rk := (1, [])) (sp := 0) (fuel := 3000) (by decide +kernel) (lk_d S_1175 ml_12_265 (lk_d S_1176 ml_12_265 (lk_d S_1177 ml_12_265 (lk_d S_1178 ml_12_265 (lk_d S_1179 ml_12_265 (lk_d S_1191 ml_12_262 lk_n)))))) odX12_boxLong
def ct_1193 : aCt := (mX12_ofBox, [ag_861, ag_133, ag_53], ([sl_1431, sl_2050, sl_1977], []), [pon_606], [], [], (nat_lit 0))
set_option maxRecDepth 100000 in
theorem S_1193 : aSpec wd ct_1193 := bChk_ok wx_ok btX12_ofBox (nds := []) (fk := []) (rk := (1, [])) (sp := 0) (fuel := 3000) (by decide +kernel) lk_n odX12_ofBox
def ct_1194 : aCt := (mX12_boxLong, [ag_861, ag_133], ([sl_1431, sl_2050, sl_1977], []), [pon_2041], [], [], (nat_lit 1))
set_option maxRecDepth 100000 in
theorem S_1194 : aSpec wd ct_1194 := bChk_ok wx_ok btX12_boxLong (nds := []) (fk := [7]) (rk := (1, [])) (sp := 0) (fuel := 3000) (by decide +kernel) (lk_d S_1175 ml_12_265 (lk_d S_1176 ml_12_265 (lk_d S_1177 ml_12_265 (lk_d S_1178 ml_12_265 (lk_d S_1179 ml_12_265 (lk_d S_1193 ml_12_262 lk_n)))))) odX12_boxLong
def ct_1195 : aCt := (mX12_decade, [ag_861, ag_1, ag_1], ([sl_2050], []), [pon_2042, pon_1837], mdn_869, [], (nat_lit 4))
set_option maxRecDepth 100000 in
theorem S_1195 : aSpec wd ct_1195 := bChk_ok wx_ok btX12_decade (nds := [((nat_lit 52), [lcn_898, lcn_695, lcn_696, lcn_2043, lcn_351, lcn_1899], [], [sl_867, sl_1428, sl_1431, sl_2050], [], (759, [(4, -10)])), ((nat_lit 61), [lcn_898, lcn_695, lcn_2044, lcn_2043, lcn_351, lcn_1897, lcn_596], [], [sl_867, sl_1428, sl_1431, sl_2050], [], (758, [(4, -10)])), ((nat_lit 61), [lcn_898, lcn_695, lcn_2044, lcn_2043, lcn_351, lcn_1897, lcn_1945, lcn_2045, lcn_2046], [], [sl_867, sl_1428, sl_1431, sl_2050, sl_1808], [], (757, [(4, -10)])), ((nat_lit 61), [lcn_898, lcn_695, lcn_2044, lcn_2043, lcn_351, lcn_1897, lcn_1946, lcn_2045, lcn_2046], [], [sl_867, sl_1428, sl_1431, sl_2050, sl_1991], [], (756, [(4, -10)])), ((nat_lit 61), [lcn_898, lcn_695, lcn_2044, lcn_2043, lcn_351, lcn_1897, lcn_1947, lcn_2045, lcn_2046], [], [sl_867, sl_1428, sl_1431, sl_2050, sl_1989], [], (755, [(4, -10)])), ((nat_lit 61), [lcn_898, lcn_695, lcn_2044, lcn_2043, lcn_351, lcn_1897, lcn_1948, lcn_2045, lcn_2046], [], [sl_867, sl_1428, sl_1431, sl_2050, sl_1987], [], (754, [(4, -10)])), ((nat_lit 61), [lcn_898, lcn_695, lcn_2044, lcn_2043, lcn_351, lcn_1897, lcn_1949, lcn_2045, lcn_2046], [], [sl_867, sl_1428, sl_1431, sl_2050, sl_1985], [], (753, [(4, -10)])), ((nat_lit 61), [lcn_898, lcn_695, lcn_2044, lcn_2043, lcn_351, lcn_1897, lcn_1950, lcn_2045, lcn_2046], [], [sl_867, sl_1428, sl_1431, sl_2050, sl_1983], [], (752, [(4, -10)])), ((nat_lit 61), [lcn_898, lcn_695, lcn_2044, lcn_2043, lcn_351, lcn_1897, lcn_1951, lcn_2045, lcn_2046], [], [sl_867, sl_1428, sl_1431, sl_2050, sl_1979], [], (751, [(4, -10)])), ((nat_lit 61), [lcn_898, lcn_695, lcn_2044, lcn_2043, lcn_351, lcn_1897, lcn_1952, lcn_2045, lcn_2046], [], [sl_867, sl_1428, sl_1431, sl_2050, sl_1977], [], (750, [(4, -10)]))]) (fk := []) (rk := (760, [])) (sp := 2310346608841064448) (fuel := 3000) (by decide +kernel) (lk_d S_447 ml_12_167 (lk_d S_1194 ml_12_284 (lk_d S_1192 ml_12_284 (lk_d S_1190 ml_12_284 (lk_d S_1188 ml_12_284 (lk_d S_1186 ml_12_284 (lk_d S_1184 ml_12_284 (lk_d S_1182 ml_12_284 (lk_d S_1180 ml_12_284 (lk_d S_908 ml_12_170 (lk_d S_449 ml_12_170 (lk_d S_1193 ml_12_262 (lk_d S_1191 ml_12_262 (lk_d S_1189 ml_12_262 (lk_d S_1187 ml_12_262 (lk_d S_1185 ml_12_262 (lk_d S_1183 ml_12_262 (lk_d S_1181 ml_12_262 (lk_d S_1174 ml_12_262 (lk_d S_930 ml_12_291 (lk_d S_1095 ml_12_149 (lk_d S_474 ml_12_149 lk_n)))))))))))))))))))))) odX12_decade
def sl_2051 : (Nat × Nat) × aI := (((nat_lit 199), (nat_lit 4)), [((.ofNat (nat_lit 6)), (.ofNat (nat_lit 6)), (nat_lit 1))])
def pon_2052 : aPo := (some (.inl [((.ofNat (nat_lit 0)), (.ofNat (nat_lit 5)), (nat_lit 1))]), [], [], [])
def ct_1196 : aCt := (mX12_ofBox, [ag_861, ag_170, ag_53], ([sl_1431, sl_2051, sl_1808], []), [pon_2052], [], [], (nat_lit 0))
set_option maxRecDepth 100000 in
theorem S_1196 : aSpec wd ct_1196 := bChk_ok wx_ok btX12_ofBox (nds := []) (fk := []) (rk := (1, [])) (sp := 0) (fuel := 3000) (by decide +kernel) lk_n odX12_ofBox
def ct_1197 : aCt := (mX12_songLong, [ag_861, ag_170], ([sl_2051], []), [pon_2041], [], [], (nat_lit 0))
set_option maxRecDepth 100000 in
theorem S_1197 : aSpec wd ct_1197 := bChk_ok wx_ok btX12_songLong (nds := []) (fk := []) (rk := (1, [])) (sp := 0) (fuel := 3000) (by decide +kernel) lk_n odX12_songLong
def ct_1198 : aCt := (mX12_songLong, [ag_861, ag_53], ([sl_2051], []), [pon_2041], [], [], (nat_lit 0))
set_option maxRecDepth 100000 in
theorem S_1198 : aSpec wd ct_1198 := bChk_ok wx_ok btX12_songLong (nds := []) (fk := []) (rk := (1, [])) (sp := 0) (fuel := 3000) (by decide +kernel) lk_n odX12_songLong
def ct_1199 : aCt := (mX12_songLong, [ag_861, ag_22], ([sl_2051], []), [pon_2041], [], [], (nat_lit 0))
set_option maxRecDepth 100000 in
theorem S_1199 : aSpec wd ct_1199 := bChk_ok wx_ok btX12_songLong (nds := []) (fk := []) (rk := (1, [])) (sp := 0) (fuel := 3000) (by decide +kernel) lk_n odX12_songLong
def ct_1200 : aCt := (mX12_songLong, [ag_861, ag_122], ([sl_2051], []), [pon_2041], [], [], (nat_lit 0))
set_option maxRecDepth 100000 in
theorem S_1200 : aSpec wd ct_1200 := bChk_ok wx_ok btX12_songLong (nds := []) (fk := []) (rk := (1, [])) (sp := 0) (fuel := 3000) (by decide +kernel) lk_n odX12_songLong
def ct_1201 : aCt := (mX12_songLong, [ag_861, ag_159], ([sl_2051], []), [pon_2041], [], [], (nat_lit 0))
set_option maxRecDepth 100000 in
theorem S_1201 : aSpec wd ct_1201 := bChk_ok wx_ok btX12_songLong (nds := []) (fk := []) (rk := (1, [])) (sp := 0) (fuel := 3000) (by decide +kernel) lk_n odX12_songLong
def ct_1202 : aCt := (mX12_songLong, [ag_861, ag_150], ([sl_2051], []), [pon_2041], [], [], (nat_lit 0))
set_option maxRecDepth 100000 in
theorem S_1202 : aSpec wd ct_1202 := bChk_ok wx_ok btX12_songLong (nds := []) (fk := []) (rk := (1, [])) (sp := 0) (fuel := 3000) (by decide +kernel) lk_n odX12_songLong
def ct_1203 : aCt := (mX12_boxLong, [ag_861, ag_170], ([sl_1431, sl_2051, sl_1808], []), [pon_2041], [], [], (nat_lit 1))
set_option maxRecDepth 100000 in
theorem S_1203 : aSpec wd ct_1203 := bChk_ok wx_ok btX12_boxLong (nds := []) (fk := [7]) (rk := (1, [])) (sp := 0) (fuel := 3000) (by decide +kernel) (lk_d S_1197 ml_12_265 (lk_d S_1198 ml_12_265 (lk_d S_1199 ml_12_265 (lk_d S_1200 ml_12_265 (lk_d S_1201 ml_12_265 (lk_d S_1202 ml_12_265 (lk_d S_1196 ml_12_262 lk_n))))))) odX12_boxLong
def ct_1204 : aCt := (mX12_ofBox, [ag_861, ag_53, ag_53], ([sl_1431, sl_2051, sl_1991], []), [pon_2052], [], [], (nat_lit 0))
set_option maxRecDepth 100000 in
theorem S_1204 : aSpec wd ct_1204 := bChk_ok wx_ok btX12_ofBox (nds := []) (fk := []) (rk := (1, [])) (sp := 0) (fuel := 3000) (by decide +kernel) lk_n odX12_ofBox
def ct_1205 : aCt := (mX12_boxLong, [ag_861, ag_53], ([sl_1431, sl_2051, sl_1991], []), [pon_2041], [], [], (nat_lit 1))
set_option maxRecDepth 100000 in
theorem S_1205 : aSpec wd ct_1205 := bChk_ok wx_ok btX12_boxLong (nds := []) (fk := [7]) (rk := (1, [])) (sp := 0) (fuel := 3000) (by decide +kernel) (lk_d S_1197 ml_12_265 (lk_d S_1198 ml_12_265 (lk_d S_1199 ml_12_265 (lk_d S_1200 ml_12_265 (lk_d S_1201 ml_12_265 (lk_d S_1202 ml_12_265 (lk_d S_1204 ml_12_262 lk_n))))))) odX12_boxLong
def ct_1206 : aCt := (mX12_ofBox, [ag_861, ag_22, ag_53], ([sl_1431, sl_2051, sl_1989], []), [pon_2052], [], [], (nat_lit 0))
set_option maxRecDepth 100000 in
theorem S_1206 : aSpec wd ct_1206 := bChk_ok wx_ok btX12_ofBox (nds := []) (fk := []) (rk := (1, [])) (sp := 0) (fuel := 3000) (by decide +kernel) lk_n odX12_ofBox
def ct_1207 : aCt := (mX12_boxLong, [ag_861, ag_22], ([sl_1431, sl_2051, sl_1989], []), [pon_2041], [], [], (nat_lit 1))
set_option maxRecDepth 100000 in
theorem S_1207 : aSpec wd ct_1207 := bChk_ok wx_ok btX12_boxLong (nds := []) (fk := [7]) (rk := (1, [])) (sp := 0) (fuel := 3000) (by decide +kernel) (lk_d S_1197 ml_12_265 (lk_d S_1198 ml_12_265 (lk_d S_1199 ml_12_265 (lk_d S_1200 ml_12_265 (lk_d S_1201 ml_12_265 (lk_d S_1202 ml_12_265 (lk_d S_1206 ml_12_262 lk_n))))))) odX12_boxLong
def ct_1208 : aCt := (mX12_ofBox, [ag_861, ag_122, ag_53], ([sl_1431, sl_2051, sl_1987], []), [pon_2052], [], [], (nat_lit 0))
set_option maxRecDepth 100000 in
theorem S_1208 : aSpec wd ct_1208 := bChk_ok wx_ok btX12_ofBox (nds := []) (fk := []) (rk := (1, [])) (sp := 0) (fuel := 3000) (by decide +kernel) lk_n odX12_ofBox
def ct_1209 : aCt := (mX12_boxLong, [ag_861, ag_122], ([sl_1431, sl_2051, sl_1987], []), [pon_2041], [], [], (nat_lit 1))
set_option maxRecDepth 100000 in
theorem S_1209 : aSpec wd ct_1209 := bChk_ok wx_ok btX12_boxLong (nds := []) (fk := [7]) (rk := (1, [])) (sp := 0) (fuel := 3000) (by decide +kernel) (lk_d S_1197 ml_12_265 (lk_d S_1198 ml_12_265 (lk_d S_1199 ml_12_265 (lk_d S_1200 ml_12_265 (lk_d S_1201 ml_12_265 (lk_d S_1202 ml_12_265 (lk_d S_1208 ml_12_262 lk_n))))))) odX12_boxLong
def ct_1210 : aCt := (mX12_ofBox, [ag_861, ag_159, ag_53], ([sl_1431, sl_2051, sl_1985], []), [pon_2052], [], [], (nat_lit 0))
set_option maxRecDepth 100000 in
theorem S_1210 : aSpec wd ct_1210 := bChk_ok wx_ok btX12_ofBox (nds := []) (fk := []) (rk := (1, [])) (sp := 0) (fuel := 3000) (by decide +kernel) lk_n odX12_ofBox
def ct_1211 : aCt := (mX12_boxLong, [ag_861, ag_159], ([sl_1431, sl_2051, sl_1985], []), [pon_2041], [], [], (nat_lit 1))
set_option maxRecDepth 100000 in
theorem S_1211 : aSpec wd ct_1211 := bChk_ok wx_ok btX12_boxLong (nds := []) (fk := [7]) (rk := (1, [])) (sp := 0) (fuel := 3000) (by decide +kernel) (lk_d S_1197 ml_12_265 (lk_d S_1198 ml_12_265 (lk_d S_1199 ml_12_265 (lk_d S_1200 ml_12_265 (lk_d S_1201 ml_12_265 (lk_d S_1202 ml_12_265 (lk_d S_1210 ml_12_262 lk_n))))))) odX12_boxLong
def ct_1212 : aCt := (mX12_ofBox, [ag_861, ag_150, ag_53], ([sl_1431, sl_2051, sl_1983], []), [pon_2052], [], [], (nat_lit 0))
set_option maxRecDepth 100000 in
theorem S_1212 : aSpec wd ct_1212 := bChk_ok wx_ok btX12_ofBox (nds := []) (fk := []) (rk := (1, [])) (sp := 0) (fuel := 3000) (by decide +kernel) lk_n odX12_ofBox
def ct_1213 : aCt := (mX12_boxLong, [ag_861, ag_150], ([sl_1431, sl_2051, sl_1983], []), [pon_2041], [], [], (nat_lit 1))
set_option maxRecDepth 100000 in
theorem S_1213 : aSpec wd ct_1213 := bChk_ok wx_ok btX12_boxLong (nds := []) (fk := [7]) (rk := (1, [])) (sp := 0) (fuel := 3000) (by decide +kernel) (lk_d S_1197 ml_12_265 (lk_d S_1198 ml_12_265 (lk_d S_1199 ml_12_265 (lk_d S_1200 ml_12_265 (lk_d S_1201 ml_12_265 (lk_d S_1202 ml_12_265 (lk_d S_1212 ml_12_262 lk_n))))))) odX12_boxLong
def ct_1214 : aCt := (mX12_ofBox, [ag_861, ag_153, ag_53], ([sl_1431, sl_2051, sl_1979], []), [pon_2052], [], [], (nat_lit 0))
set_option maxRecDepth 100000 in
theorem S_1214 : aSpec wd ct_1214 := bChk_ok wx_ok btX12_ofBox (nds := []) (fk := []) (rk := (1, [])) (sp := 0) (fuel := 3000) (by decide +kernel) lk_n odX12_ofBox
def ct_1215 : aCt := (mX12_boxLong, [ag_861, ag_153], ([sl_1431, sl_2051, sl_1979], []), [pon_2041], [], [], (nat_lit 1))
set_option maxRecDepth 100000 in
theorem S_1215 : aSpec wd ct_1215 := bChk_ok wx_ok btX12_boxLong (nds := []) (fk := [7]) (rk := (1, [])) (sp := 0) (fuel := 3000) (by decide +kernel) (lk_d S_1197 ml_12_265 (lk_d S_1198 ml_12_265 (lk_d S_1199 ml_12_265 (lk_d S_1200 ml_12_265 (lk_d S_1201 ml_12_265 (lk_d S_1202 ml_12_265 (lk_d S_1214 ml_12_262 lk_n))))))) odX12_boxLong
def ct_1216 : aCt := (mX12_ofBox, [ag_861, ag_133, ag_53], ([sl_1431, sl_2051, sl_1977], []), [pon_2052], [], [], (nat_lit 0))
set_option maxRecDepth 100000 in
theorem S_1216 : aSpec wd ct_1216 := bChk_ok wx_ok btX12_ofBox (nds := []) (fk := []) (rk := (1, [])) (sp := 0) (fuel := 3000) (by decide +kernel) lk_n odX12_ofBox
def ct_1217 : aCt := (mX12_boxLong, [ag_861, ag_133], ([sl_1431, sl_2051, sl_1977], []), [pon_2041], [], [], (nat_lit 1))
set_option maxRecDepth 100000 in
theorem S_1217 : aSpec wd ct_1217 := bChk_ok wx_ok btX12_boxLong (nds := []) (fk := [7]) (rk := (1, [])) (sp := 0) (fuel := 3000) (by decide +kernel) (lk_d S_1197 ml_12_265 (lk_d S_1198 ml_12_265 (lk_d S_1199 ml_12_265 (lk_d S_1200 ml_12_265 (lk_d S_1201 ml_12_265 (lk_d S_1202 ml_12_265 (lk_d S_1216 ml_12_262 lk_n))))))) odX12_boxLong
def ct_1218 : aCt := (mX12_decade, [ag_861, ag_1, ag_1], ([sl_2051], []), [pon_2042, pon_1837], mdn_869, [], (nat_lit 4))
set_option maxRecDepth 100000 in
theorem S_1218 : aSpec wd ct_1218 := bChk_ok wx_ok btX12_decade (nds := [((nat_lit 52), [lcn_898, lcn_695, lcn_696, lcn_2043, lcn_351, lcn_1899], [], [sl_867, sl_1428, sl_1431, sl_2051], [], (759, [(4, -10)])), ((nat_lit 61), [lcn_898, lcn_695, lcn_2044, lcn_2043, lcn_351, lcn_1897, lcn_596], [], [sl_867, sl_1428, sl_1431, sl_2051], [], (758, [(4, -10)])), ((nat_lit 61), [lcn_898, lcn_695, lcn_2044, lcn_2043, lcn_351, lcn_1897, lcn_1945, lcn_2045, lcn_2046], [], [sl_867, sl_1428, sl_1431, sl_2051, sl_1808], [], (757, [(4, -10)])), ((nat_lit 61), [lcn_898, lcn_695, lcn_2044, lcn_2043, lcn_351, lcn_1897, lcn_1946, lcn_2045, lcn_2046], [], [sl_867, sl_1428, sl_1431, sl_2051, sl_1991], [], (756, [(4, -10)])), ((nat_lit 61), [lcn_898, lcn_695, lcn_2044, lcn_2043, lcn_351, lcn_1897, lcn_1947, lcn_2045, lcn_2046], [], [sl_867, sl_1428, sl_1431, sl_2051, sl_1989], [], (755, [(4, -10)])), ((nat_lit 61), [lcn_898, lcn_695, lcn_2044, lcn_2043, lcn_351, lcn_1897, lcn_1948, lcn_2045, lcn_2046], [], [sl_867, sl_1428, sl_1431, sl_2051, sl_1987], [], (754, [(4, -10)])), ((nat_lit 61), [lcn_898, lcn_695, lcn_2044, lcn_2043, lcn_351, lcn_1897, lcn_1949, lcn_2045, lcn_2046], [], [sl_867, sl_1428, sl_1431, sl_2051, sl_1985], [], (753, [(4, -10)])), ((nat_lit 61), [lcn_898, lcn_695, lcn_2044, lcn_2043, lcn_351, lcn_1897, lcn_1950, lcn_2045, lcn_2046], [], [sl_867, sl_1428, sl_1431, sl_2051, sl_1983], [], (752, [(4, -10)])), ((nat_lit 61), [lcn_898, lcn_695, lcn_2044, lcn_2043, lcn_351, lcn_1897, lcn_1951, lcn_2045, lcn_2046], [], [sl_867, sl_1428, sl_1431, sl_2051, sl_1979], [], (751, [(4, -10)])), ((nat_lit 61), [lcn_898, lcn_695, lcn_2044, lcn_2043, lcn_351, lcn_1897, lcn_1952, lcn_2045, lcn_2046], [], [sl_867, sl_1428, sl_1431, sl_2051, sl_1977], [], (750, [(4, -10)]))]) (fk := []) (rk := (760, [])) (sp := 2310346608841064448) (fuel := 3000) (by decide +kernel) (lk_d S_447 ml_12_167 (lk_d S_1217 ml_12_284 (lk_d S_1215 ml_12_284 (lk_d S_1213 ml_12_284 (lk_d S_1211 ml_12_284 (lk_d S_1209 ml_12_284 (lk_d S_1207 ml_12_284 (lk_d S_1205 ml_12_284 (lk_d S_1203 ml_12_284 (lk_d S_908 ml_12_170 (lk_d S_449 ml_12_170 (lk_d S_1216 ml_12_262 (lk_d S_1214 ml_12_262 (lk_d S_1212 ml_12_262 (lk_d S_1210 ml_12_262 (lk_d S_1208 ml_12_262 (lk_d S_1206 ml_12_262 (lk_d S_1204 ml_12_262 (lk_d S_1196 ml_12_262 (lk_d S_930 ml_12_291 (lk_d S_1095 ml_12_149 (lk_d S_474 ml_12_149 lk_n)))))))))))))))))))))) odX12_decade
def ct_1219 : aCt := (mX12_ofBox, [ag_861, ag_170, ag_53], ([sl_1431, sl_2015, sl_1808], []), [pon_264], [], [], (nat_lit 0))
set_option maxRecDepth 100000 in
theorem S_1219 : aSpec wd ct_1219 := bChk_ok wx_ok btX12_ofBox (nds := []) (fk := []) (rk := (1, [])) (sp := 0) (fuel := 3000) (by decide +kernel) lk_n odX12_ofBox
def ct_1220 : aCt := (mX12_songLong, [ag_861, ag_170], ([sl_2015], []), [pon_2041], [], [], (nat_lit 0))
set_option maxRecDepth 100000 in
theorem S_1220 : aSpec wd ct_1220 := bChk_ok wx_ok btX12_songLong (nds := []) (fk := []) (rk := (1, [])) (sp := 0) (fuel := 3000) (by decide +kernel) lk_n odX12_songLong
def ct_1221 : aCt := (mX12_songLong, [ag_861, ag_53], ([sl_2015], []), [pon_2041], [], [], (nat_lit 0))
set_option maxRecDepth 100000 in
theorem S_1221 : aSpec wd ct_1221 := bChk_ok wx_ok btX12_songLong (nds := []) (fk := []) (rk := (1, [])) (sp := 0) (fuel := 3000) (by decide +kernel) lk_n odX12_songLong
def ct_1222 : aCt := (mX12_songLong, [ag_861, ag_22], ([sl_2015], []), [pon_2041], [], [], (nat_lit 0))
set_option maxRecDepth 100000 in
theorem S_1222 : aSpec wd ct_1222 := bChk_ok wx_ok btX12_songLong (nds := []) (fk := []) (rk := (1, [])) (sp := 0) (fuel := 3000) (by decide +kernel) lk_n odX12_songLong
def ct_1223 : aCt := (mX12_songLong, [ag_861, ag_122], ([sl_2015], []), [pon_2041], [], [], (nat_lit 0))
set_option maxRecDepth 100000 in
theorem S_1223 : aSpec wd ct_1223 := bChk_ok wx_ok btX12_songLong (nds := []) (fk := []) (rk := (1, [])) (sp := 0) (fuel := 3000) (by decide +kernel) lk_n odX12_songLong
def ct_1224 : aCt := (mX12_songLong, [ag_861, ag_159], ([sl_2015], []), [pon_2041], [], [], (nat_lit 0))
set_option maxRecDepth 100000 in
theorem S_1224 : aSpec wd ct_1224 := bChk_ok wx_ok btX12_songLong (nds := []) (fk := []) (rk := (1, [])) (sp := 0) (fuel := 3000) (by decide +kernel) lk_n odX12_songLong
def ct_1225 : aCt := (mX12_songLong, [ag_861, ag_150], ([sl_2015], []), [pon_2041], [], [], (nat_lit 0))
set_option maxRecDepth 100000 in
theorem S_1225 : aSpec wd ct_1225 := bChk_ok wx_ok btX12_songLong (nds := []) (fk := []) (rk := (1, [])) (sp := 0) (fuel := 3000) (by decide +kernel) lk_n odX12_songLong
def ct_1226 : aCt := (mX12_songLong, [ag_861, ag_153], ([sl_2015], []), [pon_2041], [], [], (nat_lit 0))
set_option maxRecDepth 100000 in
theorem S_1226 : aSpec wd ct_1226 := bChk_ok wx_ok btX12_songLong (nds := []) (fk := []) (rk := (1, [])) (sp := 0) (fuel := 3000) (by decide +kernel) lk_n odX12_songLong
def ct_1227 : aCt := (mX12_boxLong, [ag_861, ag_170], ([sl_1431, sl_2015, sl_1808], []), [pon_2041], [], [], (nat_lit 1))
set_option maxRecDepth 100000 in
theorem S_1227 : aSpec wd ct_1227 := bChk_ok wx_ok btX12_boxLong (nds := []) (fk := [7]) (rk := (1, [])) (sp := 0) (fuel := 3000) (by decide +kernel) (lk_d S_1220 ml_12_265 (lk_d S_1221 ml_12_265 (lk_d S_1222 ml_12_265 (lk_d S_1223 ml_12_265 (lk_d S_1224 ml_12_265 (lk_d S_1225 ml_12_265 (lk_d S_1226 ml_12_265 (lk_d S_1219 ml_12_262 lk_n)))))))) odX12_boxLong
def ct_1228 : aCt := (mX12_ofBox, [ag_861, ag_53, ag_53], ([sl_1431, sl_2015, sl_1991], []), [pon_264], [], [], (nat_lit 0))
set_option maxRecDepth 100000 in
theorem S_1228 : aSpec wd ct_1228 := bChk_ok wx_ok btX12_ofBox (nds := []) (fk := []) (rk := (1, [])) (sp := 0) (fuel := 3000) (by decide +kernel) lk_n odX12_ofBox
def ct_1229 : aCt := (mX12_boxLong, [ag_861, ag_53], ([sl_1431, sl_2015, sl_1991], []), [pon_2041], [], [], (nat_lit 1))
set_option maxRecDepth 100000 in
theorem S_1229 : aSpec wd ct_1229 := bChk_ok wx_ok btX12_boxLong (nds := []) (fk := [7]) (rk := (1, [])) (sp := 0) (fuel := 3000) (by decide +kernel) (lk_d S_1220 ml_12_265 (lk_d S_1221 ml_12_265 (lk_d S_1222 ml_12_265 (lk_d S_1223 ml_12_265 (lk_d S_1224 ml_12_265 (lk_d S_1225 ml_12_265 (lk_d S_1226 ml_12_265 (lk_d S_1228 ml_12_262 lk_n)))))))) odX12_boxLong
def ct_1230 : aCt := (mX12_ofBox, [ag_861, ag_22, ag_53], ([sl_1431, sl_2015, sl_1989], []), [pon_264], [], [], (nat_lit 0))
set_option maxRecDepth 100000 in
theorem S_1230 : aSpec wd ct_1230 := bChk_ok wx_ok btX12_ofBox (nds := []) (fk := []) (rk := (1, [])) (sp := 0) (fuel := 3000) (by decide +kernel) lk_n odX12_ofBox
def ct_1231 : aCt := (mX12_boxLong, [ag_861, ag_22], ([sl_1431, sl_2015, sl_1989], []), [pon_2041], [], [], (nat_lit 1))
set_option maxRecDepth 100000 in
theorem S_1231 : aSpec wd ct_1231 := bChk_ok wx_ok btX12_boxLong (nds := []) (fk := [7]) (rk := (1, [])) (sp := 0) (fuel := 3000) (by decide +kernel) (lk_d S_1220 ml_12_265 (lk_d S_1221 ml_12_265 (lk_d S_1222 ml_12_265 (lk_d S_1223 ml_12_265 (lk_d S_1224 ml_12_265 (lk_d S_1225 ml_12_265 (lk_d S_1226 ml_12_265 (lk_d S_1230 ml_12_262 lk_n)))))))) odX12_boxLong
def ct_1232 : aCt := (mX12_ofBox, [ag_861, ag_122, ag_53], ([sl_1431, sl_2015, sl_1987], []), [pon_264], [], [], (nat_lit 0))
set_option maxRecDepth 100000 in
theorem S_1232 : aSpec wd ct_1232 := bChk_ok wx_ok btX12_ofBox (nds := []) (fk := []) (rk := (1, [])) (sp := 0) (fuel := 3000) (by decide +kernel) lk_n odX12_ofBox
def ct_1233 : aCt := (mX12_boxLong, [ag_861, ag_122], ([sl_1431, sl_2015, sl_1987], []), [pon_2041], [], [], (nat_lit 1))
set_option maxRecDepth 100000 in
theorem S_1233 : aSpec wd ct_1233 := bChk_ok wx_ok btX12_boxLong (nds := []) (fk := [7]) (rk := (1, [])) (sp := 0) (fuel := 3000) (by decide +kernel) (lk_d S_1220 ml_12_265 (lk_d S_1221 ml_12_265 (lk_d S_1222 ml_12_265 (lk_d S_1223 ml_12_265 (lk_d S_1224 ml_12_265 (lk_d S_1225 ml_12_265 (lk_d S_1226 ml_12_265 (lk_d S_1232 ml_12_262 lk_n)))))))) odX12_boxLong
def ct_1234 : aCt := (mX12_ofBox, [ag_861, ag_159, ag_53], ([sl_1431, sl_2015, sl_1985], []), [pon_264], [], [], (nat_lit 0))
set_option maxRecDepth 100000 in
theorem S_1234 : aSpec wd ct_1234 := bChk_ok wx_ok btX12_ofBox (nds := []) (fk := []) (rk := (1, [])) (sp := 0) (fuel := 3000) (by decide +kernel) lk_n odX12_ofBox
def ct_1235 : aCt := (mX12_boxLong, [ag_861, ag_159], ([sl_1431, sl_2015, sl_1985], []), [pon_2041], [], [], (nat_lit 1))
set_option maxRecDepth 100000 in
theorem S_1235 : aSpec wd ct_1235 := bChk_ok wx_ok btX12_boxLong (nds := []) (fk := [7]) (rk := (1, [])) (sp := 0) (fuel := 3000) (by decide +kernel) (lk_d S_1220 ml_12_265 (lk_d S_1221 ml_12_265 (lk_d S_1222 ml_12_265 (lk_d S_1223 ml_12_265 (lk_d S_1224 ml_12_265 (lk_d S_1225 ml_12_265 (lk_d S_1226 ml_12_265 (lk_d S_1234 ml_12_262 lk_n)))))))) odX12_boxLong
def ct_1236 : aCt := (mX12_ofBox, [ag_861, ag_150, ag_53], ([sl_1431, sl_2015, sl_1983], []), [pon_264], [], [], (nat_lit 0))
set_option maxRecDepth 100000 in
theorem S_1236 : aSpec wd ct_1236 := bChk_ok wx_ok btX12_ofBox (nds := []) (fk := []) (rk := (1, [])) (sp := 0) (fuel := 3000) (by decide +kernel) lk_n odX12_ofBox
def ct_1237 : aCt := (mX12_boxLong, [ag_861, ag_150], ([sl_1431, sl_2015, sl_1983], []), [pon_2041], [], [], (nat_lit 1))
set_option maxRecDepth 100000 in
theorem S_1237 : aSpec wd ct_1237 := bChk_ok wx_ok btX12_boxLong (nds := []) (fk := [7]) (rk := (1, [])) (sp := 0) (fuel := 3000) (by decide +kernel) (lk_d S_1220 ml_12_265 (lk_d S_1221 ml_12_265 (lk_d S_1222 ml_12_265 (lk_d S_1223 ml_12_265 (lk_d S_1224 ml_12_265 (lk_d S_1225 ml_12_265 (lk_d S_1226 ml_12_265 (lk_d S_1236 ml_12_262 lk_n)))))))) odX12_boxLong
def ct_1238 : aCt := (mX12_ofBox, [ag_861, ag_153, ag_53], ([sl_1431, sl_2015, sl_1979], []), [pon_264], [], [], (nat_lit 0))
set_option maxRecDepth 100000 in
theorem S_1238 : aSpec wd ct_1238 := bChk_ok wx_ok btX12_ofBox (nds := []) (fk := []) (rk := (1, [])) (sp := 0) (fuel := 3000) (by decide +kernel) lk_n odX12_ofBox
def ct_1239 : aCt := (mX12_boxLong, [ag_861, ag_153], ([sl_1431, sl_2015, sl_1979], []), [pon_2041], [], [], (nat_lit 1))
set_option maxRecDepth 100000 in
theorem S_1239 : aSpec wd ct_1239 := bChk_ok wx_ok btX12_boxLong (nds := []) (fk := [7]) (rk := (1, [])) (sp := 0) (fuel := 3000) (by decide +kernel) (lk_d S_1220 ml_12_265 (lk_d S_1221 ml_12_265 (lk_d S_1222 ml_12_265 (lk_d S_1223 ml_12_265 (lk_d S_1224 ml_12_265 (lk_d S_1225 ml_12_265 (lk_d S_1226 ml_12_265 (lk_d S_1238 ml_12_262 lk_n)))))))) odX12_boxLong
def ct_1240 : aCt := (mX12_ofBox, [ag_861, ag_133, ag_53], ([sl_1431, sl_2015, sl_1977], []), [pon_264], [], [], (nat_lit 0))
set_option maxRecDepth 100000 in
theorem S_1240 : aSpec wd ct_1240 := bChk_ok wx_ok btX12_ofBox (nds := []) (fk := []) (rk := (1, [])) (sp := 0) (fuel := 3000) (by decide +kernel) lk_n odX12_ofBox
def ct_1241 : aCt := (mX12_boxLong, [ag_861, ag_133], ([sl_1431, sl_2015, sl_1977], []), [pon_2041], [], [], (nat_lit 1))
set_option maxRecDepth 100000 in
theorem S_1241 : aSpec wd ct_1241 := bChk_ok wx_ok btX12_boxLong (nds := []) (fk := [7]) (rk := (1, [])) (sp := 0) (fuel := 3000) (by decide +kernel) (lk_d S_1220 ml_12_265 (lk_d S_1221 ml_12_265 (lk_d S_1222 ml_12_265 (lk_d S_1223 ml_12_265 (lk_d S_1224 ml_12_265 (lk_d S_1225 ml_12_265 (lk_d S_1226 ml_12_265 (lk_d S_1240 ml_12_262 lk_n)))))))) odX12_boxLong
def ct_1242 : aCt := (mX12_decade, [ag_861, ag_1, ag_1], ([sl_2015], []), [pon_2042, pon_1837], mdn_869, [], (nat_lit 4))
set_option maxRecDepth 100000 in
theorem S_1242 : aSpec wd ct_1242 := bChk_ok wx_ok btX12_decade (nds := [((nat_lit 52), [lcn_898, lcn_695, lcn_696, lcn_2043, lcn_351, lcn_1899], [], [sl_867, sl_1428, sl_1431, sl_2015], [], (759, [(4, -10)])), ((nat_lit 61), [lcn_898, lcn_695, lcn_2044, lcn_2043, lcn_351, lcn_1897, lcn_596], [], [sl_867, sl_1428, sl_1431, sl_2015], [], (758, [(4, -10)])), ((nat_lit 61), [lcn_898, lcn_695, lcn_2044, lcn_2043, lcn_351, lcn_1897, lcn_1945, lcn_2045, lcn_2046], [], [sl_867, sl_1428, sl_1431, sl_2015, sl_1808], [], (757, [(4, -10)])), ((nat_lit 61), [lcn_898, lcn_695, lcn_2044, lcn_2043, lcn_351, lcn_1897, lcn_1946, lcn_2045, lcn_2046], [], [sl_867, sl_1428, sl_1431, sl_2015, sl_1991], [], (756, [(4, -10)])), ((nat_lit 61), [lcn_898, lcn_695, lcn_2044, lcn_2043, lcn_351, lcn_1897, lcn_1947, lcn_2045, lcn_2046], [], [sl_867, sl_1428, sl_1431, sl_2015, sl_1989], [], (755, [(4, -10)])), ((nat_lit 61), [lcn_898, lcn_695, lcn_2044, lcn_2043, lcn_351, lcn_1897, lcn_1948, lcn_2045, lcn_2046], [], [sl_867, sl_1428, sl_1431, sl_2015, sl_1987], [], (754, [(4, -10)])), ((nat_lit 61), [lcn_898, lcn_695, lcn_2044, lcn_2043, lcn_351, lcn_1897, lcn_1949, lcn_2045, lcn_2046], [], [sl_867, sl_1428, sl_1431, sl_2015, sl_1985], [], (753, [(4, -10)])), ((nat_lit 61), [lcn_898, lcn_695, lcn_2044, lcn_2043, lcn_351, lcn_1897, lcn_1950, lcn_2045, lcn_2046], [], [sl_867, sl_1428, sl_1431, sl_2015, sl_1983], [], (752, [(4, -10)])), ((nat_lit 61), [lcn_898, lcn_695, lcn_2044, lcn_2043, lcn_351, lcn_1897, lcn_1951, lcn_2045, lcn_2046], [], [sl_867, sl_1428, sl_1431, sl_2015, sl_1979], [], (751, [(4, -10)])), ((nat_lit 61), [lcn_898, lcn_695, lcn_2044, lcn_2043, lcn_351, lcn_1897, lcn_1952, lcn_2045, lcn_2046], [], [sl_867, sl_1428, sl_1431, sl_2015, sl_1977], [], (750, [(4, -10)]))]) (fk := []) (rk := (760, [])) (sp := 2310346608841064448) (fuel := 3000) (by decide +kernel) (lk_d S_447 ml_12_167 (lk_d S_1241 ml_12_284 (lk_d S_1239 ml_12_284 (lk_d S_1237 ml_12_284 (lk_d S_1235 ml_12_284 (lk_d S_1233 ml_12_284 (lk_d S_1231 ml_12_284 (lk_d S_1229 ml_12_284 (lk_d S_1227 ml_12_284 (lk_d S_908 ml_12_170 (lk_d S_449 ml_12_170 (lk_d S_1240 ml_12_262 (lk_d S_1238 ml_12_262 (lk_d S_1236 ml_12_262 (lk_d S_1234 ml_12_262 (lk_d S_1232 ml_12_262 (lk_d S_1230 ml_12_262 (lk_d S_1228 ml_12_262 (lk_d S_1219 ml_12_262 (lk_d S_930 ml_12_291 (lk_d S_1095 ml_12_149 (lk_d S_474 ml_12_149 lk_n)))))))))))))))))))))) odX12_decade
def ag_2053 : aAg := .inl [((.ofNat (nat_lit 1)), (.ofNat (nat_lit 3)), (nat_lit 1))]
def ct_1243 : aCt := (mX12_in, [ag_1, ag_170, ag_2053], ([], []), [pon_1863, pon_930], mdn_872, [], (nat_lit 0))
set_option maxRecDepth 100000 in
theorem S_1243 : aSpec wd ct_1243 := bChk_ok wx_ok btX12_in (nds := []) (fk := []) (rk := (1, [])) (sp := 0) (fuel := 3000) (by decide +kernel) lk_n odX12_in
def sl_2054 : (Nat × Nat) × aI := (((nat_lit 196), (nat_lit 11)), [((.ofNat (nat_lit 5)), (.ofNat (nat_lit 5)), (nat_lit 1))])
def pon_2055 : aPo := (some (.inl [((.ofNat (nat_lit 0)), (.ofNat (nat_lit 0)), (nat_lit 1))]), [], [sl_2054], [])
set_option maxRecDepth 100000 in
theorem btX12_isNot : bTab oX12_isNot tX12_isNot := ⟨ofX12_isNot, by decide +kernel⟩
def ct_1244 : aCt := (mX12_isNot, [ag_861, ag_150], ([sl_867], []), [pon_2055], mdn_875, [], (nat_lit 0))
set_option maxRecDepth 100000 in
theorem S_1244 : aSpec wd ct_1244 := bChk_ok wx_ok btX12_isNot (nds := []) (fk := []) (rk := (1, [])) (sp := 0) (fuel := 3000) (by decide +kernel) lk_n odX12_isNot
def pon_2056 : aPo := (some (.inl [((.ofNat (nat_lit 0)), (.ofNat (nat_lit 0)), (nat_lit 1))]), [], [sl_873], [])
def ct_1245 : aCt := (mX12_isNot, [ag_861, ag_22], ([sl_867], []), [pon_2056], mdn_875, [], (nat_lit 0))
set_option maxRecDepth 100000 in
theorem S_1245 : aSpec wd ct_1245 := bChk_ok wx_ok btX12_isNot (nds := []) (fk := []) (rk := (1, [])) (sp := 0) (fuel := 3000) (by decide +kernel) lk_n odX12_isNot
def pon_2057 : aPo := (some (.inl [((.ofNat (nat_lit 0)), (.ofNat (nat_lit 0)), (nat_lit 1))]), [], [sl_1803], [])
def ct_1246 : aCt := (mX12_isNot, [ag_861, ag_53], ([sl_867], []), [pon_2057], mdn_875, [], (nat_lit 0))
set_option maxRecDepth 100000 in
theorem S_1246 : aSpec wd ct_1246 := bChk_ok wx_ok btX12_isNot (nds := []) (fk := []) (rk := (1, [])) (sp := 0) (fuel := 3000) (by decide +kernel) lk_n odX12_isNot
def sl_2058 : (Nat × Nat) × aI := (((nat_lit 196), (nat_lit 11)), [((.ofNat (nat_lit 1)), (.ofNat (nat_lit 2)), (nat_lit 1)), ((.ofNat (nat_lit 5)), (.ofNat (nat_lit 5)), (nat_lit 1))])
def pon_2059 : aPo := (some (.inl [((.ofNat (nat_lit 0)), (.ofNat (nat_lit 0)), (nat_lit 1))]), [], [sl_2058], [])
def sl_2060 : (Nat × Nat) × aI := (((nat_lit 196), (nat_lit 20)), [((.ofNat (nat_lit 1)), (.ofNat (nat_lit 12)), (nat_lit 1))])
def pon_2061 : aPo := (some (.inl [((.ofNat (nat_lit 1)), (.ofNat (nat_lit 1)), (nat_lit 1))]), [none, some [((.ofNat (nat_lit 0)), (.ofNat (nat_lit 7)), (nat_lit 1))], some [((.ofNat (nat_lit 0)), (.ofNat (nat_lit 5)), (nat_lit 1))], some [((.ofNat (nat_lit 0)), (.ofNat (nat_lit 3)), (nat_lit 1))]], [sl_867, sl_1428, sl_2060, sl_1431, sl_1432, sl_1808], [])
def mdn_2062 : List (Nat × Nat × Nat) := [((nat_lit 196), (nat_lit 0), (nat_lit 1)), ((nat_lit 196), (nat_lit 11), (nat_lit 12)), ((nat_lit 196), (nat_lit 20), (nat_lit 21)), ((nat_lit 201), (nat_lit 28), (nat_lit 76)), ((nat_lit 202), (nat_lit 0), (nat_lit 912))]
set_option maxRecDepth 100000 in
theorem btX12_tune : bTab oX12_tune tX12_tune := ⟨ofX12_tune, by decide +kernel⟩
def ct_1247 : aCt := (mX12_tune, [ag_861, ag_1, ag_1, ag_1], ([], []), [pon_2059, pon_2061], mdn_2062, [], (nat_lit 3))
set_option maxRecDepth 100000 in
theorem S_1247 : aSpec wd ct_1247 := bChk_ok wx_ok btX12_tune (nds := []) (fk := []) (rk := (1, [])) (sp := 0) (fuel := 3000) (by decide +kernel) (lk_d S_447 ml_12_167 (lk_d S_X12_note1_0 ml_12_424 (lk_d S_1244 ml_12_427 (lk_d S_1245 ml_12_427 (lk_d S_1246 ml_12_427 (lk_d S_923 ml_12_284 (lk_d S_911 ml_12_274 (lk_d S_1243 ml_12_149 (lk_d S_919 ml_12_149 lk_n))))))))) odX12_tune
def sl_2063 : (Nat × Nat) × aI := (((nat_lit 196), (nat_lit 11)), [((.ofNat (nat_lit 3)), (.ofNat (nat_lit 3)), (nat_lit 1))])
def pon_2064 : aPo := (some (.inl [((.negSucc (nat_lit 0)), (.negSucc (nat_lit 0)), (nat_lit 1))]), [], [sl_2063], [])
def ct_1248 : aCt := (mX12_no, [ag_861, ag_122], ([sl_867], []), [pon_2064], mdn_875, [], (nat_lit 0))
set_option maxRecDepth 100000 in
theorem S_1248 : aSpec wd ct_1248 := bChk_ok wx_ok btX12_no (nds := []) (fk := []) (rk := (1, [])) (sp := 0) (fuel := 3000) (by decide +kernel) lk_n odX12_no
def pon_2065 : aPo := (some (.inl [((.ofNat (nat_lit 1)), (.ofNat (nat_lit 9999)), (nat_lit 1))]), [none, some [((.ofNat (nat_lit 1)), (.ofNat (nat_lit 99)), (nat_lit 1))]], [sl_867, sl_1428, sl_2060, sl_1431, sl_1432], [])
def sl_2066 : (Nat × Nat) × aI := (((nat_lit 196), (nat_lit 11)), [((.ofNat (nat_lit 1)), (.ofNat (nat_lit 3)), (nat_lit 1))])
def pon_2067 : aPo := (some (.inl [((.negSucc (nat_lit 0)), (.negSucc (nat_lit 0)), (nat_lit 1))]), [], [sl_2066], [])
def mdn_2068 : List (Nat × Nat × Nat) := [((nat_lit 196), (nat_lit 0), (nat_lit 1)), ((nat_lit 196), (nat_lit 11), (nat_lit 12)), ((nat_lit 196), (nat_lit 20), (nat_lit 21)), ((nat_lit 201), (nat_lit 0), (nat_lit 1)), ((nat_lit 202), (nat_lit 0), (nat_lit 912))]
set_option maxRecDepth 100000 in
theorem btX12_years : bTab oX12_years tX12_years := ⟨ofX12_years, by decide +kernel⟩
def ct_1249 : aCt := (mX12_years, [ag_861, ag_1], ([], []), [pon_2065, pon_2067], mdn_2068, [], (nat_lit 3))
set_option maxRecDepth 100000 in
theorem S_1249 : aSpec wd ct_1249 := bChk_ok wx_ok btX12_years (nds := []) (fk := [40]) (rk := (1, [])) (sp := 0) (fuel := 3000) (by decide +kernel) (lk_d S_447 ml_12_167 (lk_d S_X12_note1_0 ml_12_424 (lk_d S_908 ml_12_170 (lk_d S_1248 ml_12_170 (lk_d S_449 ml_12_170 (lk_d S_589 ml_12_149 lk_n)))))) odX12_years
end Pk3
section Pk4
def ag_2069 : aAg := .inl [((.negSucc (nat_lit 0)), (.ofNat (nat_lit 11)), (nat_lit 1))]
def pon_2070 : aPo := (some (.inl [((.ofNat (nat_lit 1)), (.ofNat (nat_lit 1)), (nat_lit 1))]), [some [((.ofNat (nat_lit 0)), (.ofNat (nat_lit 11)), (nat_lit 1))], none, some [((.ofNat (nat_lit 0)), (.ofNat (nat_lit 11)), (nat_lit 1))]], [], [])
def ct_1250 : aCt := (mX12_in, [ag_1, ag_170, ag_2069], ([], []), [pon_1198, pon_2070], mdn_872, [], (nat_lit 0))
set_option maxRecDepth 100000 in
theorem S_1250 : aSpec wd ct_1250 := bChk_ok wx_ok btX12_in (nds := []) (fk := []) (rk := (1, [])) (sp := 0) (fuel := 3000) (by decide +kernel) lk_n odX12_in
def sl_2071 : (Nat × Nat) × aI := (((nat_lit 196), (nat_lit 11)), [((.ofNat (nat_lit 1)), (.ofNat (nat_lit 1)), (nat_lit 1)), ((.ofNat (nat_lit 5)), (.ofNat (nat_lit 5)), (nat_lit 1))])
def pon_2072 : aPo := (some (.inl [((.ofNat (nat_lit 0)), (.ofNat (nat_lit 0)), (nat_lit 1))]), [], [sl_2071], [])
def pon_2073 : aPo := (some (.inl [((.ofNat (nat_lit 1)), (.ofNat (nat_lit 1)), (nat_lit 1))]), [none, some [((.ofNat (nat_lit 0)), (.ofNat (nat_lit 11)), (nat_lit 1))], some [((.ofNat (nat_lit 0)), (.ofNat (nat_lit 1)), (nat_lit 1))]], [sl_867, sl_1428, sl_2060, sl_1431, sl_1432, sl_1829], [])
def mdn_2074 : List (Nat × Nat × Nat) := [((nat_lit 196), (nat_lit 0), (nat_lit 1)), ((nat_lit 196), (nat_lit 11), (nat_lit 12)), ((nat_lit 196), (nat_lit 20), (nat_lit 21)), ((nat_lit 201), (nat_lit 1), (nat_lit 2)), ((nat_lit 202), (nat_lit 0), (nat_lit 912))]
set_option maxRecDepth 100000 in
theorem btX12_close : bTab oX12_close tX12_close := ⟨ofX12_close, by decide +kernel⟩
def ct_1251 : aCt := (mX12_close, [ag_861, ag_1, ag_535], ([], []), [pon_2072, pon_2073], mdn_2074, [], (nat_lit 3))
set_option maxRecDepth 100000 in
theorem S_1251 : aSpec wd ct_1251 := bChk_ok wx_ok btX12_close (nds := []) (fk := []) (rk := (1, [])) (sp := 0) (fuel := 3000) (by decide +kernel) (lk_d S_447 ml_12_167 (lk_d S_X12_note1_0 ml_12_424 (lk_d S_1244 ml_12_427 (lk_d S_1246 ml_12_427 (lk_d S_936 ml_12_302 (lk_d S_1250 ml_12_149 lk_n)))))) odX12_close
def pon_2075 : aPo := (some (.inl [((.ofNat (nat_lit 0)), (.ofNat (nat_lit 0)), (nat_lit 1))]), [], [sl_1973], [])
def ct_1252 : aCt := (mX12_isNot, [ag_861, ag_153], ([sl_867], []), [pon_2075], mdn_875, [], (nat_lit 0))
set_option maxRecDepth 100000 in
theorem S_1252 : aSpec wd ct_1252 := bChk_ok wx_ok btX12_isNot (nds := []) (fk := []) (rk := (1, [])) (sp := 0) (fuel := 3000) (by decide +kernel) lk_n odX12_isNot
def pon_2076 : aPo := (some (.inl [((.ofNat (nat_lit 0)), (.ofNat (nat_lit 0)), (nat_lit 1))]), [], [sl_1973, sl_1429], [])
def sl_2077 : (Nat × Nat) × aI := (((nat_lit 196), (nat_lit 20)), [((.ofNat (nat_lit 0)), (.ofNat (nat_lit 11)), (nat_lit 1))])
def pon_2078 : aPo := (some (.inl [((.ofNat (nat_lit 1)), (.ofNat (nat_lit 1)), (nat_lit 1))]), [], [sl_867, sl_2077], [])
def mdn_2079 : List (Nat × Nat × Nat) := [((nat_lit 196), (nat_lit 0), (nat_lit 1)), ((nat_lit 196), (nat_lit 11), (nat_lit 12)), ((nat_lit 196), (nat_lit 20), (nat_lit 21)), ((nat_lit 201), (nat_lit 0), (nat_lit 76))]
set_option maxRecDepth 100000 in
theorem btX12_undo : bTab oX12_undo tX12_undo := ⟨ofX12_undo, by decide +kernel⟩
def ct_1253 : aCt := (mX12_undo, [ag_861], ([], []), [pon_2076, pon_2078], mdn_2079, [], (nat_lit 2))
set_option maxRecDepth 100000 in
theorem S_1253 : aSpec wd ct_1253 := bChk_ok wx_ok btX12_undo (nds := []) (fk := []) (rk := (1, [])) (sp := 0) (fuel := 3000) (by decide +kernel) (lk_d S_447 ml_12_167 (lk_d S_1252 ml_12_427 (lk_d S_X12_copy_32 ml_12_176 lk_n))) odX12_undo
def sl_2080 : (Nat × Nat) × aI := (((nat_lit 196), (nat_lit 21)), [((.ofNat (nat_lit 1)), (.ofNat (nat_lit 3)), (nat_lit 1))])
def pon_2081 : aPo := (some (.inl [((.ofNat (nat_lit 0)), (.ofNat (nat_lit 2)), (nat_lit 1))]), [], [sl_867, sl_1428, sl_2080, sl_1431, sl_1432], [])
def sl_2082 : (Nat × Nat) × aI := (((nat_lit 196), (nat_lit 11)), [((.ofNat (nat_lit 1)), (.ofNat (nat_lit 1)), (nat_lit 1)), ((.ofNat (nat_lit 3)), (.ofNat (nat_lit 3)), (nat_lit 1))])
def pon_2083 : aPo := (some (.inl [((.negSucc (nat_lit 0)), (.negSucc (nat_lit 0)), (nat_lit 1))]), [], [sl_2082], [])
def mdn_2084 : List (Nat × Nat × Nat) := [((nat_lit 196), (nat_lit 0), (nat_lit 1)), ((nat_lit 196), (nat_lit 11), (nat_lit 12)), ((nat_lit 196), (nat_lit 21), (nat_lit 22)), ((nat_lit 203), (nat_lit 0), (nat_lit 228))]
set_option maxRecDepth 100000 in
theorem btX12_image : bTab oX12_image tX12_image := ⟨ofX12_image, by decide +kernel⟩
def ct_1254 : aCt := (mX12_image, [ag_861], ([], []), [pon_2081, pon_2083], mdn_2084, [], (nat_lit 2))
set_option maxRecDepth 100000 in
theorem S_1254 : aSpec wd ct_1254 := bChk_ok wx_ok btX12_image (nds := []) (fk := []) (rk := (1, [])) (sp := 0) (fuel := 3000) (by decide +kernel) (lk_d S_447 ml_12_167 (lk_d S_908 ml_12_170 (lk_d S_1248 ml_12_170 (lk_d S_X12_copy_33 ml_12_176 lk_n)))) odX12_image
def ag_2085 : aAg := .inl [((.negSucc (nat_lit 0)), (.ofNat (nat_lit 2)), (nat_lit 1))]
def pon_2086 : aPo := (some (.inl [((.ofNat (nat_lit 1)), (.ofNat (nat_lit 1)), (nat_lit 1))]), [some [((.ofNat (nat_lit 0)), (.ofNat (nat_lit 2)), (nat_lit 1))], none, some [((.ofNat (nat_lit 0)), (.ofNat (nat_lit 2)), (nat_lit 1))]], [], [])
def ct_1255 : aCt := (mX12_in, [ag_1, ag_170, ag_2085], ([], []), [pon_1198, pon_2086], mdn_872, [], (nat_lit 0))
set_option maxRecDepth 100000 in
theorem S_1255 : aSpec wd ct_1255 := bChk_ok wx_ok btX12_in (nds := []) (fk := []) (rk := (1, [])) (sp := 0) (fuel := 3000) (by decide +kernel) lk_n odX12_in
def pon_2087 : aPo := (some (.inl [((.ofNat (nat_lit 1)), (.ofNat (nat_lit 1)), (nat_lit 1))]), [none, some [((.ofNat (nat_lit 0)), (.ofNat (nat_lit 2)), (nat_lit 1))]], [sl_867, sl_1429, sl_2080], [])
set_option maxRecDepth 100000 in
theorem btX12_back : bTab oX12_back tX12_back := ⟨ofX12_back, by decide +kernel⟩
def ct_1256 : aCt := (mX12_back, [ag_861, ag_1], ([], []), [pon_2057, pon_2087], mdn_2079, [], (nat_lit 2))
set_option maxRecDepth 100000 in
theorem S_1256 : aSpec wd ct_1256 := bChk_ok wx_ok btX12_back (nds := []) (fk := []) (rk := (1, [])) (sp := 0) (fuel := 3000) (by decide +kernel) (lk_d S_447 ml_12_167 (lk_d S_1246 ml_12_427 (lk_d S_X12_copy_34 ml_12_176 (lk_d S_1255 ml_12_149 lk_n)))) odX12_back
def ag_2088 : aAg := .inl [((.negSucc (nat_lit 2147483647)), (.ofNat (nat_lit 11)), (nat_lit 1)), ((.ofNat (nat_lit 13)), (.ofNat (nat_lit 2147483647)), (nat_lit 1))]
def pon_2089 : aPo := (some (.inl [((.ofNat (nat_lit 0)), (.ofNat (nat_lit 0)), (nat_lit 1))]), [some [((.negSucc (nat_lit 2147483647)), (.negSucc (nat_lit 0)), (nat_lit 1)), ((.ofNat (nat_lit 13)), (.ofNat (nat_lit 2147483647)), (nat_lit 1))], none, none], [], [])
def ct_1257 : aCt := (mX12_in, [ag_2088, ag_170, ag_1192], ([], []), [pon_2089, pon_1839], mdn_872, [], (nat_lit 0))
set_option maxRecDepth 100000 in
theorem S_1257 : aSpec wd ct_1257 := bChk_ok wx_ok btX12_in (nds := []) (fk := []) (rk := (1, [])) (sp := 0) (fuel := 3000) (by decide +kernel) lk_n odX12_in
def pon_2090 : aPo := (some (.inl [((.ofNat (nat_lit 0)), (.ofNat (nat_lit 0)), (nat_lit 1))]), [some [((.negSucc (nat_lit 2147483647)), (.negSucc (nat_lit 0)), (nat_lit 1)), ((.ofNat (nat_lit 9)), (.ofNat (nat_lit 11)), (nat_lit 1)), ((.ofNat (nat_lit 13)), (.ofNat (nat_lit 2147483647)), (nat_lit 1))], none, none], [], [])
def ct_1258 : aCt := (mX12_in, [ag_2088, ag_170, ag_1849], ([], []), [pon_2090, pon_1851], mdn_872, [], (nat_lit 0))
set_option maxRecDepth 100000 in
theorem S_1258 : aSpec wd ct_1258 := bChk_ok wx_ok btX12_in (nds := []) (fk := []) (rk := (1, [])) (sp := 0) (fuel := 3000) (by decide +kernel) lk_n odX12_in
def pon_2091 : aPo := (some (.inl [((.negSucc (nat_lit 0)), (.negSucc (nat_lit 0)), (nat_lit 1))]), [none, some [((.negSucc (nat_lit 2147483647)), (.ofNat (nat_lit 11)), (nat_lit 1)), ((.ofNat (nat_lit 13)), (.ofNat (nat_lit 2147483647)), (nat_lit 1))]], [], [])
def pon_2092 : aPo := (some (.inl [((.ofNat (nat_lit 0)), (.ofNat (nat_lit 0)), (nat_lit 1))]), [none, some [((.ofNat (nat_lit 0)), (.ofNat (nat_lit 11)), (nat_lit 1))]], [sl_1871], [])
set_option maxRecDepth 100000 in
theorem btX12_size : bTab oX12_size tX12_size := ⟨ofX12_size, by decide +kernel⟩
def ct_1259 : aCt := (mX12_size, [ag_861, ag_1], ([], []), [pon_739, pon_2091, pon_2092], mdn_1793, [], (nat_lit 1))
set_option maxRecDepth 100000 in
theorem S_1259 : aSpec wd ct_1259 := bChk_ok wx_ok btX12_size (nds := []) (fk := []) (rk := (1, [])) (sp := 0) (fuel := 3000) (by decide +kernel) (lk_d S_1257 ml_12_149 (lk_d S_1258 ml_12_149 lk_n)) odX12_size
set_option maxRecDepth 100000 in
theorem btX12_trouble : bTab oX12_trouble tX12_trouble := ⟨ofX12_trouble, by decide +kernel⟩
def ct_1260 : aCt := (mX12_trouble, [ag_861], ([], []), [pon_264], mdn_1793, [], (nat_lit 0))
set_option maxRecDepth 100000 in
theorem S_1260 : aSpec wd ct_1260 := bChk_ok wx_ok btX12_trouble (nds := []) (fk := []) (rk := (1, [])) (sp := 0) (fuel := 3000) (by decide +kernel) lk_n odX12_trouble
def pon_2093 : aPo := (some (.inl [((.ofNat (nat_lit 0)), (.ofNat (nat_lit 7)), (nat_lit 1))]), [], [sl_1428, sl_1431, sl_1432, sl_1808], [])
set_option maxRecDepth 100000 in
theorem btX12_led : bTab oX12_led tX12_led := ⟨ofX12_led, by decide +kernel⟩
def ct_1261 : aCt := (mX12_led, [ag_861, ag_1], ([], []), [pon_2093, pon_37], mdn_1793, [], (nat_lit 0))
set_option maxRecDepth 100000 in
theorem S_1261 : aSpec wd ct_1261 := bChk_ok wx_ok btX12_led (nds := [((nat_lit 4), [lcn_898, lcn_271, lcn_132, lcn_408], [], [], [], (8, [(2, -1)]))]) (fk := []) (rk := (9, [])) (sp := 16) (fuel := 3000) (by decide +kernel) lk_n odX12_led
def pon_2094 : aPo := (some (.inl [((.negSucc (nat_lit 0)), (.negSucc (nat_lit 0)), (nat_lit 1))]), [], [sl_2054], [])
def ct_1262 : aCt := (mX12_no, [ag_861, ag_150], ([sl_867], []), [pon_2094], mdn_875, [], (nat_lit 0))
set_option maxRecDepth 100000 in
theorem S_1262 : aSpec wd ct_1262 := bChk_ok wx_ok btX12_no (nds := []) (fk := []) (rk := (1, [])) (sp := 0) (fuel := 3000) (by decide +kernel) lk_n odX12_no
end Pk4
