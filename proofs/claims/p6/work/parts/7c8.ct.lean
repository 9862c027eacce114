def ct_1815 : aCt := (mX12_boxLong, [.inr (.inl [196]), .inl [(2, 2, 1)]], ([((199, 0), [(2, 4, 1)]), ((199, 4), [(7, 7, 1)]), ((199, 7), [(3, 8, 1)])], []), [(some (.inl [(2, 6, 1)]), [], [], [])], [], [], 1)
set_option maxRecDepth 100000 in
theorem S_1815 : aSpec wd ct_1815 := bChk_ok wx_ok btX12_boxLong (lk := [(265, 0, 2, ct_1808), (265, 0, 2, ct_1809), (265, 0, 2, ct_1810), (265, 0, 2, ct_1811), (265, 0, 2, ct_1812), (265, 0, 2, ct_1813), (265, 0, 2, ct_1814), (262, 0, 3, ct_1807)]) (nds := []) (fk := [7]) (rk := (1, [])) (sp := 0) (fuel := 3000) (by decide +kernel) (List.forall_mem_cons.mpr ⟨⟨ml_12_265, S_1808⟩, List.forall_mem_cons.mpr ⟨⟨ml_12_265, S_1809⟩, List.forall_mem_cons.mpr ⟨⟨ml_12_265, S_1810⟩, List.forall_mem_cons.mpr ⟨⟨ml_12_265, S_1811⟩, List.forall_mem_cons.mpr ⟨⟨ml_12_265, S_1812⟩, List.forall_mem_cons.mpr ⟨⟨ml_12_265, S_1813⟩, List.forall_mem_cons.mpr ⟨⟨ml_12_265, S_1814⟩, List.forall_mem_cons.mpr ⟨⟨ml_12_262, S_1807⟩, fun _ h => nomatch h⟩⟩⟩⟩⟩⟩⟩⟩) odX12_boxLong
def ct_1816 : aCt := (mX12_ofBox, [.inr (.inl [196]), .inl [(3, 3, 1)], .inl [(1, 1, 1)]], ([((199, 0), [(2, 4, 1)]), ((199, 4), [(7, 7, 1)]), ((199, 7), [(4, 8, 1)])], []), [(some (.inl [(0, 6, 1)]), [], [], [])], [], [], 0)
set_option maxRecDepth 100000 in
theorem S_1816 : aSpec wd ct_1816 := bChk_ok wx_ok btX12_ofBox (lk := []) (nds := []) (fk := []) (rk := (1, [])) (sp := 0) (fuel := 3000) (by decide +kernel) (fun _ h => nomatch h) odX12_ofBox
def ct_1817 : aCt := (mX12_songLong, [.inr (.inl [196]), .inl [(0, 0, 1)]], ([((199, 0), [(2, 4, 1)]), ((199, 4), [(7, 7, 1)]), ((199, 7), [(4, 8, 1)])], []), [(some (.inl [(2, 6, 1)]), [], [], [])], [], [], 0)
set_option maxRecDepth 100000 in
theorem S_1817 : aSpec wd ct_1817 := bChk_ok wx_ok btX12_songLong (lk := []) (nds := []) (fk := []) (rk := (1, [])) (sp := 0) (fuel := 3000) (by decide +kernel) (fun _ h => nomatch h) odX12_songLong
def ct_1818 : aCt := (mX12_songLong, [.inr (.inl [196]), .inl [(1, 1, 1)]], ([((199, 0), [(2, 4, 1)]), ((199, 4), [(7, 7, 1)]), ((199, 7), [(4, 8, 1)])], []), [(some (.inl [(2, 6, 1)]), [], [], [])], [], [], 0)
set_option maxRecDepth 100000 in
theorem S_1818 : aSpec wd ct_1818 := bChk_ok wx_ok btX12_songLong (lk := []) (nds := []) (fk := []) (rk := (1, [])) (sp := 0) (fuel := 3000) (by decide +kernel) (fun _ h => nomatch h) odX12_songLong
def ct_1819 : aCt := (mX12_songLong, [.inr (.inl [196]), .inl [(2, 2, 1)]], ([((199, 0), [(2, 4, 1)]), ((199, 4), [(7, 7, 1)]), ((199, 7), [(4, 8, 1)])], []), [(some (.inl [(2, 6, 1)]), [], [], [])], [], [], 0)
set_option maxRecDepth 100000 in
theorem S_1819 : aSpec wd ct_1819 := bChk_ok wx_ok btX12_songLong (lk := []) (nds := []) (fk := []) (rk := (1, [])) (sp := 0) (fuel := 3000) (by decide +kernel) (fun _ h => nomatch h) odX12_songLong
def ct_1820 : aCt := (mX12_songLong, [.inr (.inl [196]), .inl [(3, 3, 1)]], ([((199, 0), [(2, 4, 1)]), ((199, 4), [(7, 7, 1)]), ((199, 7), [(4, 8, 1)])], []), [(some (.inl [(2, 6, 1)]), [], [], [])], [], [], 0)
set_option maxRecDepth 100000 in
theorem S_1820 : aSpec wd ct_1820 := bChk_ok wx_ok btX12_songLong (lk := []) (nds := []) (fk := []) (rk := (1, [])) (sp := 0) (fuel := 3000) (by decide +kernel) (fun _ h => nomatch h) odX12_songLong
def ct_1821 : aCt := (mX12_songLong, [.inr (.inl [196]), .inl [(4, 4, 1)]], ([((199, 0), [(2, 4, 1)]), ((199, 4), [(7, 7, 1)]), ((199, 7), [(4, 8, 1)])], []), [(some (.inl [(2, 6, 1)]), [], [], [])], [], [], 0)
set_option maxRecDepth 100000 in
theorem S_1821 : aSpec wd ct_1821 := bChk_ok wx_ok btX12_songLong (lk := []) (nds := []) (fk := []) (rk := (1, [])) (sp := 0) (fuel := 3000) (by decide +kernel) (fun _ h => nomatch h) odX12_songLong
def ct_1822 : aCt := (mX12_songLong, [.inr (.inl [196]), .inl [(5, 5, 1)]], ([((199, 0), [(2, 4, 1)]), ((199, 4), [(7, 7, 1)]), ((199, 7), [(4, 8, 1)])], []), [(some (.inl [(2, 6, 1)]), [], [], [])], [], [], 0)
set_option maxRecDepth 100000 in
theorem S_1822 : aSpec wd ct_1822 := bChk_ok wx_ok btX12_songLong (lk := []) (nds := []) (fk := []) (rk := (1, [])) (sp := 0) (fuel := 3000) (by decide +kernel) (fun _ h => nomatch h) odX12_songLong
def ct_1823 : aCt := (mX12_songLong, [.inr (.inl [196]), .inl [(6, 6, 1)]], ([((199, 0), [(2, 4, 1)]), ((199, 4), [(7, 7, 1)]), ((199, 7), [(4, 8, 1)])], []), [(some (.inl [(2, 6, 1)]), [], [], [])], [], [], 0)
set_option maxRecDepth 100000 in
theorem S_1823 : aSpec wd ct_1823 := bChk_ok wx_ok btX12_songLong (lk := []) (nds := []) (fk := []) (rk := (1, [])) (sp := 0) (fuel := 3000) (by decide +kernel) (fun _ h => nomatch h) odX12_songLong
def ct_1824 : aCt := (mX12_boxLong, [.inr (.inl [196]), .inl [(3, 3, 1)]], ([((199, 0), [(2, 4, 1)]), ((199, 4), [(7, 7, 1)]), ((199, 7), [(4, 8, 1)])], []), [(some (.inl [(2, 6, 1)]), [], [], [])], [], [], 1)
set_option maxRecDepth 100000 in
theorem S_1824 : aSpec wd ct_1824 := bChk_ok wx_ok btX12_boxLong (lk := [(265, 0, 2, ct_1817), (265, 0, 2, ct_1818), (265, 0, 2, ct_1819), (265, 0, 2, ct_1820), (265, 0, 2, ct_1821), (265, 0, 2, ct_1822), (265, 0, 2, ct_1823), (262, 0, 3, ct_1816)]) (nds := []) (fk := [7]) (rk := (1, [])) (sp := 0) (fuel := 3000) (by decide +kernel) (List.forall_mem_cons.mpr ⟨⟨ml_12_265, S_1817⟩, List.forall_mem_cons.mpr ⟨⟨ml_12_265, S_1818⟩, List.forall_mem_cons.mpr ⟨⟨ml_12_265, S_1819⟩, List.forall_mem_cons.mpr ⟨⟨ml_12_265, S_1820⟩, List.forall_mem_cons.mpr ⟨⟨ml_12_265, S_1821⟩, List.forall_mem_cons.mpr ⟨⟨ml_12_265, S_1822⟩, List.forall_mem_cons.mpr ⟨⟨ml_12_265, S_1823⟩, List.forall_mem_cons.mpr ⟨⟨ml_12_262, S_1816⟩, fun _ h => nomatch h⟩⟩⟩⟩⟩⟩⟩⟩) odX12_boxLong
def ct_1825 : aCt := (mX12_ofBox, [.inr (.inl [196]), .inl [(4, 4, 1)], .inl [(1, 1, 1)]], ([((199, 0), [(2, 4, 1)]), ((199, 4), [(7, 7, 1)]), ((199, 7), [(5, 8, 1)])], []), [(some (.inl [(0, 6, 1)]), [], [], [])], [], [], 0)
set_option maxRecDepth 100000 in
theorem S_1825 : aSpec wd ct_1825 := bChk_ok wx_ok btX12_ofBox (lk := []) (nds := []) (fk := []) (rk := (1, [])) (sp := 0) (fuel := 3000) (by decide +kernel) (fun _ h => nomatch h) odX12_ofBox
def ct_1826 : aCt := (mX12_songLong, [.inr (.inl [196]), .inl [(0, 0, 1)]], ([((199, 0), [(2, 4, 1)]), ((199, 4), [(7, 7, 1)]), ((199, 7), [(5, 8, 1)])], []), [(some (.inl [(2, 6, 1)]), [], [], [])], [], [], 0)
set_option maxRecDepth 100000 in
theorem S_1826 : aSpec wd ct_1826 := bChk_ok wx_ok btX12_songLong (lk := []) (nds := []) (fk := []) (rk := (1, [])) (sp := 0) (fuel := 3000) (by decide +kernel) (fun _ h => nomatch h) odX12_songLong
def ct_1827 : aCt := (mX12_songLong, [.inr (.inl [196]), .inl [(1, 1, 1)]], ([((199, 0), [(2, 4, 1)]), ((199, 4), [(7, 7, 1)]), ((199, 7), [(5, 8, 1)])], []), [(some (.inl [(2, 6, 1)]), [], [], [])], [], [], 0)
set_option maxRecDepth 100000 in
theorem S_1827 : aSpec wd ct_1827 := bChk_ok wx_ok btX12_songLong (lk := []) (nds := []) (fk := []) (rk := (1, [])) (sp := 0) (fuel := 3000) (by decide +kernel) (fun _ h => nomatch h) odX12_songLong
def ct_1828 : aCt := (mX12_songLong, [.inr (.inl [196]), .inl [(2, 2, 1)]], ([((199, 0), [(2, 4, 1)]), ((199, 4), [(7, 7, 1)]), ((199, 7), [(5, 8, 1)])], []), [(some (.inl [(2, 6, 1)]), [], [], [])], [], [], 0)
set_option maxRecDepth 100000 in
theorem S_1828 : aSpec wd ct_1828 := bChk_ok wx_ok btX12_songLong (lk := []) (nds := []) (fk := []) (rk := (1, [])) (sp := 0) (fuel := 3000) (by decide +kernel) (fun _ h => nomatch h) odX12_songLong
def ct_1829 : aCt := (mX12_songLong, [.inr (.inl [196]), .inl [(3, 3, 1)]], ([((199, 0), [(2, 4, 1)]), ((199, 4), [(7, 7, 1)]), ((199, 7), [(5, 8, 1)])], []), [(some (.inl [(2, 6, 1)]), [], [], [])], [], [], 0)
set_option maxRecDepth 100000 in
theorem S_1829 : aSpec wd ct_1829 := bChk_ok wx_ok btX12_songLong (lk := []) (nds := []) (fk := []) (rk := (1, [])) (sp := 0) (fuel := 3000) (by decide +kernel) (fun _ h => nomatch h) odX12_songLong
def ct_1830 : aCt := (mX12_songLong, [.inr (.inl [196]), .inl [(4, 4, 1)]], ([((199, 0), [(2, 4, 1)]), ((199, 4), [(7, 7, 1)]), ((199, 7), [(5, 8, 1)])], []), [(some (.inl [(2, 6, 1)]), [], [], [])], [], [], 0)
set_option maxRecDepth 100000 in
theorem S_1830 : aSpec wd ct_1830 := bChk_ok wx_ok btX12_songLong (lk := []) (nds := []) (fk := []) (rk := (1, [])) (sp := 0) (fuel := 3000) (by decide +kernel) (fun _ h => nomatch h) odX12_songLong
def ct_1831 : aCt := (mX12_songLong, [.inr (.inl [196]), .inl [(5, 5, 1)]], ([((199, 0), [(2, 4, 1)]), ((199, 4), [(7, 7, 1)]), ((199, 7), [(5, 8, 1)])], []), [(some (.inl [(2, 6, 1)]), [], [], [])], [], [], 0)
set_option maxRecDepth 100000 in
theorem S_1831 : aSpec wd ct_1831 := bChk_ok wx_ok btX12_songLong (lk := []) (nds := []) (fk := []) (rk := (1, [])) (sp := 0) (fuel := 3000) (by decide +kernel) (fun _ h => nomatch h) odX12_songLong
def ct_1832 : aCt := (mX12_songLong, [.inr (.inl [196]), .inl [(6, 6, 1)]], ([((199, 0), [(2, 4, 1)]), ((199, 4), [(7, 7, 1)]), ((199, 7), [(5, 8, 1)])], []), [(some (.inl [(2, 6, 1)]), [], [], [])], [], [], 0)
set_option maxRecDepth 100000 in
theorem S_1832 : aSpec wd ct_1832 := bChk_ok wx_ok btX12_songLong (lk := []) (nds := []) (fk := []) (rk := (1, [])) (sp := 0) (fuel := 3000) (by decide +kernel) (fun _ h => nomatch h) odX12_songLong
def ct_1833 : aCt := (mX12_boxLong, [.inr (.inl [196]), .inl [(4, 4, 1)]], ([((199, 0), [(2, 4, 1)]), ((199, 4), [(7, 7, 1)]), ((199, 7), [(5, 8, 1)])], []), [(some (.inl [(2, 6, 1)]), [], [], [])], [], [], 1)
set_option maxRecDepth 100000 in
theorem S_1833 : aSpec wd ct_1833 := bChk_ok wx_ok btX12_boxLong (lk := [(265, 0, 2, ct_1826), (265, 0, 2, ct_1827), (265, 0, 2, ct_1828), (265, 0, 2, ct_1829), (265, 0, 2, ct_1830), (265, 0, 2, ct_1831), (265, 0, 2, ct_1832), (262, 0, 3, ct_1825)]) (nds := []) (fk := [7]) (rk := (1, [])) (sp := 0) (fuel := 3000) (by decide +kernel) (List.forall_mem_cons.mpr ⟨⟨ml_12_265, S_1826⟩, List.forall_mem_cons.mpr ⟨⟨ml_12_265, S_1827⟩, List.forall_mem_cons.mpr ⟨⟨ml_12_265, S_1828⟩, List.forall_mem_cons.mpr ⟨⟨ml_12_265, S_1829⟩, List.forall_mem_cons.mpr ⟨⟨ml_12_265, S_1830⟩, List.forall_mem_cons.mpr ⟨⟨ml_12_265, S_1831⟩, List.forall_mem_cons.mpr ⟨⟨ml_12_265, S_1832⟩, List.forall_mem_cons.mpr ⟨⟨ml_12_262, S_1825⟩, fun _ h => nomatch h⟩⟩⟩⟩⟩⟩⟩⟩) odX12_boxLong
def ct_1834 : aCt := (mX12_ofBox, [.inr (.inl [196]), .inl [(5, 5, 1)], .inl [(1, 1, 1)]], ([((199, 0), [(2, 4, 1)]), ((199, 4), [(7, 7, 1)]), ((199, 7), [(6, 8, 1)])], []), [(some (.inl [(0, 6, 1)]), [], [], [])], [], [], 0)
set_option maxRecDepth 100000 in
theorem S_1834 : aSpec wd ct_1834 := bChk_ok wx_ok btX12_ofBox (lk := []) (nds := []) (fk := []) (rk := (1, [])) (sp := 0) (fuel := 3000) (by decide +kernel) (fun _ h => nomatch h) odX12_ofBox
def ct_1835 : aCt := (mX12_songLong, [.inr (.inl [196]), .inl [(0, 0, 1)]], ([((199, 0), [(2, 4, 1)]), ((199, 4), [(7, 7, 1)]), ((199, 7), [(6, 8, 1)])], []), [(some (.inl [(2, 6, 1)]), [], [], [])], [], [], 0)
set_option maxRecDepth 100000 in
theorem S_1835 : aSpec wd ct_1835 := bChk_ok wx_ok btX12_songLong (lk := []) (nds := []) (fk := []) (rk := (1, [])) (sp := 0) (fuel := 3000) (by decide +kernel) (fun _ h => nomatch h) odX12_songLong
def ct_1836 : aCt := (mX12_songLong, [.inr (.inl [196]), .inl [(1, 1, 1)]], ([((199, 0), [(2, 4, 1)]), ((199, 4), [(7, 7, 1)]), ((199, 7), [(6, 8, 1)])], []), [(some (.inl [(2, 6, 1)]), [], [], [])], [], [], 0)
set_option maxRecDepth 100000 in
theorem S_1836 : aSpec wd ct_1836 := bChk_ok wx_ok btX12_songLong (lk := []) (nds := []) (fk := []) (rk := (1, [])) (sp := 0) (fuel := 3000) (by decide +kernel) (fun _ h => nomatch h) odX12_songLong
def ct_1837 : aCt := (mX12_songLong, [.inr (.inl [196]), .inl [(2, 2, 1)]], ([((199, 0), [(2, 4, 1)]), ((199, 4), [(7, 7, 1)]), ((199, 7), [(6, 8, 1)])], []), [(some (.inl [(2, 6, 1)]), [], [], [])], [], [], 0)
set_option maxRecDepth 100000 in
theorem S_1837 : aSpec wd ct_1837 := bChk_ok wx_ok btX12_songLong (lk := []) (nds := []) (fk := []) (rk := (1, [])) (sp := 0) (fuel := 3000) (by decide +kernel) (fun _ h => nomatch h) odX12_songLong
def ct_1838 : aCt := (mX12_songLong, [.inr (.inl [196]), .inl [(3, 3, 1)]], ([((199, 0), [(2, 4, 1)]), ((199, 4), [(7, 7, 1)]), ((199, 7), [(6, 8, 1)])], []), [(some (.inl [(2, 6, 1)]), [], [], [])], [], [], 0)
set_option maxRecDepth 100000 in
theorem S_1838 : aSpec wd ct_1838 := bChk_ok wx_ok btX12_songLong (lk := []) (nds := []) (fk := []) (rk := (1, [])) (sp := 0) (fuel := 3000) (by decide +kernel) (fun _ h => nomatch h) odX12_songLong
def ct_1839 : aCt := (mX12_songLong, [.inr (.inl [196]), .inl [(4, 4, 1)]], ([((199, 0), [(2, 4, 1)]), ((199, 4), [(7, 7, 1)]), ((199, 7), [(6, 8, 1)])], []), [(some (.inl [(2, 6, 1)]), [], [], [])], [], [], 0)
set_option maxRecDepth 100000 in
theorem S_1839 : aSpec wd ct_1839 := bChk_ok wx_ok btX12_songLong (lk := []) (nds := []) (fk := []) (rk := (1, [])) (sp := 0) (fuel := 3000) (by decide +kernel) (fun _ h => nomatch h) odX12_songLong
def ct_1840 : aCt := (mX12_songLong, [.inr (.inl [196]), .inl [(5, 5, 1)]], ([((199, 0), [(2, 4, 1)]), ((199, 4), [(7, 7, 1)]), ((199, 7), [(6, 8, 1)])], []), [(some (.inl [(2, 6, 1)]), [], [], [])], [], [], 0)
set_option maxRecDepth 100000 in
theorem S_1840 : aSpec wd ct_1840 := bChk_ok wx_ok btX12_songLong (lk := []) (nds := []) (fk := []) (rk := (1, [])) (sp := 0) (fuel := 3000) (by decide +kernel) (fun _ h => nomatch h) odX12_songLong
def ct_1841 : aCt := (mX12_songLong, [.inr (.inl [196]), .inl [(6, 6, 1)]], ([((199, 0), [(2, 4, 1)]), ((199, 4), [(7, 7, 1)]), ((199, 7), [(6, 8, 1)])], []), [(some (.inl [(2, 6, 1)]), [], [], [])], [], [], 0)
set_option maxRecDepth 100000 in
theorem S_1841 : aSpec wd ct_1841 := bChk_ok wx_ok btX12_songLong (lk := []) (nds := []) (fk := []) (rk := (1, [])) (sp := 0) (fuel := 3000) (by decide +kernel) (fun _ h => nomatch h) odX12_songLong
def ct_1842 : aCt := (mX12_boxLong, [.inr (.inl [196]), .inl [(5, 5, 1)]], ([((199, 0), [(2, 4, 1)]), ((199, 4), [(7, 7, 1)]), ((199, 7), [(6, 8, 1)])], []), [(some (.inl [(2, 6, 1)]), [], [], [])], [], [], 1)
set_option maxRecDepth 100000 in
theorem S_1842 : aSpec wd ct_1842 := bChk_ok wx_ok btX12_boxLong (lk := [(265, 0, 2, ct_1835), (265, 0, 2, ct_1836), (265, 0, 2, ct_1837), (265, 0, 2, ct_1838), (265, 0, 2, ct_1839), (265, 0, 2, ct_1840), (265, 0, 2, ct_1841), (262, 0, 3, ct_1834)]) (nds := []) (fk := [7]) (rk := (1, [])) (sp := 0) (fuel := 3000) (by decide +kernel) (List.forall_mem_cons.mpr ⟨⟨ml_12_265, S_1835⟩, List.forall_mem_cons.mpr ⟨⟨ml_12_265, S_1836⟩, List.forall_mem_cons.mpr ⟨⟨ml_12_265, S_1837⟩, List.forall_mem_cons.mpr ⟨⟨ml_12_265, S_1838⟩, List.forall_mem_cons.mpr ⟨⟨ml_12_265, S_1839⟩, List.forall_mem_cons.mpr ⟨⟨ml_12_265, S_1840⟩, List.forall_mem_cons.mpr ⟨⟨ml_12_265, S_1841⟩, List.forall_mem_cons.mpr ⟨⟨ml_12_262, S_1834⟩, fun _ h => nomatch h⟩⟩⟩⟩⟩⟩⟩⟩) odX12_boxLong
def ct_1843 : aCt := (mX12_ofBox, [.inr (.inl [196]), .inl [(6, 6, 1)], .inl [(1, 1, 1)]], ([((199, 0), [(2, 4, 1)]), ((199, 4), [(7, 7, 1)]), ((199, 7), [(7, 8, 1)])], []), [(some (.inl [(0, 6, 1)]), [], [], [])], [], [], 0)
set_option maxRecDepth 100000 in
theorem S_1843 : aSpec wd ct_1843 := bChk_ok wx_ok btX12_ofBox (lk := []) (nds := []) (fk := []) (rk := (1, [])) (sp := 0) (fuel := 3000) (by decide +kernel) (fun _ h => nomatch h) odX12_ofBox
def ct_1844 : aCt := (mX12_songLong, [.inr (.inl [196]), .inl [(0, 0, 1)]], ([((199, 0), [(2, 4, 1)]), ((199, 4), [(7, 7, 1)]), ((199, 7), [(7, 8, 1)])], []), [(some (.inl [(2, 6, 1)]), [], [], [])], [], [], 0)
set_option maxRecDepth 100000 in
theorem S_1844 : aSpec wd ct_1844 := bChk_ok wx_ok btX12_songLong (lk := []) (nds := []) (fk := []) (rk := (1, [])) (sp := 0) (fuel := 3000) (by decide +kernel) (fun _ h => nomatch h) odX12_songLong
def ct_1845 : aCt := (mX12_songLong, [.inr (.inl [196]), .inl [(1, 1, 1)]], ([((199, 0), [(2, 4, 1)]), ((199, 4), [(7, 7, 1)]), ((199, 7), [(7, 8, 1)])], []), [(some (.inl [(2, 6, 1)]), [], [], [])], [], [], 0)
set_option maxRecDepth 100000 in
theorem S_1845 : aSpec wd ct_1845 := bChk_ok wx_ok btX12_songLong (lk := []) (nds := []) (fk := []) (rk := (1, [])) (sp := 0) (fuel := 3000) (by decide +kernel) (fun _ h => nomatch h) odX12_songLong
def ct_1846 : aCt := (mX12_songLong, [.inr (.inl [196]), .inl [(2, 2, 1)]], ([((199, 0), [(2, 4, 1)]), ((199, 4), [(7, 7, 1)]), ((199, 7), [(7, 8, 1)])], []), [(some (.inl [(2, 6, 1)]), [], [], [])], [], [], 0)
set_option maxRecDepth 100000 in
theorem S_1846 : aSpec wd ct_1846 := bChk_ok wx_ok btX12_songLong (lk := []) (nds := []) (fk := []) (rk := (1, [])) (sp := 0) (fuel := 3000) (by decide +kernel) (fun _ h => nomatch h) odX12_songLong
def ct_1847 : aCt := (mX12_songLong, [.inr (.inl [196]), .inl [(3, 3, 1)]], ([((199, 0), [(2, 4, 1)]), ((199, 4), [(7, 7, 1)]), ((199, 7), [(7, 8, 1)])], []), [(some (.inl [(2, 6, 1)]), [], [], [])], [], [], 0)
set_option maxRecDepth 100000 in
theorem S_1847 : aSpec wd ct_1847 := bChk_ok wx_ok btX12_songLong (lk := []) (nds := []) (fk := []) (rk := (1, [])) (sp := 0) (fuel := 3000) (by decide +kernel) (fun _ h => nomatch h) odX12_songLong
def ct_1848 : aCt := (mX12_songLong, [.inr (.inl [196]), .inl [(4, 4, 1)]], ([((199, 0), [(2, 4, 1)]), ((199, 4), [(7, 7, 1)]), ((199, 7), [(7, 8, 1)])], []), [(some (.inl [(2, 6, 1)]), [], [], [])], [], [], 0)
set_option maxRecDepth 100000 in
theorem S_1848 : aSpec wd ct_1848 := bChk_ok wx_ok btX12_songLong (lk := []) (nds := []) (fk := []) (rk := (1, [])) (sp := 0) (fuel := 3000) (by decide +kernel) (fun _ h => nomatch h) odX12_songLong
def ct_1849 : aCt := (mX12_songLong, [.inr (.inl [196]), .inl [(5, 5, 1)]], ([((199, 0), [(2, 4, 1)]), ((199, 4), [(7, 7, 1)]), ((199, 7), [(7, 8, 1)])], []), [(some (.inl [(2, 6, 1)]), [], [], [])], [], [], 0)
set_option maxRecDepth 100000 in
theorem S_1849 : aSpec wd ct_1849 := bChk_ok wx_ok btX12_songLong (lk := []) (nds := []) (fk := []) (rk := (1, [])) (sp := 0) (fuel := 3000) (by decide +kernel) (fun _ h => nomatch h) odX12_songLong
def ct_1850 : aCt := (mX12_songLong, [.inr (.inl [196]), .inl [(6, 6, 1)]], ([((199, 0), [(2, 4, 1)]), ((199, 4), [(7, 7, 1)]), ((199, 7), [(7, 8, 1)])], []), [(some (.inl [(2, 6, 1)]), [], [], [])], [], [], 0)
set_option maxRecDepth 100000 in
theorem S_1850 : aSpec wd ct_1850 := bChk_ok wx_ok btX12_songLong (lk := []) (nds := []) (fk := []) (rk := (1, [])) (sp := 0) (fuel := 3000) (by decide +kernel) (fun _ h => nomatch h) odX12_songLong
def ct_1851 : aCt := (mX12_boxLong, [.inr (.inl [196]), .inl [(6, 6, 1)]], ([((199, 0), [(2, 4, 1)]), ((199, 4), [(7, 7, 1)]), ((199, 7), [(7, 8, 1)])], []), [(some (.inl [(2, 6, 1)]), [], [], [])], [], [], 1)
set_option maxRecDepth 100000 in
theorem S_1851 : aSpec wd ct_1851 := bChk_ok wx_ok btX12_boxLong (lk := [(265, 0, 2, ct_1844), (265, 0, 2, ct_1845), (265, 0, 2, ct_1846), (265, 0, 2, ct_1847), (265, 0, 2, ct_1848), (265, 0, 2, ct_1849), (265, 0, 2, ct_1850), (262, 0, 3, ct_1843)]) (nds := []) (fk := [7]) (rk := (1, [])) (sp := 0) (fuel := 3000) (by decide +kernel) (List.forall_mem_cons.mpr ⟨⟨ml_12_265, S_1844⟩, List.forall_mem_cons.mpr ⟨⟨ml_12_265, S_1845⟩, List.forall_mem_cons.mpr ⟨⟨ml_12_265, S_1846⟩, List.forall_mem_cons.mpr ⟨⟨ml_12_265, S_1847⟩, List.forall_mem_cons.mpr ⟨⟨ml_12_265, S_1848⟩, List.forall_mem_cons.mpr ⟨⟨ml_12_265, S_1849⟩, List.forall_mem_cons.mpr ⟨⟨ml_12_265, S_1850⟩, List.forall_mem_cons.mpr ⟨⟨ml_12_262, S_1843⟩, fun _ h => nomatch h⟩⟩⟩⟩⟩⟩⟩⟩) odX12_boxLong
def ct_1852 : aCt := (mX12_ofBox, [.inr (.inl [196]), .inl [(7, 7, 1)], .inl [(1, 1, 1)]], ([((199, 0), [(2, 4, 1)]), ((199, 4), [(7, 7, 1)]), ((199, 7), [(8, 8, 1)])], []), [(some (.inl [(0, 6, 1)]), [], [], [])], [], [], 0)
set_option maxRecDepth 100000 in
theorem S_1852 : aSpec wd ct_1852 := bChk_ok wx_ok btX12_ofBox (lk := []) (nds := []) (fk := []) (rk := (1, [])) (sp := 0) (fuel := 3000) (by decide +kernel) (fun _ h => nomatch h) odX12_ofBox
def ct_1853 : aCt := (mX12_songLong, [.inr (.inl [196]), .inl [(0, 0, 1)]], ([((199, 0), [(2, 4, 1)]), ((199, 4), [(7, 7, 1)]), ((199, 7), [(8, 8, 1)])], []), [(some (.inl [(2, 6, 1)]), [], [], [])], [], [], 0)
set_option maxRecDepth 100000 in
theorem S_1853 : aSpec wd ct_1853 := bChk_ok wx_ok btX12_songLong (lk := []) (nds := []) (fk := []) (rk := (1, [])) (sp := 0) (fuel := 3000) (by decide +kernel) (fun _ h => nomatch h) odX12_songLong
def ct_1854 : aCt := (mX12_songLong, [.inr (.inl [196]), .inl [(1, 1, 1)]], ([((199, 0), [(2, 4, 1)]), ((199, 4), [(7, 7, 1)]), ((199, 7), [(8, 8, 1)])], []), [(some (.inl [(2, 6, 1)]), [], [], [])], [], [], 0)
set_option maxRecDepth 100000 in
theorem S_1854 : aSpec wd ct_1854 := bChk_ok wx_ok btX12_songLong (lk := []) (nds := []) (fk := []) (rk := (1, [])) (sp := 0) (fuel := 3000) (by decide +kernel) (fun _ h => nomatch h) odX12_songLong
def ct_1855 : aCt := (mX12_songLong, [.inr (.inl [196]), .inl [(2, 2, 1)]], ([((199, 0), [(2, 4, 1)]), ((199, 4), [(7, 7, 1)]), ((199, 7), [(8, 8, 1)])], []), [(some (.inl [(2, 6, 1)]), [], [], [])], [], [], 0)
set_option maxRecDepth 100000 in
theorem S_1855 : aSpec wd ct_1855 := bChk_ok wx_ok btX12_songLong (lk := []) (nds := []) (fk := []) (rk := (1, [])) (sp := 0) (fuel := 3000) (by decide +kernel) (fun _ h => nomatch h) odX12_songLong
def ct_1856 : aCt := (mX12_songLong, [.inr (.inl [196]), .inl [(3, 3, 1)]], ([((199, 0), [(2, 4, 1)]), ((199, 4), [(7, 7, 1)]), ((199, 7), [(8, 8, 1)])], []), [(some (.inl [(2, 6, 1)]), [], [], [])], [], [], 0)
set_option maxRecDepth 100000 in
theorem S_1856 : aSpec wd ct_1856 := bChk_ok wx_ok btX12_songLong (lk := []) (nds := []) (fk := []) (rk := (1, [])) (sp := 0) (fuel := 3000) (by decide +kernel) (fun _ h => nomatch h) odX12_songLong
def ct_1857 : aCt := (mX12_songLong, [.inr (.inl [196]), .inl [(4, 4, 1)]], ([((199, 0), [(2, 4, 1)]), ((199, 4), [(7, 7, 1)]), ((199, 7), [(8, 8, 1)])], []), [(some (.inl [(2, 6, 1)]), [], [], [])], [], [], 0)
set_option maxRecDepth 100000 in
theorem S_1857 : aSpec wd ct_1857 := bChk_ok wx_ok btX12_songLong (lk := []) (nds := []) (fk := []) (rk := (1, [])) (sp := 0) (fuel := 3000) (by decide +kernel) (fun _ h => nomatch h) odX12_songLong
def ct_1858 : aCt := (mX12_songLong, [.inr (.inl [196]), .inl [(5, 5, 1)]], ([((199, 0), [(2, 4, 1)]), ((199, 4), [(7, 7, 1)]), ((199, 7), [(8, 8, 1)])], []), [(some (.inl [(2, 6, 1)]), [], [], [])], [], [], 0)
set_option maxRecDepth 100000 in
theorem S_1858 : aSpec wd ct_1858 := bChk_ok wx_ok btX12_songLong (lk := []) (nds := []) (fk := []) (rk := (1, [])) (sp := 0) (fuel := 3000) (by decide +kernel) (fun _ h => nomatch h) odX12_songLong
def ct_1859 : aCt := (mX12_songLong, [.inr (.inl [196]), .inl [(6, 6, 1)]], ([((199, 0), [(2, 4, 1)]), ((199, 4), [(7, 7, 1)]), ((199, 7), [(8, 8, 1)])], []), [(some (.inl [(2, 6, 1)]), [], [], [])], [], [], 0)
set_option maxRecDepth 100000 in
theorem S_1859 : aSpec wd ct_1859 := bChk_ok wx_ok btX12_songLong (lk := []) (nds := []) (fk := []) (rk := (1, [])) (sp := 0) (fuel := 3000) (by decide +kernel) (fun _ h => nomatch h) odX12_songLong
def ct_1860 : aCt := (mX12_boxLong, [.inr (.inl [196]), .inl [(7, 7, 1)]], ([((199, 0), [(2, 4, 1)]), ((199, 4), [(7, 7, 1)]), ((199, 7), [(8, 8, 1)])], []), [(some (.inl [(2, 6, 1)]), [], [], [])], [], [], 1)
set_option maxRecDepth 100000 in
theorem S_1860 : aSpec wd ct_1860 := bChk_ok wx_ok btX12_boxLong (lk := [(265, 0, 2, ct_1853), (265, 0, 2, ct_1854), (265, 0, 2, ct_1855), (265, 0, 2, ct_1856), (265, 0, 2, ct_1857), (265, 0, 2, ct_1858), (265, 0, 2, ct_1859), (262, 0, 3, ct_1852)]) (nds := []) (fk := [7]) (rk := (1, [])) (sp := 0) (fuel := 3000) (by decide +kernel) (List.forall_mem_cons.mpr ⟨⟨ml_12_265, S_1853⟩, List.forall_mem_cons.mpr ⟨⟨ml_12_265, S_1854⟩, List.forall_mem_cons.mpr ⟨⟨ml_12_265, S_1855⟩, List.forall_mem_cons.mpr ⟨⟨ml_12_265, S_1856⟩, List.forall_mem_cons.mpr ⟨⟨ml_12_265, S_1857⟩, List.forall_mem_cons.mpr ⟨⟨ml_12_265, S_1858⟩, List.forall_mem_cons.mpr ⟨⟨ml_12_265, S_1859⟩, List.forall_mem_cons.mpr ⟨⟨ml_12_262, S_1852⟩, fun _ h => nomatch h⟩⟩⟩⟩⟩⟩⟩⟩) odX12_boxLong
def ct_1861 : aCt := (mX12_decade, [.inr (.inl [196]), .inl aTop, .inl aTop], ([((199, 4), [(7, 7, 1)])], []), [(some (.inl aTop), [], [((196, 11), [(0, 0, 1)]), ((196, 14), [(1, 1, 1)]), ((199, 0), [(2, 4, 1)])], []), (some (.inl [(-1, -1, 1)]), [], [((196, 11), [(1, 2, 1)])], [])], [(196, 0, 1), (196, 11, 12)], [], 4)
set_option maxRecDepth 100000 in
theorem S_1861 : aSpec wd ct_1861 := bChk_ok wx_ok btX12_decade (lk := [(167, 0, 1, ct_651), (284, 0, 2, ct_1860), (284, 0, 2, ct_1851), (284, 0, 2, ct_1842), (284, 0, 2, ct_1833), (284, 0, 2, ct_1824), (284, 0, 2, ct_1815), (284, 0, 2, ct_1806), (284, 0, 2, ct_1797), (170, 0, 2, ct_1112), (170, 0, 2, ct_653), (262, 0, 3, ct_1852), (262, 0, 3, ct_1843), (262, 0, 3, ct_1834), (262, 0, 3, ct_1825), (262, 0, 3, ct_1816), (262, 0, 3, ct_1807), (262, 0, 3, ct_1798), (262, 0, 3, ct_1789), (291, 0, 5, ct_1155), (149, 1, 3, ct_1518), (149, 1, 3, ct_678)]) (nds := [(52, [(0, .inr (.inl [196])), (1, .inl [(0, 65536, 1)]), (2, .inl [(0, 50, 1)]), (3, .inl [(0, 65536, 1)]), (4, .inl aTop), (5, .inl [(0, 75, 1)])], [], [sl_325, sl_337, sl_326, sl_366], [], (759, [(4, -10)])), (61, [(0, .inr (.inl [196])), (1, .inl [(0, 65536, 1)]), (2, .inl [(1, 50, 1)]), (3, .inl [(0, 65536, 1)]), (4, .inl aTop), (5, .inl [(0, 63, 1)]), (6, .inl [(0, 0, 1)])], [], [sl_325, sl_337, sl_326, sl_366], [], (758, [(4, -10)])), (61, [(0, .inr (.inl [196])), (1, .inl [(0, 65536, 1)]), (2, .inl [(1, 50, 1)]), (3, .inl [(0, 65536, 1)]), (4, .inl aTop), (5, .inl [(0, 63, 1)]), (6, .inl [(1, 1, 1)]), (7, .inl [(-1, 5, 1)]), (8, .inl [(0, 3, 1)])], [], [sl_325, sl_337, sl_326, sl_366, sl_345], [], (757, [(4, -10)])), (61, [(0, .inr (.inl [196])), (1, .inl [(0, 65536, 1)]), (2, .inl [(1, 50, 1)]), (3, .inl [(0, 65536, 1)]), (4, .inl aTop), (5, .inl [(0, 63, 1)]), (6, .inl [(2, 2, 1)]), (7, .inl [(-1, 5, 1)]), (8, .inl [(0, 3, 1)])], [], [sl_325, sl_337, sl_326, sl_366, sl_364], [], (756, [(4, -10)])), (61, [(0, .inr (.inl [196])), (1, .inl [(0, 65536, 1)]), (2, .inl [(1, 50, 1)]), (3, .inl [(0, 65536, 1)]), (4, .inl aTop), (5, .inl [(0, 63, 1)]), (6, .inl [(3, 3, 1)]), (7, .inl [(-1, 5, 1)]), (8, .inl [(0, 3, 1)])], [], [sl_325, sl_337, sl_326, sl_366, sl_363], [], (755, [(4, -10)])), (61, [(0, .inr (.inl [196])), (1, .inl [(0, 65536, 1)]), (2, .inl [(1, 50, 1)]), (3, .inl [(0, 65536, 1)]), (4, .inl aTop), (5, .inl [(0, 63, 1)]), (6, .inl [(4, 4, 1)]), (7, .inl [(-1, 5, 1)]), (8, .inl [(0, 3, 1)])], [], [sl_325, sl_337, sl_326, sl_366, sl_362], [], (754, [(4, -10)])), (61, [(0, .inr (.inl [196])), (1, .inl [(0, 65536, 1)]), (2, .inl [(1, 50, 1)]), (3, .inl [(0, 65536, 1)]), (4, .inl aTop), (5, .inl [(0, 63, 1)]), (6, .inl [(5, 5, 1)]), (7, .inl [(-1, 5, 1)]), (8, .inl [(0, 3, 1)])], [], [sl_325, sl_337, sl_326, sl_366, sl_361], [], (753, [(4, -10)])), (61, [(0, .inr (.inl [196])), (1, .inl [(0, 65536, 1)]), (2, .inl [(1, 50, 1)]), (3, .inl [(0, 65536, 1)]), (4, .inl aTop), (5, .inl [(0, 63, 1)]), (6, .inl [(6, 6, 1)]), (7, .inl [(-1, 5, 1)]), (8, .inl [(0, 3, 1)])], [], [sl_325, sl_337, sl_326, sl_366, sl_360], [], (752, [(4, -10)])), (61, [(0, .inr (.inl [196])), (1, .inl [(0, 65536, 1)]), (2, .inl [(1, 50, 1)]), (3, .inl [(0, 65536, 1)]), (4, .inl aTop), (5, .inl [(0, 63, 1)]), (6, .inl [(7, 7, 1)]), (7, .inl [(-1, 5, 1)]), (8, .inl [(0, 3, 1)])], [], [sl_325, sl_337, sl_326, sl_366, sl_359], [], (751, [(4, -10)])), (61, [(0, .inr (.inl [196])), (1, .inl [(0, 65536, 1)]), (2, .inl [(1, 50, 1)]), (3, .inl [(0, 65536, 1)]), (4, .inl aTop), (5, .inl [(0, 63, 1)]), (6, .inl [(8, 8, 1)]), (7, .inl [(-1, 5, 1)]), (8, .inl [(0, 3, 1)])], [], [sl_325, sl_337, sl_326, sl_366, sl_358], [], (750, [(4, -10)]))]) (fk := []) (rk := (760, [])) (sp := 2310346608841064448) (fuel := 3000) (by decide +kernel) (List.forall_mem_cons.mpr ⟨⟨ml_12_167, S_651⟩, List.forall_mem_cons.mpr ⟨⟨ml_12_284, S_1860⟩, List.forall_mem_cons.mpr ⟨⟨ml_12_284, S_1851⟩, List.forall_mem_cons.mpr ⟨⟨ml_12_284, S_1842⟩, List.forall_mem_cons.mpr ⟨⟨ml_12_284, S_1833⟩, List.forall_mem_cons.mpr ⟨⟨ml_12_284, S_1824⟩, List.forall_mem_cons.mpr ⟨⟨ml_12_284, S_1815⟩, List.forall_mem_cons.mpr ⟨⟨ml_12_284, S_1806⟩, List.forall_mem_cons.mpr ⟨⟨ml_12_284, S_1797⟩, List.forall_mem_cons.mpr ⟨⟨ml_12_170, S_1112⟩, List.forall_mem_cons.mpr ⟨⟨ml_12_170, S_653⟩, List.forall_mem_cons.mpr ⟨⟨ml_12_262, S_1852⟩, List.forall_mem_cons.mpr ⟨⟨ml_12_262, S_1843⟩, List.forall_mem_cons.mpr ⟨⟨ml_12_262, S_1834⟩, List.forall_mem_cons.mpr ⟨⟨ml_12_262, S_1825⟩, List.forall_mem_cons.mpr ⟨⟨ml_12_262, S_1816⟩, List.forall_mem_cons.mpr ⟨⟨ml_12_262, S_1807⟩, List.forall_mem_cons.mpr ⟨⟨ml_12_262, S_1798⟩, List.forall_mem_cons.mpr ⟨⟨ml_12_262, S_1789⟩, List.forall_mem_cons.mpr ⟨⟨ml_12_291, S_1155⟩, List.forall_mem_cons.mpr ⟨⟨ml_12_149, S_1518⟩, List.forall_mem_cons.mpr ⟨⟨ml_12_149, S_678⟩, fun _ h => nomatch h⟩⟩⟩⟩⟩⟩⟩⟩⟩⟩⟩⟩⟩⟩⟩⟩⟩⟩⟩⟩⟩⟩) odX12_decade
def ct_1862 : aCt := (mX12_in, [.inl aTop, .inl [(0, 0, 1)], .inl [(1, 3, 1)]], ([], []), [(some (.inl [(0, 0, 1)]), [some [(-2147483648, -1, 1), (2, 2147483647, 1)], none, none], [], []), (some (.inl [(1, 1, 1)]), [some [(0, 3, 1)], none, none], [], [])], [(1000002, 0, 0)], [], 0)
set_option maxRecDepth 100000 in
theorem S_1862 : aSpec wd ct_1862 := bChk_ok wx_ok btX12_in (lk := []) (nds := []) (fk := []) (rk := (1, [])) (sp := 0) (fuel := 3000) (by decide +kernel) (fun _ h => nomatch h) odX12_in
set_option maxRecDepth 100000 in
theorem btX12_isNot : bTab oX12_isNot tX12_isNot := ⟨ofX12_isNot, by decide +kernel⟩
def ct_1863 : aCt := (mX12_isNot, [.inr (.inl [196]), .inl [(5, 5, 1)]], ([((196, 11), [(0, 0, 1)]), ((199, 0), [(2, 4, 1)]), ((199, 4), [(1, 7, 1)]), ((199, 7), [(1, 8, 1)])], []), [(some (.inl [(0, 0, 1)]), [], [((196, 11), [(5, 5, 1)])], [])], [(196, 11, 12)], [], 0)
set_option maxRecDepth 100000 in
theorem S_1863 : aSpec wd ct_1863 := bChk_ok wx_ok btX12_isNot (lk := []) (nds := []) (fk := []) (rk := (1, [])) (sp := 0) (fuel := 3000) (by decide +kernel) (fun _ h => nomatch h) odX12_isNot
def ct_1864 : aCt := (mX12_isNot, [.inr (.inl [196]), .inl [(2, 2, 1)]], ([((196, 11), [(0, 0, 1)]), ((199, 0), [(2, 4, 1)]), ((199, 4), [(1, 7, 1)]), ((199, 7), [(1, 8, 1)])], []), [(some (.inl [(0, 0, 1)]), [], [((196, 11), [(2, 2, 1)])], [])], [(196, 11, 12)], [], 0)
set_option maxRecDepth 100000 in
theorem S_1864 : aSpec wd ct_1864 := bChk_ok wx_ok btX12_isNot (lk := []) (nds := []) (fk := []) (rk := (1, [])) (sp := 0) (fuel := 3000) (by decide +kernel) (fun _ h => nomatch h) odX12_isNot
def ct_1865 : aCt := (mX12_isNot, [.inr (.inl [196]), .inl [(1, 1, 1)]], ([((196, 11), [(0, 0, 1)]), ((199, 0), [(2, 4, 1)]), ((199, 4), [(1, 7, 1)]), ((199, 7), [(1, 8, 1)])], []), [(some (.inl [(0, 0, 1)]), [], [((196, 11), [(1, 1, 1)])], [])], [(196, 11, 12)], [], 0)
set_option maxRecDepth 100000 in
theorem S_1865 : aSpec wd ct_1865 := bChk_ok wx_ok btX12_isNot (lk := []) (nds := []) (fk := []) (rk := (1, [])) (sp := 0) (fuel := 3000) (by decide +kernel) (fun _ h => nomatch h) odX12_isNot
def ct_1866 : aCt := (mX12_isNot, [.inr (.inl [196]), .inl [(1, 1, 1)]], ([((196, 11), [(0, 0, 1)])], []), [(some (.inl [(0, 0, 1)]), [], [((196, 11), [(1, 1, 1)])], [])], [(196, 11, 12)], [], 0)
set_option maxRecDepth 100000 in
theorem S_1866 : aSpec wd ct_1866 := bChk_ok wx_ok btX12_isNot (lk := []) (nds := []) (fk := []) (rk := (1, [])) (sp := 0) (fuel := 3000) (by decide +kernel) (fun _ h => nomatch h) odX12_isNot
set_option maxRecDepth 100000 in
theorem btX12_tune : bTab oX12_tune tX12_tune := ⟨ofX12_tune, by decide +kernel⟩
def ct_1867 : aCt := (mX12_tune, [.inr (.inl [196]), .inl aTop, .inl aTop, .inl aTop], ([], []), [(some (.inl [(0, 0, 1)]), [], [((196, 11), [(1, 2, 1), (5, 5, 1)])], []), (some (.inl [(1, 1, 1)]), [none, some [(0, 7, 1)], some [(0, 5, 1)], some [(0, 3, 1)]], [((196, 11), [(0, 0, 1)]), ((196, 14), [(1, 1, 1)]), ((196, 20), [(1, 12, 1)]), ((199, 0), [(2, 4, 1)]), ((199, 4), [(1, 7, 1)]), ((199, 7), [(1, 8, 1)])], [])], [(196, 0, 1), (196, 11, 12), (196, 20, 21), (201, 28, 76), (202, 0, 912)], [], 3)
set_option maxRecDepth 100000 in
theorem S_1867 : aSpec wd ct_1867 := bChk_ok wx_ok btX12_tune (lk := [(167, 0, 1, ct_651), (424, 0, 1, ct_X12_note1_0), (427, 0, 2, ct_1863), (427, 0, 2, ct_1864), (427, 0, 2, ct_1865), (427, 0, 2, ct_1866), (284, 0, 2, ct_1134), (274, 0, 2, ct_1115), (149, 1, 3, ct_1862), (149, 1, 3, ct_1123)]) (nds := []) (fk := []) (rk := (1, [])) (sp := 0) (fuel := 3000) (by decide +kernel) (List.forall_mem_cons.mpr ⟨⟨ml_12_167, S_651⟩, List.forall_mem_cons.mpr ⟨⟨ml_12_424, S_X12_note1_0⟩, List.forall_mem_cons.mpr ⟨⟨ml_12_427, S_1863⟩, List.forall_mem_cons.mpr ⟨⟨ml_12_427, S_1864⟩, List.forall_mem_cons.mpr ⟨⟨ml_12_427, S_1865⟩, List.forall_mem_cons.mpr ⟨⟨ml_12_427, S_1866⟩, List.forall_mem_cons.mpr ⟨⟨ml_12_284, S_1134⟩, List.forall_mem_cons.mpr ⟨⟨ml_12_274, S_1115⟩, List.forall_mem_cons.mpr ⟨⟨ml_12_149, S_1862⟩, List.forall_mem_cons.mpr ⟨⟨ml_12_149, S_1123⟩, fun _ h => nomatch h⟩⟩⟩⟩⟩⟩⟩⟩⟩⟩) odX12_tune
def ct_1868 : aCt := (mX12_no, [.inr (.inl [196]), .inl [(3, 3, 1)]], ([((196, 11), [(0, 0, 1)])], []), [(some (.inl [(-1, -1, 1)]), [], [((196, 11), [(3, 3, 1)])], [])], [(196, 11, 12)], [], 0)
set_option maxRecDepth 100000 in
theorem S_1868 : aSpec wd ct_1868 := bChk_ok wx_ok btX12_no (lk := []) (nds := []) (fk := []) (rk := (1, [])) (sp := 0) (fuel := 3000) (by decide +kernel) (fun _ h => nomatch h) odX12_no
set_option maxRecDepth 100000 in
theorem btX12_years : bTab oX12_years tX12_years := ⟨ofX12_years, by decide +kernel⟩
def ct_1869 : aCt := (mX12_years, [.inr (.inl [196]), .inl aTop], ([], []), [(some (.inl [(1, 9999, 1)]), [none, some [(1, 99, 1)]], [((196, 11), [(0, 0, 1)]), ((196, 14), [(1, 1, 1)]), ((196, 20), [(1, 12, 1)]), ((199, 0), [(2, 4, 1)]), ((199, 4), [(1, 7, 1)])], []), (some (.inl [(-1, -1, 1)]), [], [((196, 11), [(1, 3, 1)])], [])], [(196, 0, 1), (196, 11, 12), (196, 20, 21), (201, 0, 1), (202, 0, 912)], [], 3)
set_option maxRecDepth 100000 in
theorem S_1869 : aSpec wd ct_1869 := bChk_ok wx_ok btX12_years (lk := [(167, 0, 1, ct_651), (424, 0, 1, ct_X12_note1_0), (170, 0, 2, ct_1112), (170, 0, 2, ct_1868), (170, 0, 2, ct_653), (149, 1, 3, ct_793)]) (nds := []) (fk := [40]) (rk := (1, [])) (sp := 0) (fuel := 3000) (by decide +kernel) (List.forall_mem_cons.mpr ⟨⟨ml_12_167, S_651⟩, List.forall_mem_cons.mpr ⟨⟨ml_12_424, S_X12_note1_0⟩, List.forall_mem_cons.mpr ⟨⟨ml_12_170, S_1112⟩, List.forall_mem_cons.mpr ⟨⟨ml_12_170, S_1868⟩, List.forall_mem_cons.mpr ⟨⟨ml_12_170, S_653⟩, List.forall_mem_cons.mpr ⟨⟨ml_12_149, S_793⟩, fun _ h => nomatch h⟩⟩⟩⟩⟩⟩) odX12_years
def ct_1870 : aCt := (mX12_in, [.inl aTop, .inl [(0, 0, 1)], .inl [(-1, 11, 1)]], ([], []), [(some (.inl [(0, 0, 1)]), [some aTop, none, none], [], []), (some (.inl [(1, 1, 1)]), [some [(0, 11, 1)], none, some [(0, 11, 1)]], [], [])], [(1000002, 0, 0)], [], 0)
set_option maxRecDepth 100000 in
theorem S_1870 : aSpec wd ct_1870 := bChk_ok wx_ok btX12_in (lk := []) (nds := []) (fk := []) (rk := (1, [])) (sp := 0) (fuel := 3000) (by decide +kernel) (fun _ h => nomatch h) odX12_in
def ct_1871 : aCt := (mX12_isNot, [.inr (.inl [196]), .inl [(5, 5, 1)]], ([((196, 11), [(0, 0, 1)]), ((199, 0), [(2, 4, 1)]), ((199, 4), [(1, 7, 1)]), ((199, 5), [(1, 12, 1)])], []), [(some (.inl [(0, 0, 1)]), [], [((196, 11), [(5, 5, 1)])], [])], [(196, 11, 12)], [], 0)
set_option maxRecDepth 100000 in
theorem S_1871 : aSpec wd ct_1871 := bChk_ok wx_ok btX12_isNot (lk := []) (nds := []) (fk := []) (rk := (1, [])) (sp := 0) (fuel := 3000) (by decide +kernel) (fun _ h => nomatch h) odX12_isNot
def ct_1872 : aCt := (mX12_isNot, [.inr (.inl [196]), .inl [(1, 1, 1)]], ([((196, 11), [(0, 0, 1)]), ((199, 0), [(2, 4, 1)]), ((199, 4), [(1, 7, 1)])], []), [(some (.inl [(0, 0, 1)]), [], [((196, 11), [(1, 1, 1)])], [])], [(196, 11, 12)], [], 0)
set_option maxRecDepth 100000 in
theorem S_1872 : aSpec wd ct_1872 := bChk_ok wx_ok btX12_isNot (lk := []) (nds := []) (fk := []) (rk := (1, [])) (sp := 0) (fuel := 3000) (by decide +kernel) (fun _ h => nomatch h) odX12_isNot
set_option maxRecDepth 100000 in
theorem btX12_close : bTab oX12_close tX12_close := ⟨ofX12_close, by decide +kernel⟩
def ct_1873 : aCt := (mX12_close, [.inr (.inl [196]), .inl aTop, .inl [(0, 1, 1)]], ([], []), [(some (.inl [(0, 0, 1)]), [], [((196, 11), [(1, 1, 1), (5, 5, 1)])], []), (some (.inl [(1, 1, 1)]), [none, some [(0, 11, 1)], some [(0, 1, 1)]], [((196, 11), [(0, 0, 1)]), ((196, 14), [(1, 1, 1)]), ((196, 20), [(1, 12, 1)]), ((199, 0), [(2, 4, 1)]), ((199, 4), [(1, 7, 1)]), ((199, 5), [(1, 12, 1)])], [])], [(196, 0, 1), (196, 11, 12), (196, 20, 21), (201, 1, 2), (202, 0, 912)], [], 3)
set_option maxRecDepth 100000 in
theorem S_1873 : aSpec wd ct_1873 := bChk_ok wx_ok btX12_close (lk := [(167, 0, 1, ct_651), (424, 0, 1, ct_X12_note1_0), (427, 0, 2, ct_1871), (427, 0, 2, ct_1872), (427, 0, 2, ct_1866), (302, 0, 2, ct_1161), (149, 1, 3, ct_1870)]) (nds := []) (fk := []) (rk := (1, [])) (sp := 0) (fuel := 3000) (by decide +kernel) (List.forall_mem_cons.mpr ⟨⟨ml_12_167, S_651⟩, List.forall_mem_cons.mpr ⟨⟨ml_12_424, S_X12_note1_0⟩, List.forall_mem_cons.mpr ⟨⟨ml_12_427, S_1871⟩, List.forall_mem_cons.mpr ⟨⟨ml_12_427, S_1872⟩, List.forall_mem_cons.mpr ⟨⟨ml_12_427, S_1866⟩, List.forall_mem_cons.mpr ⟨⟨ml_12_302, S_1161⟩, List.forall_mem_cons.mpr ⟨⟨ml_12_149, S_1870⟩, fun _ h => nomatch h⟩⟩⟩⟩⟩⟩⟩) odX12_close
def ct_1874 : aCt := (mX12_isNot, [.inr (.inl [196]), .inl [(6, 6, 1)]], ([((196, 11), [(0, 0, 1)])], []), [(some (.inl [(0, 0, 1)]), [], [((196, 11), [(6, 6, 1)])], [])], [(196, 11, 12)], [], 0)
set_option maxRecDepth 100000 in
theorem S_1874 : aSpec wd ct_1874 := bChk_ok wx_ok btX12_isNot (lk := []) (nds := []) (fk := []) (rk := (1, [])) (sp := 0) (fuel := 3000) (by decide +kernel) (fun _ h => nomatch h) odX12_isNot
set_option maxRecDepth 100000 in
theorem btX12_undo : bTab oX12_undo tX12_undo := ⟨ofX12_undo, by decide +kernel⟩
def ct_1875 : aCt := (mX12_undo, [.inr (.inl [196])], ([], []), [(some (.inl [(0, 0, 1)]), [], [((196, 11), [(6, 6, 1)]), ((196, 20), [(0, 0, 1)])], []), (some (.inl [(1, 1, 1)]), [], [((196, 11), [(0, 0, 1)]), ((196, 20), [(0, 11, 1)])], [])], [(196, 0, 1), (196, 11, 12), (196, 20, 21), (201, 0, 76)], [], 2)
set_option maxRecDepth 100000 in
theorem S_1875 : aSpec wd ct_1875 := bChk_ok wx_ok btX12_undo (lk := [(167, 0, 1, ct_651), (427, 0, 2, ct_1874), (176, 1, 5, ct_X12_copy_32)]) (nds := []) (fk := []) (rk := (1, [])) (sp := 0) (fuel := 3000) (by decide +kernel) (List.forall_mem_cons.mpr ⟨⟨ml_12_167, S_651⟩, List.forall_mem_cons.mpr ⟨⟨ml_12_427, S_1874⟩, List.forall_mem_cons.mpr ⟨⟨ml_12_176, S_X12_copy_32⟩, fun _ h => nomatch h⟩⟩⟩) odX12_undo
set_option maxRecDepth 100000 in
theorem btX12_image : bTab oX12_image tX12_image := ⟨ofX12_image, by decide +kernel⟩
def ct_1876 : aCt := (mX12_image, [.inr (.inl [196])], ([], []), [(some (.inl [(0, 2, 1)]), [], [((196, 11), [(0, 0, 1)]), ((196, 14), [(1, 1, 1)]), ((196, 21), [(1, 3, 1)]), ((199, 0), [(2, 4, 1)]), ((199, 4), [(1, 7, 1)])], []), (some (.inl [(-1, -1, 1)]), [], [((196, 11), [(1, 1, 1), (3, 3, 1)])], [])], [(196, 0, 1), (196, 11, 12), (196, 21, 22), (203, 0, 228)], [], 2)
set_option maxRecDepth 100000 in
theorem S_1876 : aSpec wd ct_1876 := bChk_ok wx_ok btX12_image (lk := [(167, 0, 1, ct_651), (170, 0, 2, ct_1112), (170, 0, 2, ct_1868), (176, 1, 5, ct_X12_copy_33)]) (nds := []) (fk := []) (rk := (1, [])) (sp := 0) (fuel := 3000) (by decide +kernel) (List.forall_mem_cons.mpr ⟨⟨ml_12_167, S_651⟩, List.forall_mem_cons.mpr ⟨⟨ml_12_170, S_1112⟩, List.forall_mem_cons.mpr ⟨⟨ml_12_170, S_1868⟩, List.forall_mem_cons.mpr ⟨⟨ml_12_176, S_X12_copy_33⟩, fun _ h => nomatch h⟩⟩⟩⟩) odX12_image
def ct_1877 : aCt := (mX12_in, [.inl aTop, .inl [(0, 0, 1)], .inl [(-1, 2, 1)]], ([], []), [(some (.inl [(0, 0, 1)]), [some aTop, none, none], [], []), (some (.inl [(1, 1, 1)]), [some [(0, 2, 1)], none, some [(0, 2, 1)]], [], [])], [(1000002, 0, 0)], [], 0)
set_option maxRecDepth 100000 in
theorem S_1877 : aSpec wd ct_1877 := bChk_ok wx_ok btX12_in (lk := []) (nds := []) (fk := []) (rk := (1, [])) (sp := 0) (fuel := 3000) (by decide +kernel) (fun _ h => nomatch h) odX12_in
set_option maxRecDepth 100000 in
theorem btX12_back : bTab oX12_back tX12_back := ⟨ofX12_back, by decide +kernel⟩
def ct_1878 : aCt := (mX12_back, [.inr (.inl [196]), .inl aTop], ([], []), [(some (.inl [(0, 0, 1)]), [], [((196, 11), [(1, 1, 1)])], []), (some (.inl [(1, 1, 1)]), [none, some [(0, 2, 1)]], [((196, 11), [(0, 0, 1)]), ((196, 20), [(0, 0, 1)]), ((196, 21), [(1, 3, 1)])], [])], [(196, 0, 1), (196, 11, 12), (196, 20, 21), (201, 0, 76)], [], 2)
set_option maxRecDepth 100000 in
theorem S_1878 : aSpec wd ct_1878 := bChk_ok wx_ok btX12_back (lk := [(167, 0, 1, ct_651), (427, 0, 2, ct_1866), (176, 1, 5, ct_X12_copy_34), (149, 1, 3, ct_1877)]) (nds := []) (fk := []) (rk := (1, [])) (sp := 0) (fuel := 3000) (by decide +kernel) (List.forall_mem_cons.mpr ⟨⟨ml_12_167, S_651⟩, List.forall_mem_cons.mpr ⟨⟨ml_12_427, S_1866⟩, List.forall_mem_cons.mpr ⟨⟨ml_12_176, S_X12_copy_34⟩, List.forall_mem_cons.mpr ⟨⟨ml_12_149, S_1877⟩, fun _ h => nomatch h⟩⟩⟩⟩) odX12_back
def ct_1879 : aCt := (mX12_in, [.inl [(-2147483648, 11, 1), (13, 2147483647, 1)], .inl [(0, 0, 1)], .inl [(11, 11, 1)]], ([], []), [(some (.inl [(0, 0, 1)]), [some [(-2147483648, -1, 1), (13, 2147483647, 1)], none, none], [], []), (some (.inl [(1, 1, 1)]), [some [(0, 11, 1)], none, none], [], [])], [(1000002, 0, 0)], [], 0)
set_option maxRecDepth 100000 in
theorem S_1879 : aSpec wd ct_1879 := bChk_ok wx_ok btX12_in (lk := []) (nds := []) (fk := []) (rk := (1, [])) (sp := 0) (fuel := 3000) (by decide +kernel) (fun _ h => nomatch h) odX12_in
def ct_1880 : aCt := (mX12_in, [.inl [(-2147483648, 11, 1), (13, 2147483647, 1)], .inl [(0, 0, 1)], .inl [(8, 8, 1)]], ([], []), [(some (.inl [(0, 0, 1)]), [some [(-2147483648, -1, 1), (9, 11, 1), (13, 2147483647, 1)], none, none], [], []), (some (.inl [(1, 1, 1)]), [some [(0, 8, 1)], none, none], [], [])], [(1000002, 0, 0)], [], 0)
set_option maxRecDepth 100000 in
theorem S_1880 : aSpec wd ct_1880 := bChk_ok wx_ok btX12_in (lk := []) (nds := []) (fk := []) (rk := (1, [])) (sp := 0) (fuel := 3000) (by decide +kernel) (fun _ h => nomatch h) odX12_in
set_option maxRecDepth 100000 in
theorem btX12_size : bTab oX12_size tX12_size := ⟨ofX12_size, by decide +kernel⟩
def ct_1881 : aCt := (mX12_size, [.inr (.inl [196]), .inl aTop], ([], []), [(some (.inl aTop), [none, some [(0, 12, 1)]], [], []), (some (.inl [(-1, -1, 1)]), [none, some [(-2147483648, 11, 1), (13, 2147483647, 1)]], [], []), (some (.inl [(0, 0, 1)]), [none, some [(0, 11, 1)]], [((196, 14), [(0, 0, 1)])], [])], [(196, 0, 1)], [], 1)
set_option maxRecDepth 100000 in
theorem S_1881 : aSpec wd ct_1881 := bChk_ok wx_ok btX12_size (lk := [(149, 1, 3, ct_1879), (149, 1, 3, ct_1880)]) (nds := []) (fk := []) (rk := (1, [])) (sp := 0) (fuel := 3000) (by decide +kernel) (List.forall_mem_cons.mpr ⟨⟨ml_12_149, S_1879⟩, List.forall_mem_cons.mpr ⟨⟨ml_12_149, S_1880⟩, fun _ h => nomatch h⟩⟩) odX12_size
set_option maxRecDepth 100000 in
theorem btX12_trouble : bTab oX12_trouble tX12_trouble := ⟨ofX12_trouble, by decide +kernel⟩
def ct_1882 : aCt := (mX12_trouble, [.inr (.inl [196])], ([], []), [(some (.inl [(0, 6, 1)]), [], [], [])], [(196, 0, 1)], [], 0)
set_option maxRecDepth 100000 in
theorem S_1882 : aSpec wd ct_1882 := bChk_ok wx_ok btX12_trouble (lk := []) (nds := []) (fk := []) (rk := (1, [])) (sp := 0) (fuel := 3000) (by decide +kernel) (fun _ h => nomatch h) odX12_trouble
set_option maxRecDepth 100000 in
theorem btX12_led : bTab oX12_led tX12_led := ⟨ofX12_led, by decide +kernel⟩
def ct_1883 : aCt := (mX12_led, [.inr (.inl [196]), .inl aTop], ([], []), [(some (.inl [(0, 7, 1)]), [], [((196, 14), [(1, 1, 1)]), ((199, 0), [(2, 4, 1)]), ((199, 4), [(1, 7, 1)]), ((199, 7), [(1, 8, 1)])], []), (some (.inl [(0, 0, 1)]), [], [], [])], [(196, 0, 1)], [], 0)
set_option maxRecDepth 100000 in
theorem S_1883 : aSpec wd ct_1883 := bChk_ok wx_ok btX12_led (lk := []) (nds := [(4, [(0, .inr (.inl [196])), (1, .inl aTop), (2, .inl aTop), (3, .inl [(0, 8, 1)])], [], [], [], (8, [(2, -1)]))]) (fk := []) (rk := (9, [])) (sp := 16) (fuel := 3000) (by decide +kernel) (fun _ h => nomatch h) odX12_led
def ct_1884 : aCt := (mX12_no, [.inr (.inl [196]), .inl [(5, 5, 1)]], ([((196, 11), [(0, 0, 1)])], []), [(some (.inl [(-1, -1, 1)]), [], [((196, 11), [(5, 5, 1)])], [])], [(196, 11, 12)], [], 0)
set_option maxRecDepth 100000 in
theorem S_1884 : aSpec wd ct_1884 := bChk_ok wx_ok btX12_no (lk := []) (nds := []) (fk := []) (rk := (1, [])) (sp := 0) (fuel := 3000) (by decide +kernel) (fun _ h => nomatch h) odX12_no
