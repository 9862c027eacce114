section Pk0
set_option maxRecDepth 100000 in
theorem btX11_fresh : bTab oX11_fresh tX11_fresh := ⟨ofX11_fresh, by decide +kernel⟩
def ct_153 : aCt := (mX11_fresh, [.inr (.inl [0]), .inl aTop, .inl aTop], ([], [((0, 3), 2), ((92, 0), 2)]), [(some (.inl aTop), [none, some [(2, 5, 1)], some [(1, 5, 1)]], [((0, 2), [(0, 0, 1)]), ((2, 4), [(1, 7, 1)])], []), (some (.inl [(-1, -1, 1)]), [], [((0, 2), [(1, 2, 1)])], [])], [(0, 2, 3), (92, 4, 5), (93, 0, 8)], [], 5)
set_option maxRecDepth 100000 in
theorem S_153 : aSpec wd ct_153 := bChk_ok wx_ok btX11_fresh (nds := []) (fk := []) (rk := (1, [])) (sp := 0) (fuel := 3000) (by decide +kernel) (lk_c ml_11_98 S_74 (lk_c ml_11_98 S_6 (lk_c ml_11_261 S_152 (lk_c ml_11_112 S_71 (lk_c ml_11_258 S_124 lk_n))))) odX11_fresh
def lcn_158 : Nat × aAg := ((nat_lit 3), .inl [((.ofNat (nat_lit 7)), (.ofNat (nat_lit 1030)), (nat_lit 1))])
def lcn_159 : Nat × aAg := ((nat_lit 4), .inl [((.ofNat (nat_lit 0)), (.ofNat (nat_lit 1030)), (nat_lit 1))])
def ct_154 : aCt := (mX7_isFarFromKept, [.inr (.inl [92]), .inl [(0, 1023, 1)], .inl [(2, 5, 1)], .inl [(7, 1030, 1)]], ([], []), [(some (.inl [(0, 0, 1)]), [], [], []), (some (.inl [(1, 1, 1)]), [], [], [])], [], [], 2)
set_option maxRecDepth 100000 in
theorem S_154 : aSpec wd ct_154 := bChk_ok wx_ok btX7_isFarFromKept (nds := [((nat_lit 3), [lcn_86, lcn_129, lcn_130, lcn_158, lcn_159], [], [], [], (1030, [(3, -1)]))]) (fk := []) (rk := (1031, [])) (sp := 8) (fuel := 3000) (by decide +kernel) (lk_c ml_7_60 S_135 lk_n) odX7_isFarFromKept
def lcn_160 : Nat × aAg := ((nat_lit 3), .inl [((.ofNat (nat_lit 6)), (.ofNat (nat_lit 1029)), (nat_lit 1))])
def ct_155 : aCt := (mX7_isFarFromKept, [.inr (.inl [92]), .inl [(0, 1023, 1)], .inl [(2, 5, 1)], .inl [(6, 1029, 1)]], ([], []), [(some (.inl [(0, 0, 1)]), [], [], []), (some (.inl [(1, 1, 1)]), [], [], [])], [], [], 2)
set_option maxRecDepth 100000 in
theorem S_155 : aSpec wd ct_155 := bChk_ok wx_ok btX7_isFarFromKept (nds := [((nat_lit 3), [lcn_86, lcn_129, lcn_130, lcn_160, lcn_159], [], [], [], (1030, [(3, -1)]))]) (fk := []) (rk := (1031, [])) (sp := 8) (fuel := 3000) (by decide +kernel) (lk_c ml_7_60 S_135 lk_n) odX7_isFarFromKept
def lcn_161 : Nat × aAg := ((nat_lit 3), .inl [((.ofNat (nat_lit 5)), (.ofNat (nat_lit 1028)), (nat_lit 1))])
def ct_156 : aCt := (mX7_isFarFromKept, [.inr (.inl [92]), .inl [(0, 1023, 1)], .inl [(2, 5, 1)], .inl [(5, 1028, 1)]], ([], []), [(some (.inl [(0, 0, 1)]), [], [], []), (some (.inl [(1, 1, 1)]), [], [], [])], [], [], 2)
set_option maxRecDepth 100000 in
theorem S_156 : aSpec wd ct_156 := bChk_ok wx_ok btX7_isFarFromKept (nds := [((nat_lit 3), [lcn_86, lcn_129, lcn_130, lcn_161, lcn_159], [], [], [], (1030, [(3, -1)]))]) (fk := []) (rk := (1031, [])) (sp := 8) (fuel := 3000) (by decide +kernel) (lk_c ml_7_60 S_135 lk_n) odX7_isFarFromKept
def lcn_162 : Nat × aAg := ((nat_lit 3), .inl [((.ofNat (nat_lit 4)), (.ofNat (nat_lit 1027)), (nat_lit 1))])
def ct_157 : aCt := (mX7_isFarFromKept, [.inr (.inl [92]), .inl [(0, 1023, 1)], .inl [(2, 5, 1)], .inl [(4, 1027, 1)]], ([], []), [(some (.inl [(0, 0, 1)]), [], [], []), (some (.inl [(1, 1, 1)]), [], [], [])], [], [], 2)
set_option maxRecDepth 100000 in
theorem S_157 : aSpec wd ct_157 := bChk_ok wx_ok btX7_isFarFromKept (nds := [((nat_lit 3), [lcn_86, lcn_129, lcn_130, lcn_162, lcn_159], [], [], [], (1030, [(3, -1)]))]) (fk := []) (rk := (1031, [])) (sp := 8) (fuel := 3000) (by decide +kernel) (lk_c ml_7_60 S_135 lk_n) odX7_isFarFromKept
def lcn_163 : Nat × aAg := ((nat_lit 3), .inl [((.ofNat (nat_lit 3)), (.ofNat (nat_lit 1026)), (nat_lit 1))])
def ct_158 : aCt := (mX7_isFarFromKept, [.inr (.inl [92]), .inl [(0, 1023, 1)], .inl [(2, 5, 1)], .inl [(3, 1026, 1)]], ([], []), [(some (.inl [(0, 0, 1)]), [], [], []), (some (.inl [(1, 1, 1)]), [], [], [])], [], [], 2)
set_option maxRecDepth 100000 in
theorem S_158 : aSpec wd ct_158 := bChk_ok wx_ok btX7_isFarFromKept (nds := [((nat_lit 3), [lcn_86, lcn_129, lcn_130, lcn_163, lcn_159], [], [], [], (1030, [(3, -1)]))]) (fk := []) (rk := (1031, [])) (sp := 8) (fuel := 3000) (by decide +kernel) (lk_c ml_7_60 S_135 lk_n) odX7_isFarFromKept
def lcn_164 : Nat × aAg := ((nat_lit 3), .inl [((.ofNat (nat_lit 2)), (.ofNat (nat_lit 1025)), (nat_lit 1))])
def ct_159 : aCt := (mX7_isFarFromKept, [.inr (.inl [92]), .inl [(0, 1023, 1)], .inl [(2, 5, 1)], .inl [(2, 1025, 1)]], ([], []), [(some (.inl [(0, 0, 1)]), [], [], []), (some (.inl [(1, 1, 1)]), [], [], [])], [], [], 2)
set_option maxRecDepth 100000 in
theorem S_159 : aSpec wd ct_159 := bChk_ok wx_ok btX7_isFarFromKept (nds := [((nat_lit 3), [lcn_86, lcn_129, lcn_130, lcn_164, lcn_159], [], [], [], (1030, [(3, -1)]))]) (fk := []) (rk := (1031, [])) (sp := 8) (fuel := 3000) (by decide +kernel) (lk_c ml_7_60 S_135 lk_n) odX7_isFarFromKept
def lcn_165 : Nat × aAg := ((nat_lit 3), .inl [((.ofNat (nat_lit 1)), (.ofNat (nat_lit 1024)), (nat_lit 1))])
def lcn_166 : Nat × aAg := ((nat_lit 4), .inl [((.ofNat (nat_lit 0)), (.ofNat (nat_lit 1024)), (nat_lit 1))])
def ct_160 : aCt := (mX7_isFarFromKept, [.inr (.inl [92]), .inl [(0, 1023, 1)], .inl [(2, 5, 1)], .inl [(1, 1024, 1)]], ([], []), [(some (.inl [(0, 0, 1)]), [], [], []), (some (.inl [(1, 1, 1)]), [], [], [])], [], [], 2)
set_option maxRecDepth 100000 in
theorem S_160 : aSpec wd ct_160 := bChk_ok wx_ok btX7_isFarFromKept (nds := [((nat_lit 3), [lcn_86, lcn_129, lcn_130, lcn_165, lcn_166], [], [], [], (1024, [(3, -1)]))]) (fk := []) (rk := (1025, [])) (sp := 8) (fuel := 3000) (by decide +kernel) (lk_c ml_7_60 S_135 lk_n) odX7_isFarFromKept
def lcn_167 : Nat × aAg := ((nat_lit 4), .inl [((.ofNat (nat_lit 0)), (.ofNat (nat_lit 1023)), (nat_lit 1))])
def ct_161 : aCt := (mX7_isFarFromKept, [.inr (.inl [92]), .inl [(0, 1023, 1)], .inl [(2, 5, 1)], .inl [(0, 1023, 1)]], ([], []), [(some (.inl [(0, 0, 1)]), [], [], []), (some (.inl [(1, 1, 1)]), [], [], [])], [], [], 2)
set_option maxRecDepth 100000 in
theorem S_161 : aSpec wd ct_161 := bChk_ok wx_ok btX7_isFarFromKept (nds := [((nat_lit 3), [lcn_86, lcn_129, lcn_130, lcn_79, lcn_167], [], [], [], (1023, [(3, -1)]))]) (fk := []) (rk := (1024, [])) (sp := 8) (fuel := 3000) (by decide +kernel) (lk_c ml_7_60 S_135 lk_n) odX7_isFarFromKept
def lcn_168 : Nat × aAg := ((nat_lit 4), .inl [((.ofNat (nat_lit 1024)), (.ofNat (nat_lit 1024)), (nat_lit 1))])
def lcn_169 : Nat × aAg := ((nat_lit 6), .inl [((.ofNat (nat_lit 7)), (.ofNat (nat_lit 1031)), (nat_lit 1))])
def lcn_170 : Nat × aAg := ((nat_lit 6), .inl [((.ofNat (nat_lit 6)), (.ofNat (nat_lit 1030)), (nat_lit 1))])
def lcn_171 : Nat × aAg := ((nat_lit 6), .inl [((.ofNat (nat_lit 5)), (.ofNat (nat_lit 1030)), (nat_lit 1))])
def lcn_172 : Nat × aAg := ((nat_lit 6), .inl [((.ofNat (nat_lit 4)), (.ofNat (nat_lit 1030)), (nat_lit 1))])
def lcn_173 : Nat × aAg := ((nat_lit 6), .inl [((.ofNat (nat_lit 3)), (.ofNat (nat_lit 1030)), (nat_lit 1))])
def lcn_174 : Nat × aAg := ((nat_lit 6), .inl [((.ofNat (nat_lit 2)), (.ofNat (nat_lit 1030)), (nat_lit 1))])
def lcn_175 : Nat × aAg := ((nat_lit 6), .inl [((.ofNat (nat_lit 1)), (.ofNat (nat_lit 1030)), (nat_lit 1))])
def lcn_176 : Nat × aAg := ((nat_lit 6), .inl [((.ofNat (nat_lit 0)), (.ofNat (nat_lit 1024)), (nat_lit 1))])
def ct_162 : aCt := (mX7_findNew, [.inr (.inl [92]), .inl [(2, 5, 1)], .inl [(1, 5, 1)], .inl [(0, 9999, 1)], .inl [(1024, 1024, 1)]], ([((2, 4), [(1, 7, 1)])], [((92, 0), 2)]), [(some (.inl [(0, 1029, 1)]), [], [], [])], [(92, 4, 5), (93, 0, 1031)], [], 4)
set_option maxRecDepth 100000 in
theorem S_162 : aSpec wd ct_162 := bChk_ok wx_ok btX7_findNew (nds := [((nat_lit 24), [lcn_86, lcn_107, lcn_139, lcn_93, lcn_168, lcn_140, lcn_169, lcn_142, lcn_143], [], [sl_105], [((92, 0), 2)], (1057799, [(3, -1025), (5, -1)])), ((nat_lit 24), [lcn_86, lcn_107, lcn_139, lcn_93, lcn_168, lcn_144, lcn_170, lcn_142, lcn_143], [], [sl_105], [((92, 0), 2)], (1056774, [(3, -1025), (5, -1)])), ((nat_lit 24), [lcn_86, lcn_107, lcn_139, lcn_93, lcn_168, lcn_146, lcn_171, lcn_142, lcn_143], [], [sl_105], [((92, 0), 2)], (1056774, [(3, -1025), (5, -1)])), ((nat_lit 24), [lcn_86, lcn_107, lcn_139, lcn_93, lcn_168, lcn_148, lcn_172, lcn_142, lcn_143], [], [sl_105], [((92, 0), 2)], (1056774, [(3, -1025), (5, -1)])), ((nat_lit 24), [lcn_86, lcn_107, lcn_139, lcn_93, lcn_168, lcn_150, lcn_173, lcn_142, lcn_143], [], [sl_105], [((92, 0), 2)], (1056774, [(3, -1025), (5, -1)])), ((nat_lit 24), [lcn_86, lcn_107, lcn_139, lcn_93, lcn_168, lcn_152, lcn_174, lcn_142, lcn_143], [], [sl_105], [((92, 0), 2)], (1056774, [(3, -1025), (5, -1)])), ((nat_lit 24), [lcn_86, lcn_107, lcn_139, lcn_93, lcn_168, lcn_154, lcn_175, lcn_142, lcn_143], [], [sl_105], [((92, 0), 2)], (1056774, [(3, -1025), (5, -1)])), ((nat_lit 24), [lcn_86, lcn_107, lcn_139, lcn_93, lcn_168, lcn_156, lcn_176, lcn_142, lcn_143], [], [sl_105], [((92, 0), 2)], (1050624, [(3, -1025), (5, -1)]))]) (fk := [6]) (rk := (1055750, [])) (sp := 16777216) (fuel := 3000) (by decide +kernel) (lk_c ml_7_77 S_136 (lk_c ml_7_77 S_138 (lk_c ml_7_77 S_140 (lk_c ml_7_77 S_142 (lk_c ml_7_77 S_144 (lk_c ml_7_77 S_146 (lk_c ml_7_77 S_148 (lk_c ml_7_77 S_150 (lk_c ml_7_73 S_134 (lk_c ml_7_77 S_154 (lk_c ml_7_77 S_155 (lk_c ml_7_77 S_156 (lk_c ml_7_77 S_157 (lk_c ml_7_77 S_158 (lk_c ml_7_77 S_159 (lk_c ml_7_77 S_160 (lk_c ml_7_77 S_161 (lk_c ml_7_70 S_132 lk_n)))))))))))))))))) odX7_findNew
def ct_163 : aCt := (mX11_granted, [.inr (.inl [0]), .inl [(0, 1029, 1)]], ([], []), [(some (.inl [(0, 1029, 1)]), [], [((0, 2), [(0, 0, 1)])], [])], [(0, 2, 3)], [], 0)
set_option maxRecDepth 100000 in
theorem S_163 : aSpec wd ct_163 := bChk_ok wx_ok btX11_granted (nds := []) (fk := []) (rk := (1, [])) (sp := 0) (fuel := 3000) (by decide +kernel) lk_n odX11_granted
set_option maxRecDepth 100000 in
theorem btX11_byTurns : bTab oX11_byTurns tX11_byTurns := ⟨ofX11_byTurns, by decide +kernel⟩
def ct_164 : aCt := (mX11_byTurns, [.inr (.inl [0]), .inl aTop, .inl aTop], ([], [((0, 3), 2), ((92, 0), 2)]), [(some (.inl [(0, 1029, 1)]), [none, some [(2, 5, 1)], some [(1, 5, 1)]], [((0, 2), [(0, 0, 1)]), ((2, 4), [(1, 7, 1)])], []), (some (.inl [(-1, -1, 1)]), [], [((0, 2), [(1, 2, 1)])], [])], [(0, 2, 3), (92, 4, 5), (93, 0, 1031)], [], 5)
set_option maxRecDepth 100000 in
theorem S_164 : aSpec wd ct_164 := bChk_ok wx_ok btX11_byTurns (nds := []) (fk := []) (rk := (1, [])) (sp := 0) (fuel := 3000) (by decide +kernel) (lk_c ml_11_98 S_74 (lk_c ml_11_98 S_6 (lk_c ml_11_112 S_163 (lk_c ml_11_261 S_162 (lk_c ml_11_258 S_124 lk_n))))) odX11_byTurns
set_option maxRecDepth 100000 in
theorem btX11_near : bTab oX11_near tX11_near := ⟨ofX11_near, by decide +kernel⟩
def ct_165 : aCt := (mX11_near, [.inr (.inl [0]), .inl aTop], ([], [((0, 3), 2), ((92, 0), 2)]), [(some (.inl aTop), [none, some [(0, 7, 1)]], [((0, 2), [(0, 0, 1)]), ((2, 7), [(1, 8, 1)])], []), (some (.inl [(-1, -1, 1)]), [], [((0, 2), [(1, 1, 1)])], [])], [(0, 2, 3), (92, 2, 4)], [], 4)
set_option maxRecDepth 100000 in
theorem S_165 : aSpec wd ct_165 := bChk_ok wx_ok btX11_near (nds := []) (fk := []) (rk := (1, [])) (sp := 0) (fuel := 3000) (by decide +kernel) (lk_c ml_11_98 S_74 (lk_c ml_11_201 S_96 (lk_c ml_11_147 S_76 (lk_c ml_11_112 S_71 lk_n)))) odX11_near
set_option maxRecDepth 100000 in
theorem btX11_asNear : bTab oX11_asNear tX11_asNear := ⟨ofX11_asNear, by decide +kernel⟩
def ct_166 : aCt := (mX11_asNear, [.inr (.inl [0]), .inl aTop], ([], [((0, 3), 2), ((92, 0), 2)]), [(some (.inl aTop), [none, some [(0, 7, 1)]], [((0, 2), [(0, 0, 1)]), ((2, 7), [(1, 8, 1)])], []), (some (.inl [(-1, -1, 1)]), [], [((0, 2), [(1, 1, 1)])], [])], [(0, 2, 3), (92, 2, 4)], [], 4)
set_option maxRecDepth 100000 in
theorem S_166 : aSpec wd ct_166 := bChk_ok wx_ok btX11_asNear (nds := []) (fk := []) (rk := (1, [])) (sp := 0) (fuel := 3000) (by decide +kernel) (lk_c ml_11_98 S_74 (lk_c ml_11_201 S_96 (lk_c ml_11_147 S_76 (lk_c ml_11_112 S_71 lk_n)))) odX11_asNear
def ct_167 : aCt := (mX11_isWithin, [.inl aTop, .inl [(99, 99, 1)]], ([], []), [(some (.inl [(0, 0, 1)]), [some [(-2147483648, -1, 1), (100, 2147483647, 1)], none], [], []), (some (.inl [(1, 1, 1)]), [some [(0, 99, 1)], none], [], [])], [], [], 0)
set_option maxRecDepth 100000 in
theorem S_167 : aSpec wd ct_167 := bChk_ok wx_ok btX11_isWithin (nds := []) (fk := []) (rk := (1, [])) (sp := 0) (fuel := 3000) (by decide +kernel) lk_n odX11_isWithin
def ct_168 : aCt := (mX7_fallIn, [.inr (.inl [92]), .inl [(0, 10098, 1)]], ([], [((92, 0), 2)]), [(some (.inl [(0, 3, 1)]), [], [], []), (some (.inl [(0, 0, 1)]), [], [], [])], [], [], 0)
set_option maxRecDepth 100000 in
theorem S_168 : aSpec wd ct_168 := bChk_ok wx_ok btX7_fallIn (nds := []) (fk := []) (rk := (1, [])) (sp := 0) (fuel := 3000) (by decide +kernel) lk_n odX7_fallIn
def lcn_177 : Nat × aAg := ((nat_lit 3), .inl [((.ofNat (nat_lit 0)), (.ofNat (nat_lit 10098)), (nat_lit 1))])
def ct_169 : aCt := (mX7_hearerOf, [.inr (.inl [92]), .inl aTop, .inl [(-1000, 1000, 1)], .inl [(0, 10098, 1)]], ([], [((92, 0), 2)]), [(some (.inl [(-2, -2, 1), (0, 6, 1)]), [], [], []), (some (.inl [(-2, -2, 1)]), [], [], [])], [(92, 2, 4)], [], 2)
set_option maxRecDepth 100000 in
theorem S_169 : aSpec wd ct_169 := bChk_ok wx_ok btX7_hearerOf (nds := [((nat_lit 32), [lcn_86, lcn_76, lcn_54, lcn_177, lcn_88, lcn_94, lcn_95], [], [sl_96], [((92, 0), 2)], (7, [(5, -1)]))]) (fk := []) (rk := (8, [])) (sp := 4294967296) (fuel := 3000) (by decide +kernel) (lk_c ml_7_50 S_168 (lk_c ml_7_54 S_91 (lk_c ml_7_54 S_92 (lk_c ml_7_60 S_94 lk_n)))) odX7_hearerOf
def ct_170 : aCt := (mX11_hearerIn, [.inr (.inl [0]), .inl [(0, 7, 1)], .inl [(0, 10098, 1)]], ([], [((0, 3), 2), ((92, 0), 2)]), [(some (.inl [(-2, -2, 1), (0, 6, 1)]), [], [], []), (some (.inl [(-2, -2, 1)]), [], [], [])], [(92, 2, 4)], [], 3)
set_option maxRecDepth 100000 in
theorem S_170 : aSpec wd ct_170 := bChk_ok wx_ok btX11_hearerIn (nds := []) (fk := []) (rk := (1, [])) (sp := 0) (fuel := 3000) (by decide +kernel) (lk_c ml_11_198 S_88 (lk_c ml_11_277 S_169 lk_n)) odX11_hearerIn
set_option maxRecDepth 100000 in
theorem btX11_heardIn : bTab oX11_heardIn tX11_heardIn := ⟨ofX11_heardIn, by decide +kernel⟩
def ct_171 : aCt := (mX11_heardIn, [.inr (.inl [0]), .inl aTop, .inl aTop], ([], [((0, 3), 2), ((92, 0), 2)]), [(some (.inl [(-2, -2, 1), (0, 6, 1)]), [none, some [(0, 7, 1)], some [(0, 99, 1)]], [((0, 2), [(0, 0, 1)]), ((2, 7), [(1, 8, 1)])], []), (some (.inl [(-1, -1, 1)]), [], [((0, 2), [(1, 2, 1)])], []), (some (.inl [(-2, -2, 1)]), [none, some [(0, 7, 1)], some [(0, 99, 1)]], [((0, 2), [(0, 0, 1)]), ((2, 7), [(1, 8, 1)])], [])], [(0, 2, 3), (92, 2, 4)], [], 4)
set_option maxRecDepth 100000 in
theorem S_171 : aSpec wd ct_171 := bChk_ok wx_ok btX11_heardIn (nds := []) (fk := []) (rk := (1, [])) (sp := 0) (fuel := 3000) (by decide +kernel) (lk_c ml_11_112 S_97 (lk_c ml_11_98 S_6 (lk_c ml_11_98 S_74 (lk_c ml_11_112 S_98 (lk_c ml_11_201 S_170 (lk_c ml_11_147 S_76 (lk_c ml_11_227 S_167 lk_n))))))) odX11_heardIn
def ct_172 : aCt := (mX7_hearerOf, [.inr (.inl [92]), .inl aTop, .inl [(-1000, 1000, 1)], .inl [(0, 10098, 1)]], ([((2, 4), [(1, 7, 1)])], [((92, 0), 2)]), [(some (.inl [(-2, -2, 1), (0, 6, 1)]), [], [], []), (some (.inl [(-2, -2, 1)]), [], [], [])], [(92, 2, 4)], [], 2)
set_option maxRecDepth 100000 in
theorem S_172 : aSpec wd ct_172 := bChk_ok wx_ok btX7_hearerOf (nds := [((nat_lit 32), [lcn_86, lcn_76, lcn_54, lcn_177, lcn_88, lcn_94, lcn_95], [], [sl_105, sl_96], [((92, 0), 2)], (7, [(5, -1)]))]) (fk := []) (rk := (8, [])) (sp := 4294967296) (fuel := 3000) (by decide +kernel) (lk_c ml_7_50 S_168 (lk_c ml_7_54 S_91 (lk_c ml_7_54 S_92 (lk_c ml_7_60 S_94 lk_n)))) odX7_hearerOf
def ct_173 : aCt := (mX11_granted, [.inr (.inl [0]), .inl [(0, 99, 1)]], ([], []), [(some (.inl [(0, 99, 1)]), [], [((0, 2), [(0, 0, 1)])], [])], [(0, 2, 3)], [], 0)
set_option maxRecDepth 100000 in
theorem S_173 : aSpec wd ct_173 := bChk_ok wx_ok btX11_granted (nds := []) (fk := []) (rk := (1, [])) (sp := 0) (fuel := 3000) (by decide +kernel) lk_n odX11_granted
def lcn_178 : Nat × aAg := ((nat_lit 2), .inl [((.ofNat (nat_lit 0)), (.ofNat (nat_lit 100)), (nat_lit 1))])
set_option maxRecDepth 100000 in
theorem btX11_strange : bTab oX11_strange tX11_strange := ⟨ofX11_strange, by decide +kernel⟩
def ct_174 : aCt := (mX11_strange, [.inr (.inl [0]), .inl aTop], ([], [((0, 3), 2), ((92, 0), 2)]), [(some (.inl [(0, 99, 1)]), [], [((0, 2), [(0, 0, 1)]), ((2, 4), [(1, 7, 1)])], []), (some (.inl [(-1, -1, 1)]), [], [((0, 2), [(1, 1, 1)])], []), (some (.inl [(-2, -2, 1)]), [], [((0, 2), [(0, 0, 1)]), ((2, 4), [(1, 7, 1)])], [])], [(0, 2, 3), (92, 2, 4)], [], 3)
set_option maxRecDepth 100000 in
theorem S_174 : aSpec wd ct_174 := bChk_ok wx_ok btX11_strange (nds := [((nat_lit 16), [lcn_103, lcn_68, lcn_178], [], [sl_105], [((0, 3), 2), ((92, 0), 2)], (100, [(1, -1)]))]) (fk := []) (rk := (101, [])) (sp := 65536) (fuel := 3000) (by decide +kernel) (lk_c ml_11_98 S_74 (lk_c ml_11_112 S_97 (lk_c ml_11_112 S_173 (lk_c ml_11_174 S_78 (lk_c ml_11_277 S_172 lk_n))))) odX11_strange
def lcn_179 : Nat × aAg := ((nat_lit 0), .inr (.inl [(nat_lit 95)]))
def lcn_180 : Nat × aAg := ((nat_lit 1), .inl [((.ofNat (nat_lit 1000000000)), (.ofNat (nat_lit 1000000000)), (nat_lit 1))])
set_option maxRecDepth 100000 in
theorem btJ7_fill_53178 : bTab oJ7_fill_53178 tJ7_fill_53178 := ⟨ofJ7_fill_53178, by decide +kernel⟩
def ct_175 : aCt := (mJ7_fill_53178, [.inr (.inl [95]), .inl [(1000000000, 1000000000, 1)]], ([], []), [(none, [], [], [])], [(95, 0, 7)], [], 0)
set_option maxRecDepth 100000 in
theorem S_175 : aSpec wd ct_175 := bChk_ok wx_ok btJ7_fill_53178 (nds := [((nat_lit 5), [lcn_179, lcn_180, lcn_106, lcn_22], [], [], [], (7, [(0, -1)]))]) (fk := []) (rk := (8, [])) (sp := 32) (fuel := 3000) (by decide +kernel) lk_n odJ7_fill_53178
def lcn_181 : Nat × aAg := ((nat_lit 3), .inl aTop)
def ct_176 : aCt := (mX6_dayOfLeaving, [.inr (.inl [94]), .inl [(0, 0, 1)], .inl aTop, .inl aTop], ([], []), [(some (.inl aTop), [], [], [])], [], [], 0)
set_option maxRecDepth 100000 in
theorem S_176 : aSpec wd ct_176 := bChk_ok wx_ok btX6_dayOfLeaving (nds := [((nat_lit 16), [lcn_99, lcn_61, lcn_51, lcn_181, lcn_88, lcn_102], [], [], [], (4, [(3, -1)]))]) (fk := []) (rk := (5, [])) (sp := 65536) (fuel := 3000) (by decide +kernel) lk_n odX6_dayOfLeaving
set_option maxRecDepth 100000 in
theorem btX6_goes : bTab oX6_goes tX6_goes := ⟨ofX6_goes, by decide +kernel⟩
def ct_177 : aCt := (mX6_goes, [.inr (.inl [94]), .inl [(0, 0, 1)], .inr (.inl [9, 10, 11, 12, 13, 14, 15, 16, 17, 18, 19, 20]), .inl [(0, 6, 1)], .inl [(0, 6, 1)]], ([], []), [(some (.inl [(0, 0, 1)]), [], [], []), (some (.inl [(1, 1, 1)]), [], [], [])], [(95, 0, 7)], [], 1)
set_option maxRecDepth 100000 in
theorem S_177 : aSpec wd ct_177 := bChk_ok wx_ok btX6_goes (nds := []) (fk := []) (rk := (1, [])) (sp := 0) (fuel := 3000) (by decide +kernel) (lk_c ml_6_80 S_176 lk_n) odX6_goes
def ct_178 : aCt := (mX6_dayOfLeaving, [.inr (.inl [94]), .inl [(2, 2, 1)], .inl aTop, .inl aTop], ([], []), [(some (.inl aTop), [], [], [])], [], [], 0)
set_option maxRecDepth 100000 in
theorem S_178 : aSpec wd ct_178 := bChk_ok wx_ok btX6_dayOfLeaving (nds := [((nat_lit 16), [lcn_99, lcn_57, lcn_51, lcn_181, lcn_88, lcn_102], [], [], [], (4, [(3, -1)]))]) (fk := []) (rk := (5, [])) (sp := 65536) (fuel := 3000) (by decide +kernel) lk_n odX6_dayOfLeaving
def ct_179 : aCt := (mX6_dayOfLeaving, [.inr (.inl [94]), .inl [(1, 1, 1), (3, 3, 1)], .inl aTop, .inl aTop], ([], []), [(some (.inl aTop), [], [], [])], [], [], 0)
set_option maxRecDepth 100000 in
theorem S_179 : aSpec wd ct_179 := bChk_ok wx_ok btX6_dayOfLeaving (nds := [((nat_lit 16), [lcn_99, lcn_65, lcn_51, lcn_181, lcn_88, lcn_102], [], [], [], (4, [(3, -1)]))]) (fk := []) (rk := (5, [])) (sp := 65536) (fuel := 3000) (by decide +kernel) lk_n odX6_dayOfLeaving
def ct_180 : aCt := (mX6_goes, [.inr (.inl [94]), .inl [(1, 3, 1)], .inr (.inl [9, 10, 11, 12, 13, 14, 15, 16, 17, 18, 19, 20]), .inl [(0, 6, 1)], .inl [(0, 6, 1)]], ([], []), [(some (.inl [(0, 0, 1)]), [], [], []), (some (.inl [(1, 1, 1)]), [none, some [(1, 3, 1)], none, none, none], [], [])], [(95, 0, 7)], [], 1)
set_option maxRecDepth 100000 in
theorem S_180 : aSpec wd ct_180 := bChk_ok wx_ok btX6_goes (nds := []) (fk := []) (rk := (1, [])) (sp := 0) (fuel := 3000) (by decide +kernel) (lk_c ml_6_80 S_178 (lk_c ml_6_80 S_179 lk_n)) odX6_goes
def lcn_182 : Nat × aAg := ((nat_lit 1), .inl [((.ofNat (nat_lit 0)), (.ofNat (nat_lit 3)), (nat_lit 1))])
def lcn_183 : Nat × aAg := ((nat_lit 4), .inl [((.ofNat (nat_lit 1)), (.ofNat (nat_lit 7)), (nat_lit 1))])
def lcn_184 : Nat × aAg := ((nat_lit 5), .inl [((.ofNat (nat_lit 0)), (.ofNat (nat_lit 1)), (nat_lit 1))])
def lcn_185 : Nat × aAg := ((nat_lit 6), .inl [((.ofNat (nat_lit 0)), (.ofNat (nat_lit 6)), (nat_lit 1))])
def lcn_186 : Nat × aAg := ((nat_lit 7), .inl [((.ofNat (nat_lit 0)), (.ofNat (nat_lit 12)), (nat_lit 1))])
set_option maxRecDepth 100000 in
theorem btX6_findFirstDays : bTab oX6_findFirstDays tX6_findFirstDays := ⟨ofX6_findFirstDays, by decide +kernel⟩
def ct_181 : aCt := (mX6_findFirstDays, [.inr (.inl [94]), .inl [(0, 3, 1)], .inl [(0, 6, 1)], .inl [(0, 9999, 1)]], ([((2, 4), [(1, 7, 1)])], [((94, 0), 2)]), [(none, [], [], [])], [(95, 0, 7)], [], 2)
set_option maxRecDepth 100000 in
theorem S_181 : aSpec wd ct_181 := bChk_ok wx_ok btX6_findFirstDays (nds := [((nat_lit 39), [lcn_99, lcn_182, lcn_69, lcn_93, lcn_183, lcn_184, lcn_95], [], [sl_105], [((94, 0), 2)], (111, [(5, -14)])), ((nat_lit 57), [lcn_99, lcn_182, lcn_69, lcn_93, lcn_183, lcn_184, lcn_185, lcn_186], [], [sl_105], [((94, 0), 2)], (110, [(5, -14), (6, -1)]))]) (fk := []) (rk := (112, [])) (sp := 144115737831669760) (fuel := 3000) (by decide +kernel) (lk_c ml_6_38 S_175 (lk_c ml_6_64 S_103 (lk_c ml_6_70 S_177 (lk_c ml_6_70 S_180 lk_n)))) odX6_findFirstDays
set_option maxRecDepth 100000 in
theorem btX6_firstDayAt : bTab oX6_firstDayAt tX6_firstDayAt := ⟨ofX6_firstDayAt, by decide +kernel⟩
def ct_182 : aCt := (mX6_firstDayAt, [.inr (.inl [94]), .inl [(0, 3, 1)], .inl [(0, 6, 1)], .inl [(0, 6, 1)], .inl [(0, 9999, 1)]], ([((2, 4), [(1, 7, 1)])], [((94, 0), 2)]), [(some (.inl aTop), [], [], []), (some (.inl [(-2, -2, 1)]), [], [], [])], [(95, 0, 7)], [], 3)
set_option maxRecDepth 100000 in
theorem S_182 : aSpec wd ct_182 := bChk_ok wx_ok btX6_firstDayAt (nds := []) (fk := []) (rk := (1, [])) (sp := 0) (fuel := 3000) (by decide +kernel) (lk_c ml_6_84 S_181 lk_n) odX6_firstDayAt
set_option maxRecDepth 100000 in
theorem btX11_arrival : bTab oX11_arrival tX11_arrival := ⟨ofX11_arrival, by decide +kernel⟩
def ct_183 : aCt := (mX11_arrival, [.inr (.inl [0]), .inl aTop, .inl aTop, .inl aTop, .inl aTop], ([], [((0, 3), 2), ((94, 0), 2)]), [(some (.inl aTop), [none, some [(0, 4, 1)], some [(0, 6, 1)], some [(0, 6, 1)], some [(0, 9999, 1)]], [((0, 2), [(0, 0, 1)]), ((2, 4), [(1, 7, 1)]), ((2, 6), [(1, 5, 1)])], []), (some (.inl [(-1, -1, 1)]), [none, some aTop, none, none, none], [((0, 2), [(1, 2, 1)])], []), (some (.inl [(-2, -2, 1)]), [none, some [(0, 4, 1)], some [(0, 6, 1)], some [(0, 6, 1)], some [(0, 9999, 1)]], [((0, 2), [(0, 0, 1)]), ((2, 4), [(1, 7, 1)]), ((2, 6), [(1, 5, 1)])], [])], [(0, 2, 3), (95, 0, 7)], [], 4)
set_option maxRecDepth 100000 in
theorem S_183 : aSpec wd ct_183 := bChk_ok wx_ok btX11_arrival (nds := []) (fk := []) (rk := (1, [])) (sp := 0) (fuel := 3000) (by decide +kernel) (lk_c ml_11_112 S_97 (lk_c ml_11_98 S_6 (lk_c ml_11_98 S_74 (lk_c ml_11_280 S_182 (lk_c ml_11_174 S_100 (lk_c ml_11_121 S_70 (lk_c ml_11_174 S_78 (lk_c ml_11_227 S_109 (lk_c ml_11_112 S_71 lk_n))))))))) odX11_arrival
def ct_184 : aCt := (mX6_findFirstDays, [.inr (.inl [94]), .inl [(0, 3, 1)], .inl [(0, 6, 1)], .inl aTop], ([], [((94, 0), 2)]), [(none, [], [], [])], [(95, 0, 7)], [], 2)
set_option maxRecDepth 100000 in
theorem S_184 : aSpec wd ct_184 := bChk_ok wx_ok btX6_findFirstDays (nds := [((nat_lit 39), [lcn_99, lcn_182, lcn_69, lcn_181, lcn_132, lcn_184, lcn_95], [], [], [((94, 0), 2)], (111, [(5, -14)])), ((nat_lit 57), [lcn_99, lcn_182, lcn_69, lcn_181, lcn_183, lcn_184, lcn_185, lcn_186], [], [], [((94, 0), 2)], (110, [(5, -14), (6, -1)]))]) (fk := []) (rk := (112, [])) (sp := 144115737831669760) (fuel := 3000) (by decide +kernel) (lk_c ml_6_38 S_175 (lk_c ml_6_64 S_103 (lk_c ml_6_70 S_177 (lk_c ml_6_70 S_180 lk_n)))) odX6_findFirstDays
def ct_185 : aCt := (mX6_firstDayAt, [.inr (.inl [94]), .inl [(0, 3, 1)], .inl [(0, 6, 1)], .inl [(0, 6, 1)], .inl aTop], ([], [((94, 0), 2)]), [(some (.inl aTop), [], [], []), (some (.inl [(-2, -2, 1)]), [], [], [])], [(95, 0, 7)], [], 3)
set_option maxRecDepth 100000 in
theorem S_185 : aSpec wd ct_185 := bChk_ok wx_ok btX6_firstDayAt (nds := []) (fk := []) (rk := (1, [])) (sp := 0) (fuel := 3000) (by decide +kernel) (lk_c ml_6_84 S_184 lk_n) odX6_firstDayAt
set_option maxRecDepth 100000 in
theorem btX6_dayOfBringing : bTab oX6_dayOfBringing tX6_dayOfBringing := ⟨ofX6_dayOfBringing, by decide +kernel⟩
def ct_186 : aCt := (mX6_dayOfBringing, [.inr (.inl [94]), .inl [(0, 4, 1)], .inl [(0, 7, 1)]], ([((2, 6), [(5, 5, 1)])], [((92, 0), 2), ((94, 0), 2)]), [(some (.inl aTop), [], [((94, 4), [(0, 6, 1)])], []), (some (.inl [(-2, -2, 1)]), [], [], [])], [(92, 2, 4), (94, 4, 7), (95, 0, 7)], [], 4)
set_option maxRecDepth 100000 in
theorem S_186 : aSpec wd ct_186 := bChk_ok wx_ok btX6_dayOfBringing (nds := []) (fk := []) (rk := (1, [])) (sp := 0) (fuel := 3000) (by decide +kernel) (lk_c ml_6_96 S_113 (lk_c ml_6_115 S_88 (lk_c ml_6_136 S_185 (lk_c ml_6_122 S_95 lk_n)))) odX6_dayOfBringing
def ct_187 : aCt := (mX6_dayOfBringing, [.inr (.inl [94]), .inl [(0, 3, 1)], .inl [(0, 7, 1)]], ([((2, 6), [(4, 4, 1)])], [((92, 0), 2), ((94, 0), 2)]), [(some (.inl aTop), [], [((94, 4), [(0, 6, 1)])], []), (some (.inl [(-2, -2, 1)]), [], [], [])], [(92, 2, 4), (94, 4, 7), (95, 0, 7)], [], 4)
set_option maxRecDepth 100000 in
theorem S_187 : aSpec wd ct_187 := bChk_ok wx_ok btX6_dayOfBringing (nds := []) (fk := []) (rk := (1, [])) (sp := 0) (fuel := 3000) (by decide +kernel) (lk_c ml_6_96 S_113 (lk_c ml_6_115 S_88 (lk_c ml_6_136 S_185 (lk_c ml_6_122 S_95 lk_n)))) odX6_dayOfBringing
def ct_188 : aCt := (mX6_dayOfBringing, [.inr (.inl [94]), .inl [(0, 2, 1)], .inl [(0, 7, 1)]], ([((2, 6), [(3, 3, 1)])], [((92, 0), 2), ((94, 0), 2)]), [(some (.inl aTop), [], [((94, 4), [(0, 6, 1)])], []), (some (.inl [(-2, -2, 1)]), [], [], [])], [(92, 2, 4), (94, 4, 7), (95, 0, 7)], [], 4)
set_option maxRecDepth 100000 in
theorem S_188 : aSpec wd ct_188 := bChk_ok wx_ok btX6_dayOfBringing (nds := []) (fk := []) (rk := (1, [])) (sp := 0) (fuel := 3000) (by decide +kernel) (lk_c ml_6_96 S_113 (lk_c ml_6_115 S_88 (lk_c ml_6_136 S_185 (lk_c ml_6_122 S_95 lk_n)))) odX6_dayOfBringing
def ct_189 : aCt := (mX6_dayOfBringing, [.inr (.inl [94]), .inl [(0, 1, 1)], .inl [(0, 7, 1)]], ([((2, 6), [(2, 2, 1)])], [((92, 0), 2), ((94, 0), 2)]), [(some (.inl aTop), [], [((94, 4), [(0, 6, 1)])], []), (some (.inl [(-2, -2, 1)]), [], [], [])], [(92, 2, 4), (94, 4, 7), (95, 0, 7)], [], 4)
set_option maxRecDepth 100000 in
theorem S_189 : aSpec wd ct_189 := bChk_ok wx_ok btX6_dayOfBringing (nds := []) (fk := []) (rk := (1, [])) (sp := 0) (fuel := 3000) (by decide +kernel) (lk_c ml_6_96 S_113 (lk_c ml_6_115 S_88 (lk_c ml_6_136 S_185 (lk_c ml_6_122 S_95 lk_n)))) odX6_dayOfBringing
def ct_190 : aCt := (mX6_dayOfBringing, [.inr (.inl [94]), .inl [(0, 0, 1)], .inl [(0, 7, 1)]], ([((2, 6), [(1, 1, 1)])], [((92, 0), 2), ((94, 0), 2)]), [(some (.inl aTop), [], [((94, 4), [(0, 6, 1)])], []), (some (.inl [(-2, -2, 1)]), [], [], [])], [(92, 2, 4), (94, 4, 7), (95, 0, 7)], [], 4)
set_option maxRecDepth 100000 in
theorem S_190 : aSpec wd ct_190 := bChk_ok wx_ok btX6_dayOfBringing (nds := []) (fk := []) (rk := (1, [])) (sp := 0) (fuel := 3000) (by decide +kernel) (lk_c ml_6_96 S_113 (lk_c ml_6_115 S_88 (lk_c ml_6_136 S_185 (lk_c ml_6_122 S_95 lk_n)))) odX6_dayOfBringing
set_option maxRecDepth 100000 in
theorem btX11_brings : bTab oX11_brings tX11_brings := ⟨ofX11_brings, by decide +kernel⟩
def ct_191 : aCt := (mX11_brings, [.inr (.inl [0]), .inl aTop, .inl aTop], ([], [((0, 3), 2), ((92, 0), 2), ((94, 0), 2)]), [(some (.inl aTop), [none, some [(0, 4, 1)], some [(0, 7, 1)]], [((0, 2), [(0, 0, 1)]), ((2, 6), [(1, 5, 1)]), ((2, 7), [(1, 8, 1)]), ((94, 4), [(0, 6, 1)])], []), (some (.inl [(-1, -1, 1)]), [none, some aTop, none], [((0, 2), [(1, 1, 1)])], []), (some (.inl [(-2, -2, 1)]), [none, some [(0, 4, 1)], some [(0, 7, 1)]], [((0, 2), [(0, 0, 1)]), ((2, 6), [(1, 5, 1)]), ((2, 7), [(1, 8, 1)])], [])], [(0, 2, 3), (92, 2, 4), (94, 4, 7), (95, 0, 7)], [], 5)
set_option maxRecDepth 100000 in
theorem S_191 : aSpec wd ct_191 := bChk_ok wx_ok btX11_brings (nds := []) (fk := []) (rk := (1, [])) (sp := 0) (fuel := 3000) (by decide +kernel) (lk_c ml_11_112 S_97 (lk_c ml_11_98 S_74 (lk_c ml_11_283 S_190 (lk_c ml_11_283 S_189 (lk_c ml_11_283 S_188 (lk_c ml_11_283 S_187 (lk_c ml_11_283 S_186 (lk_c ml_11_121 S_70 (lk_c ml_11_147 S_76 (lk_c ml_11_112 S_71 lk_n)))))))))) odX11_brings
def ct_192 : aCt := (mX6_dayOfBringing, [.inr (.inl [94]), .inl [(0, 0, 1)], .inl [(0, 7, 1)]], ([((2, 6), [(5, 5, 1)])], [((92, 0), 2), ((94, 0), 2)]), [(some (.inl aTop), [], [((94, 4), [(0, 6, 1)])], []), (some (.inl [(-2, -2, 1)]), [], [], [])], [(92, 2, 4), (94, 4, 7), (95, 0, 7)], [], 4)
set_option maxRecDepth 100000 in
theorem S_192 : aSpec wd ct_192 := bChk_ok wx_ok btX6_dayOfBringing (nds := []) (fk := []) (rk := (1, [])) (sp := 0) (fuel := 3000) (by decide +kernel) (lk_c ml_6_96 S_113 (lk_c ml_6_115 S_88 (lk_c ml_6_136 S_185 (lk_c ml_6_122 S_95 lk_n)))) odX6_dayOfBringing
def ct_193 : aCt := (mX6_dayOfBringing, [.inr (.inl [94]), .inl [(0, 0, 1)], .inl [(0, 7, 1)]], ([((2, 6), [(4, 4, 1)])], [((92, 0), 2), ((94, 0), 2)]), [(some (.inl aTop), [], [((94, 4), [(0, 6, 1)])], []), (some (.inl [(-2, -2, 1)]), [], [], [])], [(92, 2, 4), (94, 4, 7), (95, 0, 7)], [], 4)
set_option maxRecDepth 100000 in
theorem S_193 : aSpec wd ct_193 := bChk_ok wx_ok btX6_dayOfBringing (nds := []) (fk := []) (rk := (1, [])) (sp := 0) (fuel := 3000) (by decide +kernel) (lk_c ml_6_96 S_113 (lk_c ml_6_115 S_88 (lk_c ml_6_136 S_185 (lk_c ml_6_122 S_95 lk_n)))) odX6_dayOfBringing
def ct_194 : aCt := (mX6_dayOfBringing, [.inr (.inl [94]), .inl [(0, 0, 1)], .inl [(0, 7, 1)]], ([((2, 6), [(3, 3, 1)])], [((92, 0), 2), ((94, 0), 2)]), [(some (.inl aTop), [], [((94, 4), [(0, 6, 1)])], []), (some (.inl [(-2, -2, 1)]), [], [], [])], [(92, 2, 4), (94, 4, 7), (95, 0, 7)], [], 4)
set_option maxRecDepth 100000 in
theorem S_194 : aSpec wd ct_194 := bChk_ok wx_ok btX6_dayOfBringing (nds := []) (fk := []) (rk := (1, [])) (sp := 0) (fuel := 3000) (by decide +kernel) (lk_c ml_6_96 S_113 (lk_c ml_6_115 S_88 (lk_c ml_6_136 S_185 (lk_c ml_6_122 S_95 lk_n)))) odX6_dayOfBringing
def ct_195 : aCt := (mX6_dayOfBringing, [.inr (.inl [94]), .inl [(0, 0, 1)], .inl [(0, 7, 1)]], ([((2, 6), [(2, 2, 1)])], [((92, 0), 2), ((94, 0), 2)]), [(some (.inl aTop), [], [((94, 4), [(0, 6, 1)])], []), (some (.inl [(-2, -2, 1)]), [], [], [])], [(92, 2, 4), (94, 4, 7), (95, 0, 7)], [], 4)
set_option maxRecDepth 100000 in
theorem S_195 : aSpec wd ct_195 := bChk_ok wx_ok btX6_dayOfBringing (nds := []) (fk := []) (rk := (1, [])) (sp := 0) (fuel := 3000) (by decide +kernel) (lk_c ml_6_96 S_113 (lk_c ml_6_115 S_88 (lk_c ml_6_136 S_185 (lk_c ml_6_122 S_95 lk_n)))) odX6_dayOfBringing
def ct_196 : aCt := (mX6_dayOfBringing, [.inr (.inl [94]), .inl [(1, 4, 1)], .inl [(0, 7, 1)]], ([((2, 6), [(5, 5, 1)])], [((92, 0), 2), ((94, 0), 2)]), [(some (.inl aTop), [], [((94, 4), [(0, 6, 1)])], []), (some (.inl [(-2, -2, 1)]), [], [], [])], [(92, 2, 4), (94, 4, 7), (95, 0, 7)], [], 4)
set_option maxRecDepth 100000 in
theorem S_196 : aSpec wd ct_196 := bChk_ok wx_ok btX6_dayOfBringing (nds := []) (fk := []) (rk := (1, [])) (sp := 0) (fuel := 3000) (by decide +kernel) (lk_c ml_6_96 S_113 (lk_c ml_6_115 S_88 (lk_c ml_6_136 S_185 (lk_c ml_6_122 S_95 lk_n)))) odX6_dayOfBringing
def ct_197 : aCt := (mX6_dayOfBringing, [.inr (.inl [94]), .inl [(1, 3, 1)], .inl [(0, 7, 1)]], ([((2, 6), [(4, 4, 1)])], [((92, 0), 2), ((94, 0), 2)]), [(some (.inl aTop), [], [((94, 4), [(0, 6, 1)])], []), (some (.inl [(-2, -2, 1)]), [], [], [])], [(92, 2, 4), (94, 4, 7), (95, 0, 7)], [], 4)
set_option maxRecDepth 100000 in
theorem S_197 : aSpec wd ct_197 := bChk_ok wx_ok btX6_dayOfBringing (nds := []) (fk := []) (rk := (1, [])) (sp := 0) (fuel := 3000) (by decide +kernel) (lk_c ml_6_96 S_113 (lk_c ml_6_115 S_88 (lk_c ml_6_136 S_185 (lk_c ml_6_122 S_95 lk_n)))) odX6_dayOfBringing
def ct_198 : aCt := (mX6_dayOfBringing, [.inr (.inl [94]), .inl [(1, 2, 1)], .inl [(0, 7, 1)]], ([((2, 6), [(3, 3, 1)])], [((92, 0), 2), ((94, 0), 2)]), [(some (.inl aTop), [], [((94, 4), [(0, 6, 1)])], []), (some (.inl [(-2, -2, 1)]), [], [], [])], [(92, 2, 4), (94, 4, 7), (95, 0, 7)], [], 4)
set_option maxRecDepth 100000 in
theorem S_198 : aSpec wd ct_198 := bChk_ok wx_ok btX6_dayOfBringing (nds := []) (fk := []) (rk := (1, [])) (sp := 0) (fuel := 3000) (by decide +kernel) (lk_c ml_6_96 S_113 (lk_c ml_6_115 S_88 (lk_c ml_6_136 S_185 (lk_c ml_6_122 S_95 lk_n)))) odX6_dayOfBringing
def ct_199 : aCt := (mX6_dayOfBringing, [.inr (.inl [94]), .inl [(1, 1, 1)], .inl [(0, 7, 1)]], ([((2, 6), [(2, 2, 1)])], [((92, 0), 2), ((94, 0), 2)]), [(some (.inl aTop), [], [((94, 4), [(0, 6, 1)])], []), (some (.inl [(-2, -2, 1)]), [], [], [])], [(92, 2, 4), (94, 4, 7), (95, 0, 7)], [], 4)
set_option maxRecDepth 100000 in
theorem S_199 : aSpec wd ct_199 := bChk_ok wx_ok btX6_dayOfBringing (nds := []) (fk := []) (rk := (1, [])) (sp := 0) (fuel := 3000) (by decide +kernel) (lk_c ml_6_96 S_113 (lk_c ml_6_115 S_88 (lk_c ml_6_136 S_185 (lk_c ml_6_122 S_95 lk_n)))) odX6_dayOfBringing
def lcn_187 : Nat × aAg := ((nat_lit 1), .inl [((.ofNat (nat_lit 0)), (.ofNat (nat_lit 7)), (nat_lit 1))])
def lcn_188 : Nat × aAg := ((nat_lit 2), .inl [((.negSucc (nat_lit 1)), (.negSucc (nat_lit 1)), (nat_lit 1))])
def lcn_189 : Nat × aAg := ((nat_lit 2), .inl [((.negSucc (nat_lit 1)), (.negSucc (nat_lit 1)), (nat_lit 1)), ((.ofNat (nat_lit 0)), (.ofNat (nat_lit 4)), (nat_lit 1))])
def lcn_190 : Nat × aAg := ((nat_lit 3), .inl [((.negSucc (nat_lit 2147483647)), (.negSucc (nat_lit 2)), (nat_lit 1)), ((.negSucc (nat_lit 0)), (.ofNat (nat_lit 2147483647)), (nat_lit 1))])
def lcn_191 : Nat × aAg := ((nat_lit 4), .inl [((.ofNat (nat_lit 1)), (.ofNat (nat_lit 5)), (nat_lit 1))])
def lcn_192 : Nat × aAg := ((nat_lit 5), .inl aTop)
def sl_193 : (Nat × Nat) × aI := (((nat_lit 2), (nat_lit 6)), [((.ofNat (nat_lit 5)), (.ofNat (nat_lit 5)), (nat_lit 1))])
def lcn_194 : Nat × aAg := ((nat_lit 2), .inl [((.negSucc (nat_lit 1)), (.negSucc (nat_lit 1)), (nat_lit 1)), ((.ofNat (nat_lit 0)), (.ofNat (nat_lit 3)), (nat_lit 1))])
def lcn_195 : Nat × aAg := ((nat_lit 4), .inl [((.ofNat (nat_lit 1)), (.ofNat (nat_lit 4)), (nat_lit 1))])
def sl_196 : (Nat × Nat) × aI := (((nat_lit 2), (nat_lit 6)), [((.ofNat (nat_lit 4)), (.ofNat (nat_lit 4)), (nat_lit 1))])
def lcn_197 : Nat × aAg := ((nat_lit 2), .inl [((.negSucc (nat_lit 1)), (.negSucc (nat_lit 1)), (nat_lit 1)), ((.ofNat (nat_lit 0)), (.ofNat (nat_lit 2)), (nat_lit 1))])
def lcn_198 : Nat × aAg := ((nat_lit 4), .inl [((.ofNat (nat_lit 1)), (.ofNat (nat_lit 3)), (nat_lit 1))])
def sl_199 : (Nat × Nat) × aI := (((nat_lit 2), (nat_lit 6)), [((.ofNat (nat_lit 3)), (.ofNat (nat_lit 3)), (nat_lit 1))])
def lcn_200 : Nat × aAg := ((nat_lit 2), .inl [((.negSucc (nat_lit 1)), (.negSucc (nat_lit 1)), (nat_lit 1)), ((.ofNat (nat_lit 0)), (.ofNat (nat_lit 1)), (nat_lit 1))])
def lcn_201 : Nat × aAg := ((nat_lit 4), .inl [((.ofNat (nat_lit 1)), (.ofNat (nat_lit 2)), (nat_lit 1))])
def sl_202 : (Nat × Nat) × aI := (((nat_lit 2), (nat_lit 6)), [((.ofNat (nat_lit 2)), (.ofNat (nat_lit 2)), (nat_lit 1))])
def lcn_203 : Nat × aAg := ((nat_lit 2), .inl [((.negSucc (nat_lit 1)), (.negSucc (nat_lit 1)), (nat_lit 1)), ((.ofNat (nat_lit 0)), (.ofNat (nat_lit 0)), (nat_lit 1))])
def sl_204 : (Nat × Nat) × aI := (((nat_lit 2), (nat_lit 6)), [((.ofNat (nat_lit 1)), (.ofNat (nat_lit 1)), (nat_lit 1))])
set_option maxRecDepth 100000 in
theorem btX6_soonestBringer : bTab oX6_soonestBringer tX6_soonestBringer := ⟨ofX6_soonestBringer, by decide +kernel⟩
def ct_200 : aCt := (mX6_soonestBringer, [.inr (.inl [94]), .inl [(0, 7, 1)]], ([], [((92, 0), 2), ((94, 0), 2)]), [(some (.inl [(-2, -2, 1), (0, 4, 1)]), [], [((2, 6), [(1, 5, 1)])], []), (some (.inl [(-2, -2, 1)]), [], [((2, 6), [(0, 0, 1)])], [])], [(92, 2, 4), (94, 4, 7), (95, 0, 7)], [], 5)
set_option maxRecDepth 100000 in
theorem S_200 : aSpec wd ct_200 := bChk_ok wx_ok btX6_soonestBringer (nds := [((nat_lit 8), [lcn_99, lcn_187, lcn_188, lcn_9, lcn_109], [], [], [((92, 0), 2), ((94, 0), 2)], (8, [])), ((nat_lit 8), [lcn_99, lcn_187, lcn_189, lcn_190, lcn_191, lcn_192], [], [sl_193], [((92, 0), 2), ((94, 0), 2)], (5, [(3, -1)])), ((nat_lit 8), [lcn_99, lcn_187, lcn_194, lcn_190, lcn_195, lcn_192], [], [sl_196], [((92, 0), 2), ((94, 0), 2)], (4, [(3, -1)])), ((nat_lit 8), [lcn_99, lcn_187, lcn_197, lcn_190, lcn_198, lcn_192], [], [sl_199], [((92, 0), 2), ((94, 0), 2)], (3, [(3, -1)])), ((nat_lit 8), [lcn_99, lcn_187, lcn_200, lcn_190, lcn_201, lcn_192], [], [sl_202], [((92, 0), 2), ((94, 0), 2)], (4, [(1, -2), (3, -1)])), ((nat_lit 8), [lcn_99, lcn_187, lcn_203, lcn_190, lcn_111, lcn_192], [], [sl_204], [((92, 0), 2), ((94, 0), 2)], (0, []))]) (fk := [17]) (rk := (9, [])) (sp := 256) (fuel := 3000) (by decide +kernel) (lk_c ml_6_155 S_192 (lk_c ml_6_155 S_193 (lk_c ml_6_155 S_194 (lk_c ml_6_155 S_195 (lk_c ml_6_155 S_190 (lk_c ml_6_155 S_199 (lk_c ml_6_155 S_198 (lk_c ml_6_155 S_197 (lk_c ml_6_155 S_196 lk_n))))))))) odX6_soonestBringer
def ct_201 : aCt := (mX11_granted, [.inr (.inl [0]), .inl [(-2, -2, 1), (0, 4, 1)]], ([], []), [(some (.inl [(-2, -2, 1), (0, 4, 1)]), [], [((0, 2), [(0, 0, 1)])], [])], [(0, 2, 3)], [], 0)
set_option maxRecDepth 100000 in
theorem S_201 : aSpec wd ct_201 := bChk_ok wx_ok btX11_granted (nds := []) (fk := []) (rk := (1, [])) (sp := 0) (fuel := 3000) (by decide +kernel) lk_n odX11_granted
set_option maxRecDepth 100000 in
theorem btX11_soonest : bTab oX11_soonest tX11_soonest := ⟨ofX11_soonest, by decide +kernel⟩
def ct_202 : aCt := (mX11_soonest, [.inr (.inl [0]), .inl aTop], ([], [((0, 3), 2), ((92, 0), 2), ((94, 0), 2)]), [(some (.inl [(-2, -2, 1), (0, 4, 1)]), [none, some [(0, 7, 1)]], [((0, 2), [(0, 0, 1)]), ((2, 6), [(1, 5, 1)]), ((2, 7), [(1, 8, 1)])], []), (some (.inl [(-1, -1, 1)]), [], [((0, 2), [(1, 1, 1)])], []), (some (.inl [(-2, -2, 1)]), [none, some [(0, 7, 1)]], [((0, 2), [(0, 0, 1)]), ((2, 6), [(0, 0, 1)]), ((2, 7), [(1, 8, 1)])], [])], [(0, 2, 3), (92, 2, 4), (94, 4, 7), (95, 0, 7)], [], 6)
set_option maxRecDepth 100000 in
theorem S_202 : aSpec wd ct_202 := bChk_ok wx_ok btX11_soonest (nds := []) (fk := []) (rk := (1, [])) (sp := 0) (fuel := 3000) (by decide +kernel) (lk_c ml_11_112 S_97 (lk_c ml_11_98 S_74 (lk_c ml_11_112 S_201 (lk_c ml_11_286 S_200 (lk_c ml_11_147 S_76 lk_n))))) odX11_soonest
def lcn_205 : Nat × aAg := ((nat_lit 3), .inl [((.negSucc (nat_lit 1)), (.negSucc (nat_lit 1)), (nat_lit 1))])
def lcn_206 : Nat × aAg := ((nat_lit 3), .inl [((.negSucc (nat_lit 1)), (.negSucc (nat_lit 1)), (nat_lit 1)), ((.ofNat (nat_lit 0)), (.ofNat (nat_lit 4)), (nat_lit 1))])
def lcn_207 : Nat × aAg := ((nat_lit 3), .inl [((.negSucc (nat_lit 1)), (.negSucc (nat_lit 1)), (nat_lit 1)), ((.ofNat (nat_lit 0)), (.ofNat (nat_lit 3)), (nat_lit 1))])
def lcn_208 : Nat × aAg := ((nat_lit 3), .inl [((.negSucc (nat_lit 1)), (.negSucc (nat_lit 1)), (nat_lit 1)), ((.ofNat (nat_lit 0)), (.ofNat (nat_lit 2)), (nat_lit 1))])
def lcn_209 : Nat × aAg := ((nat_lit 3), .inl [((.negSucc (nat_lit 1)), (.negSucc (nat_lit 1)), (nat_lit 1)), ((.ofNat (nat_lit 0)), (.ofNat (nat_lit 1)), (nat_lit 1))])
def lcn_210 : Nat × aAg := ((nat_lit 3), .inl [((.negSucc (nat_lit 1)), (.negSucc (nat_lit 1)), (nat_lit 1)), ((.ofNat (nat_lit 0)), (.ofNat (nat_lit 0)), (nat_lit 1))])
set_option maxRecDepth 100000 in
theorem btX6_surestBringer : bTab oX6_surestBringer tX6_surestBringer := ⟨ofX6_surestBringer, by decide +kernel⟩
def ct_203 : aCt := (mX6_surestBringer, [.inr (.inl [94]), .inl [(0, 7, 1)], .inl [(-2, -2, 1)]], ([], [((92, 0), 2), ((94, 0), 2)]), [(some (.inl [(-2, -2, 1), (0, 4, 1)]), [], [((2, 6), [(1, 5, 1)])], []), (some (.inl [(-2, -2, 1)]), [], [((2, 6), [(0, 0, 1)])], [])], [(92, 2, 4), (94, 4, 7), (95, 0, 7)], [], 5)
set_option maxRecDepth 100000 in
theorem S_203 : aSpec wd ct_203 := bChk_ok wx_ok btX6_surestBringer (nds := [((nat_lit 6), [lcn_99, lcn_187, lcn_188, lcn_205, lcn_109], [], [], [((92, 0), 2), ((94, 0), 2)], (8, [])), ((nat_lit 6), [lcn_99, lcn_187, lcn_188, lcn_206, lcn_191, lcn_184], [], [sl_193], [((92, 0), 2), ((94, 0), 2)], (5, [(2, -1)])), ((nat_lit 6), [lcn_99, lcn_187, lcn_188, lcn_207, lcn_195, lcn_184], [], [sl_196], [((92, 0), 2), ((94, 0), 2)], (4, [(2, -1)])), ((nat_lit 6), [lcn_99, lcn_187, lcn_188, lcn_208, lcn_198, lcn_184], [], [sl_199], [((92, 0), 2), ((94, 0), 2)], (3, [(2, -1)])), ((nat_lit 6), [lcn_99, lcn_187, lcn_188, lcn_209, lcn_201, lcn_184], [], [sl_202], [((92, 0), 2), ((94, 0), 2)], (4, [(1, -2), (2, -1)])), ((nat_lit 6), [lcn_99, lcn_187, lcn_188, lcn_210, lcn_111, lcn_154], [], [sl_204], [((92, 0), 2), ((94, 0), 2)], (0, []))]) (fk := [15]) (rk := (9, [])) (sp := 64) (fuel := 3000) (by decide +kernel) (lk_c ml_6_155 S_192 (lk_c ml_6_155 S_193 (lk_c ml_6_155 S_194 (lk_c ml_6_155 S_195 (lk_c ml_6_155 S_190 (lk_c ml_6_155 S_199 (lk_c ml_6_155 S_198 (lk_c ml_6_155 S_197 (lk_c ml_6_155 S_196 lk_n))))))))) odX6_surestBringer
end Pk0
section Pk1
set_option maxRecDepth 100000 in
theorem btX11_surest : bTab oX11_surest tX11_surest := ⟨ofX11_surest, by decide +kernel⟩
def ct_204 : aCt := (mX11_surest, [.inr (.inl [0]), .inl aTop], ([], [((0, 3), 2), ((92, 0), 2), ((94, 0), 2)]), [(some (.inl [(-2, -2, 1), (0, 4, 1)]), [none, some [(0, 7, 1)]], [((0, 2), [(0, 0, 1)]), ((2, 6), [(1, 5, 1)]), ((2, 7), [(1, 8, 1)])], []), (some (.inl [(-1, -1, 1)]), [], [((0, 2), [(1, 1, 1)])], []), (some (.inl [(-2, -2, 1)]), [none, some [(0, 7, 1)]], [((0, 2), [(0, 0, 1)]), ((2, 6), [(0, 0, 1)]), ((2, 7), [(1, 8, 1)])], [])], [(0, 2, 3), (92, 2, 4), (94, 4, 7), (95, 0, 7)], [], 6)
set_option maxRecDepth 100000 in
theorem S_204 : aSpec wd ct_204 := bChk_ok wx_ok btX11_surest (nds := []) (fk := []) (rk := (1, [])) (sp := 0) (fuel := 3000) (by decide +kernel) (lk_c ml_11_112 S_97 (lk_c ml_11_98 S_74 (lk_c ml_11_112 S_201 (lk_c ml_11_289 S_203 (lk_c ml_11_147 S_76 lk_n))))) odX11_surest
def lcn_211 : Nat × aAg := ((nat_lit 2), .inl [((.ofNat (nat_lit 0)), (.ofNat (nat_lit 99999)), (nat_lit 1))])
def lcn_212 : Nat × aAg := ((nat_lit 3), .inl [((.ofNat (nat_lit 0)), (.ofNat (nat_lit 31)), (nat_lit 1))])
def lcn_213 : Nat × aAg := ((nat_lit 3), .inl [((.ofNat (nat_lit 0)), (.ofNat (nat_lit 15)), (nat_lit 1))])
set_option maxRecDepth 100000 in
theorem btX6_bringersBy : bTab oX6_bringersBy tX6_bringersBy := ⟨ofX6_bringersBy, by decide +kernel⟩
def ct_205 : aCt := (mX6_bringersBy, [.inr (.inl [94]), .inl [(0, 7, 1)], .inl [(0, 99999, 1)]], ([], [((92, 0), 2), ((94, 0), 2)]), [(some (.inl [(0, 31, 1)]), [], [((2, 6), [(1, 5, 1)])], []), (some (.inl [(0, 0, 1)]), [], [((2, 6), [(0, 0, 1)])], [])], [(92, 2, 4), (94, 4, 7), (95, 0, 7)], [], 5)
set_option maxRecDepth 100000 in
theorem S_205 : aSpec wd ct_205 := bChk_ok wx_ok btX6_bringersBy (nds := [((nat_lit 5), [lcn_99, lcn_187, lcn_211, lcn_9, lcn_109], [], [], [((92, 0), 2), ((94, 0), 2)], (5, [])), ((nat_lit 5), [lcn_99, lcn_187, lcn_211, lcn_212, lcn_191, lcn_192], [], [sl_193], [((92, 0), 2), ((94, 0), 2)], (5, [(3, -1)])), ((nat_lit 5), [lcn_99, lcn_187, lcn_211, lcn_213, lcn_195, lcn_192], [], [sl_196], [((92, 0), 2), ((94, 0), 2)], (4, [(3, -1)])), ((nat_lit 5), [lcn_99, lcn_187, lcn_211, lcn_126, lcn_198, lcn_192], [], [sl_199], [((92, 0), 2), ((94, 0), 2)], (3, [(3, -1)])), ((nat_lit 5), [lcn_99, lcn_187, lcn_211, lcn_115, lcn_201, lcn_192], [], [sl_202], [((92, 0), 2), ((94, 0), 2)], (2, [(3, -1)])), ((nat_lit 5), [lcn_99, lcn_187, lcn_211, lcn_110, lcn_111, lcn_192], [], [sl_204], [((92, 0), 2), ((94, 0), 2)], (0, []))]) (fk := [14]) (rk := (6, [])) (sp := 32) (fuel := 3000) (by decide +kernel) (lk_c ml_6_155 S_192 (lk_c ml_6_155 S_193 (lk_c ml_6_155 S_194 (lk_c ml_6_155 S_195 (lk_c ml_6_155 S_190 (lk_c ml_6_155 S_199 (lk_c ml_6_155 S_198 (lk_c ml_6_155 S_197 (lk_c ml_6_155 S_196 lk_n))))))))) odX6_bringersBy
def ct_206 : aCt := (mX11_granted, [.inr (.inl [0]), .inl [(0, 0, 1)]], ([], []), [(some (.inl [(0, 0, 1)]), [], [((0, 2), [(0, 0, 1)])], [])], [(0, 2, 3)], [], 0)
set_option maxRecDepth 100000 in
theorem S_206 : aSpec wd ct_206 := bChk_ok wx_ok btX11_granted (nds := []) (fk := []) (rk := (1, [])) (sp := 0) (fuel := 3000) (by decide +kernel) lk_n odX11_granted
def ct_207 : aCt := (mX11_granted, [.inr (.inl [0]), .inl [(0, 31, 1)]], ([], []), [(some (.inl [(0, 31, 1)]), [], [((0, 2), [(0, 0, 1)])], [])], [(0, 2, 3)], [], 0)
set_option maxRecDepth 100000 in
theorem S_207 : aSpec wd ct_207 := bChk_ok wx_ok btX11_granted (nds := []) (fk := []) (rk := (1, [])) (sp := 0) (fuel := 3000) (by decide +kernel) lk_n odX11_granted
set_option maxRecDepth 100000 in
theorem btX11_by : bTab oX11_by tX11_by := ⟨ofX11_by, by decide +kernel⟩
def ct_208 : aCt := (mX11_by, [.inr (.inl [0]), .inl aTop, .inl aTop], ([], [((0, 3), 2), ((92, 0), 2), ((94, 0), 2)]), [(some (.inl [(0, 31, 1)]), [none, some [(0, 7, 1)], some [(0, 99999, 1)]], [((0, 2), [(0, 0, 1)]), ((2, 6), [(1, 5, 1)]), ((2, 7), [(1, 8, 1)])], []), (some (.inl [(-1, -1, 1)]), [], [((0, 2), [(1, 2, 1)])], []), (some (.inl [(0, 0, 1)]), [none, some [(0, 7, 1)], some [(0, 99999, 1)]], [((0, 2), [(0, 0, 1)]), ((2, 6), [(0, 0, 1)]), ((2, 7), [(1, 8, 1)])], [])], [(0, 2, 3), (92, 2, 4), (94, 4, 7), (95, 0, 7)], [], 6)
set_option maxRecDepth 100000 in
theorem S_208 : aSpec wd ct_208 := bChk_ok wx_ok btX11_by (nds := []) (fk := []) (rk := (1, [])) (sp := 0) (fuel := 3000) (by decide +kernel) (lk_c ml_11_112 S_206 (lk_c ml_11_98 S_6 (lk_c ml_11_98 S_74 (lk_c ml_11_112 S_207 (lk_c ml_11_292 S_205 (lk_c ml_11_147 S_76 (lk_c ml_11_227 S_106 lk_n))))))) odX11_by
def ct_209 : aCt := (mX11_refused, [.inr (.inl [0]), .inl [(6, 6, 1)]], ([], []), [(some (.inl [(-1, -1, 1)]), [], [((0, 2), [(6, 6, 1)])], [])], [(0, 2, 3)], [], 0)
set_option maxRecDepth 100000 in
theorem S_209 : aSpec wd ct_209 := bChk_ok wx_ok btX11_refused (nds := []) (fk := []) (rk := (1, [])) (sp := 0) (fuel := 3000) (by decide +kernel) lk_n odX11_refused
def lcn_214 : Nat × aAg := ((nat_lit 2), .inl [((.ofNat (nat_lit 0)), (.ofNat (nat_lit 4)), (nat_lit 1))])
def sl_215 : (Nat × Nat) × aI := (((nat_lit 2), (nat_lit 6)), [((.ofNat (nat_lit 1)), (.ofNat (nat_lit 5)), (nat_lit 1))])
def ct_210 : aCt := (mX6_surestBringer, [.inr (.inl [94]), .inl [(0, 7, 1)], .inl [(0, 4, 1)]], ([((2, 6), [(1, 5, 1)])], [((92, 0), 2), ((94, 0), 2)]), [(some (.inl [(-2, -2, 1), (0, 4, 1)]), [], [], [])], [(92, 2, 4), (94, 4, 7), (95, 0, 7)], [], 5)
set_option maxRecDepth 100000 in
theorem S_210 : aSpec wd ct_210 := bChk_ok wx_ok btX6_surestBringer (nds := [((nat_lit 6), [lcn_99, lcn_187, lcn_214, lcn_205, lcn_109], [], [sl_215], [((92, 0), 2), ((94, 0), 2)], (8, [])), ((nat_lit 6), [lcn_99, lcn_187, lcn_214, lcn_206, lcn_191, lcn_184], [], [sl_193], [((92, 0), 2), ((94, 0), 2)], (5, [(3, -1)])), ((nat_lit 6), [lcn_99, lcn_187, lcn_214, lcn_207, lcn_195, lcn_184], [], [sl_196], [((92, 0), 2), ((94, 0), 2)], (4, [(3, -1)])), ((nat_lit 6), [lcn_99, lcn_187, lcn_214, lcn_208, lcn_198, lcn_184], [], [sl_199], [((92, 0), 2), ((94, 0), 2)], (3, [(3, -1)])), ((nat_lit 6), [lcn_99, lcn_187, lcn_214, lcn_209, lcn_201, lcn_184], [], [sl_202], [((92, 0), 2), ((94, 0), 2)], (4, [(2, -2), (3, -1)])), ((nat_lit 6), [lcn_99, lcn_187, lcn_214, lcn_210, lcn_111, lcn_154], [], [sl_204], [((92, 0), 2), ((94, 0), 2)], (0, []))]) (fk := [15]) (rk := (9, [])) (sp := 64) (fuel := 3000) (by decide +kernel) (lk_c ml_6_155 S_192 (lk_c ml_6_155 S_193 (lk_c ml_6_155 S_194 (lk_c ml_6_155 S_195 (lk_c ml_6_155 S_190 (lk_c ml_6_155 S_199 (lk_c ml_6_155 S_198 (lk_c ml_6_155 S_197 (lk_c ml_6_155 S_196 lk_n))))))))) odX6_surestBringer
def lcn_216 : Nat × aAg := ((nat_lit 0), .inl [((.ofNat (nat_lit 10000)), (.ofNat (nat_lit 10000)), (nat_lit 1))])
def lcn_217 : Nat × aAg := ((nat_lit 2), .inl [((.negSucc (nat_lit 2147483647)), (.negSucc (nat_lit 0)), (nat_lit 1)), ((.ofNat (nat_lit 1)), (.ofNat (nat_lit 2147483647)), (nat_lit 1))])
def lcn_218 : Nat × aAg := ((nat_lit 4), .inl [((.ofNat (nat_lit 0)), (.ofNat (nat_lit 47)), (nat_lit 1))])
set_option maxRecDepth 100000 in
theorem btX11_commonDivisor : bTab oX11_commonDivisor tX11_commonDivisor := ⟨ofX11_commonDivisor, by decide +kernel⟩
def ct_211 : aCt := (mX11_commonDivisor, [.inl [(10000, 10000, 1)], .inl aTop], ([], []), [(some (.inl [(1, 2147483647, 1)]), [], [], [])], [], [], 1)
set_option maxRecDepth 100000 in
theorem S_211 : aSpec wd ct_211 := bChk_ok wx_ok btX11_commonDivisor (nds := [((nat_lit 7), [lcn_216, lcn_76, lcn_217, lcn_181, lcn_218], [], [], [], (47, [(3, -1)]))]) (fk := []) (rk := (48, [])) (sp := 128) (fuel := 3000) (by decide +kernel) lk_n odX11_commonDivisor
def ct_212 : aCt := (mX11_granted, [.inr (.inl [0]), .inl [(0, 10000, 1)]], ([], []), [(some (.inl [(0, 10000, 1)]), [], [((0, 2), [(0, 0, 1)])], [])], [(0, 2, 3)], [], 0)
set_option maxRecDepth 100000 in
theorem S_212 : aSpec wd ct_212 := bChk_ok wx_ok btX11_granted (nds := []) (fk := []) (rk := (1, [])) (sp := 0) (fuel := 3000) (by decide +kernel) lk_n odX11_granted
def lcn_219 : Nat × aAg := ((nat_lit 0), .inl [((.ofNat (nat_lit 100)), (.ofNat (nat_lit 100)), (nat_lit 1))])
def ct_213 : aCt := (mX11_commonDivisor, [.inl [(100, 100, 1)], .inl aTop], ([], []), [(some (.inl [(1, 2147483647, 1)]), [], [], [])], [], [], 1)
set_option maxRecDepth 100000 in
theorem S_213 : aSpec wd ct_213 := bChk_ok wx_ok btX11_commonDivisor (nds := [((nat_lit 7), [lcn_219, lcn_76, lcn_217, lcn_181, lcn_218], [], [], [], (47, [(3, -1)]))]) (fk := []) (rk := (48, [])) (sp := 128) (fuel := 3000) (by decide +kernel) lk_n odX11_commonDivisor
def ct_214 : aCt := (mX11_granted, [.inr (.inl [0]), .inl [(0, 100, 1)]], ([], []), [(some (.inl [(0, 100, 1)]), [], [((0, 2), [(0, 0, 1)])], [])], [(0, 2, 3)], [], 0)
set_option maxRecDepth 100000 in
theorem S_214 : aSpec wd ct_214 := bChk_ok wx_ok btX11_granted (nds := []) (fk := []) (rk := (1, [])) (sp := 0) (fuel := 3000) (by decide +kernel) lk_n odX11_granted
set_option maxRecDepth 100000 in
theorem btX11_registered : bTab oX11_registered tX11_registered := ⟨ofX11_registered, by decide +kernel⟩
def ct_215 : aCt := (mX11_registered, [.inr (.inl [0]), .inl aTop, .inl [(0, 1, 1)]], ([], [((0, 3), 2), ((92, 0), 2), ((94, 0), 2)]), [(some (.inr ()), [], [((0, 2), [(0, 1, 1), (6, 6, 1)])], [])], [(0, 2, 3), (92, 2, 4), (94, 4, 7), (95, 0, 7)], [], 6)
set_option maxRecDepth 100000 in
theorem S_215 : aSpec wd ct_215 := bChk_ok wx_ok btX11_registered (nds := []) (fk := []) (rk := (1, [])) (sp := 0) (fuel := 3000) (by decide +kernel) (lk_c ml_11_98 S_209 (lk_c ml_11_98 S_74 (lk_c ml_11_289 S_203 (lk_c ml_11_289 S_210 (lk_c ml_11_112 S_214 (lk_c ml_11_112 S_212 (lk_c ml_11_147 S_76 (lk_c ml_11_295 S_211 (lk_c ml_11_112 S_71 (lk_c ml_11_295 S_213 lk_n)))))))))) odX11_registered
def lcn_220 : Nat × aAg := ((nat_lit 0), .inr (.inl [(nat_lit 103)]))
def lcn_221 : Nat × aAg := ((nat_lit 2), .inl [((.ofNat (nat_lit 0)), (.ofNat (nat_lit 363)), (nat_lit 1))])
def lcn_222 : Nat × aAg := ((nat_lit 3), .inl [((.ofNat (nat_lit 288)), (.ofNat (nat_lit 288)), (nat_lit 1))])
def ct_216 : aCt := (mJ7_fill_53178, [.inr (.inl [103]), .inl [(0, 0, 1)]], ([], []), [(none, [], [], [])], [(103, 0, 288)], [], 0)
set_option maxRecDepth 100000 in
theorem S_216 : aSpec wd ct_216 := bChk_ok wx_ok btJ7_fill_53178 (nds := [((nat_lit 5), [lcn_220, lcn_61, lcn_221, lcn_222], [], [], [], (363, [(0, -1)]))]) (fk := []) (rk := (364, [])) (sp := 32) (fuel := 3000) (by decide +kernel) lk_n odJ7_fill_53178
def lcn_223 : Nat × aAg := ((nat_lit 0), .inr (.inl [(nat_lit 100)]))
def sl_224 : (Nat × Nat) × aI := (((nat_lit 100), (nat_lit 2)), [((.ofNat (nat_lit 0)), (.ofNat (nat_lit 0)), (nat_lit 1))])
def sl_225 : (Nat × Nat) × aI := (((nat_lit 100), (nat_lit 3)), [((.ofNat (nat_lit 0)), (.ofNat (nat_lit 0)), (nat_lit 1))])
set_option maxRecDepth 100000 in
theorem btX1_choose : bTab oX1_choose tX1_choose := ⟨ofX1_choose, by decide +kernel⟩
def ct_217 : aCt := (mX1_choose, [.inr (.inl [100]), .inl [(0, 0, 1)], .inl [(0, 5, 1)]], ([], []), [(none, [], [], [])], [(100, 2, 4)], [], 0)
set_option maxRecDepth 100000 in
theorem S_217 : aSpec wd ct_217 := bChk_ok wx_ok btX1_choose (nds := [((nat_lit 15), [lcn_223, lcn_61, lcn_82, lcn_9, lcn_109], [], [sl_224, sl_225], [], (0, []))]) (fk := []) (rk := (1, [])) (sp := 32768) (fuel := 3000) (by decide +kernel) lk_n odX1_choose
def lcn_226 : Nat × aAg := ((nat_lit 3), .inl [((.negSucc (nat_lit 0)), (.negSucc (nat_lit 0)), (nat_lit 1))])
set_option maxRecDepth 100000 in
theorem btX1_solve : bTab oX1_solve tX1_solve := ⟨ofX1_solve, by decide +kernel⟩
def ct_218 : aCt := (mX1_solve, [.inr (.inl [100]), .inl [(0, 0, 1)], .inl [(0, 5, 1)]], ([], []), [(none, [], [], [])], [(100, 2, 4), (103, 0, 288)], [], 1)
set_option maxRecDepth 100000 in
theorem S_218 : aSpec wd ct_218 := bChk_ok wx_ok btX1_solve (nds := [((nat_lit 12), [lcn_223, lcn_61, lcn_82, lcn_226], [], [], [], (0, []))]) (fk := []) (rk := (1, [])) (sp := 4096) (fuel := 3000) (by decide +kernel) (lk_c ml_1_28 S_216 (lk_c ml_1_44 S_217 lk_n)) odX1_solve
def ct_219 : aCt := (mX2_isSent, [.inr (.inl [86]), .inl [(0, 0, 1)]], ([], []), [(some (.inl [(0, 0, 1)]), [], [], []), (some (.inl [(1, 1, 1)]), [], [], [])], [], [], 0)
set_option maxRecDepth 100000 in
theorem S_219 : aSpec wd ct_219 := bChk_ok wx_ok btX2_isSent (nds := []) (fk := []) (rk := (1, [])) (sp := 0) (fuel := 3000) (by decide +kernel) lk_n odX2_isSent
def ct_220 : aCt := (mX4_boxLength, [.inr (.inl [2]), .inl [(0, 0, 1)]], ([], []), [(some (.inl [(-1000, 1000, 1)]), [], [], [])], [], [], 0)
set_option maxRecDepth 100000 in
theorem S_220 : aSpec wd ct_220 := bChk_ok wx_ok btX4_boxLength (nds := []) (fk := []) (rk := (1, [])) (sp := 0) (fuel := 3000) (by decide +kernel) lk_n odX4_boxLength
def ct_221 : aCt := (mX7_hearerOf, [.inr (.inl [92]), .inl aTop, .inl [(-1000, 1000, 1)], .inl [(0, 9999, 1)]], ([((2, 4), [(1, 7, 1)])], [((92, 0), 2)]), [(some (.inl [(-2, -2, 1), (0, 6, 1)]), [], [], []), (some (.inl [(-2, -2, 1)]), [], [], [])], [(92, 2, 4)], [], 2)
set_option maxRecDepth 100000 in
theorem S_221 : aSpec wd ct_221 := bChk_ok wx_ok btX7_hearerOf (nds := [((nat_lit 32), [lcn_86, lcn_76, lcn_54, lcn_93, lcn_88, lcn_94, lcn_95], [], [sl_105, sl_96], [((92, 0), 2)], (7, [(5, -1)]))]) (fk := []) (rk := (8, [])) (sp := 4294967296) (fuel := 3000) (by decide +kernel) (lk_c ml_7_50 S_81 (lk_c ml_7_54 S_91 (lk_c ml_7_54 S_92 (lk_c ml_7_60 S_94 lk_n)))) odX7_hearerOf
def ct_222 : aCt := (mX6_findFirstDays, [.inr (.inl [94]), .inl [(0, 3, 1)], .inl [(0, 6, 1)], .inl aTop], ([((2, 4), [(1, 7, 1)])], [((94, 0), 2)]), [(none, [], [], [])], [(95, 0, 7)], [], 2)
set_option maxRecDepth 100000 in
theorem S_222 : aSpec wd ct_222 := bChk_ok wx_ok btX6_findFirstDays (nds := [((nat_lit 39), [lcn_99, lcn_182, lcn_69, lcn_181, lcn_183, lcn_184, lcn_95], [], [sl_105], [((94, 0), 2)], (111, [(5, -14)])), ((nat_lit 57), [lcn_99, lcn_182, lcn_69, lcn_181, lcn_183, lcn_184, lcn_185, lcn_186], [], [sl_105], [((94, 0), 2)], (110, [(5, -14), (6, -1)]))]) (fk := []) (rk := (112, [])) (sp := 144115737831669760) (fuel := 3000) (by decide +kernel) (lk_c ml_6_38 S_175 (lk_c ml_6_64 S_103 (lk_c ml_6_70 S_177 (lk_c ml_6_70 S_180 lk_n)))) odX6_findFirstDays
def ct_223 : aCt := (mX6_firstDayAt, [.inr (.inl [94]), .inl [(0, 3, 1)], .inl [(0, 6, 1)], .inl [(0, 6, 1)], .inl aTop], ([((2, 4), [(1, 7, 1)])], [((94, 0), 2)]), [(some (.inl aTop), [], [], []), (some (.inl [(-2, -2, 1)]), [], [], [])], [(95, 0, 7)], [], 3)
set_option maxRecDepth 100000 in
theorem S_223 : aSpec wd ct_223 := bChk_ok wx_ok btX6_firstDayAt (nds := []) (fk := []) (rk := (1, [])) (sp := 0) (fuel := 3000) (by decide +kernel) (lk_c ml_6_84 S_222 lk_n) odX6_firstDayAt
def ct_224 : aCt := (mX6_dayOfBringing, [.inr (.inl [94]), .inl [(0, 0, 1)], .inl [(0, 0, 1)]], ([((2, 4), [(1, 7, 1)]), ((2, 6), [(5, 5, 1)])], [((92, 0), 2), ((94, 0), 2)]), [(some (.inl aTop), [], [((94, 4), [(0, 6, 1)])], []), (some (.inl [(-2, -2, 1)]), [], [], [])], [(92, 2, 4), (94, 4, 7), (95, 0, 7)], [], 4)
set_option maxRecDepth 100000 in
theorem S_224 : aSpec wd ct_224 := bChk_ok wx_ok btX6_dayOfBringing (nds := []) (fk := []) (rk := (1, [])) (sp := 0) (fuel := 3000) (by decide +kernel) (lk_c ml_6_96 S_219 (lk_c ml_6_115 S_220 (lk_c ml_6_136 S_223 (lk_c ml_6_122 S_221 lk_n)))) odX6_dayOfBringing
def ct_225 : aCt := (mX6_dayOfBringing, [.inr (.inl [94]), .inl [(0, 0, 1)], .inl [(0, 0, 1)]], ([((2, 4), [(1, 7, 1)]), ((2, 6), [(4, 4, 1)])], [((92, 0), 2), ((94, 0), 2)]), [(some (.inl aTop), [], [((94, 4), [(0, 6, 1)])], []), (some (.inl [(-2, -2, 1)]), [], [], [])], [(92, 2, 4), (94, 4, 7), (95, 0, 7)], [], 4)
set_option maxRecDepth 100000 in
theorem S_225 : aSpec wd ct_225 := bChk_ok wx_ok btX6_dayOfBringing (nds := []) (fk := []) (rk := (1, [])) (sp := 0) (fuel := 3000) (by decide +kernel) (lk_c ml_6_96 S_219 (lk_c ml_6_115 S_220 (lk_c ml_6_136 S_223 (lk_c ml_6_122 S_221 lk_n)))) odX6_dayOfBringing
def ct_226 : aCt := (mX6_dayOfBringing, [.inr (.inl [94]), .inl [(0, 0, 1)], .inl [(0, 0, 1)]], ([((2, 4), [(1, 7, 1)]), ((2, 6), [(3, 3, 1)])], [((92, 0), 2), ((94, 0), 2)]), [(some (.inl aTop), [], [((94, 4), [(0, 6, 1)])], []), (some (.inl [(-2, -2, 1)]), [], [], [])], [(92, 2, 4), (94, 4, 7), (95, 0, 7)], [], 4)
set_option maxRecDepth 100000 in
theorem S_226 : aSpec wd ct_226 := bChk_ok wx_ok btX6_dayOfBringing (nds := []) (fk := []) (rk := (1, [])) (sp := 0) (fuel := 3000) (by decide +kernel) (lk_c ml_6_96 S_219 (lk_c ml_6_115 S_220 (lk_c ml_6_136 S_223 (lk_c ml_6_122 S_221 lk_n)))) odX6_dayOfBringing
def ct_227 : aCt := (mX6_dayOfBringing, [.inr (.inl [94]), .inl [(0, 0, 1)], .inl [(0, 0, 1)]], ([((2, 4), [(1, 7, 1)]), ((2, 6), [(2, 2, 1)])], [((92, 0), 2), ((94, 0), 2)]), [(some (.inl aTop), [], [((94, 4), [(0, 6, 1)])], []), (some (.inl [(-2, -2, 1)]), [], [], [])], [(92, 2, 4), (94, 4, 7), (95, 0, 7)], [], 4)
set_option maxRecDepth 100000 in
theorem S_227 : aSpec wd ct_227 := bChk_ok wx_ok btX6_dayOfBringing (nds := []) (fk := []) (rk := (1, [])) (sp := 0) (fuel := 3000) (by decide +kernel) (lk_c ml_6_96 S_219 (lk_c ml_6_115 S_220 (lk_c ml_6_136 S_223 (lk_c ml_6_122 S_221 lk_n)))) odX6_dayOfBringing
def ct_228 : aCt := (mX6_dayOfBringing, [.inr (.inl [94]), .inl [(0, 0, 1)], .inl [(0, 0, 1)]], ([((2, 4), [(1, 7, 1)]), ((2, 6), [(1, 1, 1)])], [((92, 0), 2), ((94, 0), 2)]), [(some (.inl aTop), [], [((94, 4), [(0, 6, 1)])], []), (some (.inl [(-2, -2, 1)]), [], [], [])], [(92, 2, 4), (94, 4, 7), (95, 0, 7)], [], 4)
set_option maxRecDepth 100000 in
theorem S_228 : aSpec wd ct_228 := bChk_ok wx_ok btX6_dayOfBringing (nds := []) (fk := []) (rk := (1, [])) (sp := 0) (fuel := 3000) (by decide +kernel) (lk_c ml_6_96 S_219 (lk_c ml_6_115 S_220 (lk_c ml_6_136 S_223 (lk_c ml_6_122 S_221 lk_n)))) odX6_dayOfBringing
def ct_229 : aCt := (mX6_dayOfBringing, [.inr (.inl [94]), .inl [(0, 4, 1)], .inl [(0, 7, 1)]], ([((2, 4), [(1, 7, 1)]), ((2, 6), [(5, 5, 1)])], [((92, 0), 2), ((94, 0), 2)]), [(some (.inl aTop), [], [((94, 4), [(0, 6, 1)])], []), (some (.inl [(-2, -2, 1)]), [], [], [])], [(92, 2, 4), (94, 4, 7), (95, 0, 7)], [], 4)
set_option maxRecDepth 100000 in
theorem S_229 : aSpec wd ct_229 := bChk_ok wx_ok btX6_dayOfBringing (nds := []) (fk := []) (rk := (1, [])) (sp := 0) (fuel := 3000) (by decide +kernel) (lk_c ml_6_96 S_113 (lk_c ml_6_115 S_88 (lk_c ml_6_136 S_223 (lk_c ml_6_122 S_221 lk_n)))) odX6_dayOfBringing
def ct_230 : aCt := (mX6_dayOfBringing, [.inr (.inl [94]), .inl [(0, 3, 1)], .inl [(0, 7, 1)]], ([((2, 4), [(1, 7, 1)]), ((2, 6), [(4, 4, 1)])], [((92, 0), 2), ((94, 0), 2)]), [(some (.inl aTop), [], [((94, 4), [(0, 6, 1)])], []), (some (.inl [(-2, -2, 1)]), [], [], [])], [(92, 2, 4), (94, 4, 7), (95, 0, 7)], [], 4)
set_option maxRecDepth 100000 in
theorem S_230 : aSpec wd ct_230 := bChk_ok wx_ok btX6_dayOfBringing (nds := []) (fk := []) (rk := (1, [])) (sp := 0) (fuel := 3000) (by decide +kernel) (lk_c ml_6_96 S_113 (lk_c ml_6_115 S_88 (lk_c ml_6_136 S_223 (lk_c ml_6_122 S_221 lk_n)))) odX6_dayOfBringing
def ct_231 : aCt := (mX6_dayOfBringing, [.inr (.inl [94]), .inl [(0, 2, 1)], .inl [(0, 7, 1)]], ([((2, 4), [(1, 7, 1)]), ((2, 6), [(3, 3, 1)])], [((92, 0), 2), ((94, 0), 2)]), [(some (.inl aTop), [], [((94, 4), [(0, 6, 1)])], []), (some (.inl [(-2, -2, 1)]), [], [], [])], [(92, 2, 4), (94, 4, 7), (95, 0, 7)], [], 4)
set_option maxRecDepth 100000 in
theorem S_231 : aSpec wd ct_231 := bChk_ok wx_ok btX6_dayOfBringing (nds := []) (fk := []) (rk := (1, [])) (sp := 0) (fuel := 3000) (by decide +kernel) (lk_c ml_6_96 S_113 (lk_c ml_6_115 S_88 (lk_c ml_6_136 S_223 (lk_c ml_6_122 S_221 lk_n)))) odX6_dayOfBringing
def ct_232 : aCt := (mX6_dayOfBringing, [.inr (.inl [94]), .inl [(0, 1, 1)], .inl [(0, 7, 1)]], ([((2, 4), [(1, 7, 1)]), ((2, 6), [(2, 2, 1)])], [((92, 0), 2), ((94, 0), 2)]), [(some (.inl aTop), [], [((94, 4), [(0, 6, 1)])], []), (some (.inl [(-2, -2, 1)]), [], [], [])], [(92, 2, 4), (94, 4, 7), (95, 0, 7)], [], 4)
set_option maxRecDepth 100000 in
theorem S_232 : aSpec wd ct_232 := bChk_ok wx_ok btX6_dayOfBringing (nds := []) (fk := []) (rk := (1, [])) (sp := 0) (fuel := 3000) (by decide +kernel) (lk_c ml_6_96 S_113 (lk_c ml_6_115 S_88 (lk_c ml_6_136 S_223 (lk_c ml_6_122 S_221 lk_n)))) odX6_dayOfBringing
def ct_233 : aCt := (mX6_dayOfBringing, [.inr (.inl [94]), .inl [(0, 0, 1)], .inl [(0, 7, 1)]], ([((2, 4), [(1, 7, 1)]), ((2, 6), [(1, 1, 1)])], [((92, 0), 2), ((94, 0), 2)]), [(some (.inl aTop), [], [((94, 4), [(0, 6, 1)])], []), (some (.inl [(-2, -2, 1)]), [], [], [])], [(92, 2, 4), (94, 4, 7), (95, 0, 7)], [], 4)
set_option maxRecDepth 100000 in
theorem S_233 : aSpec wd ct_233 := bChk_ok wx_ok btX6_dayOfBringing (nds := []) (fk := []) (rk := (1, [])) (sp := 0) (fuel := 3000) (by decide +kernel) (lk_c ml_6_96 S_113 (lk_c ml_6_115 S_88 (lk_c ml_6_136 S_223 (lk_c ml_6_122 S_221 lk_n)))) odX6_dayOfBringing
def lcn_227 : Nat × aAg := ((nat_lit 2), .inl [((.ofNat (nat_lit 0)), (.ofNat (nat_lit 0)), (nat_lit 1))])
set_option maxRecDepth 100000 in
theorem btX1_firstBest : bTab oX1_firstBest tX1_firstBest := ⟨ofX1_firstBest, by decide +kernel⟩
def ct_234 : aCt := (mX1_firstBest, [.inr (.inl [100]), .inl [(0, 7, 1)], .inl [(0, 0, 1)], .inl [(0, 0, 1)]], ([], []), [(some (.inl [(-2, -2, 1)]), [], [], [])], [], [], 0)
set_option maxRecDepth 100000 in
theorem S_234 : aSpec wd ct_234 := bChk_ok wx_ok btX1_firstBest (nds := [((nat_lit 3), [lcn_223, lcn_187, lcn_227, lcn_9, lcn_109], [], [], [], (0, []))]) (fk := []) (rk := (1, [])) (sp := 8) (fuel := 3000) (by decide +kernel) lk_n odX1_firstBest
def lcn_228 : Nat × aAg := ((nat_lit 1), .inl [((.ofNat (nat_lit 1)), (.ofNat (nat_lit 8)), (nat_lit 1))])
def lcn_229 : Nat × aAg := ((nat_lit 4), .inl [((.ofNat (nat_lit 0)), (.ofNat (nat_lit 8)), (nat_lit 1))])
def ct_235 : aCt := (mX1_choose, [.inr (.inl [100]), .inl [(1, 8, 1)], .inl [(0, 0, 1)]], ([], []), [(none, [], [], [])], [(100, 2, 4), (102, 0, 8)], [], 1)
set_option maxRecDepth 100000 in
theorem S_235 : aSpec wd ct_235 := bChk_ok wx_ok btX1_choose (nds := [((nat_lit 15), [lcn_223, lcn_228, lcn_227, lcn_9, lcn_229], [], [sl_224, sl_225], [], (8, [(1, -1)]))]) (fk := []) (rk := (9, [])) (sp := 32768) (fuel := 3000) (by decide +kernel) (lk_c ml_1_49 S_234 lk_n) odX1_choose
def lcn_230 : Nat × aAg := ((nat_lit 3), .inl [((.negSucc (nat_lit 0)), (.ofNat (nat_lit 7)), (nat_lit 1))])
def lcn_231 : Nat × aAg := ((nat_lit 6), .inl [((.ofNat (nat_lit 0)), (.ofNat (nat_lit 0)), (nat_lit 1))])
def ct_236 : aCt := (mX1_solve, [.inr (.inl [100]), .inl [(1, 8, 1)], .inl [(0, 0, 1)]], ([], []), [(none, [], [], [])], [(100, 2, 4), (102, 0, 8), (103, 0, 288)], [], 2)
set_option maxRecDepth 100000 in
theorem S_236 : aSpec wd ct_236 := bChk_ok wx_ok btX1_solve (nds := [((nat_lit 12), [lcn_223, lcn_228, lcn_227, lcn_230], [], [], [], (9, [(1, 5)])), ((nat_lit 19), [lcn_223, lcn_228, lcn_227, lcn_126, lcn_138], [], [], [], (8, [(1, 5), (2, -2)])), ((nat_lit 46), [lcn_223, lcn_228, lcn_227, lcn_126, lcn_109, lcn_192, lcn_231], [], [], [], (7, [(1, 5)]))]) (fk := []) (rk := (45, [])) (sp := 70368744706048) (fuel := 3000) (by decide +kernel) (lk_c ml_1_28 S_216 (lk_c ml_1_44 S_235 lk_n)) odX1_solve
set_option maxRecDepth 100000 in
theorem btX1_worth : bTab oX1_worth tX1_worth := ⟨ofX1_worth, by decide +kernel⟩
def ct_237 : aCt := (mX1_worth, [.inr (.inl [100]), .inl [(0, 7, 1)], .inl [(0, 0, 1)], .inl [(0, 1, 1)]], ([], []), [(some (.inl aTop), [], [], []), (some (.inl [(-2, -2, 1)]), [], [], [])], [], [], 0)
set_option maxRecDepth 100000 in
theorem S_237 : aSpec wd ct_237 := bChk_ok wx_ok btX1_worth (nds := []) (fk := []) (rk := (1, [])) (sp := 0) (fuel := 3000) (by decide +kernel) lk_n odX1_worth
def ct_238 : aCt := (mX1_firstBest, [.inr (.inl [100]), .inl [(0, 7, 1)], .inl [(1, 1, 1)], .inl [(0, 1, 1)]], ([], []), [(some (.inl [(-2, -2, 1)]), [], [], []), (some (.inl [(0, 0, 1)]), [], [], [])], [], [], 1)
set_option maxRecDepth 100000 in
theorem S_238 : aSpec wd ct_238 := bChk_ok wx_ok btX1_firstBest (nds := [((nat_lit 3), [lcn_223, lcn_187, lcn_131, lcn_110, lcn_138], [], [], [], (1, [(2, -1)]))]) (fk := []) (rk := (2, [])) (sp := 8) (fuel := 3000) (by decide +kernel) (lk_c ml_1_34 S_237 lk_n) odX1_firstBest
def ct_239 : aCt := (mX1_choose, [.inr (.inl [100]), .inl [(1, 8, 1)], .inl [(1, 1, 1)]], ([], []), [(none, [], [], [])], [(100, 2, 4), (102, 0, 8)], [], 2)
set_option maxRecDepth 100000 in
theorem S_239 : aSpec wd ct_239 := bChk_ok wx_ok btX1_choose (nds := [((nat_lit 15), [lcn_223, lcn_228, lcn_131, lcn_110, lcn_229], [], [], [], (8, [(2, -1)]))]) (fk := []) (rk := (9, [])) (sp := 32768) (fuel := 3000) (by decide +kernel) (lk_c ml_1_49 S_238 lk_n) odX1_choose
def ct_240 : aCt := (mX1_solve, [.inr (.inl [100]), .inl [(1, 8, 1)], .inl [(1, 1, 1)]], ([], []), [(none, [], [], [])], [(100, 2, 4), (102, 0, 8), (103, 0, 288)], [], 3)
set_option maxRecDepth 100000 in
theorem S_240 : aSpec wd ct_240 := bChk_ok wx_ok btX1_solve (nds := [((nat_lit 12), [lcn_223, lcn_228, lcn_131, lcn_230], [], [], [], (19, [(1, 10)])), ((nat_lit 19), [lcn_223, lcn_228, lcn_131, lcn_126, lcn_137], [], [], [], (18, [(1, 10), (2, -3)])), ((nat_lit 46), [lcn_223, lcn_228, lcn_131, lcn_126, lcn_138, lcn_192, lcn_157], [], [], [], (17, [(1, 10), (2, -3), (4, -1)]))]) (fk := []) (rk := (90, [])) (sp := 70368744706048) (fuel := 3000) (by decide +kernel) (lk_c ml_1_28 S_216 (lk_c ml_1_44 S_239 (lk_c ml_1_34 S_237 lk_n))) odX1_solve
def ct_241 : aCt := (mX1_worth, [.inr (.inl [100]), .inl [(0, 7, 1)], .inl [(0, 1, 1)], .inl [(0, 3, 1)]], ([], []), [(some (.inl aTop), [], [], []), (some (.inl [(-2, -2, 1)]), [], [], [])], [], [], 0)
set_option maxRecDepth 100000 in
theorem S_241 : aSpec wd ct_241 := bChk_ok wx_ok btX1_worth (nds := []) (fk := []) (rk := (1, [])) (sp := 0) (fuel := 3000) (by decide +kernel) lk_n odX1_worth
def lcn_232 : Nat × aAg := ((nat_lit 2), .inl [((.ofNat (nat_lit 2)), (.ofNat (nat_lit 2)), (nat_lit 1))])
def ct_242 : aCt := (mX1_firstBest, [.inr (.inl [100]), .inl [(0, 7, 1)], .inl [(2, 2, 1)], .inl [(0, 3, 1)]], ([], []), [(some (.inl [(0, 1, 1)]), [], [], []), (some (.inl [(-2, -2, 1)]), [], [], [])], [], [], 1)
set_option maxRecDepth 100000 in
theorem S_242 : aSpec wd ct_242 := bChk_ok wx_ok btX1_firstBest (nds := [((nat_lit 3), [lcn_223, lcn_187, lcn_232, lcn_115, lcn_137], [], [], [], (2, [(2, -1)]))]) (fk := []) (rk := (3, [])) (sp := 8) (fuel := 3000) (by decide +kernel) (lk_c ml_1_34 S_241 lk_n) odX1_firstBest
def ct_243 : aCt := (mX1_choose, [.inr (.inl [100]), .inl [(1, 8, 1)], .inl [(2, 2, 1)]], ([], []), [(none, [], [], [])], [(100, 2, 4), (102, 0, 8)], [], 2)
set_option maxRecDepth 100000 in
theorem S_243 : aSpec wd ct_243 := bChk_ok wx_ok btX1_choose (nds := [((nat_lit 15), [lcn_223, lcn_228, lcn_232, lcn_115, lcn_229], [], [], [], (8, [(2, -1)]))]) (fk := []) (rk := (9, [])) (sp := 32768) (fuel := 3000) (by decide +kernel) (lk_c ml_1_49 S_242 lk_n) odX1_choose
def lcn_233 : Nat × aAg := ((nat_lit 6), .inl [((.ofNat (nat_lit 0)), (.ofNat (nat_lit 2)), (nat_lit 1))])
def ct_244 : aCt := (mX1_solve, [.inr (.inl [100]), .inl [(1, 8, 1)], .inl [(2, 2, 1)]], ([], []), [(none, [], [], [])], [(100, 2, 4), (102, 0, 8), (103, 0, 288)], [], 3)
set_option maxRecDepth 100000 in
theorem S_244 : aSpec wd ct_244 := bChk_ok wx_ok btX1_solve (nds := [((nat_lit 12), [lcn_223, lcn_228, lcn_232, lcn_230], [], [], [], (41, [(1, 21)])), ((nat_lit 19), [lcn_223, lcn_228, lcn_232, lcn_126, lcn_135], [], [], [], (40, [(1, 21), (2, -4)])), ((nat_lit 46), [lcn_223, lcn_228, lcn_232, lcn_126, lcn_136, lcn_192, lcn_233], [], [], [], (39, [(1, 21), (2, -4), (4, -1)]))]) (fk := []) (rk := (189, [])) (sp := 70368744706048) (fuel := 3000) (by decide +kernel) (lk_c ml_1_28 S_216 (lk_c ml_1_44 S_243 (lk_c ml_1_34 S_241 lk_n))) odX1_solve
def ct_245 : aCt := (mX1_worth, [.inr (.inl [100]), .inl [(0, 7, 1)], .inl [(0, 2, 1)], .inl [(0, 7, 1)]], ([], []), [(some (.inl aTop), [], [], []), (some (.inl [(-2, -2, 1)]), [], [], [])], [], [], 0)
set_option maxRecDepth 100000 in
theorem S_245 : aSpec wd ct_245 := bChk_ok wx_ok btX1_worth (nds := []) (fk := []) (rk := (1, [])) (sp := 0) (fuel := 3000) (by decide +kernel) lk_n odX1_worth
def ct_246 : aCt := (mX1_firstBest, [.inr (.inl [100]), .inl [(0, 7, 1)], .inl [(3, 3, 1)], .inl [(0, 7, 1)]], ([], []), [(some (.inl [(0, 2, 1)]), [], [], []), (some (.inl [(-2, -2, 1)]), [], [], [])], [], [], 1)
set_option maxRecDepth 100000 in
theorem S_246 : aSpec wd ct_246 := bChk_ok wx_ok btX1_firstBest (nds := [((nat_lit 3), [lcn_223, lcn_187, lcn_62, lcn_126, lcn_136], [], [], [], (3, [(2, -1)]))]) (fk := []) (rk := (4, [])) (sp := 8) (fuel := 3000) (by decide +kernel) (lk_c ml_1_34 S_245 lk_n) odX1_firstBest
def ct_247 : aCt := (mX1_choose, [.inr (.inl [100]), .inl [(1, 8, 1)], .inl [(3, 3, 1)]], ([], []), [(none, [], [], [])], [(100, 2, 4), (102, 0, 8)], [], 2)
set_option maxRecDepth 100000 in
theorem S_247 : aSpec wd ct_247 := bChk_ok wx_ok btX1_choose (nds := [((nat_lit 15), [lcn_223, lcn_228, lcn_62, lcn_126, lcn_229], [], [], [], (8, [(2, -1)]))]) (fk := []) (rk := (9, [])) (sp := 32768) (fuel := 3000) (by decide +kernel) (lk_c ml_1_49 S_246 lk_n) odX1_choose
def lcn_234 : Nat × aAg := ((nat_lit 6), .inl [((.ofNat (nat_lit 0)), (.ofNat (nat_lit 3)), (nat_lit 1))])
def ct_248 : aCt := (mX1_solve, [.inr (.inl [100]), .inl [(1, 8, 1)], .inl [(3, 3, 1)]], ([], []), [(none, [], [], [])], [(100, 2, 4), (102, 0, 8), (103, 0, 288)], [], 3)
set_option maxRecDepth 100000 in
theorem S_248 : aSpec wd ct_248 := bChk_ok wx_ok btX1_solve (nds := [((nat_lit 12), [lcn_223, lcn_228, lcn_62, lcn_230], [], [], [], (91, [(1, 46)])), ((nat_lit 19), [lcn_223, lcn_228, lcn_62, lcn_126, lcn_229], [], [], [], (90, [(1, 46), (2, -5)])), ((nat_lit 46), [lcn_223, lcn_228, lcn_62, lcn_126, lcn_132, lcn_192, lcn_234], [], [], [], (89, [(1, 46), (2, -5), (4, -1)]))]) (fk := []) (rk := (414, [])) (sp := 70368744706048) (fuel := 3000) (by decide +kernel) (lk_c ml_1_28 S_216 (lk_c ml_1_44 S_247 (lk_c ml_1_34 S_245 lk_n))) odX1_solve
def ct_249 : aCt := (mX1_worth, [.inr (.inl [100]), .inl [(0, 7, 1)], .inl [(0, 3, 1)], .inl [(0, 15, 1)]], ([], []), [(some (.inl aTop), [], [], []), (some (.inl [(-2, -2, 1)]), [], [], [])], [], [], 0)
set_option maxRecDepth 100000 in
theorem S_249 : aSpec wd ct_249 := bChk_ok wx_ok btX1_worth (nds := []) (fk := []) (rk := (1, [])) (sp := 0) (fuel := 3000) (by decide +kernel) lk_n odX1_worth
def ct_250 : aCt := (mX1_firstBest, [.inr (.inl [100]), .inl [(0, 7, 1)], .inl [(4, 4, 1)], .inl [(0, 15, 1)]], ([], []), [(some (.inl [(0, 3, 1)]), [], [], []), (some (.inl [(-2, -2, 1)]), [], [], [])], [], [], 1)
set_option maxRecDepth 100000 in
theorem S_250 : aSpec wd ct_250 := bChk_ok wx_ok btX1_firstBest (nds := [((nat_lit 3), [lcn_223, lcn_187, lcn_58, lcn_213, lcn_135], [], [], [], (4, [(2, -1)]))]) (fk := []) (rk := (5, [])) (sp := 8) (fuel := 3000) (by decide +kernel) (lk_c ml_1_34 S_249 lk_n) odX1_firstBest
def ct_251 : aCt := (mX1_choose, [.inr (.inl [100]), .inl [(1, 8, 1)], .inl [(4, 4, 1)]], ([], []), [(none, [], [], [])], [(100, 2, 4), (102, 0, 8)], [], 2)
set_option maxRecDepth 100000 in
theorem S_251 : aSpec wd ct_251 := bChk_ok wx_ok btX1_choose (nds := [((nat_lit 15), [lcn_223, lcn_228, lcn_58, lcn_213, lcn_229], [], [], [], (8, [(2, -1)]))]) (fk := []) (rk := (9, [])) (sp := 32768) (fuel := 3000) (by decide +kernel) (lk_c ml_1_49 S_250 lk_n) odX1_choose
def lcn_235 : Nat × aAg := ((nat_lit 4), .inl [((.ofNat (nat_lit 0)), (.ofNat (nat_lit 16)), (nat_lit 1))])
def lcn_236 : Nat × aAg := ((nat_lit 4), .inl [((.ofNat (nat_lit 0)), (.ofNat (nat_lit 15)), (nat_lit 1))])
def lcn_237 : Nat × aAg := ((nat_lit 6), .inl [((.ofNat (nat_lit 0)), (.ofNat (nat_lit 4)), (nat_lit 1))])
def ct_252 : aCt := (mX1_solve, [.inr (.inl [100]), .inl [(1, 8, 1)], .inl [(4, 4, 1)]], ([], []), [(none, [], [], [])], [(100, 2, 4), (102, 0, 8), (103, 0, 288)], [], 3)
set_option maxRecDepth 100000 in
theorem S_252 : aSpec wd ct_252 := bChk_ok wx_ok btX1_solve (nds := [((nat_lit 12), [lcn_223, lcn_228, lcn_58, lcn_230], [], [], [], (205, [(1, 103)])), ((nat_lit 19), [lcn_223, lcn_228, lcn_58, lcn_126, lcn_235], [], [], [], (204, [(1, 103), (2, -6)])), ((nat_lit 46), [lcn_223, lcn_228, lcn_58, lcn_126, lcn_236, lcn_192, lcn_237], [], [], [], (203, [(1, 103), (2, -6), (4, -1)]))]) (fk := []) (rk := (927, [])) (sp := 70368744706048) (fuel := 3000) (by decide +kernel) (lk_c ml_1_28 S_216 (lk_c ml_1_44 S_251 (lk_c ml_1_34 S_249 lk_n))) odX1_solve
def ct_253 : aCt := (mX1_worth, [.inr (.inl [100]), .inl [(0, 7, 1)], .inl [(0, 4, 1)], .inl [(0, 31, 1)]], ([], []), [(some (.inl aTop), [], [], []), (some (.inl [(-2, -2, 1)]), [], [], [])], [], [], 0)
set_option maxRecDepth 100000 in
theorem S_253 : aSpec wd ct_253 := bChk_ok wx_ok btX1_worth (nds := []) (fk := []) (rk := (1, [])) (sp := 0) (fuel := 3000) (by decide +kernel) lk_n odX1_worth
def lcn_238 : Nat × aAg := ((nat_lit 2), .inl [((.ofNat (nat_lit 5)), (.ofNat (nat_lit 5)), (nat_lit 1))])
def ct_254 : aCt := (mX1_firstBest, [.inr (.inl [100]), .inl [(0, 7, 1)], .inl [(5, 5, 1)], .inl [(0, 31, 1)]], ([], []), [(some (.inl [(0, 4, 1)]), [], [], []), (some (.inl [(-2, -2, 1)]), [], [], [])], [], [], 1)
set_option maxRecDepth 100000 in
theorem S_254 : aSpec wd ct_254 := bChk_ok wx_ok btX1_firstBest (nds := [((nat_lit 3), [lcn_223, lcn_187, lcn_238, lcn_212, lcn_134], [], [], [], (5, [(2, -1)]))]) (fk := []) (rk := (6, [])) (sp := 8) (fuel := 3000) (by decide +kernel) (lk_c ml_1_34 S_253 lk_n) odX1_firstBest
def ct_255 : aCt := (mX1_choose, [.inr (.inl [100]), .inl [(1, 8, 1)], .inl [(5, 5, 1)]], ([], []), [(none, [], [], [])], [(100, 2, 4), (102, 0, 8)], [], 2)
set_option maxRecDepth 100000 in
theorem S_255 : aSpec wd ct_255 := bChk_ok wx_ok btX1_choose (nds := [((nat_lit 15), [lcn_223, lcn_228, lcn_238, lcn_212, lcn_229], [], [], [], (8, [(2, -1)]))]) (fk := []) (rk := (9, [])) (sp := 32768) (fuel := 3000) (by decide +kernel) (lk_c ml_1_49 S_254 lk_n) odX1_choose
def lcn_239 : Nat × aAg := ((nat_lit 4), .inl [((.ofNat (nat_lit 0)), (.ofNat (nat_lit 32)), (nat_lit 1))])
def lcn_240 : Nat × aAg := ((nat_lit 4), .inl [((.ofNat (nat_lit 0)), (.ofNat (nat_lit 31)), (nat_lit 1))])
def lcn_241 : Nat × aAg := ((nat_lit 6), .inl [((.ofNat (nat_lit 0)), (.ofNat (nat_lit 5)), (nat_lit 1))])
def ct_256 : aCt := (mX1_solve, [.inr (.inl [100]), .inl [(1, 8, 1)], .inl [(5, 5, 1)]], ([], []), [(none, [], [], [])], [(100, 2, 4), (102, 0, 8), (103, 0, 288)], [], 3)
set_option maxRecDepth 100000 in
theorem S_256 : aSpec wd ct_256 := bChk_ok wx_ok btX1_solve (nds := [((nat_lit 12), [lcn_223, lcn_228, lcn_238, lcn_230], [], [], [], (463, [(1, 232)])), ((nat_lit 19), [lcn_223, lcn_228, lcn_238, lcn_126, lcn_239], [], [], [], (462, [(1, 232), (2, -7)])), ((nat_lit 46), [lcn_223, lcn_228, lcn_238, lcn_126, lcn_240, lcn_192, lcn_241], [], [], [], (461, [(1, 232), (2, -7), (4, -1)]))]) (fk := []) (rk := (2088, [])) (sp := 70368744706048) (fuel := 3000) (by decide +kernel) (lk_c ml_1_28 S_216 (lk_c ml_1_44 S_255 (lk_c ml_1_34 S_253 lk_n))) odX1_solve
def sl_242 : (Nat × Nat) × aI := (((nat_lit 2), (nat_lit 7)), [((.ofNat (nat_lit 1)), (.ofNat (nat_lit 8)), (nat_lit 1))])
def lcn_243 : Nat × aAg := ((nat_lit 2), .inl [((.ofNat (nat_lit 0)), (.ofNat (nat_lit 3)), (nat_lit 1))])
def lcn_244 : Nat × aAg := ((nat_lit 2), .inl [((.ofNat (nat_lit 0)), (.ofNat (nat_lit 2)), (nat_lit 1))])
def lcn_245 : Nat × aAg := ((nat_lit 2), .inl [((.ofNat (nat_lit 0)), (.ofNat (nat_lit 1)), (nat_lit 1))])
def sl_246 : (Nat × Nat) × aI := (((nat_lit 2), (nat_lit 6)), [((.ofNat (nat_lit 0)), (.ofNat (nat_lit 0)), (nat_lit 1))])
def lcn_247 : Nat × aAg := ((nat_lit 1), .inl [((.ofNat (nat_lit 1)), (.ofNat (nat_lit 7)), (nat_lit 1))])
def sl_248 : (Nat × Nat) × aI := (((nat_lit 2), (nat_lit 7)), [((.ofNat (nat_lit 2)), (.ofNat (nat_lit 8)), (nat_lit 1))])
set_option maxRecDepth 100000 in
theorem btX11_solveMatch : bTab oX11_solveMatch tX11_solveMatch := ⟨ofX11_solveMatch, by decide +kernel⟩
def ct_257 : aCt := (mX11_solveMatch, [.inr (.inl [0])], ([((2, 4), [(1, 7, 1)])], [((0, 3), 2), ((92, 0), 2), ((94, 0), 2)]), [(none, [], [], [])], [(92, 2, 4), (94, 4, 7), (95, 0, 7), (100, 2, 4), (101, 0, 40), (102, 0, 8), (103, 0, 288)], [], 5)
set_option maxRecDepth 100000 in
theorem S_257 : aSpec wd ct_257 := bChk_ok wx_ok btX11_solveMatch (nds := [((nat_lit 2), [lcn_103, lcn_61], [], [sl_105], [((0, 3), 2), ((92, 0), 2), ((94, 0), 2)], (63, [])), ((nat_lit 15), [lcn_103, lcn_61, lcn_227], [], [sl_105, sl_242], [((0, 3), 2), ((92, 0), 2), ((94, 0), 2)], (62, [])), ((nat_lit 15), [lcn_103, lcn_187, lcn_82], [], [sl_105, sl_193, sl_242], [((0, 3), 2), ((92, 0), 2), ((94, 0), 2)], (61, [(0, -7), (1, -1)])), ((nat_lit 15), [lcn_103, lcn_187, lcn_214], [], [sl_105, sl_196, sl_242], [((0, 3), 2), ((92, 0), 2), ((94, 0), 2)], (52, [(0, -6), (1, -1)])), ((nat_lit 15), [lcn_103, lcn_187, lcn_243], [], [sl_105, sl_199, sl_242], [((0, 3), 2), ((92, 0), 2), ((94, 0), 2)], (43, [(0, -5), (1, -1)])), ((nat_lit 15), [lcn_103, lcn_187, lcn_244], [], [sl_105, sl_202, sl_242], [((0, 3), 2), ((92, 0), 2), ((94, 0), 2)], (34, [(0, -4), (1, -1)])), ((nat_lit 15), [lcn_103, lcn_187, lcn_245], [], [sl_105, sl_204, sl_242], [((0, 3), 2), ((92, 0), 2), ((94, 0), 2)], (25, [(0, -3), (1, -1)])), ((nat_lit 2), [lcn_103, lcn_228, lcn_227], [], [sl_105, sl_246, sl_242], [((0, 3), 2), ((92, 0), 2), ((94, 0), 2)], (17, [(0, -2)])), ((nat_lit 2), [lcn_103, lcn_228, lcn_131], [], [sl_105, sl_204, sl_242], [((0, 3), 2), ((92, 0), 2), ((94, 0), 2)], (26, [(0, -3)])), ((nat_lit 15), [lcn_103, lcn_247, lcn_227], [], [sl_105, sl_246, sl_248], [((0, 3), 2), ((92, 0), 2), ((94, 0), 2)], (16, [(0, -2)])), ((nat_lit 2), [lcn_103, lcn_228, lcn_232], [], [sl_105, sl_202, sl_242], [((0, 3), 2), ((92, 0), 2), ((94, 0), 2)], (35, [(0, -4)])), ((nat_lit 2), [lcn_103, lcn_228, lcn_62], [], [sl_105, sl_199, sl_242], [((0, 3), 2), ((92, 0), 2), ((94, 0), 2)], (44, [(0, -5)])), ((nat_lit 2), [lcn_103, lcn_228, lcn_58], [], [sl_105, sl_196, sl_242], [((0, 3), 2), ((92, 0), 2), ((94, 0), 2)], (53, [(0, -6)])), ((nat_lit 2), [lcn_103, lcn_228, lcn_238], [], [sl_105, sl_193, sl_242], [((0, 3), 2), ((92, 0), 2), ((94, 0), 2)], (62, [(0, -7)]))]) (fk := [23]) (rk := (64, [])) (sp := 32772) (fuel := 3000) (by decide +kernel) (lk_c ml_11_283 S_224 (lk_c ml_11_283 S_225 (lk_c ml_11_283 S_226 (lk_c ml_11_283 S_227 (lk_c ml_11_283 S_228 (lk_c ml_11_404 S_218 (lk_c ml_11_283 S_233 (lk_c ml_11_404 S_236 (lk_c ml_11_404 S_240 (lk_c ml_11_404 S_244 (lk_c ml_11_404 S_248 (lk_c ml_11_404 S_252 (lk_c ml_11_404 S_256 (lk_c ml_11_283 S_232 (lk_c ml_11_283 S_231 (lk_c ml_11_283 S_230 (lk_c ml_11_283 S_229 lk_n))))))))))))))))) odX11_solveMatch
set_option maxRecDepth 100000 in
theorem btX11_match : bTab oX11_match tX11_match := ⟨ofX11_match, by decide +kernel⟩
def ct_258 : aCt := (mX11_match, [.inr (.inl [0])], ([], [((0, 3), 2), ((92, 0), 2), ((94, 0), 2)]), [(some (.inl aTop), [], [((0, 2), [(0, 0, 1)]), ((2, 4), [(1, 7, 1)])], []), (some (.inl [(-1, -1, 1)]), [], [((0, 2), [(1, 1, 1)]), ((2, 4), [(0, 0, 1)])], [])], [(0, 2, 3), (92, 2, 4), (94, 4, 7), (95, 0, 7), (100, 2, 4), (101, 0, 40), (102, 0, 8), (103, 0, 288)], [], 6)
set_option maxRecDepth 100000 in
theorem S_258 : aSpec wd ct_258 := bChk_ok wx_ok btX11_match (nds := []) (fk := []) (rk := (1, [])) (sp := 0) (fuel := 3000) (by decide +kernel) (lk_c ml_11_298 S_257 (lk_c ml_11_222 S_105 (lk_c ml_11_98 S_74 (lk_c ml_11_112 S_71 lk_n)))) odX11_match
set_option maxRecDepth 100000 in
theorem btX11_matchDays : bTab oX11_matchDays tX11_matchDays := ⟨ofX11_matchDays, by decide +kernel⟩
def ct_259 : aCt := (mX11_matchDays, [.inr (.inl [0])], ([], [((0, 3), 2), ((92, 0), 2), ((94, 0), 2)]), [(some (.inl aTop), [], [((0, 2), [(0, 0, 1)]), ((2, 4), [(1, 7, 1)])], []), (some (.inl [(-1, -1, 1)]), [], [((0, 2), [(1, 1, 1)]), ((2, 4), [(0, 0, 1)])], [])], [(0, 2, 3), (92, 2, 4), (94, 4, 7), (95, 0, 7), (100, 2, 4), (101, 0, 40), (102, 0, 8), (103, 0, 288)], [], 6)
set_option maxRecDepth 100000 in
theorem S_259 : aSpec wd ct_259 := bChk_ok wx_ok btX11_matchDays (nds := []) (fk := []) (rk := (1, [])) (sp := 0) (fuel := 3000) (by decide +kernel) (lk_c ml_11_298 S_257 (lk_c ml_11_222 S_105 (lk_c ml_11_98 S_74 (lk_c ml_11_112 S_71 lk_n)))) odX11_matchDays
def ct_260 : aCt := (mX6_dayOfBringing, [.inr (.inl [94]), .inl [(0, 0, 1)], .inl [(0, 0, 1)]], ([((2, 6), [(5, 5, 1)])], [((92, 0), 2), ((94, 0), 2)]), [(some (.inl aTop), [], [((94, 4), [(0, 6, 1)])], []), (some (.inl [(-2, -2, 1)]), [], [], [])], [(92, 2, 4), (94, 4, 7), (95, 0, 7)], [], 4)
set_option maxRecDepth 100000 in
theorem S_260 : aSpec wd ct_260 := bChk_ok wx_ok btX6_dayOfBringing (nds := []) (fk := []) (rk := (1, [])) (sp := 0) (fuel := 3000) (by decide +kernel) (lk_c ml_6_96 S_219 (lk_c ml_6_115 S_220 (lk_c ml_6_136 S_185 (lk_c ml_6_122 S_95 lk_n)))) odX6_dayOfBringing
def ct_261 : aCt := (mX6_dayOfBringing, [.inr (.inl [94]), .inl [(0, 0, 1)], .inl [(0, 0, 1)]], ([((2, 6), [(4, 4, 1)])], [((92, 0), 2), ((94, 0), 2)]), [(some (.inl aTop), [], [((94, 4), [(0, 6, 1)])], []), (some (.inl [(-2, -2, 1)]), [], [], [])], [(92, 2, 4), (94, 4, 7), (95, 0, 7)], [], 4)
set_option maxRecDepth 100000 in
theorem S_261 : aSpec wd ct_261 := bChk_ok wx_ok btX6_dayOfBringing (nds := []) (fk := []) (rk := (1, [])) (sp := 0) (fuel := 3000) (by decide +kernel) (lk_c ml_6_96 S_219 (lk_c ml_6_115 S_220 (lk_c ml_6_136 S_185 (lk_c ml_6_122 S_95 lk_n)))) odX6_dayOfBringing
end Pk1
section Pk2
def ct_262 : aCt := (mX6_dayOfBringing, [.inr (.inl [94]), .inl [(0, 0, 1)], .inl [(0, 0, 1)]], ([((2, 6), [(3, 3, 1)])], [((92, 0), 2), ((94, 0), 2)]), [(some (.inl aTop), [], [((94, 4), [(0, 6, 1)])], []), (some (.inl [(-2, -2, 1)]), [], [], [])], [(92, 2, 4), (94, 4, 7), (95, 0, 7)], [], 4)
set_option maxRecDepth 100000 in
theorem S_262 : aSpec wd ct_262 := bChk_ok wx_ok btX6_dayOfBringing (nds := []) (fk := []) (rk := (1, [])) (sp := 0) (fuel := 3000) (by decide +kernel) (lk_c ml_6_96 S_219 (lk_c ml_6_115 S_220 (lk_c ml_6_136 S_185 (lk_c ml_6_122 S_95 lk_n)))) odX6_dayOfBringing
def ct_263 : aCt := (mX6_dayOfBringing, [.inr (.inl [94]), .inl [(0, 0, 1)], .inl [(0, 0, 1)]], ([((2, 6), [(2, 2, 1)])], [((92, 0), 2), ((94, 0), 2)]), [(some (.inl aTop), [], [((94, 4), [(0, 6, 1)])], []), (some (.inl [(-2, -2, 1)]), [], [], [])], [(92, 2, 4), (94, 4, 7), (95, 0, 7)], [], 4)
set_option maxRecDepth 100000 in
theorem S_263 : aSpec wd ct_263 := bChk_ok wx_ok btX6_dayOfBringing (nds := []) (fk := []) (rk := (1, [])) (sp := 0) (fuel := 3000) (by decide +kernel) (lk_c ml_6_96 S_219 (lk_c ml_6_115 S_220 (lk_c ml_6_136 S_185 (lk_c ml_6_122 S_95 lk_n)))) odX6_dayOfBringing
def ct_264 : aCt := (mX6_dayOfBringing, [.inr (.inl [94]), .inl [(0, 0, 1)], .inl [(0, 0, 1)]], ([((2, 6), [(1, 1, 1)])], [((92, 0), 2), ((94, 0), 2)]), [(some (.inl aTop), [], [((94, 4), [(0, 6, 1)])], []), (some (.inl [(-2, -2, 1)]), [], [], [])], [(92, 2, 4), (94, 4, 7), (95, 0, 7)], [], 4)
set_option maxRecDepth 100000 in
theorem S_264 : aSpec wd ct_264 := bChk_ok wx_ok btX6_dayOfBringing (nds := []) (fk := []) (rk := (1, [])) (sp := 0) (fuel := 3000) (by decide +kernel) (lk_c ml_6_96 S_219 (lk_c ml_6_115 S_220 (lk_c ml_6_136 S_185 (lk_c ml_6_122 S_95 lk_n)))) odX6_dayOfBringing
def ct_265 : aCt := (mX11_solveMatch, [.inr (.inl [0])], ([((2, 7), [(1, 8, 1)])], [((0, 3), 2), ((92, 0), 2), ((94, 0), 2)]), [(none, [], [], [])], [(92, 2, 4), (94, 4, 7), (95, 0, 7), (100, 2, 4), (101, 0, 40), (102, 0, 8), (103, 0, 288)], [], 5)
set_option maxRecDepth 100000 in
theorem S_265 : aSpec wd ct_265 := bChk_ok wx_ok btX11_solveMatch (nds := [((nat_lit 2), [lcn_103, lcn_61], [], [sl_242], [((0, 3), 2), ((92, 0), 2), ((94, 0), 2)], (63, [])), ((nat_lit 15), [lcn_103, lcn_61, lcn_227], [], [sl_242], [((0, 3), 2), ((92, 0), 2), ((94, 0), 2)], (62, [])), ((nat_lit 15), [lcn_103, lcn_187, lcn_82], [], [sl_193, sl_242], [((0, 3), 2), ((92, 0), 2), ((94, 0), 2)], (61, [(0, -7), (1, -1)])), ((nat_lit 15), [lcn_103, lcn_187, lcn_214], [], [sl_196, sl_242], [((0, 3), 2), ((92, 0), 2), ((94, 0), 2)], (52, [(0, -6), (1, -1)])), ((nat_lit 15), [lcn_103, lcn_187, lcn_243], [], [sl_199, sl_242], [((0, 3), 2), ((92, 0), 2), ((94, 0), 2)], (43, [(0, -5), (1, -1)])), ((nat_lit 15), [lcn_103, lcn_187, lcn_244], [], [sl_202, sl_242], [((0, 3), 2), ((92, 0), 2), ((94, 0), 2)], (34, [(0, -4), (1, -1)])), ((nat_lit 15), [lcn_103, lcn_187, lcn_245], [], [sl_204, sl_242], [((0, 3), 2), ((92, 0), 2), ((94, 0), 2)], (25, [(0, -3), (1, -1)])), ((nat_lit 2), [lcn_103, lcn_228, lcn_227], [], [sl_246, sl_242], [((0, 3), 2), ((92, 0), 2), ((94, 0), 2)], (17, [(0, -2)])), ((nat_lit 2), [lcn_103, lcn_228, lcn_131], [], [sl_204, sl_242], [((0, 3), 2), ((92, 0), 2), ((94, 0), 2)], (26, [(0, -3)])), ((nat_lit 15), [lcn_103, lcn_247, lcn_227], [], [sl_246, sl_248], [((0, 3), 2), ((92, 0), 2), ((94, 0), 2)], (16, [(0, -2)])), ((nat_lit 2), [lcn_103, lcn_228, lcn_232], [], [sl_202, sl_242], [((0, 3), 2), ((92, 0), 2), ((94, 0), 2)], (35, [(0, -4)])), ((nat_lit 2), [lcn_103, lcn_228, lcn_62], [], [sl_199, sl_242], [((0, 3), 2), ((92, 0), 2), ((94, 0), 2)], (44, [(0, -5)])), ((nat_lit 2), [lcn_103, lcn_228, lcn_58], [], [sl_196, sl_242], [((0, 3), 2), ((92, 0), 2), ((94, 0), 2)], (53, [(0, -6)])), ((nat_lit 2), [lcn_103, lcn_228, lcn_238], [], [sl_193, sl_242], [((0, 3), 2), ((92, 0), 2), ((94, 0), 2)], (62, [(0, -7)]))]) (fk := [23]) (rk := (64, [])) (sp := 32772) (fuel := 3000) (by decide +kernel) (lk_c ml_11_283 S_260 (lk_c ml_11_283 S_261 (lk_c ml_11_283 S_262 (lk_c ml_11_283 S_263 (lk_c ml_11_283 S_264 (lk_c ml_11_283 S_190 (lk_c ml_11_404 S_236 (lk_c ml_11_404 S_240 (lk_c ml_11_404 S_244 (lk_c ml_11_404 S_248 (lk_c ml_11_404 S_252 (lk_c ml_11_404 S_256 (lk_c ml_11_283 S_189 (lk_c ml_11_283 S_188 (lk_c ml_11_283 S_187 (lk_c ml_11_283 S_186 lk_n)))))))))))))))) odX11_solveMatch
set_option maxRecDepth 100000 in
theorem btX11_matchOf : bTab oX11_matchOf tX11_matchOf := ⟨ofX11_matchOf, by decide +kernel⟩
def ct_266 : aCt := (mX11_matchOf, [.inr (.inl [0]), .inl aTop], ([], [((0, 3), 2), ((92, 0), 2), ((94, 0), 2)]), [(some (.inl aTop), [none, some [(0, 7, 1)]], [((0, 2), [(0, 0, 1)]), ((2, 7), [(1, 8, 1)])], []), (some (.inl [(-1, -1, 1)]), [], [((0, 2), [(1, 1, 1)])], [])], [(0, 2, 3), (92, 2, 4), (94, 4, 7), (95, 0, 7), (100, 2, 4), (101, 0, 40), (102, 0, 8), (103, 0, 288)], [], 6)
set_option maxRecDepth 100000 in
theorem S_266 : aSpec wd ct_266 := bChk_ok wx_ok btX11_matchOf (nds := []) (fk := []) (rk := (1, [])) (sp := 0) (fuel := 3000) (by decide +kernel) (lk_c ml_11_298 S_265 (lk_c ml_11_98 S_74 (lk_c ml_11_147 S_76 (lk_c ml_11_112 S_71 lk_n)))) odX11_matchOf
def ct_267 : aCt := (mX11_isBox, [.inr (.inl [0]), .inl aTop], ([((2, 7), [(1, 8, 1)])], [((0, 3), 2)]), [(some (.inl [(0, 0, 1)]), [none, some [(-2147483648, -1, 1), (1, 2147483647, 1)]], [], []), (some (.inl [(1, 1, 1)]), [none, some [(0, 7, 1)]], [], [])], [], [], 0)
set_option maxRecDepth 100000 in
theorem S_267 : aSpec wd ct_267 := bChk_ok wx_ok btX11_isBox (nds := []) (fk := []) (rk := (1, [])) (sp := 0) (fuel := 3000) (by decide +kernel) lk_n odX11_isBox
def ct_268 : aCt := (mX11_isWhale, [.inr (.inl [0]), .inl aTop], ([((2, 6), [(5, 5, 1)])], [((0, 3), 2)]), [(some (.inl [(0, 0, 1)]), [none, some [(-2147483648, -1, 1), (5, 2147483647, 1)]], [], []), (some (.inl [(1, 1, 1)]), [none, some [(0, 4, 1)]], [], [])], [], [], 0)
set_option maxRecDepth 100000 in
theorem S_268 : aSpec wd ct_268 := bChk_ok wx_ok btX11_isWhale (nds := []) (fk := [12]) (rk := (1, [])) (sp := 0) (fuel := 3000) (by decide +kernel) lk_n odX11_isWhale
def ct_269 : aCt := (mX6_dayOfBringing, [.inr (.inl [94]), .inl [(0, 4, 1)], .inl [(0, 7, 1)]], ([((2, 6), [(5, 5, 1)]), ((94, 4), [(0, 6, 1)])], [((92, 0), 2), ((94, 0), 2)]), [(some (.inl aTop), [], [((94, 4), [(0, 6, 1)])], []), (some (.inl [(-2, -2, 1)]), [], [], [])], [(92, 2, 4), (94, 4, 7), (95, 0, 7)], [], 4)
set_option maxRecDepth 100000 in
theorem S_269 : aSpec wd ct_269 := bChk_ok wx_ok btX6_dayOfBringing (nds := []) (fk := []) (rk := (1, [])) (sp := 0) (fuel := 3000) (by decide +kernel) (lk_c ml_6_96 S_113 (lk_c ml_6_115 S_88 (lk_c ml_6_136 S_185 (lk_c ml_6_122 S_95 lk_n)))) odX6_dayOfBringing
set_option maxRecDepth 100000 in
theorem btX6_dayOfMeeting : bTab oX6_dayOfMeeting tX6_dayOfMeeting := ⟨ofX6_dayOfMeeting, by decide +kernel⟩
def ct_270 : aCt := (mX6_dayOfMeeting, [.inr (.inl [94]), .inl [(0, 7, 1)], .inl [(0, 4, 1)], .inl [(0, 7, 1)], .inl [(0, 4, 1)]], ([((2, 6), [(5, 5, 1)])], [((92, 0), 2), ((94, 0), 2)]), [(some (.inl [(-2147483648, 2147483646, 1)]), [], [((94, 4), [(0, 6, 1)])], []), (some (.inl [(-2, -2, 1)]), [], [], [])], [(92, 2, 4), (94, 4, 7), (95, 0, 7)], [], 5)
set_option maxRecDepth 100000 in
theorem S_270 : aSpec wd ct_270 := bChk_ok wx_ok btX6_dayOfMeeting (nds := []) (fk := []) (rk := (1, [])) (sp := 0) (fuel := 3000) (by decide +kernel) (lk_c ml_6_155 S_269 (lk_c ml_6_155 S_186 lk_n)) odX6_dayOfMeeting
def ct_271 : aCt := (mX11_granted, [.inr (.inl [0]), .inl [(-2147483648, 2147483646, 1)]], ([], []), [(some (.inl [(-2147483648, 2147483646, 1)]), [], [((0, 2), [(0, 0, 1)])], [])], [(0, 2, 3)], [], 0)
set_option maxRecDepth 100000 in
theorem S_271 : aSpec wd ct_271 := bChk_ok wx_ok btX11_granted (nds := []) (fk := []) (rk := (1, [])) (sp := 0) (fuel := 3000) (by decide +kernel) lk_n odX11_granted
def ct_272 : aCt := (mX11_isWhale, [.inr (.inl [0]), .inl aTop], ([((2, 6), [(4, 4, 1)])], [((0, 3), 2)]), [(some (.inl [(0, 0, 1)]), [none, some [(-2147483648, -1, 1), (4, 2147483647, 1)]], [], []), (some (.inl [(1, 1, 1)]), [none, some [(0, 3, 1)]], [], [])], [], [], 0)
set_option maxRecDepth 100000 in
theorem S_272 : aSpec wd ct_272 := bChk_ok wx_ok btX11_isWhale (nds := []) (fk := [12]) (rk := (1, [])) (sp := 0) (fuel := 3000) (by decide +kernel) lk_n odX11_isWhale
def ct_273 : aCt := (mX6_dayOfBringing, [.inr (.inl [94]), .inl [(0, 3, 1)], .inl [(0, 7, 1)]], ([((2, 6), [(4, 4, 1)]), ((94, 4), [(0, 6, 1)])], [((92, 0), 2), ((94, 0), 2)]), [(some (.inl aTop), [], [((94, 4), [(0, 6, 1)])], []), (some (.inl [(-2, -2, 1)]), [], [], [])], [(92, 2, 4), (94, 4, 7), (95, 0, 7)], [], 4)
set_option maxRecDepth 100000 in
theorem S_273 : aSpec wd ct_273 := bChk_ok wx_ok btX6_dayOfBringing (nds := []) (fk := []) (rk := (1, [])) (sp := 0) (fuel := 3000) (by decide +kernel) (lk_c ml_6_96 S_113 (lk_c ml_6_115 S_88 (lk_c ml_6_136 S_185 (lk_c ml_6_122 S_95 lk_n)))) odX6_dayOfBringing
def ct_274 : aCt := (mX6_dayOfMeeting, [.inr (.inl [94]), .inl [(0, 7, 1)], .inl [(0, 3, 1)], .inl [(0, 7, 1)], .inl [(0, 3, 1)]], ([((2, 6), [(4, 4, 1)])], [((92, 0), 2), ((94, 0), 2)]), [(some (.inl [(-2147483648, 2147483646, 1)]), [], [((94, 4), [(0, 6, 1)])], []), (some (.inl [(-2, -2, 1)]), [], [], [])], [(92, 2, 4), (94, 4, 7), (95, 0, 7)], [], 5)
set_option maxRecDepth 100000 in
theorem S_274 : aSpec wd ct_274 := bChk_ok wx_ok btX6_dayOfMeeting (nds := []) (fk := []) (rk := (1, [])) (sp := 0) (fuel := 3000) (by decide +kernel) (lk_c ml_6_155 S_273 (lk_c ml_6_155 S_187 lk_n)) odX6_dayOfMeeting
def ct_275 : aCt := (mX11_isWhale, [.inr (.inl [0]), .inl aTop], ([((2, 6), [(3, 3, 1)])], [((0, 3), 2)]), [(some (.inl [(0, 0, 1)]), [none, some [(-2147483648, -1, 1), (3, 2147483647, 1)]], [], []), (some (.inl [(1, 1, 1)]), [none, some [(0, 2, 1)]], [], [])], [], [], 0)
set_option maxRecDepth 100000 in
theorem S_275 : aSpec wd ct_275 := bChk_ok wx_ok btX11_isWhale (nds := []) (fk := [12]) (rk := (1, [])) (sp := 0) (fuel := 3000) (by decide +kernel) lk_n odX11_isWhale
def ct_276 : aCt := (mX6_dayOfBringing, [.inr (.inl [94]), .inl [(0, 2, 1)], .inl [(0, 7, 1)]], ([((2, 6), [(3, 3, 1)]), ((94, 4), [(0, 6, 1)])], [((92, 0), 2), ((94, 0), 2)]), [(some (.inl aTop), [], [((94, 4), [(0, 6, 1)])], []), (some (.inl [(-2, -2, 1)]), [], [], [])], [(92, 2, 4), (94, 4, 7), (95, 0, 7)], [], 4)
set_option maxRecDepth 100000 in
theorem S_276 : aSpec wd ct_276 := bChk_ok wx_ok btX6_dayOfBringing (nds := []) (fk := []) (rk := (1, [])) (sp := 0) (fuel := 3000) (by decide +kernel) (lk_c ml_6_96 S_113 (lk_c ml_6_115 S_88 (lk_c ml_6_136 S_185 (lk_c ml_6_122 S_95 lk_n)))) odX6_dayOfBringing
def ct_277 : aCt := (mX6_dayOfMeeting, [.inr (.inl [94]), .inl [(0, 7, 1)], .inl [(0, 2, 1)], .inl [(0, 7, 1)], .inl [(0, 2, 1)]], ([((2, 6), [(3, 3, 1)])], [((92, 0), 2), ((94, 0), 2)]), [(some (.inl [(-2147483648, 2147483646, 1)]), [], [((94, 4), [(0, 6, 1)])], []), (some (.inl [(-2, -2, 1)]), [], [], [])], [(92, 2, 4), (94, 4, 7), (95, 0, 7)], [], 5)
set_option maxRecDepth 100000 in
theorem S_277 : aSpec wd ct_277 := bChk_ok wx_ok btX6_dayOfMeeting (nds := []) (fk := []) (rk := (1, [])) (sp := 0) (fuel := 3000) (by decide +kernel) (lk_c ml_6_155 S_276 (lk_c ml_6_155 S_188 lk_n)) odX6_dayOfMeeting
def ct_278 : aCt := (mX11_isWhale, [.inr (.inl [0]), .inl aTop], ([((2, 6), [(2, 2, 1)])], [((0, 3), 2)]), [(some (.inl [(0, 0, 1)]), [none, some [(-2147483648, -1, 1), (2, 2147483647, 1)]], [], []), (some (.inl [(1, 1, 1)]), [none, some [(0, 1, 1)]], [], [])], [], [], 0)
set_option maxRecDepth 100000 in
theorem S_278 : aSpec wd ct_278 := bChk_ok wx_ok btX11_isWhale (nds := []) (fk := [12]) (rk := (1, [])) (sp := 0) (fuel := 3000) (by decide +kernel) lk_n odX11_isWhale
def ct_279 : aCt := (mX6_dayOfBringing, [.inr (.inl [94]), .inl [(0, 1, 1)], .inl [(0, 7, 1)]], ([((2, 6), [(2, 2, 1)]), ((94, 4), [(0, 6, 1)])], [((92, 0), 2), ((94, 0), 2)]), [(some (.inl aTop), [], [((94, 4), [(0, 6, 1)])], []), (some (.inl [(-2, -2, 1)]), [], [], [])], [(92, 2, 4), (94, 4, 7), (95, 0, 7)], [], 4)
set_option maxRecDepth 100000 in
theorem S_279 : aSpec wd ct_279 := bChk_ok wx_ok btX6_dayOfBringing (nds := []) (fk := []) (rk := (1, [])) (sp := 0) (fuel := 3000) (by decide +kernel) (lk_c ml_6_96 S_113 (lk_c ml_6_115 S_88 (lk_c ml_6_136 S_185 (lk_c ml_6_122 S_95 lk_n)))) odX6_dayOfBringing
def ct_280 : aCt := (mX6_dayOfMeeting, [.inr (.inl [94]), .inl [(0, 7, 1)], .inl [(0, 1, 1)], .inl [(0, 7, 1)], .inl [(0, 1, 1)]], ([((2, 6), [(2, 2, 1)])], [((92, 0), 2), ((94, 0), 2)]), [(some (.inl [(-2147483648, 2147483646, 1)]), [], [((94, 4), [(0, 6, 1)])], []), (some (.inl [(-2, -2, 1)]), [], [], [])], [(92, 2, 4), (94, 4, 7), (95, 0, 7)], [], 5)
set_option maxRecDepth 100000 in
theorem S_280 : aSpec wd ct_280 := bChk_ok wx_ok btX6_dayOfMeeting (nds := []) (fk := []) (rk := (1, [])) (sp := 0) (fuel := 3000) (by decide +kernel) (lk_c ml_6_155 S_279 (lk_c ml_6_155 S_189 lk_n)) odX6_dayOfMeeting
def ct_281 : aCt := (mX11_isWhale, [.inr (.inl [0]), .inl aTop], ([((2, 6), [(1, 1, 1)])], [((0, 3), 2)]), [(some (.inl [(0, 0, 1)]), [none, some [(-2147483648, -1, 1), (1, 2147483647, 1)]], [], []), (some (.inl [(1, 1, 1)]), [none, some [(0, 0, 1)]], [], [])], [], [], 0)
set_option maxRecDepth 100000 in
theorem S_281 : aSpec wd ct_281 := bChk_ok wx_ok btX11_isWhale (nds := []) (fk := [12]) (rk := (1, [])) (sp := 0) (fuel := 3000) (by decide +kernel) lk_n odX11_isWhale
set_option maxRecDepth 100000 in
theorem btX11_meet : bTab oX11_meet tX11_meet := ⟨ofX11_meet, by decide +kernel⟩
def ct_282 : aCt := (mX11_meet, [.inr (.inl [0]), .inl aTop, .inl aTop, .inl aTop, .inl aTop], ([], [((0, 3), 2), ((92, 0), 2), ((94, 0), 2)]), [(some (.inl [(-2147483648, 2147483646, 1)]), [none, some [(0, 7, 1)], some [(0, 4, 1)], some [(0, 7, 1)], some [(0, 4, 1)]], [((0, 2), [(0, 0, 1)]), ((2, 6), [(2, 5, 1)]), ((2, 7), [(1, 8, 1)]), ((94, 4), [(0, 6, 1)])], []), (some (.inl [(-1, -1, 1)]), [], [((0, 2), [(1, 1, 1)])], []), (some (.inl [(-2, -2, 1)]), [none, some [(0, 7, 1)], some [(0, 4, 1)], some [(0, 7, 1)], some [(0, 4, 1)]], [((0, 2), [(0, 0, 1)]), ((2, 6), [(2, 5, 1)]), ((2, 7), [(1, 8, 1)])], [])], [(0, 2, 3), (92, 2, 4), (94, 4, 7), (95, 0, 7)], [], 6)
set_option maxRecDepth 100000 in
theorem S_282 : aSpec wd ct_282 := bChk_ok wx_ok btX11_meet (nds := []) (fk := []) (rk := (1, [])) (sp := 0) (fuel := 3000) (by decide +kernel) (lk_c ml_11_98 S_74 (lk_c ml_11_112 S_97 (lk_c ml_11_310 S_280 (lk_c ml_11_310 S_277 (lk_c ml_11_310 S_274 (lk_c ml_11_310 S_270 (lk_c ml_11_112 S_271 (lk_c ml_11_121 S_268 (lk_c ml_11_121 S_272 (lk_c ml_11_121 S_275 (lk_c ml_11_121 S_278 (lk_c ml_11_121 S_281 (lk_c ml_11_147 S_267 (lk_c ml_11_147 S_76 (lk_c ml_11_121 S_70 lk_n))))))))))))))) odX11_meet
def lcn_249 : Nat × aAg := ((nat_lit 1), .inl [((.negSucc (nat_lit 1)), (.negSucc (nat_lit 1)), (nat_lit 1)), ((.ofNat (nat_lit 1)), (.ofNat (nat_lit 1)), (nat_lit 1))])
def ct_283 : aCt := (mX6_dayOfLeaving, [.inr (.inl [94]), .inl [(-2, -2, 1), (1, 1, 1), (3, 3, 1)], .inl aTop, .inl aTop], ([], []), [(some (.inl aTop), [], [], [])], [], [], 0)
set_option maxRecDepth 100000 in
theorem S_283 : aSpec wd ct_283 := bChk_ok wx_ok btX6_dayOfLeaving (nds := [((nat_lit 16), [lcn_99, lcn_249, lcn_51, lcn_181, lcn_88, lcn_102], [], [], [], (4, [(4, -1)]))]) (fk := []) (rk := (5, [])) (sp := 65536) (fuel := 3000) (by decide +kernel) lk_n odX6_dayOfLeaving
def ct_284 : aCt := (mX6_goes, [.inr (.inl [94]), .inl [(-2, -2, 1), (1, 3, 1)], .inr (.inl [9, 10, 11, 12, 13, 14, 15, 16, 17, 18, 19, 20]), .inl [(0, 6, 1)], .inl [(0, 6, 1)]], ([], []), [(some (.inl [(0, 0, 1)]), [], [], []), (some (.inl [(1, 1, 1)]), [none, some [(-2, -2, 1), (1, 3, 1)], none, none, none], [], [])], [(95, 0, 7)], [], 1)
set_option maxRecDepth 100000 in
theorem S_284 : aSpec wd ct_284 := bChk_ok wx_ok btX6_goes (nds := []) (fk := []) (rk := (1, [])) (sp := 0) (fuel := 3000) (by decide +kernel) (lk_c ml_6_80 S_178 (lk_c ml_6_80 S_283 lk_n)) odX6_goes
def lcn_250 : Nat × aAg := ((nat_lit 1), .inl [((.negSucc (nat_lit 1)), (.negSucc (nat_lit 1)), (nat_lit 1)), ((.ofNat (nat_lit 0)), (.ofNat (nat_lit 3)), (nat_lit 1))])
def ct_285 : aCt := (mX6_findFirstDays, [.inr (.inl [94]), .inl [(-2, -2, 1), (0, 3, 1)], .inl [(0, 6, 1)], .inl aTop], ([((2, 4), [(1, 7, 1)])], [((94, 0), 2)]), [(none, [], [], [])], [(95, 0, 7)], [], 2)
set_option maxRecDepth 100000 in
theorem S_285 : aSpec wd ct_285 := bChk_ok wx_ok btX6_findFirstDays (nds := [((nat_lit 39), [lcn_99, lcn_250, lcn_69, lcn_181, lcn_183, lcn_184, lcn_95], [], [sl_105], [((94, 0), 2)], (111, [(5, -14)])), ((nat_lit 57), [lcn_99, lcn_250, lcn_69, lcn_181, lcn_183, lcn_184, lcn_185, lcn_186], [], [sl_105], [((94, 0), 2)], (110, [(5, -14), (6, -1)]))]) (fk := []) (rk := (112, [])) (sp := 144115737831669760) (fuel := 3000) (by decide +kernel) (lk_c ml_6_38 S_175 (lk_c ml_6_64 S_103 (lk_c ml_6_70 S_177 (lk_c ml_6_70 S_284 lk_n)))) odX6_findFirstDays
set_option maxRecDepth 100000 in
theorem btX6_isFitting : bTab oX6_isFitting tX6_isFitting := ⟨ofX6_isFitting, by decide +kernel⟩
def ct_286 : aCt := (mX6_isFitting, [.inr (.inl [94]), .inl [(0, 4, 1)]], ([((2, 4), [(1, 7, 1)]), ((2, 6), [(1, 5, 1)])], [((94, 0), 2)]), [(some (.inl [(0, 0, 1)]), [], [((2, 8), [(1, 8, 1)])], []), (some (.inl [(1, 1, 1)]), [], [], [])], [(95, 0, 7)], [], 3)
set_option maxRecDepth 100000 in
theorem S_286 : aSpec wd ct_286 := bChk_ok wx_ok btX6_isFitting (nds := [((nat_lit 18), [lcn_99, lcn_73, lcn_69, lcn_181, lcn_229], [], [sl_105, sl_215], [((94, 0), 2)], (8, [(3, -1)]))]) (fk := []) (rk := (9, [])) (sp := 262144) (fuel := 3000) (by decide +kernel) (lk_c ml_6_84 S_285 lk_n) odX6_isFitting
def lcn_251 : Nat × aAg := ((nat_lit 1), .inl [((.ofNat (nat_lit 0)), (.ofNat (nat_lit 31)), (nat_lit 1))])
set_option maxRecDepth 100000 in
theorem btX6_fittingWhales : bTab oX6_fittingWhales tX6_fittingWhales := ⟨ofX6_fittingWhales, by decide +kernel⟩
def ct_287 : aCt := (mX6_fittingWhales, [.inr (.inl [94])], ([((2, 4), [(1, 7, 1)])], [((94, 0), 2)]), [(some (.inl [(0, 31, 1)]), [], [], [])], [(95, 0, 7)], [], 4)
set_option maxRecDepth 100000 in
theorem S_287 : aSpec wd ct_287 := bChk_ok wx_ok btX6_fittingWhales (nds := [((nat_lit 4), [lcn_99, lcn_251, lcn_82], [], [sl_105], [((94, 0), 2)], (5, [(1, -1)]))]) (fk := []) (rk := (6, [])) (sp := 16) (fuel := 3000) (by decide +kernel) (lk_c ml_6_164 S_286 lk_n) odX6_fittingWhales
set_option maxRecDepth 100000 in
theorem btX11_fits : bTab oX11_fits tX11_fits := ⟨ofX11_fits, by decide +kernel⟩
def ct_288 : aCt := (mX11_fits, [.inr (.inl [0])], ([], [((0, 3), 2), ((94, 0), 2)]), [(some (.inl [(0, 31, 1)]), [], [((0, 2), [(0, 0, 1)]), ((2, 4), [(1, 7, 1)])], []), (some (.inl [(-1, -1, 1)]), [], [((0, 2), [(1, 1, 1)]), ((2, 4), [(0, 0, 1)])], [])], [(0, 2, 3), (95, 0, 7)], [], 5)
set_option maxRecDepth 100000 in
theorem S_288 : aSpec wd ct_288 := bChk_ok wx_ok btX11_fits (nds := []) (fk := []) (rk := (1, [])) (sp := 0) (fuel := 3000) (by decide +kernel) (lk_c ml_11_313 S_287 (lk_c ml_11_222 S_105 (lk_c ml_11_98 S_74 (lk_c ml_11_112 S_207 lk_n)))) odX11_fits
def lcn_252 : Nat × aAg := ((nat_lit 2), .inl [((.negSucc (nat_lit 0)), (.ofNat (nat_lit 7)), (nat_lit 1))])
def ct_289 : aCt := (mX4_lastSpoutOf, [.inr (.inl [2]), .inl [(0, 4, 1)]], ([], []), [(some (.inl [(0, 7, 1)]), [], [], []), (some (.inl [(-2, -2, 1)]), [], [], [])], [], [], 0)
set_option maxRecDepth 100000 in
theorem S_289 : aSpec wd ct_289 := bChk_ok wx_ok btX4_lastSpoutOf (nds := [((nat_lit 7), [lcn_97, lcn_73, lcn_252], [], [], [], (1, [(1, 1)]))]) (fk := []) (rk := (9, [])) (sp := 128) (fuel := 3000) (by decide +kernel) lk_n odX4_lastSpoutOf
def ct_290 : aCt := (mX6_findFirstDays, [.inr (.inl [94]), .inl [(0, 3, 1)], .inl [(0, 6, 1)], .inl [(0, 0, 1)]], ([], [((94, 0), 2)]), [(none, [], [], [])], [(95, 0, 7)], [], 2)
set_option maxRecDepth 100000 in
theorem S_290 : aSpec wd ct_290 := bChk_ok wx_ok btX6_findFirstDays (nds := [((nat_lit 39), [lcn_99, lcn_182, lcn_69, lcn_9, lcn_132, lcn_184, lcn_95], [], [], [((94, 0), 2)], (111, [(4, -14)])), ((nat_lit 57), [lcn_99, lcn_182, lcn_69, lcn_9, lcn_183, lcn_184, lcn_185, lcn_186], [], [], [((94, 0), 2)], (110, [(4, -14), (5, -1)]))]) (fk := []) (rk := (112, [])) (sp := 144115737831669760) (fuel := 3000) (by decide +kernel) (lk_c ml_6_38 S_175 (lk_c ml_6_64 S_103 (lk_c ml_6_70 S_177 (lk_c ml_6_70 S_180 lk_n)))) odX6_findFirstDays
def lcn_253 : Nat × aAg := ((nat_lit 3), .inl [((.negSucc (nat_lit 1)), (.negSucc (nat_lit 1)), (nat_lit 1)), ((.ofNat (nat_lit 0)), (.ofNat (nat_lit 7)), (nat_lit 1))])
def lcn_254 : Nat × aAg := ((nat_lit 5), .inl [((.ofNat (nat_lit 0)), (.ofNat (nat_lit 127)), (nat_lit 1))])
set_option maxRecDepth 100000 in
theorem btX6_islandsReached : bTab oX6_islandsReached tX6_islandsReached := ⟨ofX6_islandsReached, by decide +kernel⟩
def ct_291 : aCt := (mX6_islandsReached, [.inr (.inl [94]), .inl [(0, 4, 1)], .inl [(0, 99999, 1)]], ([((2, 6), [(5, 5, 1)])], [((94, 0), 2)]), [(some (.inl [(0, 127, 1)]), [], [], [])], [(95, 0, 7)], [], 3)
set_option maxRecDepth 100000 in
theorem S_291 : aSpec wd ct_291 := bChk_ok wx_ok btX6_islandsReached (nds := [((nat_lit 90), [lcn_99, lcn_73, lcn_211, lcn_253, lcn_133, lcn_254, lcn_95], [], [sl_193], [((94, 0), 2)], (7, [(5, -1)]))]) (fk := []) (rk := (8, [])) (sp := 1237940039285380274899124224) (fuel := 3000) (by decide +kernel) (lk_c ml_6_185 S_289 (lk_c ml_6_84 S_290 (lk_c ml_6_84 S_184 lk_n))) odX6_islandsReached
def ct_292 : aCt := (mX11_granted, [.inr (.inl [0]), .inl [(0, 127, 1)]], ([], []), [(some (.inl [(0, 127, 1)]), [], [((0, 2), [(0, 0, 1)])], [])], [(0, 2, 3)], [], 0)
set_option maxRecDepth 100000 in
theorem S_292 : aSpec wd ct_292 := bChk_ok wx_ok btX11_granted (nds := []) (fk := []) (rk := (1, [])) (sp := 0) (fuel := 3000) (by decide +kernel) lk_n odX11_granted
def ct_293 : aCt := (mX4_lastSpoutOf, [.inr (.inl [2]), .inl [(0, 3, 1)]], ([], []), [(some (.inl [(0, 7, 1)]), [], [], []), (some (.inl [(-2, -2, 1)]), [], [], [])], [], [], 0)
set_option maxRecDepth 100000 in
theorem S_293 : aSpec wd ct_293 := bChk_ok wx_ok btX4_lastSpoutOf (nds := [((nat_lit 7), [lcn_97, lcn_182, lcn_252], [], [], [], (1, [(1, 1)]))]) (fk := []) (rk := (9, [])) (sp := 128) (fuel := 3000) (by decide +kernel) lk_n odX4_lastSpoutOf
def ct_294 : aCt := (mX6_islandsReached, [.inr (.inl [94]), .inl [(0, 3, 1)], .inl [(0, 99999, 1)]], ([((2, 6), [(4, 4, 1)])], [((94, 0), 2)]), [(some (.inl [(0, 127, 1)]), [], [], [])], [(95, 0, 7)], [], 3)
set_option maxRecDepth 100000 in
theorem S_294 : aSpec wd ct_294 := bChk_ok wx_ok btX6_islandsReached (nds := [((nat_lit 90), [lcn_99, lcn_182, lcn_211, lcn_253, lcn_133, lcn_254, lcn_95], [], [sl_196], [((94, 0), 2)], (7, [(5, -1)]))]) (fk := []) (rk := (8, [])) (sp := 1237940039285380274899124224) (fuel := 3000) (by decide +kernel) (lk_c ml_6_185 S_293 (lk_c ml_6_84 S_290 (lk_c ml_6_84 S_184 lk_n))) odX6_islandsReached
def ct_295 : aCt := (mX4_lastSpoutOf, [.inr (.inl [2]), .inl [(0, 2, 1)]], ([], []), [(some (.inl [(0, 7, 1)]), [], [], []), (some (.inl [(-2, -2, 1)]), [], [], [])], [], [], 0)
set_option maxRecDepth 100000 in
theorem S_295 : aSpec wd ct_295 := bChk_ok wx_ok btX4_lastSpoutOf (nds := [((nat_lit 7), [lcn_97, lcn_100, lcn_252], [], [], [], (1, [(1, 1)]))]) (fk := []) (rk := (9, [])) (sp := 128) (fuel := 3000) (by decide +kernel) lk_n odX4_lastSpoutOf
def ct_296 : aCt := (mX6_islandsReached, [.inr (.inl [94]), .inl [(0, 2, 1)], .inl [(0, 99999, 1)]], ([((2, 6), [(3, 3, 1)])], [((94, 0), 2)]), [(some (.inl [(0, 127, 1)]), [], [], [])], [(95, 0, 7)], [], 3)
set_option maxRecDepth 100000 in
theorem S_296 : aSpec wd ct_296 := bChk_ok wx_ok btX6_islandsReached (nds := [((nat_lit 90), [lcn_99, lcn_100, lcn_211, lcn_253, lcn_133, lcn_254, lcn_95], [], [sl_199], [((94, 0), 2)], (7, [(5, -1)]))]) (fk := []) (rk := (8, [])) (sp := 1237940039285380274899124224) (fuel := 3000) (by decide +kernel) (lk_c ml_6_185 S_295 (lk_c ml_6_84 S_290 (lk_c ml_6_84 S_184 lk_n))) odX6_islandsReached
def lcn_255 : Nat × aAg := ((nat_lit 1), .inl [((.ofNat (nat_lit 0)), (.ofNat (nat_lit 1)), (nat_lit 1))])
def ct_297 : aCt := (mX4_lastSpoutOf, [.inr (.inl [2]), .inl [(0, 1, 1)]], ([], []), [(some (.inl [(0, 7, 1)]), [], [], []), (some (.inl [(-2, -2, 1)]), [], [], [])], [], [], 0)
set_option maxRecDepth 100000 in
theorem S_297 : aSpec wd ct_297 := bChk_ok wx_ok btX4_lastSpoutOf (nds := [((nat_lit 7), [lcn_97, lcn_255, lcn_252], [], [], [], (1, [(1, 1)]))]) (fk := []) (rk := (9, [])) (sp := 128) (fuel := 3000) (by decide +kernel) lk_n odX4_lastSpoutOf
def ct_298 : aCt := (mX6_islandsReached, [.inr (.inl [94]), .inl [(0, 1, 1)], .inl [(0, 99999, 1)]], ([((2, 6), [(2, 2, 1)])], [((94, 0), 2)]), [(some (.inl [(0, 127, 1)]), [], [], [])], [(95, 0, 7)], [], 3)
set_option maxRecDepth 100000 in
theorem S_298 : aSpec wd ct_298 := bChk_ok wx_ok btX6_islandsReached (nds := [((nat_lit 90), [lcn_99, lcn_255, lcn_211, lcn_253, lcn_133, lcn_254, lcn_95], [], [sl_202], [((94, 0), 2)], (7, [(5, -1)]))]) (fk := []) (rk := (8, [])) (sp := 1237940039285380274899124224) (fuel := 3000) (by decide +kernel) (lk_c ml_6_185 S_297 (lk_c ml_6_84 S_290 (lk_c ml_6_84 S_184 lk_n))) odX6_islandsReached
def ct_299 : aCt := (mX4_lastSpoutOf, [.inr (.inl [2]), .inl [(0, 0, 1)]], ([], []), [(some (.inl [(0, 7, 1)]), [], [], []), (some (.inl [(-2, -2, 1)]), [], [], [])], [], [], 0)
set_option maxRecDepth 100000 in
theorem S_299 : aSpec wd ct_299 := bChk_ok wx_ok btX4_lastSpoutOf (nds := [((nat_lit 7), [lcn_97, lcn_61, lcn_252], [], [], [], (1, [(0, 1)]))]) (fk := []) (rk := (9, [])) (sp := 128) (fuel := 3000) (by decide +kernel) lk_n odX4_lastSpoutOf
def sl_256 : (Nat × Nat) × aI := (((nat_lit 21), (nat_lit 0)), [((.ofNat (nat_lit 0)), (.ofNat (nat_lit 3)), (nat_lit 1))])
def ct_300 : aCt := (mX6_islandsReached, [.inr (.inl [94]), .inl [(0, 0, 1)], .inl [(0, 99999, 1)]], ([((2, 6), [(1, 1, 1)])], [((94, 0), 2)]), [(some (.inl [(0, 127, 1)]), [], [], [])], [(95, 0, 7)], [], 3)
set_option maxRecDepth 100000 in
theorem S_300 : aSpec wd ct_300 := bChk_ok wx_ok btX6_islandsReached (nds := [((nat_lit 90), [lcn_99, lcn_61, lcn_211, lcn_253, lcn_133, lcn_254, lcn_95], [], [sl_204, sl_256], [((94, 0), 2)], (7, [(4, -1)]))]) (fk := []) (rk := (8, [])) (sp := 1237940039285380274899124224) (fuel := 3000) (by decide +kernel) (lk_c ml_6_185 S_299 (lk_c ml_6_84 S_290 (lk_c ml_6_84 S_184 lk_n))) odX6_islandsReached
set_option maxRecDepth 100000 in
theorem btX11_reach : bTab oX11_reach tX11_reach := ⟨ofX11_reach, by decide +kernel⟩
def ct_301 : aCt := (mX11_reach, [.inr (.inl [0]), .inl aTop, .inl aTop], ([], [((0, 3), 2), ((94, 0), 2)]), [(some (.inl [(0, 127, 1)]), [none, some [(0, 4, 1)], some [(0, 99999, 1)]], [((0, 2), [(0, 0, 1)]), ((2, 6), [(1, 5, 1)])], []), (some (.inl [(-1, -1, 1)]), [none, some aTop, none], [((0, 2), [(1, 2, 1)])], [])], [(0, 2, 3), (95, 0, 7)], [], 4)
set_option maxRecDepth 100000 in
theorem S_301 : aSpec wd ct_301 := bChk_ok wx_ok btX11_reach (nds := []) (fk := []) (rk := (1, [])) (sp := 0) (fuel := 3000) (by decide +kernel) (lk_c ml_11_98 S_6 (lk_c ml_11_98 S_74 (lk_c ml_11_112 S_292 (lk_c ml_11_316 S_300 (lk_c ml_11_316 S_298 (lk_c ml_11_316 S_296 (lk_c ml_11_316 S_294 (lk_c ml_11_316 S_291 (lk_c ml_11_121 S_70 (lk_c ml_11_227 S_106 lk_n)))))))))) odX11_reach
def ct_302 : aCt := (mJ6_bitCount_0f7a4, [.inl [(0, 31, 1)]], ([], []), [(some (.inl [(0, 63, 1)]), [], [], [])], [], [], 0)
set_option maxRecDepth 100000 in
theorem S_302 : aSpec wd ct_302 := bChk_ok wx_ok btJ6_bitCount_0f7a4 (nds := []) (fk := []) (rk := (1, [])) (sp := 0) (fuel := 3000) (by decide +kernel) lk_n odJ6_bitCount_0f7a4
def ct_303 : aCt := (mX6_findFirstDays, [.inr (.inl [94]), .inl [(-2, -2, 1), (0, 3, 1)], .inl [(0, 6, 1)], .inl [(0, 0, 1)]], ([((2, 4), [(1, 7, 1)])], [((94, 0), 2)]), [(none, [], [], [])], [(95, 0, 7)], [], 2)
set_option maxRecDepth 100000 in
theorem S_303 : aSpec wd ct_303 := bChk_ok wx_ok btX6_findFirstDays (nds := [((nat_lit 39), [lcn_99, lcn_250, lcn_69, lcn_9, lcn_183, lcn_184, lcn_95], [], [sl_105], [((94, 0), 2)], (111, [(4, -14)])), ((nat_lit 57), [lcn_99, lcn_250, lcn_69, lcn_9, lcn_183, lcn_184, lcn_185, lcn_186], [], [sl_105], [((94, 0), 2)], (110, [(4, -14), (5, -1)]))]) (fk := []) (rk := (112, [])) (sp := 144115737831669760) (fuel := 3000) (by decide +kernel) (lk_c ml_6_38 S_175 (lk_c ml_6_64 S_103 (lk_c ml_6_70 S_177 (lk_c ml_6_70 S_284 lk_n)))) odX6_findFirstDays
def ct_304 : aCt := (mX6_islandsReached, [.inr (.inl [94]), .inl [(0, 4, 1)], .inl [(0, 99999, 1)]], ([((2, 4), [(1, 7, 1)]), ((2, 6), [(1, 5, 1)])], [((94, 0), 2)]), [(some (.inl [(0, 127, 1)]), [], [], [])], [(95, 0, 7)], [], 3)
set_option maxRecDepth 100000 in
theorem S_304 : aSpec wd ct_304 := bChk_ok wx_ok btX6_islandsReached (nds := [((nat_lit 90), [lcn_99, lcn_73, lcn_211, lcn_253, lcn_133, lcn_254, lcn_95], [], [sl_105, sl_215], [((94, 0), 2)], (7, [(5, -1)]))]) (fk := []) (rk := (8, [])) (sp := 1237940039285380274899124224) (fuel := 3000) (by decide +kernel) (lk_c ml_6_185 S_289 (lk_c ml_6_84 S_303 (lk_c ml_6_84 S_285 lk_n))) odX6_islandsReached
set_option maxRecDepth 100000 in
theorem btX6_whalesReaching : bTab oX6_whalesReaching tX6_whalesReaching := ⟨ofX6_whalesReaching, by decide +kernel⟩
def ct_305 : aCt := (mX6_whalesReaching, [.inr (.inl [94]), .inl [(0, 6, 1)], .inl [(0, 99999, 1)]], ([((2, 4), [(1, 7, 1)])], [((94, 0), 2)]), [(some (.inl aTop), [], [], [])], [(95, 0, 7)], [], 4)
set_option maxRecDepth 100000 in
theorem S_305 : aSpec wd ct_305 := bChk_ok wx_ok btX6_whalesReaching (nds := [((nat_lit 5), [lcn_99, lcn_68, lcn_211, lcn_181, lcn_134], [], [sl_105], [((94, 0), 2)], (5, [(3, -1)]))]) (fk := []) (rk := (6, [])) (sp := 32) (fuel := 3000) (by decide +kernel) (lk_c ml_6_203 S_304 lk_n) odX6_whalesReaching
def lcn_257 : Nat × aAg := ((nat_lit 1), .inl [((.ofNat (nat_lit 0)), (.ofNat (nat_lit 99999)), (nat_lit 1))])
def lcn_258 : Nat × aAg := ((nat_lit 2), .inl [((.ofNat (nat_lit 0)), (.ofNat (nat_lit 63)), (nat_lit 1))])
def lcn_259 : Nat × aAg := ((nat_lit 3), .inl [((.negSucc (nat_lit 1)), (.negSucc (nat_lit 1)), (nat_lit 1)), ((.ofNat (nat_lit 0)), (.ofNat (nat_lit 6)), (nat_lit 1))])
def lcn_260 : Nat × aAg := ((nat_lit 5), .inl [((.ofNat (nat_lit 0)), (.ofNat (nat_lit 7)), (nat_lit 1))])
set_option maxRecDepth 100000 in
theorem btX6_bestPier : bTab oX6_bestPier tX6_bestPier := ⟨ofX6_bestPier, by decide +kernel⟩
def ct_306 : aCt := (mX6_bestPier, [.inr (.inl [94]), .inl [(0, 99999, 1)]], ([((2, 4), [(1, 7, 1)])], [((94, 0), 2)]), [(some (.inl [(-2, -2, 1), (0, 6, 1)]), [], [], [])], [(95, 0, 7)], [], 5)
set_option maxRecDepth 100000 in
theorem S_306 : aSpec wd ct_306 := bChk_ok wx_ok btX6_bestPier (nds := [((nat_lit 17), [lcn_99, lcn_257, lcn_258, lcn_259, lcn_88, lcn_260], [], [sl_105], [((94, 0), 2)], (7, [(4, -1)]))]) (fk := []) (rk := (8, [])) (sp := 131072) (fuel := 3000) (by decide +kernel) (lk_c ml_6_188 S_287 (lk_c ml_6_192 S_302 (lk_c ml_6_197 S_305 lk_n))) odX6_bestPier
set_option maxRecDepth 100000 in
theorem btX11_pier : bTab oX11_pier tX11_pier := ⟨ofX11_pier, by decide +kernel⟩
def ct_307 : aCt := (mX11_pier, [.inr (.inl [0]), .inl aTop], ([], [((0, 3), 2), ((94, 0), 2)]), [(some (.inl [(-2, -2, 1), (0, 6, 1)]), [none, some [(0, 99999, 1)]], [((0, 2), [(0, 0, 1)]), ((2, 4), [(1, 7, 1)])], []), (some (.inl [(-1, -1, 1)]), [], [((0, 2), [(1, 2, 1)])], [])], [(0, 2, 3), (95, 0, 7)], [], 6)
set_option maxRecDepth 100000 in
theorem S_307 : aSpec wd ct_307 := bChk_ok wx_ok btX11_pier (nds := []) (fk := []) (rk := (1, [])) (sp := 0) (fuel := 3000) (by decide +kernel) (lk_c ml_11_222 S_105 (lk_c ml_11_98 S_6 (lk_c ml_11_98 S_74 (lk_c ml_11_112 S_98 (lk_c ml_11_319 S_306 (lk_c ml_11_227 S_106 lk_n)))))) odX11_pier
def lcn_261 : Nat × aAg := ((nat_lit 0), .inr (.inl [(nat_lit 96)]))
def lcn_262 : Nat × aAg := ((nat_lit 1), .inl [((.ofNat (nat_lit 0)), (.ofNat (nat_lit 127)), (nat_lit 1))])
def lcn_263 : Nat × aAg := ((nat_lit 2), .inl [((.ofNat (nat_lit 0)), (.ofNat (nat_lit 4095)), (nat_lit 1))])
set_option maxRecDepth 100000 in
theorem btX3_waysOutOf : bTab oX3_waysOutOf tX3_waysOutOf := ⟨ofX3_waysOutOf, by decide +kernel⟩
def ct_308 : aCt := (mX3_waysOutOf, [.inr (.inl [96]), .inl [(0, 127, 1)]], ([], [((96, 0), 2)]), [(some (.inl [(0, 4095, 1)]), [], [], [])], [], [], 0)
set_option maxRecDepth 100000 in
theorem S_308 : aSpec wd ct_308 := bChk_ok wx_ok btX3_waysOutOf (nds := [((nat_lit 4), [lcn_261, lcn_262, lcn_263, lcn_98], [], [], [((96, 0), 2)], (12, [(2, -1)]))]) (fk := []) (rk := (13, [])) (sp := 16) (fuel := 3000) (by decide +kernel) lk_n odX3_waysOutOf
def ct_309 : aCt := (mJ6_bitCount_0f7a4, [.inl [(0, 4095, 1)]], ([], []), [(some (.inl [(0, 63, 1)]), [], [], [])], [], [], 0)
set_option maxRecDepth 100000 in
theorem S_309 : aSpec wd ct_309 := bChk_ok wx_ok btJ6_bitCount_0f7a4 (nds := []) (fk := []) (rk := (1, [])) (sp := 0) (fuel := 3000) (by decide +kernel) lk_n odJ6_bitCount_0f7a4
def lcn_264 : Nat × aAg := ((nat_lit 4), .inl [((.negSucc (nat_lit 1)), (.negSucc (nat_lit 1)), (nat_lit 1)), ((.ofNat (nat_lit 0)), (.ofNat (nat_lit 4095)), (nat_lit 1))])
def lcn_265 : Nat × aAg := ((nat_lit 5), .inl [((.ofNat (nat_lit 0)), (.ofNat (nat_lit 13)), (nat_lit 1))])
def lcn_266 : Nat × aAg := ((nat_lit 6), .inl [((.ofNat (nat_lit 0)), (.ofNat (nat_lit 128)), (nat_lit 1))])
set_option maxRecDepth 100000 in
theorem btX3_fewestToWatch : bTab oX3_fewestToWatch tX3_fewestToWatch := ⟨ofX3_fewestToWatch, by decide +kernel⟩
def ct_310 : aCt := (mX3_fewestToWatch, [.inr (.inl [96]), .inl [(0, 6, 1)], .inl [(0, 6, 1)], .inl aTop], ([((2, 4), [(1, 7, 1)])], [((96, 0), 2)]), [(some (.inl [(-2, -2, 1), (0, 4095, 1)]), [], [], [])], [], [], 1)
set_option maxRecDepth 100000 in
theorem S_310 : aSpec wd ct_310 := bChk_ok wx_ok btX3_fewestToWatch (nds := [((nat_lit 11), [lcn_261, lcn_68, lcn_69, lcn_181, lcn_264, lcn_265, lcn_266], [], [sl_105], [((96, 0), 2)], (128, [(5, -1)]))]) (fk := []) (rk := (129, [])) (sp := 2048) (fuel := 3000) (by decide +kernel) (lk_c ml_3_31 S_308 (lk_c ml_3_35 S_309 lk_n)) odX3_fewestToWatch
def ct_311 : aCt := (mX11_granted, [.inr (.inl [0]), .inl [(-2, -2, 1), (0, 4095, 1)]], ([], []), [(some (.inl [(-2, -2, 1), (0, 4095, 1)]), [], [((0, 2), [(0, 0, 1)])], [])], [(0, 2, 3)], [], 0)
set_option maxRecDepth 100000 in
theorem S_311 : aSpec wd ct_311 := bChk_ok wx_ok btX11_granted (nds := []) (fk := []) (rk := (1, [])) (sp := 0) (fuel := 3000) (by decide +kernel) lk_n odX11_granted
set_option maxRecDepth 100000 in
theorem btX11_watch : bTab oX11_watch tX11_watch := ⟨ofX11_watch, by decide +kernel⟩
def ct_312 : aCt := (mX11_watch, [.inr (.inl [0]), .inl aTop, .inl aTop], ([], [((0, 3), 2), ((96, 0), 2)]), [(some (.inl [(-2, -2, 1), (0, 4095, 1)]), [none, some [(0, 6, 1)], some [(0, 6, 1)]], [((0, 2), [(0, 0, 1)]), ((2, 4), [(1, 7, 1)])], []), (some (.inl [(-1, -1, 1)]), [], [((0, 2), [(1, 1, 1)])], [])], [(0, 2, 3)], [], 2)
set_option maxRecDepth 100000 in
theorem S_312 : aSpec wd ct_312 := bChk_ok wx_ok btX11_watch (nds := []) (fk := []) (rk := (1, [])) (sp := 0) (fuel := 3000) (by decide +kernel) (lk_c ml_11_98 S_74 (lk_c ml_11_112 S_311 (lk_c ml_11_325 S_310 (lk_c ml_11_204 S_101 lk_n)))) odX11_watch
def lcn_267 : Nat × aAg := ((nat_lit 0), .inr (.inl [(nat_lit 98)]))
def lcn_268 : Nat × aAg := ((nat_lit 1), .inl [((.ofNat (nat_lit 1000000)), (.ofNat (nat_lit 1000000)), (nat_lit 1))])
def lcn_269 : Nat × aAg := ((nat_lit 3), .inl [((.ofNat (nat_lit 49)), (.ofNat (nat_lit 49)), (nat_lit 1))])
def ct_313 : aCt := (mJ7_fill_53178, [.inr (.inl [98]), .inl [(1000000, 1000000, 1)]], ([], []), [(none, [], [], [])], [(98, 0, 49)], [], 0)
set_option maxRecDepth 100000 in
theorem S_313 : aSpec wd ct_313 := bChk_ok wx_ok btJ7_fill_53178 (nds := [((nat_lit 5), [lcn_267, lcn_268, lcn_258, lcn_269], [], [], [], (63, [(0, -1)]))]) (fk := []) (rk := (64, [])) (sp := 32) (fuel := 3000) (by decide +kernel) lk_n odJ7_fill_53178
def lcn_270 : Nat × aAg := ((nat_lit 2), .inl [((.ofNat (nat_lit 0)), (.ofNat (nat_lit 12)), (nat_lit 1))])
set_option maxRecDepth 100000 in
theorem btX3_findShortest : bTab oX3_findShortest tX3_findShortest := ⟨ofX3_findShortest, by decide +kernel⟩
def ct_314 : aCt := (mX3_findShortest, [.inr (.inl [96]), .inl aTop], ([((2, 4), [(1, 7, 1)])], [((96, 0), 2)]), [(none, [], [], [])], [(98, 0, 49)], [], 1)
set_option maxRecDepth 100000 in
theorem S_314 : aSpec wd ct_314 := bChk_ok wx_ok btX3_findShortest (nds := [((nat_lit 11), [lcn_261, lcn_76, lcn_270], [], [sl_105], [((96, 0), 2)], (596, [(1, -1)])), ((nat_lit 128), [lcn_261, lcn_76, lcn_106], [], [sl_105], [((96, 0), 2)], (583, [(1, -73)])), ((nat_lit 141), [lcn_261, lcn_76, lcn_69, lcn_126], [], [sl_105], [((96, 0), 2)], (582, [(1, -73), (2, -9)])), ((nat_lit 155), [lcn_261, lcn_76, lcn_69, lcn_55, lcn_132], [], [sl_105], [((96, 0), 2)], (581, [(1, -73), (2, -9), (3, -1)]))]) (fk := []) (rk := (597, [])) (sp := 45674714100022899442696306450542532841204353024) (fuel := 3000) (by decide +kernel) (lk_c ml_3_67 S_313 lk_n) odX3_findShortest
set_option maxRecDepth 100000 in
theorem btX3_daysOver : bTab oX3_daysOver tX3_daysOver := ⟨ofX3_daysOver, by decide +kernel⟩
def ct_315 : aCt := (mX3_daysOver, [.inr (.inl [96]), .inl [(1, 127, 1)], .inl [(0, 6, 1)], .inl [(0, 6, 1)]], ([], []), [(some (.inl aTop), [], [], [])], [], [], 0)
set_option maxRecDepth 100000 in
theorem S_315 : aSpec wd ct_315 := bChk_ok wx_ok btX3_daysOver (nds := []) (fk := []) (rk := (1, [])) (sp := 0) (fuel := 3000) (by decide +kernel) lk_n odX3_daysOver
def lcn_271 : Nat × aAg := ((nat_lit 1), .inl [((.ofNat (nat_lit 1)), (.ofNat (nat_lit 127)), (nat_lit 1))])
def lcn_272 : Nat × aAg := ((nat_lit 2), .inl [((.ofNat (nat_lit 0)), (.ofNat (nat_lit 127)), (nat_lit 1))])
def lcn_273 : Nat × aAg := ((nat_lit 2), .inl [((.ofNat (nat_lit 1)), (.ofNat (nat_lit 127)), (nat_lit 1))])
def lcn_274 : Nat × aAg := ((nat_lit 4), .inl [((.negSucc (nat_lit 2147483647)), (.ofNat (nat_lit 1000000)), (nat_lit 1))])
set_option maxRecDepth 100000 in
theorem btX3_findRests : bTab oX3_findRests tX3_findRests := ⟨ofX3_findRests, by decide +kernel⟩
def ct_316 : aCt := (mX3_findRests, [.inr (.inl [96])], ([((2, 4), [(1, 7, 1)])], [((96, 0), 2)]), [(none, [], [], [])], [(99, 7, 896)], [], 1)
set_option maxRecDepth 100000 in
theorem S_316 : aSpec wd ct_316 := bChk_ok wx_ok btX3_findRests (nds := [((nat_lit 14), [lcn_261, lcn_271, lcn_272], [], [sl_105], [((96, 0), 2)], (72, [(1, 73)])), ((nat_lit 20), [lcn_261, lcn_271, lcn_273, lcn_126], [], [sl_105], [((96, 0), 2)], (71, [(1, 73), (2, -9)])), ((nat_lit 47), [lcn_261, lcn_271, lcn_273, lcn_55, lcn_274, lcn_260], [], [sl_105], [((96, 0), 2)], (70, [(1, 73), (2, -9), (4, -1)]))]) (fk := []) (rk := (9344, [])) (sp := 140737489420288) (fuel := 3000) (by decide +kernel) (lk_c ml_3_81 S_315 lk_n) odX3_findRests
def ct_317 : aCt := (mX3_daysOver, [.inr (.inl [96]), .inl [(0, 127, 1)], .inl [(0, 6, 1)], .inl [(0, 6, 1)]], ([], []), [(some (.inl aTop), [], [], [])], [], [], 0)
set_option maxRecDepth 100000 in
theorem S_317 : aSpec wd ct_317 := bChk_ok wx_ok btX3_daysOver (nds := []) (fk := []) (rk := (1, [])) (sp := 0) (fuel := 3000) (by decide +kernel) lk_n odX3_daysOver
set_option maxRecDepth 100000 in
theorem btX3_nextOf : bTab oX3_nextOf tX3_nextOf := ⟨ofX3_nextOf, by decide +kernel⟩
def ct_318 : aCt := (mX3_nextOf, [.inr (.inl [96]), .inl [(0, 127, 1)], .inl [(0, 6, 1)]], ([((2, 4), [(2, 7, 1)])], [((96, 0), 2)]), [(some (.inl [(0, 6, 1)]), [], [], [])], [], [], 1)
set_option maxRecDepth 100000 in
theorem S_318 : aSpec wd ct_318 := bChk_ok wx_ok btX3_nextOf (nds := [((nat_lit 2), [lcn_261, lcn_262, lcn_69, lcn_126], [], [sl_114], [((96, 0), 2)], (7, [(2, -1)]))]) (fk := []) (rk := (8, [])) (sp := 4) (fuel := 3000) (by decide +kernel) (lk_c ml_3_81 S_317 lk_n) odX3_nextOf
def lcn_275 : Nat × aAg := ((nat_lit 3), .inl [((.negSucc (nat_lit 2147483647)), (.ofNat (nat_lit 999999)), (nat_lit 1))])
def lcn_276 : Nat × aAg := ((nat_lit 4), .inl [((.ofNat (nat_lit 0)), (.ofNat (nat_lit 127)), (nat_lit 1))])
def lcn_277 : Nat × aAg := ((nat_lit 5), .inl [((.ofNat (nat_lit 1)), (.ofNat (nat_lit 7)), (nat_lit 1))])
set_option maxRecDepth 100000 in
theorem btX3_findRound : bTab oX3_findRound tX3_findRound := ⟨ofX3_findRound, by decide +kernel⟩
def ct_319 : aCt := (mX3_findRound, [.inr (.inl [96]), .inl [(0, 6, 1)], .inl aTop], ([((2, 4), [(1, 7, 1)])], [((96, 0), 2)]), [(some (.inl [(-2147483648, 999999, 1)]), [], [], []), (some (.inl [(-2, -2, 1)]), [], [], [])], [(97, 0, 7), (98, 0, 49), (99, 7, 896)], [], 2)
set_option maxRecDepth 100000 in
theorem S_319 : aSpec wd ct_319 := bChk_ok wx_ok btX3_findRound (nds := [((nat_lit 47), [lcn_261, lcn_68, lcn_51, lcn_275, lcn_276, lcn_277], [], [sl_105], [((96, 0), 2)], (7, [(4, -1)]))]) (fk := []) (rk := (7, [])) (sp := 140737488355328) (fuel := 3000) (by decide +kernel) (lk_c ml_3_59 S_316 (lk_c ml_3_63 S_318 (lk_c ml_3_55 S_314 lk_n))) odX3_findRound
def ct_320 : aCt := (mX11_granted, [.inr (.inl [0]), .inl [(-2147483648, 999999, 1)]], ([], []), [(some (.inl [(-2147483648, 999999, 1)]), [], [((0, 2), [(0, 0, 1)])], [])], [(0, 2, 3)], [], 0)
set_option maxRecDepth 100000 in
theorem S_320 : aSpec wd ct_320 := bChk_ok wx_ok btX11_granted (nds := []) (fk := []) (rk := (1, [])) (sp := 0) (fuel := 3000) (by decide +kernel) lk_n odX11_granted
set_option maxRecDepth 100000 in
theorem btX11_round : bTab oX11_round tX11_round := ⟨ofX11_round, by decide +kernel⟩
def ct_321 : aCt := (mX11_round, [.inr (.inl [0]), .inl aTop], ([], [((0, 3), 2), ((96, 0), 2)]), [(some (.inl [(-2147483648, 999999, 1)]), [none, some [(0, 6, 1)]], [((0, 2), [(0, 0, 1)]), ((2, 4), [(1, 7, 1)])], []), (some (.inl [(-1, -1, 1)]), [], [((0, 2), [(1, 1, 1)])], []), (some (.inl [(-2, -2, 1)]), [none, some [(0, 6, 1)]], [((0, 2), [(0, 0, 1)]), ((2, 4), [(1, 7, 1)])], [])], [(0, 2, 3), (97, 0, 7), (98, 0, 49), (99, 7, 896)], [], 3)
set_option maxRecDepth 100000 in
theorem S_321 : aSpec wd ct_321 := bChk_ok wx_ok btX11_round (nds := []) (fk := []) (rk := (1, [])) (sp := 0) (fuel := 3000) (by decide +kernel) (lk_c ml_11_112 S_97 (lk_c ml_11_98 S_74 (lk_c ml_11_112 S_320 (lk_c ml_11_174 S_78 (lk_c ml_11_328 S_319 lk_n))))) odX11_round
set_option maxRecDepth 100000 in
theorem btX11_roundAt : bTab oX11_roundAt tX11_roundAt := ⟨ofX11_roundAt, by decide +kernel⟩
def ct_322 : aCt := (mX11_roundAt, [.inr (.inl [0]), .inl aTop, .inl aTop], ([], [((0, 3), 2), ((96, 0), 2)]), [(some (.inl [(0, 6, 1)]), [none, some [(0, 6, 1)], some [(0, 6, 1)]], [((0, 2), [(0, 0, 1)]), ((2, 4), [(1, 7, 1)])], []), (some (.inl [(-1, -1, 1)]), [], [((0, 2), [(1, 1, 1), (6, 6, 1)])], [])], [(0, 2, 3), (97, 0, 7), (98, 0, 49), (99, 7, 896)], [], 3)
set_option maxRecDepth 100000 in
theorem S_322 : aSpec wd ct_322 := bChk_ok wx_ok btX11_roundAt (nds := []) (fk := []) (rk := (1, [])) (sp := 0) (fuel := 3000) (by decide +kernel) (lk_c ml_11_98 S_209 (lk_c ml_11_98 S_74 (lk_c ml_11_112 S_72 (lk_c ml_11_174 S_100 (lk_c ml_11_174 S_78 (lk_c ml_11_328 S_319 lk_n)))))) odX11_roundAt
def ct_323 : aCt := (mX11_isWithin, [.inl aTop, .inl [(65536, 65536, 1)]], ([], []), [(some (.inl [(0, 0, 1)]), [some [(-2147483648, -1, 1), (65537, 2147483647, 1)], none], [], []), (some (.inl [(1, 1, 1)]), [some [(0, 65536, 1)], none], [], [])], [], [], 0)
set_option maxRecDepth 100000 in
theorem S_323 : aSpec wd ct_323 := bChk_ok wx_ok btX11_isWithin (nds := []) (fk := []) (rk := (1, [])) (sp := 0) (fuel := 3000) (by decide +kernel) lk_n odX11_isWithin
def ct_324 : aCt := (mX11_isWithin, [.inl aTop, .inl [(50, 50, 1)]], ([], []), [(some (.inl [(0, 0, 1)]), [some [(-2147483648, -1, 1), (51, 2147483647, 1)], none], [], []), (some (.inl [(1, 1, 1)]), [some [(0, 50, 1)], none], [], [])], [], [], 0)
set_option maxRecDepth 100000 in
theorem S_324 : aSpec wd ct_324 := bChk_ok wx_ok btX11_isWithin (nds := []) (fk := []) (rk := (1, [])) (sp := 0) (fuel := 3000) (by decide +kernel) lk_n odX11_isWithin
set_option maxRecDepth 100000 in
theorem btX7_draw : bTab oX7_draw tX7_draw := ⟨ofX7_draw, by decide +kernel⟩
def ct_325 : aCt := (mX7_draw, [.inr (.inl [92])], ([], []), [(some (.inl [(-65536, 65536, 1)]), [], [], [])], [(92, 1, 2)], [], 0)
set_option maxRecDepth 100000 in
theorem S_325 : aSpec wd ct_325 := bChk_ok wx_ok btX7_draw (nds := []) (fk := []) (rk := (1, [])) (sp := 0) (fuel := 3000) (by decide +kernel) lk_n odX7_draw
set_option maxRecDepth 100000 in
theorem btX11_withNote : bTab oX11_withNote tX11_withNote := ⟨ofX11_withNote, by decide +kernel⟩
def ct_326 : aCt := (mX11_withNote, [.inl aTop, .inl [(1, 1000, 1)], .inl [(-999, 999, 1)], .inl [(-3, 3, 1)]], ([], []), [(some (.inl aTop), [], [], [])], [], [], 0)
set_option maxRecDepth 100000 in
theorem S_326 : aSpec wd ct_326 := bChk_ok wx_ok btX11_withNote (nds := []) (fk := []) (rk := (1, [])) (sp := 0) (fuel := 3000) (by decide +kernel) lk_n odX11_withNote
end Pk2
