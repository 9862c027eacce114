def oX12_decade : aCd := [(0, .aload_n 0, 1), (1, .invokevirtual 167, 3), (4, .aload_n 0, 1), (5, .getfield 180, 3), (8, .ifCond .ne 9, 3), (11, .aload_n 0, 1), (12, .iconst 1, 1), (13, .invokevirtual 170, 3), (16, .ireturn, 1), (17, .iload_n 1, 1), (18, .iconst 0, 1), (19, .ldc_w 422, 3), (22, .invokestatic 149, 3), (25, .ifCond .eq 13, 3), (28, .iload_n 2, 1), (29, .iconst 0, 1), (30, .bipush 50, 2), (32, .invokestatic 149, 3), (35, .ifCond .ne 9, 3), (38, .aload_n 0, 1), (39, .iconst 2, 1), (40, .invokevirtual 170, 3), (43, .ireturn, 1), (44, .iload_n 1, 1), (45, .istore_n 3, 1), (46, .iconst 0, 1), (47, .istore 4, 2), (49, .iconst 0, 1), (50, .istore 5, 2), (52, .iload 5, 2), (54, .iload_n 2, 1), (55, .if_icmp .ge 144, 3), (58, .iconst 0, 1), (59, .istore 6, 2), (61, .iload 6, 2), (63, .aload_n 0, 1), (64, .getfield 20, 3), (67, .bipush 7, 2), (69, .iaload, 1), (70, .if_icmp .ge 123, 3), (73, .iconst (-1), 1), (74, .istore 7, 2), (76, .iconst 0, 1), (77, .istore 8, 2), (79, .bipush 75, 2), (81, .iload_n 3, 1), (82, .imul, 1), (83, .bipush 74, 2), (85, .iadd, 1), (86, .ldc_w 423, 3), (89, .irem, 1), (90, .istore_n 3, 1), (91, .iload_n 3, 1), (92, .bipush 100, 2), (94, .irem, 1), (95, .aload_n 0, 1), (96, .getfield 20, 3), (99, .iconst 3, 1), (100, .iaload, 1), (101, .if_icmp .ge 47, 3), (104, .bipush 75, 2), (106, .iload_n 3, 1), (107, .imul, 1), (108, .bipush 74, 2), (110, .iadd, 1), (111, .ldc_w 423, 3), (114, .irem, 1), (115, .istore_n 3, 1), (116, .iload_n 3, 1), (117, .aload_n 0, 1), (118, .iload 6, 2), (120, .invokevirtual 284, 3), (123, .irem, 1), (124, .istore 7, 2), (126, .bipush 75, 2), (128, .iload_n 3, 1), (129, .imul, 1), (130, .bipush 74, 2), (132, .iadd, 1), (133, .ldc_w 423, 3), (136, .irem, 1), (137, .istore_n 3, 1), (138, .iload_n 3, 1), (139, .aload_n 0, 1), (140, .getfield 20, 3), (143, .iconst 0, 1), (144, .iaload, 1), (145, .irem, 1), (146, .istore 8, 2), (148, .iload 4, 2), (150, .aload_n 0, 1), (151, .iload 6, 2), (153, .aload_n 0, 1), (154, .getfield 26, 3), (157, .iconst 0, 1), (158, .iaload, 1), (159, .iload 5, 2), (161, .iadd, 1), (162, .iload 7, 2), (164, .iload 8, 2), (166, .invokevirtual 291, 3), (169, .aload_n 0, 1), (170, .iload 6, 2), (172, .iconst 1, 1), (173, .invokevirtual 262, 3), (176, .if_icmp .ne 7, 3), (179, .iconst 1, 1), (180, .goto 4, 3), (183, .iconst 0, 1), (184, .iadd, 1), (185, .istore 4, 2), (187, .iinc 6 1, 3), (190, .goto (-129), 3), (193, .iinc 5 1, 3), (196, .goto (-144), 3), (199, .iload 4, 2), (201, .ireturn, 1)]
set_option maxRecDepth 100000 in
theorem odX12_decade : ∀ q ∈ oX12_decade, decode cX12_decade q.1 = .ok (q.2.1, q.2.2) := List.forall_mem_cons.mpr ⟨dX12_decade_0, List.forall_mem_cons.mpr ⟨dX12_decade_1, List.forall_mem_cons.mpr ⟨dX12_decade_4, List.forall_mem_cons.mpr ⟨dX12_decade_5, List.forall_mem_cons.mpr ⟨dX12_decade_8, List.forall_mem_cons.mpr ⟨dX12_decade_11, List.forall_mem_cons.mpr ⟨dX12_decade_12, List.forall_mem_cons.mpr ⟨dX12_decade_13, List.forall_mem_cons.mpr ⟨dX12_decade_16, List.forall_mem_cons.mpr ⟨dX12_decade_17, List.forall_mem_cons.mpr ⟨dX12_decade_18, List.forall_mem_cons.mpr ⟨dX12_decade_19, List.forall_mem_cons.mpr ⟨dX12_decade_22, List.forall_mem_cons.mpr ⟨dX12_decade_25, List.forall_mem_cons.mpr ⟨dX12_decade_28, List.forall_mem_cons.mpr ⟨dX12_decade_29, List.forall_mem_cons.mpr ⟨dX12_decade_30, List.forall_mem_cons.mpr ⟨dX12_decade_32, List.forall_mem_cons.mpr ⟨dX12_decade_35, List.forall_mem_cons.mpr ⟨dX12_decade_38, List.forall_mem_cons.mpr ⟨dX12_decade_39, List.forall_mem_cons.mpr ⟨dX12_decade_40, List.forall_mem_cons.mpr ⟨dX12_decade_43, List.forall_mem_cons.mpr ⟨dX12_decade_44, List.forall_mem_cons.mpr ⟨dX12_decade_45, List.forall_mem_cons.mpr ⟨dX12_decade_46, List.forall_mem_cons.mpr ⟨dX12_decade_47, List.forall_mem_cons.mpr ⟨dX12_decade_49, List.forall_mem_cons.mpr ⟨dX12_decade_50, List.forall_mem_cons.mpr ⟨dX12_decade_52, List.forall_mem_cons.mpr ⟨dX12_decade_54, List.forall_mem_cons.mpr ⟨dX12_decade_55, List.forall_mem_cons.mpr ⟨dX12_decade_58, List.forall_mem_cons.mpr ⟨dX12_decade_59, List.forall_mem_cons.mpr ⟨dX12_decade_61, List.forall_mem_cons.mpr ⟨dX12_decade_63, List.forall_mem_cons.mpr ⟨dX12_decade_64, List.forall_mem_cons.mpr ⟨dX12_decade_67, List.forall_mem_cons.mpr ⟨dX12_decade_69, List.forall_mem_cons.mpr ⟨dX12_decade_70, List.forall_mem_cons.mpr ⟨dX12_decade_73, List.forall_mem_cons.mpr ⟨dX12_decade_74, List.forall_mem_cons.mpr ⟨dX12_decade_76, List.forall_mem_cons.mpr ⟨dX12_decade_77, List.forall_mem_cons.mpr ⟨dX12_decade_79, List.forall_mem_cons.mpr ⟨dX12_decade_81, List.forall_mem_cons.mpr ⟨dX12_decade_82, List.forall_mem_cons.mpr ⟨dX12_decade_83, List.forall_mem_cons.mpr ⟨dX12_decade_85, List.forall_mem_cons.mpr ⟨dX12_decade_86, List.forall_mem_cons.mpr ⟨dX12_decade_89, List.forall_mem_cons.mpr ⟨dX12_decade_90, List.forall_mem_cons.mpr ⟨dX12_decade_91, List.forall_mem_cons.mpr ⟨dX12_decade_92, List.forall_mem_cons.mpr ⟨dX12_decade_94, List.forall_mem_cons.mpr ⟨dX12_decade_95, List.forall_mem_cons.mpr ⟨dX12_decade_96, List.forall_mem_cons.mpr ⟨dX12_decade_99, List.forall_mem_cons.mpr ⟨dX12_decade_100, List.forall_mem_cons.mpr ⟨dX12_decade_101, List.forall_mem_cons.mpr ⟨dX12_decade_104, List.forall_mem_cons.mpr ⟨dX12_decade_106, List.forall_mem_cons.mpr ⟨dX12_decade_107, List.forall_mem_cons.mpr ⟨dX12_decade_108, List.forall_mem_cons.mpr ⟨dX12_decade_110, List.forall_mem_cons.mpr ⟨dX12_decade_111, List.forall_mem_cons.mpr ⟨dX12_decade_114, List.forall_mem_cons.mpr ⟨dX12_decade_115, List.forall_mem_cons.mpr ⟨dX12_decade_116, List.forall_mem_cons.mpr ⟨dX12_decade_117, List.forall_mem_cons.mpr ⟨dX12_decade_118, List.forall_mem_cons.mpr ⟨dX12_decade_120, List.forall_mem_cons.mpr ⟨dX12_decade_123, List.forall_mem_cons.mpr ⟨dX12_decade_124, List.forall_mem_cons.mpr ⟨dX12_decade_126, List.forall_mem_cons.mpr ⟨dX12_decade_128, List.forall_mem_cons.mpr ⟨dX12_decade_129, List.forall_mem_cons.mpr ⟨dX12_decade_130, List.forall_mem_cons.mpr ⟨dX12_decade_132, List.forall_mem_cons.mpr ⟨dX12_decade_133, List.forall_mem_cons.mpr ⟨dX12_decade_136, List.forall_mem_cons.mpr ⟨dX12_decade_137, List.forall_mem_cons.mpr ⟨dX12_decade_138, List.forall_mem_cons.mpr ⟨dX12_decade_139, List.forall_mem_cons.mpr ⟨dX12_decade_140, List.forall_mem_cons.mpr ⟨dX12_decade_143, List.forall_mem_cons.mpr ⟨dX12_decade_144, List.forall_mem_cons.mpr ⟨dX12_decade_145, List.forall_mem_cons.mpr ⟨dX12_decade_146, List.forall_mem_cons.mpr ⟨dX12_decade_148, List.forall_mem_cons.mpr ⟨dX12_decade_150, List.forall_mem_cons.mpr ⟨dX12_decade_151, List.forall_mem_cons.mpr ⟨dX12_decade_153, List.forall_mem_cons.mpr ⟨dX12_decade_154, List.forall_mem_cons.mpr ⟨dX12_decade_157, List.forall_mem_cons.mpr ⟨dX12_decade_158, List.forall_mem_cons.mpr ⟨dX12_decade_159, List.forall_mem_cons.mpr ⟨dX12_decade_161, List.forall_mem_cons.mpr ⟨dX12_decade_162, List.forall_mem_cons.mpr ⟨dX12_decade_164, List.forall_mem_cons.mpr ⟨dX12_decade_166, List.forall_mem_cons.mpr ⟨dX12_decade_169, List.forall_mem_cons.mpr ⟨dX12_decade_170, List.forall_mem_cons.mpr ⟨dX12_decade_172, List.forall_mem_cons.mpr ⟨dX12_decade_173, List.forall_mem_cons.mpr ⟨dX12_decade_176, List.forall_mem_cons.mpr ⟨dX12_decade_179, List.forall_mem_cons.mpr ⟨dX12_decade_180, List.forall_mem_cons.mpr ⟨dX12_decade_183, List.forall_mem_cons.mpr ⟨dX12_decade_184, List.forall_mem_cons.mpr ⟨dX12_decade_185, List.forall_mem_cons.mpr ⟨dX12_decade_187, List.forall_mem_cons.mpr ⟨dX12_decade_190, List.forall_mem_cons.mpr ⟨dX12_decade_193, List.forall_mem_cons.mpr ⟨dX12_decade_196, List.forall_mem_cons.mpr ⟨dX12_decade_199, List.forall_mem_cons.mpr ⟨dX12_decade_201, fun _ h => nomatch h⟩⟩⟩⟩⟩⟩⟩⟩⟩⟩⟩⟩⟩⟩⟩⟩⟩⟩⟩⟩⟩⟩⟩⟩⟩⟩⟩⟩⟩⟩⟩⟩⟩⟩⟩⟩⟩⟩⟩⟩⟩⟩⟩⟩⟩⟩⟩⟩⟩⟩⟩⟩⟩⟩⟩⟩⟩⟩⟩⟩⟩⟩⟩⟩⟩⟩⟩⟩⟩⟩⟩⟩⟩⟩⟩⟩⟩⟩⟩⟩⟩⟩⟩⟩⟩⟩⟩⟩⟩⟩⟩⟩⟩⟩⟩⟩⟩⟩⟩⟩⟩⟩⟩⟩⟩⟩⟩⟩⟩⟩⟩⟩⟩⟩⟩⟩⟩
def ct_1517 : aCt := (mX12_decade, [.inr (.inl [196]), .inl aTop, .inl aTop], ([((196, 14), [(0, 0, 1)])], []), [(some (.inl [(-1, -1, 1)]), [], [((196, 11), [(1, 1, 1)])], [])], [(196, 0, 1), (196, 11, 12)], [], 1)
set_option maxRecDepth 100000 in
theorem S_1517 : aSpec wd ct_1517 := aChk_ok (lk := [(167, 0, 1, ct_651), (170, 0, 2, ct_1112)]) (cd := oX12_decade) (nds := []) (fk := []) (rk := (1, [])) (fuel := 3000) (by decide +kernel) (List.forall_mem_cons.mpr ⟨⟨ml_12_167, S_651⟩, List.forall_mem_cons.mpr ⟨⟨ml_12_170, S_1112⟩, fun _ h => nomatch h⟩⟩) odX12_decade
def ct_1518 : aCt := (mX12_in, [.inl aTop, .inl [(0, 0, 1)], .inl [(65536, 65536, 1)]], ([], []), [(some (.inl [(0, 0, 1)]), [some [(-2147483648, -1, 1), (65537, 2147483647, 1)], none, none], [], []), (some (.inl [(1, 1, 1)]), [some [(0, 65536, 1)], none, none], [], [])], [(1000002, 0, 0)], [], 0)
set_option maxRecDepth 100000 in
theorem S_1518 : aSpec wd ct_1518 := aChk_ok (lk := []) (cd := oX12_in) (nds := []) (fk := []) (rk := (1, [])) (fuel := 3000) (by decide +kernel) (fun _ h => nomatch h) odX12_in
def ct_1519 : aCt := (mX12_ofBox, [.inr (.inl [196]), .inl [(0, 0, 1)], .inl [(1, 1, 1)]], ([((199, 0), [(2, 4, 1)]), ((199, 4), [(1, 1, 1)]), ((199, 7), [(1, 8, 1)])], []), [(some (.inl [(0, 0, 1)]), [], [], [])], [], [], 0)
set_option maxRecDepth 100000 in
theorem S_1519 : aSpec wd ct_1519 := aChk_ok (lk := []) (cd := oX12_ofBox) (nds := []) (fk := []) (rk := (1, [])) (fuel := 3000) (by decide +kernel) (fun _ h => nomatch h) odX12_ofBox
def ct_1520 : aCt := (mX12_songLong, [.inr (.inl [196]), .inl [(0, 0, 1)]], ([((199, 0), [(2, 4, 1)]), ((199, 4), [(1, 1, 1)]), ((199, 7), [(1, 8, 1)])], []), [(some (.inl [(2, 6, 1)]), [], [], [])], [], [], 0)
set_option maxRecDepth 100000 in
theorem S_1520 : aSpec wd ct_1520 := aChk_ok (lk := []) (cd := oX12_songLong) (nds := []) (fk := []) (rk := (1, [])) (fuel := 3000) (by decide +kernel) (fun _ h => nomatch h) odX12_songLong
def ct_1521 : aCt := (mX12_boxLong, [.inr (.inl [196]), .inl [(0, 0, 1)]], ([((199, 0), [(2, 4, 1)]), ((199, 4), [(1, 1, 1)]), ((199, 7), [(1, 8, 1)])], []), [(some (.inl [(2, 6, 1)]), [], [], [])], [], [], 1)
set_option maxRecDepth 100000 in
theorem S_1521 : aSpec wd ct_1521 := aChk_ok (lk := [(265, 0, 2, ct_1520), (262, 0, 3, ct_1519)]) (cd := oX12_boxLong) (nds := []) (fk := [7]) (rk := (1, [])) (fuel := 3000) (by decide +kernel) (List.forall_mem_cons.mpr ⟨⟨ml_12_265, S_1520⟩, List.forall_mem_cons.mpr ⟨⟨ml_12_262, S_1519⟩, fun _ h => nomatch h⟩⟩) odX12_boxLong
def ct_1522 : aCt := (mX12_ofBox, [.inr (.inl [196]), .inl [(1, 1, 1)], .inl [(1, 1, 1)]], ([((199, 0), [(2, 4, 1)]), ((199, 4), [(1, 1, 1)]), ((199, 7), [(2, 8, 1)])], []), [(some (.inl [(0, 0, 1)]), [], [], [])], [], [], 0)
set_option maxRecDepth 100000 in
theorem S_1522 : aSpec wd ct_1522 := aChk_ok (lk := []) (cd := oX12_ofBox) (nds := []) (fk := []) (rk := (1, [])) (fuel := 3000) (by decide +kernel) (fun _ h => nomatch h) odX12_ofBox
def ct_1523 : aCt := (mX12_songLong, [.inr (.inl [196]), .inl [(0, 0, 1)]], ([((199, 0), [(2, 4, 1)]), ((199, 4), [(1, 1, 1)]), ((199, 7), [(2, 8, 1)])], []), [(some (.inl [(2, 6, 1)]), [], [], [])], [], [], 0)
set_option maxRecDepth 100000 in
theorem S_1523 : aSpec wd ct_1523 := aChk_ok (lk := []) (cd := oX12_songLong) (nds := []) (fk := []) (rk := (1, [])) (fuel := 3000) (by decide +kernel) (fun _ h => nomatch h) odX12_songLong
def ct_1524 : aCt := (mX12_boxLong, [.inr (.inl [196]), .inl [(1, 1, 1)]], ([((199, 0), [(2, 4, 1)]), ((199, 4), [(1, 1, 1)]), ((199, 7), [(2, 8, 1)])], []), [(some (.inl [(2, 6, 1)]), [], [], [])], [], [], 1)
set_option maxRecDepth 100000 in
theorem S_1524 : aSpec wd ct_1524 := aChk_ok (lk := [(265, 0, 2, ct_1523), (262, 0, 3, ct_1522)]) (cd := oX12_boxLong) (nds := []) (fk := [7]) (rk := (1, [])) (fuel := 3000) (by decide +kernel) (List.forall_mem_cons.mpr ⟨⟨ml_12_265, S_1523⟩, List.forall_mem_cons.mpr ⟨⟨ml_12_262, S_1522⟩, fun _ h => nomatch h⟩⟩) odX12_boxLong
def ct_1525 : aCt := (mX12_ofBox, [.inr (.inl [196]), .inl [(2, 2, 1)], .inl [(1, 1, 1)]], ([((199, 0), [(2, 4, 1)]), ((199, 4), [(1, 1, 1)]), ((199, 7), [(3, 8, 1)])], []), [(some (.inl [(0, 0, 1)]), [], [], [])], [], [], 0)
set_option maxRecDepth 100000 in
theorem S_1525 : aSpec wd ct_1525 := aChk_ok (lk := []) (cd := oX12_ofBox) (nds := []) (fk := []) (rk := (1, [])) (fuel := 3000) (by decide +kernel) (fun _ h => nomatch h) odX12_ofBox
def ct_1526 : aCt := (mX12_songLong, [.inr (.inl [196]), .inl [(0, 0, 1)]], ([((199, 0), [(2, 4, 1)]), ((199, 4), [(1, 1, 1)]), ((199, 7), [(3, 8, 1)])], []), [(some (.inl [(2, 6, 1)]), [], [], [])], [], [], 0)
set_option maxRecDepth 100000 in
theorem S_1526 : aSpec wd ct_1526 := aChk_ok (lk := []) (cd := oX12_songLong) (nds := []) (fk := []) (rk := (1, [])) (fuel := 3000) (by decide +kernel) (fun _ h => nomatch h) odX12_songLong
def ct_1527 : aCt := (mX12_boxLong, [.inr (.inl [196]), .inl [(2, 2, 1)]], ([((199, 0), [(2, 4, 1)]), ((199, 4), [(1, 1, 1)]), ((199, 7), [(3, 8, 1)])], []), [(some (.inl [(2, 6, 1)]), [], [], [])], [], [], 1)
set_option maxRecDepth 100000 in
theorem S_1527 : aSpec wd ct_1527 := aChk_ok (lk := [(265, 0, 2, ct_1526), (262, 0, 3, ct_1525)]) (cd := oX12_boxLong) (nds := []) (fk := [7]) (rk := (1, [])) (fuel := 3000) (by decide +kernel) (List.forall_mem_cons.mpr ⟨⟨ml_12_265, S_1526⟩, List.forall_mem_cons.mpr ⟨⟨ml_12_262, S_1525⟩, fun _ h => nomatch h⟩⟩) odX12_boxLong
def ct_1528 : aCt := (mX12_ofBox, [.inr (.inl [196]), .inl [(3, 3, 1)], .inl [(1, 1, 1)]], ([((199, 0), [(2, 4, 1)]), ((199, 4), [(1, 1, 1)]), ((199, 7), [(4, 8, 1)])], []), [(some (.inl [(0, 0, 1)]), [], [], [])], [], [], 0)
set_option maxRecDepth 100000 in
theorem S_1528 : aSpec wd ct_1528 := aChk_ok (lk := []) (cd := oX12_ofBox) (nds := []) (fk := []) (rk := (1, [])) (fuel := 3000) (by decide +kernel) (fun _ h => nomatch h) odX12_ofBox
def ct_1529 : aCt := (mX12_songLong, [.inr (.inl [196]), .inl [(0, 0, 1)]], ([((199, 0), [(2, 4, 1)]), ((199, 4), [(1, 1, 1)]), ((199, 7), [(4, 8, 1)])], []), [(some (.inl [(2, 6, 1)]), [], [], [])], [], [], 0)
set_option maxRecDepth 100000 in
theorem S_1529 : aSpec wd ct_1529 := aChk_ok (lk := []) (cd := oX12_songLong) (nds := []) (fk := []) (rk := (1, [])) (fuel := 3000) (by decide +kernel) (fun _ h => nomatch h) odX12_songLong
def ct_1530 : aCt := (mX12_boxLong, [.inr (.inl [196]), .inl [(3, 3, 1)]], ([((199, 0), [(2, 4, 1)]), ((199, 4), [(1, 1, 1)]), ((199, 7), [(4, 8, 1)])], []), [(some (.inl [(2, 6, 1)]), [], [], [])], [], [], 1)
set_option maxRecDepth 100000 in
theorem S_1530 : aSpec wd ct_1530 := aChk_ok (lk := [(265, 0, 2, ct_1529), (262, 0, 3, ct_1528)]) (cd := oX12_boxLong) (nds := []) (fk := [7]) (rk := (1, [])) (fuel := 3000) (by decide +kernel) (List.forall_mem_cons.mpr ⟨⟨ml_12_265, S_1529⟩, List.forall_mem_cons.mpr ⟨⟨ml_12_262, S_1528⟩, fun _ h => nomatch h⟩⟩) odX12_boxLong
def ct_1531 : aCt := (mX12_ofBox, [.inr (.inl [196]), .inl [(4, 4, 1)], .inl [(1, 1, 1)]], ([((199, 0), [(2, 4, 1)]), ((199, 4), [(1, 1, 1)]), ((199, 7), [(5, 8, 1)])], []), [(some (.inl [(0, 0, 1)]), [], [], [])], [], [], 0)
set_option maxRecDepth 100000 in
theorem S_1531 : aSpec wd ct_1531 := aChk_ok (lk := []) (cd := oX12_ofBox) (nds := []) (fk := []) (rk := (1, [])) (fuel := 3000) (by decide +kernel) (fun _ h => nomatch h) odX12_ofBox
def ct_1532 : aCt := (mX12_songLong, [.inr (.inl [196]), .inl [(0, 0, 1)]], ([((199, 0), [(2, 4, 1)]), ((199, 4), [(1, 1, 1)]), ((199, 7), [(5, 8, 1)])], []), [(some (.inl [(2, 6, 1)]), [], [], [])], [], [], 0)
set_option maxRecDepth 100000 in
theorem S_1532 : aSpec wd ct_1532 := aChk_ok (lk := []) (cd := oX12_songLong) (nds := []) (fk := []) (rk := (1, [])) (fuel := 3000) (by decide +kernel) (fun _ h => nomatch h) odX12_songLong
def ct_1533 : aCt := (mX12_boxLong, [.inr (.inl [196]), .inl [(4, 4, 1)]], ([((199, 0), [(2, 4, 1)]), ((199, 4), [(1, 1, 1)]), ((199, 7), [(5, 8, 1)])], []), [(some (.inl [(2, 6, 1)]), [], [], [])], [], [], 1)
set_option maxRecDepth 100000 in
theorem S_1533 : aSpec wd ct_1533 := aChk_ok (lk := [(265, 0, 2, ct_1532), (262, 0, 3, ct_1531)]) (cd := oX12_boxLong) (nds := []) (fk := [7]) (rk := (1, [])) (fuel := 3000) (by decide +kernel) (List.forall_mem_cons.mpr ⟨⟨ml_12_265, S_1532⟩, List.forall_mem_cons.mpr ⟨⟨ml_12_262, S_1531⟩, fun _ h => nomatch h⟩⟩) odX12_boxLong
def ct_1534 : aCt := (mX12_ofBox, [.inr (.inl [196]), .inl [(5, 5, 1)], .inl [(1, 1, 1)]], ([((199, 0), [(2, 4, 1)]), ((199, 4), [(1, 1, 1)]), ((199, 7), [(6, 8, 1)])], []), [(some (.inl [(0, 0, 1)]), [], [], [])], [], [], 0)
set_option maxRecDepth 100000 in
theorem S_1534 : aSpec wd ct_1534 := aChk_ok (lk := []) (cd := oX12_ofBox) (nds := []) (fk := []) (rk := (1, [])) (fuel := 3000) (by decide +kernel) (fun _ h => nomatch h) odX12_ofBox
def ct_1535 : aCt := (mX12_songLong, [.inr (.inl [196]), .inl [(0, 0, 1)]], ([((199, 0), [(2, 4, 1)]), ((199, 4), [(1, 1, 1)]), ((199, 7), [(6, 8, 1)])], []), [(some (.inl [(2, 6, 1)]), [], [], [])], [], [], 0)
set_option maxRecDepth 100000 in
theorem S_1535 : aSpec wd ct_1535 := aChk_ok (lk := []) (cd := oX12_songLong) (nds := []) (fk := []) (rk := (1, [])) (fuel := 3000) (by decide +kernel) (fun _ h => nomatch h) odX12_songLong
def ct_1536 : aCt := (mX12_boxLong, [.inr (.inl [196]), .inl [(5, 5, 1)]], ([((199, 0), [(2, 4, 1)]), ((199, 4), [(1, 1, 1)]), ((199, 7), [(6, 8, 1)])], []), [(some (.inl [(2, 6, 1)]), [], [], [])], [], [], 1)
set_option maxRecDepth 100000 in
theorem S_1536 : aSpec wd ct_1536 := aChk_ok (lk := [(265, 0, 2, ct_1535), (262, 0, 3, ct_1534)]) (cd := oX12_boxLong) (nds := []) (fk := [7]) (rk := (1, [])) (fuel := 3000) (by decide +kernel) (List.forall_mem_cons.mpr ⟨⟨ml_12_265, S_1535⟩, List.forall_mem_cons.mpr ⟨⟨ml_12_262, S_1534⟩, fun _ h => nomatch h⟩⟩) odX12_boxLong
def ct_1537 : aCt := (mX12_ofBox, [.inr (.inl [196]), .inl [(6, 6, 1)], .inl [(1, 1, 1)]], ([((199, 0), [(2, 4, 1)]), ((199, 4), [(1, 1, 1)]), ((199, 7), [(7, 8, 1)])], []), [(some (.inl [(0, 0, 1)]), [], [], [])], [], [], 0)
set_option maxRecDepth 100000 in
theorem S_1537 : aSpec wd ct_1537 := aChk_ok (lk := []) (cd := oX12_ofBox) (nds := []) (fk := []) (rk := (1, [])) (fuel := 3000) (by decide +kernel) (fun _ h => nomatch h) odX12_ofBox
def ct_1538 : aCt := (mX12_songLong, [.inr (.inl [196]), .inl [(0, 0, 1)]], ([((199, 0), [(2, 4, 1)]), ((199, 4), [(1, 1, 1)]), ((199, 7), [(7, 8, 1)])], []), [(some (.inl [(2, 6, 1)]), [], [], [])], [], [], 0)
set_option maxRecDepth 100000 in
theorem S_1538 : aSpec wd ct_1538 := aChk_ok (lk := []) (cd := oX12_songLong) (nds := []) (fk := []) (rk := (1, [])) (fuel := 3000) (by decide +kernel) (fun _ h => nomatch h) odX12_songLong
def ct_1539 : aCt := (mX12_boxLong, [.inr (.inl [196]), .inl [(6, 6, 1)]], ([((199, 0), [(2, 4, 1)]), ((199, 4), [(1, 1, 1)]), ((199, 7), [(7, 8, 1)])], []), [(some (.inl [(2, 6, 1)]), [], [], [])], [], [], 1)
set_option maxRecDepth 100000 in
theorem S_1539 : aSpec wd ct_1539 := aChk_ok (lk := [(265, 0, 2, ct_1538), (262, 0, 3, ct_1537)]) (cd := oX12_boxLong) (nds := []) (fk := [7]) (rk := (1, [])) (fuel := 3000) (by decide +kernel) (List.forall_mem_cons.mpr ⟨⟨ml_12_265, S_1538⟩, List.forall_mem_cons.mpr ⟨⟨ml_12_262, S_1537⟩, fun _ h => nomatch h⟩⟩) odX12_boxLong
def ct_1540 : aCt := (mX12_ofBox, [.inr (.inl [196]), .inl [(7, 7, 1)], .inl [(1, 1, 1)]], ([((199, 0), [(2, 4, 1)]), ((199, 4), [(1, 1, 1)]), ((199, 7), [(8, 8, 1)])], []), [(some (.inl [(0, 0, 1)]), [], [], [])], [], [], 0)
set_option maxRecDepth 100000 in
theorem S_1540 : aSpec wd ct_1540 := aChk_ok (lk := []) (cd := oX12_ofBox) (nds := []) (fk := []) (rk := (1, [])) (fuel := 3000) (by decide +kernel) (fun _ h => nomatch h) odX12_ofBox
def ct_1541 : aCt := (mX12_songLong, [.inr (.inl [196]), .inl [(0, 0, 1)]], ([((199, 0), [(2, 4, 1)]), ((199, 4), [(1, 1, 1)]), ((199, 7), [(8, 8, 1)])], []), [(some (.inl [(2, 6, 1)]), [], [], [])], [], [], 0)
set_option maxRecDepth 100000 in
theorem S_1541 : aSpec wd ct_1541 := aChk_ok (lk := []) (cd := oX12_songLong) (nds := []) (fk := []) (rk := (1, [])) (fuel := 3000) (by decide +kernel) (fun _ h => nomatch h) odX12_songLong
def ct_1542 : aCt := (mX12_boxLong, [.inr (.inl [196]), .inl [(7, 7, 1)]], ([((199, 0), [(2, 4, 1)]), ((199, 4), [(1, 1, 1)]), ((199, 7), [(8, 8, 1)])], []), [(some (.inl [(2, 6, 1)]), [], [], [])], [], [], 1)
set_option maxRecDepth 100000 in
theorem S_1542 : aSpec wd ct_1542 := aChk_ok (lk := [(265, 0, 2, ct_1541), (262, 0, 3, ct_1540)]) (cd := oX12_boxLong) (nds := []) (fk := [7]) (rk := (1, [])) (fuel := 3000) (by decide +kernel) (List.forall_mem_cons.mpr ⟨⟨ml_12_265, S_1541⟩, List.forall_mem_cons.mpr ⟨⟨ml_12_262, S_1540⟩, fun _ h => nomatch h⟩⟩) odX12_boxLong
def ct_1543 : aCt := (mX12_decade, [.inr (.inl [196]), .inl aTop, .inl aTop], ([((199, 4), [(1, 1, 1)])], []), [(some (.inl aTop), [], [((196, 11), [(0, 0, 1)]), ((196, 14), [(1, 1, 1)]), ((199, 0), [(2, 4, 1)])], []), (some (.inl [(-1, -1, 1)]), [], [((196, 11), [(1, 2, 1)])], [])], [(196, 0, 1), (196, 11, 12)], [], 4)
def lk_1543 : aLk := [(167, 0, 1, ct_651), (284, 0, 2, ct_1542), (284, 0, 2, ct_1539), (284, 0, 2, ct_1536), (284, 0, 2, ct_1533), (284, 0, 2, ct_1530), (284, 0, 2, ct_1527), (284, 0, 2, ct_1524), (284, 0, 2, ct_1521), (170, 0, 2, ct_1112), (170, 0, 2, ct_653), (262, 0, 3, ct_1540), (262, 0, 3, ct_1537), (262, 0, 3, ct_1534), (262, 0, 3, ct_1531), (262, 0, 3, ct_1528), (262, 0, 3, ct_1525), (262, 0, 3, ct_1522), (262, 0, 3, ct_1519), (291, 0, 5, ct_1155), (149, 1, 3, ct_1518), (149, 1, 3, ct_678)]
def nd_1543_0 : aNd := (52, [(0, .inr (.inl [196])), (1, .inl [(0, 65536, 1)]), (2, .inl [(0, 50, 1)]), (3, .inl [(0, 65536, 1)]), (4, .inl aTop), (5, .inl [(0, 75, 1)])], [], [((196, 11), [(0, 0, 1)]), ((196, 14), [(1, 1, 1)]), ((199, 0), [(2, 4, 1)]), ((199, 4), [(1, 1, 1)])], [], (759, [(4, -10)]))
def nd_1543_1 : aNd := (61, [(0, .inr (.inl [196])), (1, .inl [(0, 65536, 1)]), (2, .inl [(1, 50, 1)]), (3, .inl [(0, 65536, 1)]), (4, .inl aTop), (5, .inl [(0, 63, 1)]), (6, .inl [(0, 0, 1)])], [], [((196, 11), [(0, 0, 1)]), ((196, 14), [(1, 1, 1)]), ((199, 0), [(2, 4, 1)]), ((199, 4), [(1, 1, 1)])], [], (758, [(4, -10)]))
def nd_1543_2 : aNd := (61, [(0, .inr (.inl [196])), (1, .inl [(0, 65536, 1)]), (2, .inl [(1, 50, 1)]), (3, .inl [(0, 65536, 1)]), (4, .inl aTop), (5, .inl [(0, 63, 1)]), (6, .inl [(1, 1, 1)]), (7, .inl [(-1, 5, 1)]), (8, .inl [(0, 3, 1)])], [], [((196, 11), [(0, 0, 1)]), ((196, 14), [(1, 1, 1)]), ((199, 0), [(2, 4, 1)]), ((199, 4), [(1, 1, 1)]), ((199, 7), [(1, 8, 1)])], [], (757, [(4, -10)]))
def nd_1543_3 : aNd := (61, [(0, .inr (.inl [196])), (1, .inl [(0, 65536, 1)]), (2, .inl [(1, 50, 1)]), (3, .inl [(0, 65536, 1)]), (4, .inl aTop), (5, .inl [(0, 63, 1)]), (6, .inl [(2, 2, 1)]), (7, .inl [(-1, 5, 1)]), (8, .inl [(0, 3, 1)])], [], [((196, 11), [(0, 0, 1)]), ((196, 14), [(1, 1, 1)]), ((199, 0), [(2, 4, 1)]), ((199, 4), [(1, 1, 1)]), ((199, 7), [(2, 8, 1)])], [], (756, [(4, -10)]))
def nd_1543_4 : aNd := (61, [(0, .inr (.inl [196])), (1, .inl [(0, 65536, 1)]), (2, .inl [(1, 50, 1)]), (3, .inl [(0, 65536, 1)]), (4, .inl aTop), (5, .inl [(0, 63, 1)]), (6, .inl [(3, 3, 1)]), (7, .inl [(-1, 5, 1)]), (8, .inl [(0, 3, 1)])], [], [((196, 11), [(0, 0, 1)]), ((196, 14), [(1, 1, 1)]), ((199, 0), [(2, 4, 1)]), ((199, 4), [(1, 1, 1)]), ((199, 7), [(3, 8, 1)])], [], (755, [(4, -10)]))
def nd_1543_5 : aNd := (61, [(0, .inr (.inl [196])), (1, .inl [(0, 65536, 1)]), (2, .inl [(1, 50, 1)]), (3, .inl [(0, 65536, 1)]), (4, .inl aTop), (5, .inl [(0, 63, 1)]), (6, .inl [(4, 4, 1)]), (7, .inl [(-1, 5, 1)]), (8, .inl [(0, 3, 1)])], [], [((196, 11), [(0, 0, 1)]), ((196, 14), [(1, 1, 1)]), ((199, 0), [(2, 4, 1)]), ((199, 4), [(1, 1, 1)]), ((199, 7), [(4, 8, 1)])], [], (754, [(4, -10)]))
def nd_1543_6 : aNd := (61, [(0, .inr (.inl [196])), (1, .inl [(0, 65536, 1)]), (2, .inl [(1, 50, 1)]), (3, .inl [(0, 65536, 1)]), (4, .inl aTop), (5, .inl [(0, 63, 1)]), (6, .inl [(5, 5, 1)]), (7, .inl [(-1, 5, 1)]), (8, .inl [(0, 3, 1)])], [], [((196, 11), [(0, 0, 1)]), ((196, 14), [(1, 1, 1)]), ((199, 0), [(2, 4, 1)]), ((199, 4), [(1, 1, 1)]), ((199, 7), [(5, 8, 1)])], [], (753, [(4, -10)]))
def nd_1543_7 : aNd := (61, [(0, .inr (.inl [196])), (1, .inl [(0, 65536, 1)]), (2, .inl [(1, 50, 1)]), (3, .inl [(0, 65536, 1)]), (4, .inl aTop), (5, .inl [(0, 63, 1)]), (6, .inl [(6, 6, 1)]), (7, .inl [(-1, 5, 1)]), (8, .inl [(0, 3, 1)])], [], [((196, 11), [(0, 0, 1)]), ((196, 14), [(1, 1, 1)]), ((199, 0), [(2, 4, 1)]), ((199, 4), [(1, 1, 1)]), ((199, 7), [(6, 8, 1)])], [], (752, [(4, -10)]))
def nd_1543_8 : aNd := (61, [(0, .inr (.inl [196])), (1, .inl [(0, 65536, 1)]), (2, .inl [(1, 50, 1)]), (3, .inl [(0, 65536, 1)]), (4, .inl aTop), (5, .inl [(0, 63, 1)]), (6, .inl [(7, 7, 1)]), (7, .inl [(-1, 5, 1)]), (8, .inl [(0, 3, 1)])], [], [((196, 11), [(0, 0, 1)]), ((196, 14), [(1, 1, 1)]), ((199, 0), [(2, 4, 1)]), ((199, 4), [(1, 1, 1)]), ((199, 7), [(7, 8, 1)])], [], (751, [(4, -10)]))
def nd_1543_9 : aNd := (61, [(0, .inr (.inl [196])), (1, .inl [(0, 65536, 1)]), (2, .inl [(1, 50, 1)]), (3, .inl [(0, 65536, 1)]), (4, .inl aTop), (5, .inl [(0, 63, 1)]), (6, .inl [(8, 8, 1)]), (7, .inl [(-1, 5, 1)]), (8, .inl [(0, 3, 1)])], [], [((196, 11), [(0, 0, 1)]), ((196, 14), [(1, 1, 1)]), ((199, 0), [(2, 4, 1)]), ((199, 4), [(1, 1, 1)]), ((199, 7), [(8, 8, 1)])], [], (750, [(4, -10)]))
def nd_1543 : List aNd := [nd_1543_0, nd_1543_1, nd_1543_2, nd_1543_3, nd_1543_4, nd_1543_5, nd_1543_6, nd_1543_7, nd_1543_8, nd_1543_9]
set_option maxRecDepth 100000 in
theorem kN_1543_0 : aSgk wd ct_1543 lk_1543 oX12_decade [] 3000 nd_1543 nd_1543_0 = true := by decide +kernel
set_option maxRecDepth 100000 in
theorem kN_1543_1 : aSgk wd ct_1543 lk_1543 oX12_decade [] 3000 nd_1543 nd_1543_1 = true := by decide +kernel
set_option maxRecDepth 100000 in
theorem kN_1543_2 : aSgk wd ct_1543 lk_1543 oX12_decade [] 3000 nd_1543 nd_1543_2 = true := by decide +kernel
set_option maxRecDepth 100000 in
theorem kN_1543_3 : aSgk wd ct_1543 lk_1543 oX12_decade [] 3000 nd_1543 nd_1543_3 = true := by decide +kernel
set_option maxRecDepth 100000 in
theorem kN_1543_4 : aSgk wd ct_1543 lk_1543 oX12_decade [] 3000 nd_1543 nd_1543_4 = true := by decide +kernel
set_option maxRecDepth 100000 in
theorem kN_1543_5 : aSgk wd ct_1543 lk_1543 oX12_decade [] 3000 nd_1543 nd_1543_5 = true := by decide +kernel
set_option maxRecDepth 100000 in
theorem kN_1543_6 : aSgk wd ct_1543 lk_1543 oX12_decade [] 3000 nd_1543 nd_1543_6 = true := by decide +kernel
set_option maxRecDepth 100000 in
theorem kN_1543_7 : aSgk wd ct_1543 lk_1543 oX12_decade [] 3000 nd_1543 nd_1543_7 = true := by decide +kernel
set_option maxRecDepth 100000 in
theorem kN_1543_8 : aSgk wd ct_1543 lk_1543 oX12_decade [] 3000 nd_1543 nd_1543_8 = true := by decide +kernel
set_option maxRecDepth 100000 in
theorem kN_1543_9 : aSgk wd ct_1543 lk_1543 oX12_decade [] 3000 nd_1543 nd_1543_9 = true := by decide +kernel
set_option maxRecDepth 100000 in
theorem kE_1543 : (aRkOk (aEnt ct_1543 (760, [])) && aRun wd ct_1543.2.2.2.2.1 ct_1543.2.2.2.2.2.1 ct_1543.1 ct_1543.2.2.2.2.2.2 lk_1543 oX12_decade nd_1543 ct_1543.2.2.2.1 [] ((aPvl 0 (aPos 0 ct_1543.2.1)).map (fun q => aXp q.2)) (760, []) 3000 true (aNs (aEnt ct_1543 (760, [])))) = true := by decide +kernel
set_option maxRecDepth 100000 in
theorem S_1543 : aSpec wd ct_1543 := aChkL_ok (lk := lk_1543) (cd := oX12_decade) (nds := nd_1543) (fk := []) (rk := (760, [])) (fuel := 3000) kE_1543 (List.forall_mem_cons.mpr ⟨kN_1543_0, List.forall_mem_cons.mpr ⟨kN_1543_1, List.forall_mem_cons.mpr ⟨kN_1543_2, List.forall_mem_cons.mpr ⟨kN_1543_3, List.forall_mem_cons.mpr ⟨kN_1543_4, List.forall_mem_cons.mpr ⟨kN_1543_5, List.forall_mem_cons.mpr ⟨kN_1543_6, List.forall_mem_cons.mpr ⟨kN_1543_7, List.forall_mem_cons.mpr ⟨kN_1543_8, List.forall_mem_cons.mpr ⟨kN_1543_9, fun _ h => nomatch h⟩⟩⟩⟩⟩⟩⟩⟩⟩⟩) (List.forall_mem_cons.mpr ⟨⟨ml_12_167, S_651⟩, List.forall_mem_cons.mpr ⟨⟨ml_12_284, S_1542⟩, List.forall_mem_cons.mpr ⟨⟨ml_12_284, S_1539⟩, List.forall_mem_cons.mpr ⟨⟨ml_12_284, S_1536⟩, List.forall_mem_cons.mpr ⟨⟨ml_12_284, S_1533⟩, List.forall_mem_cons.mpr ⟨⟨ml_12_284, S_1530⟩, List.forall_mem_cons.mpr ⟨⟨ml_12_284, S_1527⟩, List.forall_mem_cons.mpr ⟨⟨ml_12_284, S_1524⟩, List.forall_mem_cons.mpr ⟨⟨ml_12_284, S_1521⟩, List.forall_mem_cons.mpr ⟨⟨ml_12_170, S_1112⟩, List.forall_mem_cons.mpr ⟨⟨ml_12_170, S_653⟩, List.forall_mem_cons.mpr ⟨⟨ml_12_262, S_1540⟩, List.forall_mem_cons.mpr ⟨⟨ml_12_262, S_1537⟩, List.forall_mem_cons.mpr ⟨⟨ml_12_262, S_1534⟩, List.forall_mem_cons.mpr ⟨⟨ml_12_262, S_1531⟩, List.forall_mem_cons.mpr ⟨⟨ml_12_262, S_1528⟩, List.forall_mem_cons.mpr ⟨⟨ml_12_262, S_1525⟩, List.forall_mem_cons.mpr ⟨⟨ml_12_262, S_1522⟩, List.forall_mem_cons.mpr ⟨⟨ml_12_262, S_1519⟩, List.forall_mem_cons.mpr ⟨⟨ml_12_291, S_1155⟩, List.forall_mem_cons.mpr ⟨⟨ml_12_149, S_1518⟩, List.forall_mem_cons.mpr ⟨⟨ml_12_149, S_678⟩, fun _ h => nomatch h⟩⟩⟩⟩⟩⟩⟩⟩⟩⟩⟩⟩⟩⟩⟩⟩⟩⟩⟩⟩⟩⟩) odX12_decade
def ct_1544 : aCt := (mX12_ofBox, [.inr (.inl [196]), .inl [(0, 0, 1)], .inl [(1, 1, 1)]], ([((199, 0), [(2, 4, 1)]), ((199, 4), [(2, 2, 1)]), ((199, 7), [(1, 8, 1)])], []), [(some (.inl [(0, 1, 1)]), [], [], [])], [], [], 0)
set_option maxRecDepth 100000 in
theorem S_1544 : aSpec wd ct_1544 := aChk_ok (lk := []) (cd := oX12_ofBox) (nds := []) (fk := []) (rk := (1, [])) (fuel := 3000) (by decide +kernel) (fun _ h => nomatch h) odX12_ofBox
def ct_1545 : aCt := (mX12_songLong, [.inr (.inl [196]), .inl [(0, 0, 1)]], ([((199, 0), [(2, 4, 1)]), ((199, 4), [(2, 2, 1)]), ((199, 7), [(1, 8, 1)])], []), [(some (.inl [(2, 6, 1)]), [], [], [])], [], [], 0)
set_option maxRecDepth 100000 in
theorem S_1545 : aSpec wd ct_1545 := aChk_ok (lk := []) (cd := oX12_songLong) (nds := []) (fk := []) (rk := (1, [])) (fuel := 3000) (by decide +kernel) (fun _ h => nomatch h) odX12_songLong
def ct_1546 : aCt := (mX12_songLong, [.inr (.inl [196]), .inl [(1, 1, 1)]], ([((199, 0), [(2, 4, 1)]), ((199, 4), [(2, 2, 1)]), ((199, 7), [(1, 8, 1)])], []), [(some (.inl [(2, 6, 1)]), [], [], [])], [], [], 0)
set_option maxRecDepth 100000 in
theorem S_1546 : aSpec wd ct_1546 := aChk_ok (lk := []) (cd := oX12_songLong) (nds := []) (fk := []) (rk := (1, [])) (fuel := 3000) (by decide +kernel) (fun _ h => nomatch h) odX12_songLong
def ct_1547 : aCt := (mX12_boxLong, [.inr (.inl [196]), .inl [(0, 0, 1)]], ([((199, 0), [(2, 4, 1)]), ((199, 4), [(2, 2, 1)]), ((199, 7), [(1, 8, 1)])], []), [(some (.inl [(2, 6, 1)]), [], [], [])], [], [], 1)
set_option maxRecDepth 100000 in
theorem S_1547 : aSpec wd ct_1547 := aChk_ok (lk := [(265, 0, 2, ct_1545), (265, 0, 2, ct_1546), (262, 0, 3, ct_1544)]) (cd := oX12_boxLong) (nds := []) (fk := [7]) (rk := (1, [])) (fuel := 3000) (by decide +kernel) (List.forall_mem_cons.mpr ⟨⟨ml_12_265, S_1545⟩, List.forall_mem_cons.mpr ⟨⟨ml_12_265, S_1546⟩, List.forall_mem_cons.mpr ⟨⟨ml_12_262, S_1544⟩, fun _ h => nomatch h⟩⟩⟩) odX12_boxLong
def ct_1548 : aCt := (mX12_ofBox, [.inr (.inl [196]), .inl [(1, 1, 1)], .inl [(1, 1, 1)]], ([((199, 0), [(2, 4, 1)]), ((199, 4), [(2, 2, 1)]), ((199, 7), [(2, 8, 1)])], []), [(some (.inl [(0, 1, 1)]), [], [], [])], [], [], 0)
set_option maxRecDepth 100000 in
theorem S_1548 : aSpec wd ct_1548 := aChk_ok (lk := []) (cd := oX12_ofBox) (nds := []) (fk := []) (rk := (1, [])) (fuel := 3000) (by decide +kernel) (fun _ h => nomatch h) odX12_ofBox
def ct_1549 : aCt := (mX12_songLong, [.inr (.inl [196]), .inl [(0, 0, 1)]], ([((199, 0), [(2, 4, 1)]), ((199, 4), [(2, 2, 1)]), ((199, 7), [(2, 8, 1)])], []), [(some (.inl [(2, 6, 1)]), [], [], [])], [], [], 0)
set_option maxRecDepth 100000 in
theorem S_1549 : aSpec wd ct_1549 := aChk_ok (lk := []) (cd := oX12_songLong) (nds := []) (fk := []) (rk := (1, [])) (fuel := 3000) (by decide +kernel) (fun _ h => nomatch h) odX12_songLong
def ct_1550 : aCt := (mX12_songLong, [.inr (.inl [196]), .inl [(1, 1, 1)]], ([((199, 0), [(2, 4, 1)]), ((199, 4), [(2, 2, 1)]), ((199, 7), [(2, 8, 1)])], []), [(some (.inl [(2, 6, 1)]), [], [], [])], [], [], 0)
set_option maxRecDepth 100000 in
theorem S_1550 : aSpec wd ct_1550 := aChk_ok (lk := []) (cd := oX12_songLong) (nds := []) (fk := []) (rk := (1, [])) (fuel := 3000) (by decide +kernel) (fun _ h => nomatch h) odX12_songLong
def ct_1551 : aCt := (mX12_boxLong, [.inr (.inl [196]), .inl [(1, 1, 1)]], ([((199, 0), [(2, 4, 1)]), ((199, 4), [(2, 2, 1)]), ((199, 7), [(2, 8, 1)])], []), [(some (.inl [(2, 6, 1)]), [], [], [])], [], [], 1)
set_option maxRecDepth 100000 in
theorem S_1551 : aSpec wd ct_1551 := aChk_ok (lk := [(265, 0, 2, ct_1549), (265, 0, 2, ct_1550), (262, 0, 3, ct_1548)]) (cd := oX12_boxLong) (nds := []) (fk := [7]) (rk := (1, [])) (fuel := 3000) (by decide +kernel) (List.forall_mem_cons.mpr ⟨⟨ml_12_265, S_1549⟩, List.forall_mem_cons.mpr ⟨⟨ml_12_265, S_1550⟩, List.forall_mem_cons.mpr ⟨⟨ml_12_262, S_1548⟩, fun _ h => nomatch h⟩⟩⟩) odX12_boxLong
def ct_1552 : aCt := (mX12_ofBox, [.inr (.inl [196]), .inl [(2, 2, 1)], .inl [(1, 1, 1)]], ([((199, 0), [(2, 4, 1)]), ((199, 4), [(2, 2, 1)]), ((199, 7), [(3, 8, 1)])], []), [(some (.inl [(0, 1, 1)]), [], [], [])], [], [], 0)
set_option maxRecDepth 100000 in
theorem S_1552 : aSpec wd ct_1552 := aChk_ok (lk := []) (cd := oX12_ofBox) (nds := []) (fk := []) (rk := (1, [])) (fuel := 3000) (by decide +kernel) (fun _ h => nomatch h) odX12_ofBox
def ct_1553 : aCt := (mX12_songLong, [.inr (.inl [196]), .inl [(0, 0, 1)]], ([((199, 0), [(2, 4, 1)]), ((199, 4), [(2, 2, 1)]), ((199, 7), [(3, 8, 1)])], []), [(some (.inl [(2, 6, 1)]), [], [], [])], [], [], 0)
set_option maxRecDepth 100000 in
theorem S_1553 : aSpec wd ct_1553 := aChk_ok (lk := []) (cd := oX12_songLong) (nds := []) (fk := []) (rk := (1, [])) (fuel := 3000) (by decide +kernel) (fun _ h => nomatch h) odX12_songLong
def ct_1554 : aCt := (mX12_songLong, [.inr (.inl [196]), .inl [(1, 1, 1)]], ([((199, 0), [(2, 4, 1)]), ((199, 4), [(2, 2, 1)]), ((199, 7), [(3, 8, 1)])], []), [(some (.inl [(2, 6, 1)]), [], [], [])], [], [], 0)
set_option maxRecDepth 100000 in
theorem S_1554 : aSpec wd ct_1554 := aChk_ok (lk := []) (cd := oX12_songLong) (nds := []) (fk := []) (rk := (1, [])) (fuel := 3000) (by decide +kernel) (fun _ h => nomatch h) odX12_songLong
def ct_1555 : aCt := (mX12_boxLong, [.inr (.inl [196]), .inl [(2, 2, 1)]], ([((199, 0), [(2, 4, 1)]), ((199, 4), [(2, 2, 1)]), ((199, 7), [(3, 8, 1)])], []), [(some (.inl [(2, 6, 1)]), [], [], [])], [], [], 1)
set_option maxRecDepth 100000 in
theorem S_1555 : aSpec wd ct_1555 := aChk_ok (lk := [(265, 0, 2, ct_1553), (265, 0, 2, ct_1554), (262, 0, 3, ct_1552)]) (cd := oX12_boxLong) (nds := []) (fk := [7]) (rk := (1, [])) (fuel := 3000) (by decide +kernel) (List.forall_mem_cons.mpr ⟨⟨ml_12_265, S_1553⟩, List.forall_mem_cons.mpr ⟨⟨ml_12_265, S_1554⟩, List.forall_mem_cons.mpr ⟨⟨ml_12_262, S_1552⟩, fun _ h => nomatch h⟩⟩⟩) odX12_boxLong
def ct_1556 : aCt := (mX12_ofBox, [.inr (.inl [196]), .inl [(3, 3, 1)], .inl [(1, 1, 1)]], ([((199, 0), [(2, 4, 1)]), ((199, 4), [(2, 2, 1)]), ((199, 7), [(4, 8, 1)])], []), [(some (.inl [(0, 1, 1)]), [], [], [])], [], [], 0)
set_option maxRecDepth 100000 in
theorem S_1556 : aSpec wd ct_1556 := aChk_ok (lk := []) (cd := oX12_ofBox) (nds := []) (fk := []) (rk := (1, [])) (fuel := 3000) (by decide +kernel) (fun _ h => nomatch h) odX12_ofBox
def ct_1557 : aCt := (mX12_songLong, [.inr (.inl [196]), .inl [(0, 0, 1)]], ([((199, 0), [(2, 4, 1)]), ((199, 4), [(2, 2, 1)]), ((199, 7), [(4, 8, 1)])], []), [(some (.inl [(2, 6, 1)]), [], [], [])], [], [], 0)
set_option maxRecDepth 100000 in
theorem S_1557 : aSpec wd ct_1557 := aChk_ok (lk := []) (cd := oX12_songLong) (nds := []) (fk := []) (rk := (1, [])) (fuel := 3000) (by decide +kernel) (fun _ h => nomatch h) odX12_songLong
def ct_1558 : aCt := (mX12_songLong, [.inr (.inl [196]), .inl [(1, 1, 1)]], ([((199, 0), [(2, 4, 1)]), ((199, 4), [(2, 2, 1)]), ((199, 7), [(4, 8, 1)])], []), [(some (.inl [(2, 6, 1)]), [], [], [])], [], [], 0)
set_option maxRecDepth 100000 in
theorem S_1558 : aSpec wd ct_1558 := aChk_ok (lk := []) (cd := oX12_songLong) (nds := []) (fk := []) (rk := (1, [])) (fuel := 3000) (by decide +kernel) (fun _ h => nomatch h) odX12_songLong
def ct_1559 : aCt := (mX12_boxLong, [.inr (.inl [196]), .inl [(3, 3, 1)]], ([((199, 0), [(2, 4, 1)]), ((199, 4), [(2, 2, 1)]), ((199, 7), [(4, 8, 1)])], []), [(some (.inl [(2, 6, 1)]), [], [], [])], [], [], 1)
set_option maxRecDepth 100000 in
theorem S_1559 : aSpec wd ct_1559 := aChk_ok (lk := [(265, 0, 2, ct_1557), (265, 0, 2, ct_1558), (262, 0, 3, ct_1556)]) (cd := oX12_boxLong) (nds := []) (fk := [7]) (rk := (1, [])) (fuel := 3000) (by decide +kernel) (List.forall_mem_cons.mpr ⟨⟨ml_12_265, S_1557⟩, List.forall_mem_cons.mpr ⟨⟨ml_12_265, S_1558⟩, List.forall_mem_cons.mpr ⟨⟨ml_12_262, S_1556⟩, fun _ h => nomatch h⟩⟩⟩) odX12_boxLong
def ct_1560 : aCt := (mX12_ofBox, [.inr (.inl [196]), .inl [(4, 4, 1)], .inl [(1, 1, 1)]], ([((199, 0), [(2, 4, 1)]), ((199, 4), [(2, 2, 1)]), ((199, 7), [(5, 8, 1)])], []), [(some (.inl [(0, 1, 1)]), [], [], [])], [], [], 0)
set_option maxRecDepth 100000 in
theorem S_1560 : aSpec wd ct_1560 := aChk_ok (lk := []) (cd := oX12_ofBox) (nds := []) (fk := []) (rk := (1, [])) (fuel := 3000) (by decide +kernel) (fun _ h => nomatch h) odX12_ofBox
def ct_1561 : aCt := (mX12_songLong, [.inr (.inl [196]), .inl [(0, 0, 1)]], ([((199, 0), [(2, 4, 1)]), ((199, 4), [(2, 2, 1)]), ((199, 7), [(5, 8, 1)])], []), [(some (.inl [(2, 6, 1)]), [], [], [])], [], [], 0)
set_option maxRecDepth 100000 in
theorem S_1561 : aSpec wd ct_1561 := aChk_ok (lk := []) (cd := oX12_songLong) (nds := []) (fk := []) (rk := (1, [])) (fuel := 3000) (by decide +kernel) (fun _ h => nomatch h) odX12_songLong
def ct_1562 : aCt := (mX12_songLong, [.inr (.inl [196]), .inl [(1, 1, 1)]], ([((199, 0), [(2, 4, 1)]), ((199, 4), [(2, 2, 1)]), ((199, 7), [(5, 8, 1)])], []), [(some (.inl [(2, 6, 1)]), [], [], [])], [], [], 0)
set_option maxRecDepth 100000 in
theorem S_1562 : aSpec wd ct_1562 := aChk_ok (lk := []) (cd := oX12_songLong) (nds := []) (fk := []) (rk := (1, [])) (fuel := 3000) (by decide +kernel) (fun _ h => nomatch h) odX12_songLong
def ct_1563 : aCt := (mX12_boxLong, [.inr (.inl [196]), .inl [(4, 4, 1)]], ([((199, 0), [(2, 4, 1)]), ((199, 4), [(2, 2, 1)]), ((199, 7), [(5, 8, 1)])], []), [(some (.inl [(2, 6, 1)]), [], [], [])], [], [], 1)
set_option maxRecDepth 100000 in
theorem S_1563 : aSpec wd ct_1563 := aChk_ok (lk := [(265, 0, 2, ct_1561), (265, 0, 2, ct_1562), (262, 0, 3, ct_1560)]) (cd := oX12_boxLong) (nds := []) (fk := [7]) (rk := (1, [])) (fuel := 3000) (by decide +kernel) (List.forall_mem_cons.mpr ⟨⟨ml_12_265, S_1561⟩, List.forall_mem_cons.mpr ⟨⟨ml_12_265, S_1562⟩, List.forall_mem_cons.mpr ⟨⟨ml_12_262, S_1560⟩, fun _ h => nomatch h⟩⟩⟩) odX12_boxLong
def ct_1564 : aCt := (mX12_ofBox, [.inr (.inl [196]), .inl [(5, 5, 1)], .inl [(1, 1, 1)]], ([((199, 0), [(2, 4, 1)]), ((199, 4), [(2, 2, 1)]), ((199, 7), [(6, 8, 1)])], []), [(some (.inl [(0, 1, 1)]), [], [], [])], [], [], 0)
set_option maxRecDepth 100000 in
theorem S_1564 : aSpec wd ct_1564 := aChk_ok (lk := []) (cd := oX12_ofBox) (nds := []) (fk := []) (rk := (1, [])) (fuel := 3000) (by decide +kernel) (fun _ h => nomatch h) odX12_ofBox
def ct_1565 : aCt := (mX12_songLong, [.inr (.inl [196]), .inl [(0, 0, 1)]], ([((199, 0), [(2, 4, 1)]), ((199, 4), [(2, 2, 1)]), ((199, 7), [(6, 8, 1)])], []), [(some (.inl [(2, 6, 1)]), [], [], [])], [], [], 0)
set_option maxRecDepth 100000 in
theorem S_1565 : aSpec wd ct_1565 := aChk_ok (lk := []) (cd := oX12_songLong) (nds := []) (fk := []) (rk := (1, [])) (fuel := 3000) (by decide +kernel) (fun _ h => nomatch h) odX12_songLong
def ct_1566 : aCt := (mX12_songLong, [.inr (.inl [196]), .inl [(1, 1, 1)]], ([((199, 0), [(2, 4, 1)]), ((199, 4), [(2, 2, 1)]), ((199, 7), [(6, 8, 1)])], []), [(some (.inl [(2, 6, 1)]), [], [], [])], [], [], 0)
set_option maxRecDepth 100000 in
theorem S_1566 : aSpec wd ct_1566 := aChk_ok (lk := []) (cd := oX12_songLong) (nds := []) (fk := []) (rk := (1, [])) (fuel := 3000) (by decide +kernel) (fun _ h => nomatch h) odX12_songLong
def ct_1567 : aCt := (mX12_boxLong, [.inr (.inl [196]), .inl [(5, 5, 1)]], ([((199, 0), [(2, 4, 1)]), ((199, 4), [(2, 2, 1)]), ((199, 7), [(6, 8, 1)])], []), [(some (.inl [(2, 6, 1)]), [], [], [])], [], [], 1)
set_option maxRecDepth 100000 in
theorem S_1567 : aSpec wd ct_1567 := aChk_ok (lk := [(265, 0, 2, ct_1565), (265, 0, 2, ct_1566), (262, 0, 3, ct_1564)]) (cd := oX12_boxLong) (nds := []) (fk := [7]) (rk := (1, [])) (fuel := 3000) (by decide +kernel) (List.forall_mem_cons.mpr ⟨⟨ml_12_265, S_1565⟩, List.forall_mem_cons.mpr ⟨⟨ml_12_265, S_1566⟩, List.forall_mem_cons.mpr ⟨⟨ml_12_262, S_1564⟩, fun _ h => nomatch h⟩⟩⟩) odX12_boxLong
def ct_1568 : aCt := (mX12_ofBox, [.inr (.inl [196]), .inl [(6, 6, 1)], .inl [(1, 1, 1)]], ([((199, 0), [(2, 4, 1)]), ((199, 4), [(2, 2, 1)]), ((199, 7), [(7, 8, 1)])], []), [(some (.inl [(0, 1, 1)]), [], [], [])], [], [], 0)
set_option maxRecDepth 100000 in
theorem S_1568 : aSpec wd ct_1568 := aChk_ok (lk := []) (cd := oX12_ofBox) (nds := []) (fk := []) (rk := (1, [])) (fuel := 3000) (by decide +kernel) (fun _ h => nomatch h) odX12_ofBox
def ct_1569 : aCt := (mX12_songLong, [.inr (.inl [196]), .inl [(0, 0, 1)]], ([((199, 0), [(2, 4, 1)]), ((199, 4), [(2, 2, 1)]), ((199, 7), [(7, 8, 1)])], []), [(some (.inl [(2, 6, 1)]), [], [], [])], [], [], 0)
set_option maxRecDepth 100000 in
theorem S_1569 : aSpec wd ct_1569 := aChk_ok (lk := []) (cd := oX12_songLong) (nds := []) (fk := []) (rk := (1, [])) (fuel := 3000) (by decide +kernel) (fun _ h => nomatch h) odX12_songLong
def ct_1570 : aCt := (mX12_songLong, [.inr (.inl [196]), .inl [(1, 1, 1)]], ([((199, 0), [(2, 4, 1)]), ((199, 4), [(2, 2, 1)]), ((199, 7), [(7, 8, 1)])], []), [(some (.inl [(2, 6, 1)]), [], [], [])], [], [], 0)
set_option maxRecDepth 100000 in
theorem S_1570 : aSpec wd ct_1570 := aChk_ok (lk := []) (cd := oX12_songLong) (nds := []) (fk := []) (rk := (1, [])) (fuel := 3000) (by decide +kernel) (fun _ h => nomatch h) odX12_songLong
def ct_1571 : aCt := (mX12_boxLong, [.inr (.inl [196]), .inl [(6, 6, 1)]], ([((199, 0), [(2, 4, 1)]), ((199, 4), [(2, 2, 1)]), ((199, 7), [(7, 8, 1)])], []), [(some (.inl [(2, 6, 1)]), [], [], [])], [], [], 1)
set_option maxRecDepth 100000 in
theorem S_1571 : aSpec wd ct_1571 := aChk_ok (lk := [(265, 0, 2, ct_1569), (265, 0, 2, ct_1570), (262, 0, 3, ct_1568)]) (cd := oX12_boxLong) (nds := []) (fk := [7]) (rk := (1, [])) (fuel := 3000) (by decide +kernel) (List.forall_mem_cons.mpr ⟨⟨ml_12_265, S_1569⟩, List.forall_mem_cons.mpr ⟨⟨ml_12_265, S_1570⟩, List.forall_mem_cons.mpr ⟨⟨ml_12_262, S_1568⟩, fun _ h => nomatch h⟩⟩⟩) odX12_boxLong
def ct_1572 : aCt := (mX12_ofBox, [.inr (.inl [196]), .inl [(7, 7, 1)], .inl [(1, 1, 1)]], ([((199, 0), [(2, 4, 1)]), ((199, 4), [(2, 2, 1)]), ((199, 7), [(8, 8, 1)])], []), [(some (.inl [(0, 1, 1)]), [], [], [])], [], [], 0)
set_option maxRecDepth 100000 in
theorem S_1572 : aSpec wd ct_1572 := aChk_ok (lk := []) (cd := oX12_ofBox) (nds := []) (fk := []) (rk := (1, [])) (fuel := 3000) (by decide +kernel) (fun _ h => nomatch h) odX12_ofBox
def ct_1573 : aCt := (mX12_songLong, [.inr (.inl [196]), .inl [(0, 0, 1)]], ([((199, 0), [(2, 4, 1)]), ((199, 4), [(2, 2, 1)]), ((199, 7), [(8, 8, 1)])], []), [(some (.inl [(2, 6, 1)]), [], [], [])], [], [], 0)
set_option maxRecDepth 100000 in
theorem S_1573 : aSpec wd ct_1573 := aChk_ok (lk := []) (cd := oX12_songLong) (nds := []) (fk := []) (rk := (1, [])) (fuel := 3000) (by decide +kernel) (fun _ h => nomatch h) odX12_songLong
def ct_1574 : aCt := (mX12_songLong, [.inr (.inl [196]), .inl [(1, 1, 1)]], ([((199, 0), [(2, 4, 1)]), ((199, 4), [(2, 2, 1)]), ((199, 7), [(8, 8, 1)])], []), [(some (.inl [(2, 6, 1)]), [], [], [])], [], [], 0)
set_option maxRecDepth 100000 in
theorem S_1574 : aSpec wd ct_1574 := aChk_ok (lk := []) (cd := oX12_songLong) (nds := []) (fk := []) (rk := (1, [])) (fuel := 3000) (by decide +kernel) (fun _ h => nomatch h) odX12_songLong
def ct_1575 : aCt := (mX12_boxLong, [.inr (.inl [196]), .inl [(7, 7, 1)]], ([((199, 0), [(2, 4, 1)]), ((199, 4), [(2, 2, 1)]), ((199, 7), [(8, 8, 1)])], []), [(some (.inl [(2, 6, 1)]), [], [], [])], [], [], 1)
set_option maxRecDepth 100000 in
theorem S_1575 : aSpec wd ct_1575 := aChk_ok (lk := [(265, 0, 2, ct_1573), (265, 0, 2, ct_1574), (262, 0, 3, ct_1572)]) (cd := oX12_boxLong) (nds := []) (fk := [7]) (rk := (1, [])) (fuel := 3000) (by decide +kernel) (List.forall_mem_cons.mpr ⟨⟨ml_12_265, S_1573⟩, List.forall_mem_cons.mpr ⟨⟨ml_12_265, S_1574⟩, List.forall_mem_cons.mpr ⟨⟨ml_12_262, S_1572⟩, fun _ h => nomatch h⟩⟩⟩) odX12_boxLong
def ct_1576 : aCt := (mX12_decade, [.inr (.inl [196]), .inl aTop, .inl aTop], ([((199, 4), [(2, 2, 1)])], []), [(some (.inl aTop), [], [((196, 11), [(0, 0, 1)]), ((196, 14), [(1, 1, 1)]), ((199, 0), [(2, 4, 1)])], []), (some (.inl [(-1, -1, 1)]), [], [((196, 11), [(1, 2, 1)])], [])], [(196, 0, 1), (196, 11, 12)], [], 4)
def lk_1576 : aLk := [(167, 0, 1, ct_651), (284, 0, 2, ct_1575), (284, 0, 2, ct_1571), (284, 0, 2, ct_1567), (284, 0, 2, ct_1563), (284, 0, 2, ct_1559), (284, 0, 2, ct_1555), (284, 0, 2, ct_1551), (284, 0, 2, ct_1547), (170, 0, 2, ct_1112), (170, 0, 2, ct_653), (262, 0, 3, ct_1572), (262, 0, 3, ct_1568), (262, 0, 3, ct_1564), (262, 0, 3, ct_1560), (262, 0, 3, ct_1556), (262, 0, 3, ct_1552), (262, 0, 3, ct_1548), (262, 0, 3, ct_1544), (291, 0, 5, ct_1155), (149, 1, 3, ct_1518), (149, 1, 3, ct_678)]
def nd_1576_0 : aNd := (52, [(0, .inr (.inl [196])), (1, .inl [(0, 65536, 1)]), (2, .inl [(0, 50, 1)]), (3, .inl [(0, 65536, 1)]), (4, .inl aTop), (5, .inl [(0, 75, 1)])], [], [((196, 11), [(0, 0, 1)]), ((196, 14), [(1, 1, 1)]), ((199, 0), [(2, 4, 1)]), ((199, 4), [(2, 2, 1)])], [], (759, [(4, -10)]))
def nd_1576_1 : aNd := (61, [(0, .inr (.inl [196])), (1, .inl [(0, 65536, 1)]), (2, .inl [(1, 50, 1)]), (3, .inl [(0, 65536, 1)]), (4, .inl aTop), (5, .inl [(0, 63, 1)]), (6, .inl [(0, 0, 1)])], [], [((196, 11), [(0, 0, 1)]), ((196, 14), [(1, 1, 1)]), ((199, 0), [(2, 4, 1)]), ((199, 4), [(2, 2, 1)])], [], (758, [(4, -10)]))
def nd_1576_2 : aNd := (61, [(0, .inr (.inl [196])), (1, .inl [(0, 65536, 1)]), (2, .inl [(1, 50, 1)]), (3, .inl [(0, 65536, 1)]), (4, .inl aTop), (5, .inl [(0, 63, 1)]), (6, .inl [(1, 1, 1)]), (7, .inl [(-1, 5, 1)]), (8, .inl [(0, 3, 1)])], [], [((196, 11), [(0, 0, 1)]), ((196, 14), [(1, 1, 1)]), ((199, 0), [(2, 4, 1)]), ((199, 4), [(2, 2, 1)]), ((199, 7), [(1, 8, 1)])], [], (757, [(4, -10)]))
def nd_1576_3 : aNd := (61, [(0, .inr (.inl [196])), (1, .inl [(0, 65536, 1)]), (2, .inl [(1, 50, 1)]), (3, .inl [(0, 65536, 1)]), (4, .inl aTop), (5, .inl [(0, 63, 1)]), (6, .inl [(2, 2, 1)]), (7, .inl [(-1, 5, 1)]), (8, .inl [(0, 3, 1)])], [], [((196, 11), [(0, 0, 1)]), ((196, 14), [(1, 1, 1)]), ((199, 0), [(2, 4, 1)]), ((199, 4), [(2, 2, 1)]), ((199, 7), [(2, 8, 1)])], [], (756, [(4, -10)]))
def nd_1576_4 : aNd := (61, [(0, .inr (.inl [196])), (1, .inl [(0, 65536, 1)]), (2, .inl [(1, 50, 1)]), (3, .inl [(0, 65536, 1)]), (4, .inl aTop), (5, .inl [(0, 63, 1)]), (6, .inl [(3, 3, 1)]), (7, .inl [(-1, 5, 1)]), (8, .inl [(0, 3, 1)])], [], [((196, 11), [(0, 0, 1)]), ((196, 14), [(1, 1, 1)]), ((199, 0), [(2, 4, 1)]), ((199, 4), [(2, 2, 1)]), ((199, 7), [(3, 8, 1)])], [], (755, [(4, -10)]))
def nd_1576_5 : aNd := (61, [(0, .inr (.inl [196])), (1, .inl [(0, 65536, 1)]), (2, .inl [(1, 50, 1)]), (3, .inl [(0, 65536, 1)]), (4, .inl aTop), (5, .inl [(0, 63, 1)]), (6, .inl [(4, 4, 1)]), (7, .inl [(-1, 5, 1)]), (8, .inl [(0, 3, 1)])], [], [((196, 11), [(0, 0, 1)]), ((196, 14), [(1, 1, 1)]), ((199, 0), [(2, 4, 1)]), ((199, 4), [(2, 2, 1)]), ((199, 7), [(4, 8, 1)])], [], (754, [(4, -10)]))
def nd_1576_6 : aNd := (61, [(0, .inr (.inl [196])), (1, .inl [(0, 65536, 1)]), (2, .inl [(1, 50, 1)]), (3, .inl [(0, 65536, 1)]), (4, .inl aTop), (5, .inl [(0, 63, 1)]), (6, .inl [(5, 5, 1)]), (7, .inl [(-1, 5, 1)]), (8, .inl [(0, 3, 1)])], [], [((196, 11), [(0, 0, 1)]), ((196, 14), [(1, 1, 1)]), ((199, 0), [(2, 4, 1)]), ((199, 4), [(2, 2, 1)]), ((199, 7), [(5, 8, 1)])], [], (753, [(4, -10)]))
def nd_1576_7 : aNd := (61, [(0, .inr (.inl [196])), (1, .inl [(0, 65536, 1)]), (2, .inl [(1, 50, 1)]), (3, .inl [(0, 65536, 1)]), (4, .inl aTop), (5, .inl [(0, 63, 1)]), (6, .inl [(6, 6, 1)]), (7, .inl [(-1, 5, 1)]), (8, .inl [(0, 3, 1)])], [], [((196, 11), [(0, 0, 1)]), ((196, 14), [(1, 1, 1)]), ((199, 0), [(2, 4, 1)]), ((199, 4), [(2, 2, 1)]), ((199, 7), [(6, 8, 1)])], [], (752, [(4, -10)]))
def nd_1576_8 : aNd := (61, [(0, .inr (.inl [196])), (1, .inl [(0, 65536, 1)]), (2, .inl [(1, 50, 1)]), (3, .inl [(0, 65536, 1)]), (4, .inl aTop), (5, .inl [(0, 63, 1)]), (6, .inl [(7, 7, 1)]), (7, .inl [(-1, 5, 1)]), (8, .inl [(0, 3, 1)])], [], [((196, 11), [(0, 0, 1)]), ((196, 14), [(1, 1, 1)]), ((199, 0), [(2, 4, 1)]), ((199, 4), [(2, 2, 1)]), ((199, 7), [(7, 8, 1)])], [], (751, [(4, -10)]))
def nd_1576_9 : aNd := (61, [(0, .inr (.inl [196])), (1, .inl [(0, 65536, 1)]), (2, .inl [(1, 50, 1)]), (3, .inl [(0, 65536, 1)]), (4, .inl aTop), (5, .inl [(0, 63, 1)]), (6, .inl [(8, 8, 1)]), (7, .inl [(-1, 5, 1)]), (8, .inl [(0, 3, 1)])], [], [((196, 11), [(0, 0, 1)]), ((196, 14), [(1, 1, 1)]), ((199, 0), [(2, 4, 1)]), ((199, 4), [(2, 2, 1)]), ((199, 7), [(8, 8, 1)])], [], (750, [(4, -10)]))
def nd_1576 : List aNd := [nd_1576_0, nd_1576_1, nd_1576_2, nd_1576_3, nd_1576_4, nd_1576_5, nd_1576_6, nd_1576_7, nd_1576_8, nd_1576_9]
set_option maxRecDepth 100000 in
theorem kN_1576_0 : aSgk wd ct_1576 lk_1576 oX12_decade [] 3000 nd_1576 nd_1576_0 = true := by decide +kernel
set_option maxRecDepth 100000 in
theorem kN_1576_1 : aSgk wd ct_1576 lk_1576 oX12_decade [] 3000 nd_1576 nd_1576_1 = true := by decide +kernel
set_option maxRecDepth 100000 in
theorem kN_1576_2 : aSgk wd ct_1576 lk_1576 oX12_decade [] 3000 nd_1576 nd_1576_2 = true := by decide +kernel
set_option maxRecDepth 100000 in
theorem kN_1576_3 : aSgk wd ct_1576 lk_1576 oX12_decade [] 3000 nd_1576 nd_1576_3 = true := by decide +kernel
set_option maxRecDepth 100000 in
theorem kN_1576_4 : aSgk wd ct_1576 lk_1576 oX12_decade [] 3000 nd_1576 nd_1576_4 = true := by decide +kernel
set_option maxRecDepth 100000 in
theorem kN_1576_5 : aSgk wd ct_1576 lk_1576 oX12_decade [] 3000 nd_1576 nd_1576_5 = true := by decide +kernel
set_option maxRecDepth 100000 in
theorem kN_1576_6 : aSgk wd ct_1576 lk_1576 oX12_decade [] 3000 nd_1576 nd_1576_6 = true := by decide +kernel
set_option maxRecDepth 100000 in
theorem kN_1576_7 : aSgk wd ct_1576 lk_1576 oX12_decade [] 3000 nd_1576 nd_1576_7 = true := by decide +kernel
set_option maxRecDepth 100000 in
theorem kN_1576_8 : aSgk wd ct_1576 lk_1576 oX12_decade [] 3000 nd_1576 nd_1576_8 = true := by decide +kernel
set_option maxRecDepth 100000 in
theorem kN_1576_9 : aSgk wd ct_1576 lk_1576 oX12_decade [] 3000 nd_1576 nd_1576_9 = true := by decide +kernel
set_option maxRecDepth 100000 in
theorem kE_1576 : (aRkOk (aEnt ct_1576 (760, [])) && aRun wd ct_1576.2.2.2.2.1 ct_1576.2.2.2.2.2.1 ct_1576.1 ct_1576.2.2.2.2.2.2 lk_1576 oX12_decade nd_1576 ct_1576.2.2.2.1 [] ((aPvl 0 (aPos 0 ct_1576.2.1)).map (fun q => aXp q.2)) (760, []) 3000 true (aNs (aEnt ct_1576 (760, [])))) = true := by decide +kernel
set_option maxRecDepth 100000 in
theorem S_1576 : aSpec wd ct_1576 := aChkL_ok (lk := lk_1576) (cd := oX12_decade) (nds := nd_1576) (fk := []) (rk := (760, [])) (fuel := 3000) kE_1576 (List.forall_mem_cons.mpr ⟨kN_1576_0, List.forall_mem_cons.mpr ⟨kN_1576_1, List.forall_mem_cons.mpr ⟨kN_1576_2, List.forall_mem_cons.mpr ⟨kN_1576_3, List.forall_mem_cons.mpr ⟨kN_1576_4, List.forall_mem_cons.mpr ⟨kN_1576_5, List.forall_mem_cons.mpr ⟨kN_1576_6, List.forall_mem_cons.mpr ⟨kN_1576_7, List.forall_mem_cons.mpr ⟨kN_1576_8, List.forall_mem_cons.mpr ⟨kN_1576_9, fun _ h => nomatch h⟩⟩⟩⟩⟩⟩⟩⟩⟩⟩) (List.forall_mem_cons.mpr ⟨⟨ml_12_167, S_651⟩, List.forall_mem_cons.mpr ⟨⟨ml_12_284, S_1575⟩, List.forall_mem_cons.mpr ⟨⟨ml_12_284, S_1571⟩, List.forall_mem_cons.mpr ⟨⟨ml_12_284, S_1567⟩, List.forall_mem_cons.mpr ⟨⟨ml_12_284, S_1563⟩, List.forall_mem_cons.mpr ⟨⟨ml_12_284, S_1559⟩, List.forall_mem_cons.mpr ⟨⟨ml_12_284, S_1555⟩, List.forall_mem_cons.mpr ⟨⟨ml_12_284, S_1551⟩, List.forall_mem_cons.mpr ⟨⟨ml_12_284, S_1547⟩, List.forall_mem_cons.mpr ⟨⟨ml_12_170, S_1112⟩, List.forall_mem_cons.mpr ⟨⟨ml_12_170, S_653⟩, List.forall_mem_cons.mpr ⟨⟨ml_12_262, S_1572⟩, List.forall_mem_cons.mpr ⟨⟨ml_12_262, S_1568⟩, List.forall_mem_cons.mpr ⟨⟨ml_12_262, S_1564⟩, List.forall_mem_cons.mpr ⟨⟨ml_12_262, S_1560⟩, List.forall_mem_cons.mpr ⟨⟨ml_12_262, S_1556⟩, List.forall_mem_cons.mpr ⟨⟨ml_12_262, S_1552⟩, List.forall_mem_cons.mpr ⟨⟨ml_12_262, S_1548⟩, List.forall_mem_cons.mpr ⟨⟨ml_12_262, S_1544⟩, List.forall_mem_cons.mpr ⟨⟨ml_12_291, S_1155⟩, List.forall_mem_cons.mpr ⟨⟨ml_12_149, S_1518⟩, List.forall_mem_cons.mpr ⟨⟨ml_12_149, S_678⟩, fun _ h => nomatch h⟩⟩⟩⟩⟩⟩⟩⟩⟩⟩⟩⟩⟩⟩⟩⟩⟩⟩⟩⟩⟩⟩) odX12_decade
def ct_1577 : aCt := (mX12_ofBox, [.inr (.inl [196]), .inl [(0, 0, 1)], .inl [(1, 1, 1)]], ([((199, 0), [(2, 4, 1)]), ((199, 4), [(3, 3, 1)]), ((199, 7), [(1, 8, 1)])], []), [(some (.inl [(0, 2, 1)]), [], [], [])], [], [], 0)
set_option maxRecDepth 100000 in
theorem S_1577 : aSpec wd ct_1577 := aChk_ok (lk := []) (cd := oX12_ofBox) (nds := []) (fk := []) (rk := (1, [])) (fuel := 3000) (by decide +kernel) (fun _ h => nomatch h) odX12_ofBox
def ct_1578 : aCt := (mX12_songLong, [.inr (.inl [196]), .inl [(0, 0, 1)]], ([((199, 0), [(2, 4, 1)]), ((199, 4), [(3, 3, 1)]), ((199, 7), [(1, 8, 1)])], []), [(some (.inl [(2, 6, 1)]), [], [], [])], [], [], 0)
set_option maxRecDepth 100000 in
theorem S_1578 : aSpec wd ct_1578 := aChk_ok (lk := []) (cd := oX12_songLong) (nds := []) (fk := []) (rk := (1, [])) (fuel := 3000) (by decide +kernel) (fun _ h => nomatch h) odX12_songLong
def ct_1579 : aCt := (mX12_songLong, [.inr (.inl [196]), .inl [(1, 1, 1)]], ([((199, 0), [(2, 4, 1)]), ((199, 4), [(3, 3, 1)]), ((199, 7), [(1, 8, 1)])], []), [(some (.inl [(2, 6, 1)]), [], [], [])], [], [], 0)
set_option maxRecDepth 100000 in
theorem S_1579 : aSpec wd ct_1579 := aChk_ok (lk := []) (cd := oX12_songLong) (nds := []) (fk := []) (rk := (1, [])) (fuel := 3000) (by decide +kernel) (fun _ h => nomatch h) odX12_songLong
def ct_1580 : aCt := (mX12_songLong, [.inr (.inl [196]), .inl [(2, 2, 1)]], ([((199, 0), [(2, 4, 1)]), ((199, 4), [(3, 3, 1)]), ((199, 7), [(1, 8, 1)])], []), [(some (.inl [(2, 6, 1)]), [], [], [])], [], [], 0)
set_option maxRecDepth 100000 in
theorem S_1580 : aSpec wd ct_1580 := aChk_ok (lk := []) (cd := oX12_songLong) (nds := []) (fk := []) (rk := (1, [])) (fuel := 3000) (by decide +kernel) (fun _ h => nomatch h) odX12_songLong
def ct_1581 : aCt := (mX12_boxLong, [.inr (.inl [196]), .inl [(0, 0, 1)]], ([((199, 0), [(2, 4, 1)]), ((199, 4), [(3, 3, 1)]), ((199, 7), [(1, 8, 1)])], []), [(some (.inl [(2, 6, 1)]), [], [], [])], [], [], 1)
set_option maxRecDepth 100000 in
theorem S_1581 : aSpec wd ct_1581 := aChk_ok (lk := [(265, 0, 2, ct_1578), (265, 0, 2, ct_1579), (265, 0, 2, ct_1580), (262, 0, 3, ct_1577)]) (cd := oX12_boxLong) (nds := []) (fk := [7]) (rk := (1, [])) (fuel := 3000) (by decide +kernel) (List.forall_mem_cons.mpr ⟨⟨ml_12_265, S_1578⟩, List.forall_mem_cons.mpr ⟨⟨ml_12_265, S_1579⟩, List.forall_mem_cons.mpr ⟨⟨ml_12_265, S_1580⟩, List.forall_mem_cons.mpr ⟨⟨ml_12_262, S_1577⟩, fun _ h => nomatch h⟩⟩⟩⟩) odX12_boxLong
def ct_1582 : aCt := (mX12_ofBox, [.inr (.inl [196]), .inl [(1, 1, 1)], .inl [(1, 1, 1)]], ([((199, 0), [(2, 4, 1)]), ((199, 4), [(3, 3, 1)]), ((199, 7), [(2, 8, 1)])], []), [(some (.inl [(0, 2, 1)]), [], [], [])], [], [], 0)
set_option maxRecDepth 100000 in
theorem S_1582 : aSpec wd ct_1582 := aChk_ok (lk := []) (cd := oX12_ofBox) (nds := []) (fk := []) (rk := (1, [])) (fuel := 3000) (by decide +kernel) (fun _ h => nomatch h) odX12_ofBox
def ct_1583 : aCt := (mX12_songLong, [.inr (.inl [196]), .inl [(0, 0, 1)]], ([((199, 0), [(2, 4, 1)]), ((199, 4), [(3, 3, 1)]), ((199, 7), [(2, 8, 1)])], []), [(some (.inl [(2, 6, 1)]), [], [], [])], [], [], 0)
set_option maxRecDepth 100000 in
theorem S_1583 : aSpec wd ct_1583 := aChk_ok (lk := []) (cd := oX12_songLong) (nds := []) (fk := []) (rk := (1, [])) (fuel := 3000) (by decide +kernel) (fun _ h => nomatch h) odX12_songLong
def ct_1584 : aCt := (mX12_songLong, [.inr (.inl [196]), .inl [(1, 1, 1)]], ([((199, 0), [(2, 4, 1)]), ((199, 4), [(3, 3, 1)]), ((199, 7), [(2, 8, 1)])], []), [(some (.inl [(2, 6, 1)]), [], [], [])], [], [], 0)
set_option maxRecDepth 100000 in
theorem S_1584 : aSpec wd ct_1584 := aChk_ok (lk := []) (cd := oX12_songLong) (nds := []) (fk := []) (rk := (1, [])) (fuel := 3000) (by decide +kernel) (fun _ h => nomatch h) odX12_songLong
def ct_1585 : aCt := (mX12_songLong, [.inr (.inl [196]), .inl [(2, 2, 1)]], ([((199, 0), [(2, 4, 1)]), ((199, 4), [(3, 3, 1)]), ((199, 7), [(2, 8, 1)])], []), [(some (.inl [(2, 6, 1)]), [], [], [])], [], [], 0)
set_option maxRecDepth 100000 in
theorem S_1585 : aSpec wd ct_1585 := aChk_ok (lk := []) (cd := oX12_songLong) (nds := []) (fk := []) (rk := (1, [])) (fuel := 3000) (by decide +kernel) (fun _ h => nomatch h) odX12_songLong
def ct_1586 : aCt := (mX12_boxLong, [.inr (.inl [196]), .inl [(1, 1, 1)]], ([((199, 0), [(2, 4, 1)]), ((199, 4), [(3, 3, 1)]), ((199, 7), [(2, 8, 1)])], []), [(some (.inl [(2, 6, 1)]), [], [], [])], [], [], 1)
set_option maxRecDepth 100000 in
theorem S_1586 : aSpec wd ct_1586 := aChk_ok (lk := [(265, 0, 2, ct_1583), (265, 0, 2, ct_1584), (265, 0, 2, ct_1585), (262, 0, 3, ct_1582)]) (cd := oX12_boxLong) (nds := []) (fk := [7]) (rk := (1, [])) (fuel := 3000) (by decide +kernel) (List.forall_mem_cons.mpr ⟨⟨ml_12_265, S_1583⟩, List.forall_mem_cons.mpr ⟨⟨ml_12_265, S_1584⟩, List.forall_mem_cons.mpr ⟨⟨ml_12_265, S_1585⟩, List.forall_mem_cons.mpr ⟨⟨ml_12_262, S_1582⟩, fun _ h => nomatch h⟩⟩⟩⟩) odX12_boxLong
def ct_1587 : aCt := (mX12_ofBox, [.inr (.inl [196]), .inl [(2, 2, 1)], .inl [(1, 1, 1)]], ([((199, 0), [(2, 4, 1)]), ((199, 4), [(3, 3, 1)]), ((199, 7), [(3, 8, 1)])], []), [(some (.inl [(0, 2, 1)]), [], [], [])], [], [], 0)
set_option maxRecDepth 100000 in
theorem S_1587 : aSpec wd ct_1587 := aChk_ok (lk := []) (cd := oX12_ofBox) (nds := []) (fk := []) (rk := (1, [])) (fuel := 3000) (by decide +kernel) (fun _ h => nomatch h) odX12_ofBox
def ct_1588 : aCt := (mX12_songLong, [.inr (.inl [196]), .inl [(0, 0, 1)]], ([((199, 0), [(2, 4, 1)]), ((199, 4), [(3, 3, 1)]), ((199, 7), [(3, 8, 1)])], []), [(some (.inl [(2, 6, 1)]), [], [], [])], [], [], 0)
set_option maxRecDepth 100000 in
theorem S_1588 : aSpec wd ct_1588 := aChk_ok (lk := []) (cd := oX12_songLong) (nds := []) (fk := []) (rk := (1, [])) (fuel := 3000) (by decide +kernel) (fun _ h => nomatch h) odX12_songLong
def ct_1589 : aCt := (mX12_songLong, [.inr (.inl [196]), .inl [(1, 1, 1)]], ([((199, 0), [(2, 4, 1)]), ((199, 4), [(3, 3, 1)]), ((199, 7), [(3, 8, 1)])], []), [(some (.inl [(2, 6, 1)]), [], [], [])], [], [], 0)
set_option maxRecDepth 100000 in
theorem S_1589 : aSpec wd ct_1589 := aChk_ok (lk := []) (cd := oX12_songLong) (nds := []) (fk := []) (rk := (1, [])) (fuel := 3000) (by decide +kernel) (fun _ h => nomatch h) odX12_songLong
def ct_1590 : aCt := (mX12_songLong, [.inr (.inl [196]), .inl [(2, 2, 1)]], ([((199, 0), [(2, 4, 1)]), ((199, 4), [(3, 3, 1)]), ((199, 7), [(3, 8, 1)])], []), [(some (.inl [(2, 6, 1)]), [], [], [])], [], [], 0)
set_option maxRecDepth 100000 in
theorem S_1590 : aSpec wd ct_1590 := aChk_ok (lk := []) (cd := oX12_songLong) (nds := []) (fk := []) (rk := (1, [])) (fuel := 3000) (by decide +kernel) (fun _ h => nomatch h) odX12_songLong
def ct_1591 : aCt := (mX12_boxLong, [.inr (.inl [196]), .inl [(2, 2, 1)]], ([((199, 0), [(2, 4, 1)]), ((199, 4), [(3, 3, 1)]), ((199, 7), [(3, 8, 1)])], []), [(some (.inl [(2, 6, 1)]), [], [], [])], [], [], 1)
set_option maxRecDepth 100000 in
theorem S_1591 : aSpec wd ct_1591 := aChk_ok (lk := [(265, 0, 2, ct_1588), (265, 0, 2, ct_1589), (265, 0, 2, ct_1590), (262, 0, 3, ct_1587)]) (cd := oX12_boxLong) (nds := []) (fk := [7]) (rk := (1, [])) (fuel := 3000) (by decide +kernel) (List.forall_mem_cons.mpr ⟨⟨ml_12_265, S_1588⟩, List.forall_mem_cons.mpr ⟨⟨ml_12_265, S_1589⟩, List.forall_mem_cons.mpr ⟨⟨ml_12_265, S_1590⟩, List.forall_mem_cons.mpr ⟨⟨ml_12_262, S_1587⟩, fun _ h => nomatch h⟩⟩⟩⟩) odX12_boxLong
def ct_1592 : aCt := (mX12_ofBox, [.inr (.inl [196]), .inl [(3, 3, 1)], .inl [(1, 1, 1)]], ([((199, 0), [(2, 4, 1)]), ((199, 4), [(3, 3, 1)]), ((199, 7), [(4, 8, 1)])], []), [(some (.inl [(0, 2, 1)]), [], [], [])], [], [], 0)
set_option maxRecDepth 100000 in
theorem S_1592 : aSpec wd ct_1592 := aChk_ok (lk := []) (cd := oX12_ofBox) (nds := []) (fk := []) (rk := (1, [])) (fuel := 3000) (by decide +kernel) (fun _ h => nomatch h) odX12_ofBox
def ct_1593 : aCt := (mX12_songLong, [.inr (.inl [196]), .inl [(0, 0, 1)]], ([((199, 0), [(2, 4, 1)]), ((199, 4), [(3, 3, 1)]), ((199, 7), [(4, 8, 1)])], []), [(some (.inl [(2, 6, 1)]), [], [], [])], [], [], 0)
set_option maxRecDepth 100000 in
theorem S_1593 : aSpec wd ct_1593 := aChk_ok (lk := []) (cd := oX12_songLong) (nds := []) (fk := []) (rk := (1, [])) (fuel := 3000) (by decide +kernel) (fun _ h => nomatch h) odX12_songLong
def ct_1594 : aCt := (mX12_songLong, [.inr (.inl [196]), .inl [(1, 1, 1)]], ([((199, 0), [(2, 4, 1)]), ((199, 4), [(3, 3, 1)]), ((199, 7), [(4, 8, 1)])], []), [(some (.inl [(2, 6, 1)]), [], [], [])], [], [], 0)
set_option maxRecDepth 100000 in
theorem S_1594 : aSpec wd ct_1594 := aChk_ok (lk := []) (cd := oX12_songLong) (nds := []) (fk := []) (rk := (1, [])) (fuel := 3000) (by decide +kernel) (fun _ h => nomatch h) odX12_songLong
def ct_1595 : aCt := (mX12_songLong, [.inr (.inl [196]), .inl [(2, 2, 1)]], ([((199, 0), [(2, 4, 1)]), ((199, 4), [(3, 3, 1)]), ((199, 7), [(4, 8, 1)])], []), [(some (.inl [(2, 6, 1)]), [], [], [])], [], [], 0)
set_option maxRecDepth 100000 in
theorem S_1595 : aSpec wd ct_1595 := aChk_ok (lk := []) (cd := oX12_songLong) (nds := []) (fk := []) (rk := (1, [])) (fuel := 3000) (by decide +kernel) (fun _ h => nomatch h) odX12_songLong
def ct_1596 : aCt := (mX12_boxLong, [.inr (.inl [196]), .inl [(3, 3, 1)]], ([((199, 0), [(2, 4, 1)]), ((199, 4), [(3, 3, 1)]), ((199, 7), [(4, 8, 1)])], []), [(some (.inl [(2, 6, 1)]), [], [], [])], [], [], 1)
set_option maxRecDepth 100000 in
theorem S_1596 : aSpec wd ct_1596 := aChk_ok (lk := [(265, 0, 2, ct_1593), (265, 0, 2, ct_1594), (265, 0, 2, ct_1595), (262, 0, 3, ct_1592)]) (cd := oX12_boxLong) (nds := []) (fk := [7]) (rk := (1, [])) (fuel := 3000) (by decide +kernel) (List.forall_mem_cons.mpr ⟨⟨ml_12_265, S_1593⟩, List.forall_mem_cons.mpr ⟨⟨ml_12_265, S_1594⟩, List.forall_mem_cons.mpr ⟨⟨ml_12_265, S_1595⟩, List.forall_mem_cons.mpr ⟨⟨ml_12_262, S_1592⟩, fun _ h => nomatch h⟩⟩⟩⟩) odX12_boxLong
def ct_1597 : aCt := (mX12_ofBox, [.inr (.inl [196]), .inl [(4, 4, 1)], .inl [(1, 1, 1)]], ([((199, 0), [(2, 4, 1)]), ((199, 4), [(3, 3, 1)]), ((199, 7), [(5, 8, 1)])], []), [(some (.inl [(0, 2, 1)]), [], [], [])], [], [], 0)
set_option maxRecDepth 100000 in
theorem S_1597 : aSpec wd ct_1597 := aChk_ok (lk := []) (cd := oX12_ofBox) (nds := []) (fk := []) (rk := (1, [])) (fuel := 3000) (by decide +kernel) (fun _ h => nomatch h) odX12_ofBox
def ct_1598 : aCt := (mX12_songLong, [.inr (.inl [196]), .inl [(0, 0, 1)]], ([((199, 0), [(2, 4, 1)]), ((199, 4), [(3, 3, 1)]), ((199, 7), [(5, 8, 1)])], []), [(some (.inl [(2, 6, 1)]), [], [], [])], [], [], 0)
set_option maxRecDepth 100000 in
theorem S_1598 : aSpec wd ct_1598 := aChk_ok (lk := []) (cd := oX12_songLong) (nds := []) (fk := []) (rk := (1, [])) (fuel := 3000) (by decide +kernel) (fun _ h => nomatch h) odX12_songLong
def ct_1599 : aCt := (mX12_songLong, [.inr (.inl [196]), .inl [(1, 1, 1)]], ([((199, 0), [(2, 4, 1)]), ((199, 4), [(3, 3, 1)]), ((199, 7), [(5, 8, 1)])], []), [(some (.inl [(2, 6, 1)]), [], [], [])], [], [], 0)
set_option maxRecDepth 100000 in
theorem S_1599 : aSpec wd ct_1599 := aChk_ok (lk := []) (cd := oX12_songLong) (nds := []) (fk := []) (rk := (1, [])) (fuel := 3000) (by decide +kernel) (fun _ h => nomatch h) odX12_songLong
def ct_1600 : aCt := (mX12_songLong, [.inr (.inl [196]), .inl [(2, 2, 1)]], ([((199, 0), [(2, 4, 1)]), ((199, 4), [(3, 3, 1)]), ((199, 7), [(5, 8, 1)])], []), [(some (.inl [(2, 6, 1)]), [], [], [])], [], [], 0)
set_option maxRecDepth 100000 in
theorem S_1600 : aSpec wd ct_1600 := aChk_ok (lk := []) (cd := oX12_songLong) (nds := []) (fk := []) (rk := (1, [])) (fuel := 3000) (by decide +kernel) (fun _ h => nomatch h) odX12_songLong
def ct_1601 : aCt := (mX12_boxLong, [.inr (.inl [196]), .inl [(4, 4, 1)]], ([((199, 0), [(2, 4, 1)]), ((199, 4), [(3, 3, 1)]), ((199, 7), [(5, 8, 1)])], []), [(some (.inl [(2, 6, 1)]), [], [], [])], [], [], 1)
set_option maxRecDepth 100000 in
theorem S_1601 : aSpec wd ct_1601 := aChk_ok (lk := [(265, 0, 2, ct_1598), (265, 0, 2, ct_1599), (265, 0, 2, ct_1600), (262, 0, 3, ct_1597)]) (cd := oX12_boxLong) (nds := []) (fk := [7]) (rk := (1, [])) (fuel := 3000) (by decide +kernel) (List.forall_mem_cons.mpr ⟨⟨ml_12_265, S_1598⟩, List.forall_mem_cons.mpr ⟨⟨ml_12_265, S_1599⟩, List.forall_mem_cons.mpr ⟨⟨ml_12_265, S_1600⟩, List.forall_mem_cons.mpr ⟨⟨ml_12_262, S_1597⟩, fun _ h => nomatch h⟩⟩⟩⟩) odX12_boxLong
def ct_1602 : aCt := (mX12_ofBox, [.inr (.inl [196]), .inl [(5, 5, 1)], .inl [(1, 1, 1)]], ([((199, 0), [(2, 4, 1)]), ((199, 4), [(3, 3, 1)]), ((199, 7), [(6, 8, 1)])], []), [(some (.inl [(0, 2, 1)]), [], [], [])], [], [], 0)
set_option maxRecDepth 100000 in
theorem S_1602 : aSpec wd ct_1602 := aChk_ok (lk := []) (cd := oX12_ofBox) (nds := []) (fk := []) (rk := (1, [])) (fuel := 3000) (by decide +kernel) (fun _ h => nomatch h) odX12_ofBox
def ct_1603 : aCt := (mX12_songLong, [.inr (.inl [196]), .inl [(0, 0, 1)]], ([((199, 0), [(2, 4, 1)]), ((199, 4), [(3, 3, 1)]), ((199, 7), [(6, 8, 1)])], []), [(some (.inl [(2, 6, 1)]), [], [], [])], [], [], 0)
set_option maxRecDepth 100000 in
theorem S_1603 : aSpec wd ct_1603 := aChk_ok (lk := []) (cd := oX12_songLong) (nds := []) (fk := []) (rk := (1, [])) (fuel := 3000) (by decide +kernel) (fun _ h => nomatch h) odX12_songLong
def ct_1604 : aCt := (mX12_songLong, [.inr (.inl [196]), .inl [(1, 1, 1)]], ([((199, 0), [(2, 4, 1)]), ((199, 4), [(3, 3, 1)]), ((199, 7), [(6, 8, 1)])], []), [(some (.inl [(2, 6, 1)]), [], [], [])], [], [], 0)
set_option maxRecDepth 100000 in
theorem S_1604 : aSpec wd ct_1604 := aChk_ok (lk := []) (cd := oX12_songLong) (nds := []) (fk := []) (rk := (1, [])) (fuel := 3000) (by decide +kernel) (fun _ h => nomatch h) odX12_songLong
def ct_1605 : aCt := (mX12_songLong, [.inr (.inl [196]), .inl [(2, 2, 1)]], ([((199, 0), [(2, 4, 1)]), ((199, 4), [(3, 3, 1)]), ((199, 7), [(6, 8, 1)])], []), [(some (.inl [(2, 6, 1)]), [], [], [])], [], [], 0)
set_option maxRecDepth 100000 in
theorem S_1605 : aSpec wd ct_1605 := aChk_ok (lk := []) (cd := oX12_songLong) (nds := []) (fk := []) (rk := (1, [])) (fuel := 3000) (by decide +kernel) (fun _ h => nomatch h) odX12_songLong
def ct_1606 : aCt := (mX12_boxLong, [.inr (.inl [196]), .inl [(5, 5, 1)]], ([((199, 0), [(2, 4, 1)]), ((199, 4), [(3, 3, 1)]), ((199, 7), [(6, 8, 1)])], []), [(some (.inl [(2, 6, 1)]), [], [], [])], [], [], 1)
set_option maxRecDepth 100000 in
theorem S_1606 : aSpec wd ct_1606 := aChk_ok (lk := [(265, 0, 2, ct_1603), (265, 0, 2, ct_1604), (265, 0, 2, ct_1605), (262, 0, 3, ct_1602)]) (cd := oX12_boxLong) (nds := []) (fk := [7]) (rk := (1, [])) (fuel := 3000) (by decide +kernel) (List.forall_mem_cons.mpr ⟨⟨ml_12_265, S_1603⟩, List.forall_mem_cons.mpr ⟨⟨ml_12_265, S_1604⟩, List.forall_mem_cons.mpr ⟨⟨ml_12_265, S_1605⟩, List.forall_mem_cons.mpr ⟨⟨ml_12_262, S_1602⟩, fun _ h => nomatch h⟩⟩⟩⟩) odX12_boxLong
def ct_1607 : aCt := (mX12_ofBox, [.inr (.inl [196]), .inl [(6, 6, 1)], .inl [(1, 1, 1)]], ([((199, 0), [(2, 4, 1)]), ((199, 4), [(3, 3, 1)]), ((199, 7), [(7, 8, 1)])], []), [(some (.inl [(0, 2, 1)]), [], [], [])], [], [], 0)
set_option maxRecDepth 100000 in
theorem S_1607 : aSpec wd ct_1607 := aChk_ok (lk := []) (cd := oX12_ofBox) (nds := []) (fk := []) (rk := (1, [])) (fuel := 3000) (by decide +kernel) (fun _ h => nomatch h) odX12_ofBox
def ct_1608 : aCt := (mX12_songLong, [.inr (.inl [196]), .inl [(0, 0, 1)]], ([((199, 0), [(2, 4, 1)]), ((199, 4), [(3, 3, 1)]), ((199, 7), [(7, 8, 1)])], []), [(some (.inl [(2, 6, 1)]), [], [], [])], [], [], 0)
set_option maxRecDepth 100000 in
theorem S_1608 : aSpec wd ct_1608 := aChk_ok (lk := []) (cd := oX12_songLong) (nds := []) (fk := []) (rk := (1, [])) (fuel := 3000) (by decide +kernel) (fun _ h => nomatch h) odX12_songLong
def ct_1609 : aCt := (mX12_songLong, [.inr (.inl [196]), .inl [(1, 1, 1)]], ([((199, 0), [(2, 4, 1)]), ((199, 4), [(3, 3, 1)]), ((199, 7), [(7, 8, 1)])], []), [(some (.inl [(2, 6, 1)]), [], [], [])], [], [], 0)
set_option maxRecDepth 100000 in
theorem S_1609 : aSpec wd ct_1609 := aChk_ok (lk := []) (cd := oX12_songLong) (nds := []) (fk := []) (rk := (1, [])) (fuel := 3000) (by decide +kernel) (fun _ h => nomatch h) odX12_songLong
def ct_1610 : aCt := (mX12_songLong, [.inr (.inl [196]), .inl [(2, 2, 1)]], ([((199, 0), [(2, 4, 1)]), ((199, 4), [(3, 3, 1)]), ((199, 7), [(7, 8, 1)])], []), [(some (.inl [(2, 6, 1)]), [], [], [])], [], [], 0)
set_option maxRecDepth 100000 in
theorem S_1610 : aSpec wd ct_1610 := aChk_ok (lk := []) (cd := oX12_songLong) (nds := []) (fk := []) (rk := (1, [])) (fuel := 3000) (by decide +kernel) (fun _ h => nomatch h) odX12_songLong
def ct_1611 : aCt := (mX12_boxLong, [.inr (.inl [196]), .inl [(6, 6, 1)]], ([((199, 0), [(2, 4, 1)]), ((199, 4), [(3, 3, 1)]), ((199, 7), [(7, 8, 1)])], []), [(some (.inl [(2, 6, 1)]), [], [], [])], [], [], 1)
set_option maxRecDepth 100000 in
theorem S_1611 : aSpec wd ct_1611 := aChk_ok (lk := [(265, 0, 2, ct_1608), (265, 0, 2, ct_1609), (265, 0, 2, ct_1610), (262, 0, 3, ct_1607)]) (cd := oX12_boxLong) (nds := []) (fk := [7]) (rk := (1, [])) (fuel := 3000) (by decide +kernel) (List.forall_mem_cons.mpr ⟨⟨ml_12_265, S_1608⟩, List.forall_mem_cons.mpr ⟨⟨ml_12_265, S_1609⟩, List.forall_mem_cons.mpr ⟨⟨ml_12_265, S_1610⟩, List.forall_mem_cons.mpr ⟨⟨ml_12_262, S_1607⟩, fun _ h => nomatch h⟩⟩⟩⟩) odX12_boxLong
def ct_1612 : aCt := (mX12_ofBox, [.inr (.inl [196]), .inl [(7, 7, 1)], .inl [(1, 1, 1)]], ([((199, 0), [(2, 4, 1)]), ((199, 4), [(3, 3, 1)]), ((199, 7), [(8, 8, 1)])], []), [(some (.inl [(0, 2, 1)]), [], [], [])], [], [], 0)
set_option maxRecDepth 100000 in
theorem S_1612 : aSpec wd ct_1612 := aChk_ok (lk := []) (cd := oX12_ofBox) (nds := []) (fk := []) (rk := (1, [])) (fuel := 3000) (by decide +kernel) (fun _ h => nomatch h) odX12_ofBox
def ct_1613 : aCt := (mX12_songLong, [.inr (.inl [196]), .inl [(0, 0, 1)]], ([((199, 0), [(2, 4, 1)]), ((199, 4), [(3, 3, 1)]), ((199, 7), [(8, 8, 1)])], []), [(some (.inl [(2, 6, 1)]), [], [], [])], [], [], 0)
set_option maxRecDepth 100000 in
theorem S_1613 : aSpec wd ct_1613 := aChk_ok (lk := []) (cd := oX12_songLong) (nds := []) (fk := []) (rk := (1, [])) (fuel := 3000) (by decide +kernel) (fun _ h => nomatch h) odX12_songLong
def ct_1614 : aCt := (mX12_songLong, [.inr (.inl [196]), .inl [(1, 1, 1)]], ([((199, 0), [(2, 4, 1)]), ((199, 4), [(3, 3, 1)]), ((199, 7), [(8, 8, 1)])], []), [(some (.inl [(2, 6, 1)]), [], [], [])], [], [], 0)
set_option maxRecDepth 100000 in
theorem S_1614 : aSpec wd ct_1614 := aChk_ok (lk := []) (cd := oX12_songLong) (nds := []) (fk := []) (rk := (1, [])) (fuel := 3000) (by decide +kernel) (fun _ h => nomatch h) odX12_songLong
def ct_1615 : aCt := (mX12_songLong, [.inr (.inl [196]), .inl [(2, 2, 1)]], ([((199, 0), [(2, 4, 1)]), ((199, 4), [(3, 3, 1)]), ((199, 7), [(8, 8, 1)])], []), [(some (.inl [(2, 6, 1)]), [], [], [])], [], [], 0)
set_option maxRecDepth 100000 in
theorem S_1615 : aSpec wd ct_1615 := aChk_ok (lk := []) (cd := oX12_songLong) (nds := []) (fk := []) (rk := (1, [])) (fuel := 3000) (by decide +kernel) (fun _ h => nomatch h) odX12_songLong
def ct_1616 : aCt := (mX12_boxLong, [.inr (.inl [196]), .inl [(7, 7, 1)]], ([((199, 0), [(2, 4, 1)]), ((199, 4), [(3, 3, 1)]), ((199, 7), [(8, 8, 1)])], []), [(some (.inl [(2, 6, 1)]), [], [], [])], [], [], 1)
set_option maxRecDepth 100000 in
theorem S_1616 : aSpec wd ct_1616 := aChk_ok (lk := [(265, 0, 2, ct_1613), (265, 0, 2, ct_1614), (265, 0, 2, ct_1615), (262, 0, 3, ct_1612)]) (cd := oX12_boxLong) (nds := []) (fk := [7]) (rk := (1, [])) (fuel := 3000) (by decide +kernel) (List.forall_mem_cons.mpr ⟨⟨ml_12_265, S_1613⟩, List.forall_mem_cons.mpr ⟨⟨ml_12_265, S_1614⟩, List.forall_mem_cons.mpr ⟨⟨ml_12_265, S_1615⟩, List.forall_mem_cons.mpr ⟨⟨ml_12_262, S_1612⟩, fun _ h => nomatch h⟩⟩⟩⟩) odX12_boxLong
