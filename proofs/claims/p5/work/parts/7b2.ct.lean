def ct_754 : aCt := (mX12_begins, [.inr (.inl [196]), .inr (.inl [1000034, 1000035, 1000036, 1000037, 1000038, 1000039, 1000040, 1000041, 1000042, 1000043, 1000044, 1000045, 1000046, 1000047, 1000048, 1000049, 1000050, 1000051, 1000052, 1000053, 1000054, 1000055, 1000056]), .inl [(1, 1, 1)]], ([((196, 6), [(1, 1, 1), (3, 3, 1)]), ((196, 8), [(0, 0, 1), (9, 1000, 1)]), ((196, 13), [(0, 0, 1)]), ((200, 9), [(0, 0, 1)])], []), [(some (.inl [(0, 0, 1)]), [], [], [])], [(1000002, 0, 0)], [], 1)
set_option maxRecDepth 100000 in
theorem S_754 : aSpec wd ct_754 := aChk_ok (lk := [(117, 0, 2, ct_X12_isWord_2)]) (cd := oX12_begins) (nds := []) (fk := []) (rk := (1, [])) (fuel := 3000) (by decide +kernel) (List.forall_mem_cons.mpr ⟨⟨ml_12_117, S_X12_isWord_2⟩, fun _ h => nomatch h⟩) odX12_begins
def ct_755 : aCt := (mX12_begins, [.inr (.inl [196]), .inr (.inl [1000034, 1000035, 1000036, 1000037, 1000038, 1000039, 1000040, 1000041, 1000042, 1000043, 1000044, 1000045, 1000046, 1000047, 1000048, 1000049, 1000050, 1000051, 1000052, 1000053, 1000054, 1000055, 1000056]), .inl [(0, 0, 1)]], ([((196, 6), [(1, 1, 1), (3, 3, 1)]), ((196, 8), [(0, 0, 1), (9, 1000, 1)]), ((196, 13), [(0, 0, 1)]), ((200, 9), [(0, 0, 1)])], []), [(some (.inl [(0, 0, 1)]), [], [], [])], [(1000002, 0, 0)], [], 1)
set_option maxRecDepth 100000 in
theorem S_755 : aSpec wd ct_755 := aChk_ok (lk := [(117, 0, 2, ct_X12_isWord_2)]) (cd := oX12_begins) (nds := []) (fk := []) (rk := (1, [])) (fuel := 3000) (by decide +kernel) (List.forall_mem_cons.mpr ⟨⟨ml_12_117, S_X12_isWord_2⟩, fun _ h => nomatch h⟩) odX12_begins
def ct_756 : aCt := (mX12_readLine, [.inr (.inl [196])], ([((196, 6), [(1, 1, 1), (3, 3, 1)]), ((196, 8), [(0, 0, 1), (9, 1000, 1)]), ((196, 13), [(0, 0, 1)]), ((200, 0), [(0, 0, 1)]), ((200, 4), [(0, 0, 1)]), ((200, 9), [(0, 0, 1)]), ((200, 183), [(0, 0, 1)]), ((200, 184), [(0, 0, 1)]), ((200, 185), [(0, 0, 1)]), ((200, 186), [(0, 0, 1)]), ((200, 187), [(0, 0, 1)]), ((200, 188), [(0, 0, 1)]), ((200, 189), [(0, 0, 1)])], []), [(none, [], [((196, 13), [(1, 1, 1)])], [])], [(196, 9, 11), (196, 13, 14), (1000002, 0, 0)], [], 2)
set_option maxRecDepth 100000 in
theorem S_756 : aSpec wd ct_756 := aChk_ok (lk := [(117, 0, 2, ct_X12_isWord_2), (192, 0, 3, ct_754), (192, 0, 3, ct_755), (127, 0, 3, ct_664)]) (cd := oX12_readLine) (nds := []) (fk := []) (rk := (1, [])) (fuel := 3000) (by decide +kernel) (List.forall_mem_cons.mpr ⟨⟨ml_12_117, S_X12_isWord_2⟩, List.forall_mem_cons.mpr ⟨⟨ml_12_192, S_754⟩, List.forall_mem_cons.mpr ⟨⟨ml_12_192, S_755⟩, List.forall_mem_cons.mpr ⟨⟨ml_12_127, S_664⟩, fun _ h => nomatch h⟩⟩⟩⟩) odX12_readLine
def ct_757 : aCt := (mX12_begins, [.inr (.inl [196]), .inr (.inl [1000034, 1000035, 1000036, 1000037, 1000038, 1000039, 1000040, 1000041, 1000042, 1000043, 1000044, 1000045, 1000046, 1000047, 1000048, 1000049, 1000050, 1000051, 1000052, 1000053, 1000054, 1000055, 1000056]), .inl [(1, 1, 1)]], ([((196, 6), [(59, 59, 1)]), ((196, 8), [(0, 0, 1)]), ((196, 13), [(0, 0, 1)]), ((200, 9), [(0, 0, 1)])], []), [(some (.inl [(0, 0, 1)]), [], [], [])], [(1000002, 0, 0)], [], 1)
set_option maxRecDepth 100000 in
theorem S_757 : aSpec wd ct_757 := aChk_ok (lk := [(117, 0, 2, ct_X12_isWord_3)]) (cd := oX12_begins) (nds := []) (fk := []) (rk := (1, [])) (fuel := 3000) (by decide +kernel) (List.forall_mem_cons.mpr ⟨⟨ml_12_117, S_X12_isWord_3⟩, fun _ h => nomatch h⟩) odX12_begins
def ct_758 : aCt := (mX12_begins, [.inr (.inl [196]), .inr (.inl [1000034, 1000035, 1000036, 1000037, 1000038, 1000039, 1000040, 1000041, 1000042, 1000043, 1000044, 1000045, 1000046, 1000047, 1000048, 1000049, 1000050, 1000051, 1000052, 1000053, 1000054, 1000055, 1000056]), .inl [(0, 0, 1)]], ([((196, 6), [(59, 59, 1)]), ((196, 8), [(0, 0, 1)]), ((196, 13), [(0, 0, 1)]), ((200, 9), [(0, 0, 1)])], []), [(some (.inl [(0, 0, 1)]), [], [], [])], [(1000002, 0, 0)], [], 1)
set_option maxRecDepth 100000 in
theorem S_758 : aSpec wd ct_758 := aChk_ok (lk := [(117, 0, 2, ct_X12_isWord_3)]) (cd := oX12_begins) (nds := []) (fk := []) (rk := (1, [])) (fuel := 3000) (by decide +kernel) (List.forall_mem_cons.mpr ⟨⟨ml_12_117, S_X12_isWord_3⟩, fun _ h => nomatch h⟩) odX12_begins
def ct_759 : aCt := (mX12_readLine, [.inr (.inl [196])], ([((196, 6), [(59, 59, 1)]), ((196, 8), [(0, 0, 1)]), ((196, 13), [(0, 0, 1)]), ((200, 0), [(0, 0, 1)]), ((200, 4), [(0, 0, 1)]), ((200, 9), [(0, 0, 1)]), ((200, 183), [(0, 0, 1)]), ((200, 184), [(0, 0, 1)]), ((200, 185), [(0, 0, 1)]), ((200, 186), [(0, 0, 1)]), ((200, 187), [(0, 0, 1)]), ((200, 188), [(0, 0, 1)]), ((200, 189), [(0, 0, 1)])], []), [(none, [], [((196, 13), [(1, 1, 1)])], [])], [(196, 9, 11), (196, 13, 14), (1000002, 0, 0)], [], 2)
set_option maxRecDepth 100000 in
theorem S_759 : aSpec wd ct_759 := aChk_ok (lk := [(117, 0, 2, ct_X12_isWord_3), (192, 0, 3, ct_757), (192, 0, 3, ct_758), (127, 0, 3, ct_664)]) (cd := oX12_readLine) (nds := []) (fk := []) (rk := (1, [])) (fuel := 3000) (by decide +kernel) (List.forall_mem_cons.mpr ⟨⟨ml_12_117, S_X12_isWord_3⟩, List.forall_mem_cons.mpr ⟨⟨ml_12_192, S_757⟩, List.forall_mem_cons.mpr ⟨⟨ml_12_192, S_758⟩, List.forall_mem_cons.mpr ⟨⟨ml_12_127, S_664⟩, fun _ h => nomatch h⟩⟩⟩⟩) odX12_readLine
def ct_760 : aCt := (mX12_begins, [.inr (.inl [196]), .inr (.inl [1000034, 1000035, 1000036, 1000037, 1000038, 1000039, 1000040, 1000041, 1000042, 1000043, 1000044, 1000045, 1000046, 1000047, 1000048, 1000049, 1000050, 1000051, 1000052, 1000053, 1000054, 1000055, 1000056]), .inl [(1, 1, 1)]], ([((196, 6), [(0, 0, 1)]), ((196, 8), [(0, 0, 1)]), ((196, 13), [(0, 0, 1)]), ((200, 9), [(0, 0, 1)])], []), [(some (.inl [(0, 0, 1)]), [], [], [])], [(1000002, 0, 0)], [], 1)
set_option maxRecDepth 100000 in
theorem S_760 : aSpec wd ct_760 := aChk_ok (lk := [(117, 0, 2, ct_X12_isWord_4)]) (cd := oX12_begins) (nds := []) (fk := []) (rk := (1, [])) (fuel := 3000) (by decide +kernel) (List.forall_mem_cons.mpr ⟨⟨ml_12_117, S_X12_isWord_4⟩, fun _ h => nomatch h⟩) odX12_begins
def ct_761 : aCt := (mX12_begins, [.inr (.inl [196]), .inr (.inl [1000034, 1000035, 1000036, 1000037, 1000038, 1000039, 1000040, 1000041, 1000042, 1000043, 1000044, 1000045, 1000046, 1000047, 1000048, 1000049, 1000050, 1000051, 1000052, 1000053, 1000054, 1000055, 1000056]), .inl [(0, 0, 1)]], ([((196, 6), [(0, 0, 1)]), ((196, 8), [(0, 0, 1)]), ((196, 13), [(0, 0, 1)]), ((200, 9), [(0, 0, 1)])], []), [(some (.inl [(0, 0, 1)]), [], [], [])], [(1000002, 0, 0)], [], 1)
set_option maxRecDepth 100000 in
theorem S_761 : aSpec wd ct_761 := aChk_ok (lk := [(117, 0, 2, ct_X12_isWord_4)]) (cd := oX12_begins) (nds := []) (fk := []) (rk := (1, [])) (fuel := 3000) (by decide +kernel) (List.forall_mem_cons.mpr ⟨⟨ml_12_117, S_X12_isWord_4⟩, fun _ h => nomatch h⟩) odX12_begins
def ct_762 : aCt := (mX12_readLine, [.inr (.inl [196])], ([((196, 6), [(0, 0, 1)]), ((196, 8), [(0, 0, 1)]), ((196, 13), [(0, 0, 1)]), ((200, 0), [(0, 0, 1)]), ((200, 4), [(0, 0, 1)]), ((200, 9), [(0, 0, 1)]), ((200, 183), [(0, 0, 1)]), ((200, 184), [(0, 0, 1)]), ((200, 185), [(0, 0, 1)]), ((200, 186), [(0, 0, 1)]), ((200, 187), [(0, 0, 1)]), ((200, 188), [(0, 0, 1)]), ((200, 189), [(0, 0, 1)])], []), [(none, [], [((196, 13), [(1, 1, 1)])], [])], [(196, 9, 11), (196, 13, 14), (1000002, 0, 0)], [], 2)
set_option maxRecDepth 100000 in
theorem S_762 : aSpec wd ct_762 := aChk_ok (lk := [(117, 0, 2, ct_X12_isWord_4), (192, 0, 3, ct_760), (192, 0, 3, ct_761), (127, 0, 3, ct_664)]) (cd := oX12_readLine) (nds := []) (fk := []) (rk := (1, [])) (fuel := 3000) (by decide +kernel) (List.forall_mem_cons.mpr ⟨⟨ml_12_117, S_X12_isWord_4⟩, List.forall_mem_cons.mpr ⟨⟨ml_12_192, S_760⟩, List.forall_mem_cons.mpr ⟨⟨ml_12_192, S_761⟩, List.forall_mem_cons.mpr ⟨⟨ml_12_127, S_664⟩, fun _ h => nomatch h⟩⟩⟩⟩) odX12_readLine
def ct_763 : aCt := (mX12_wrong, [.inr (.inl [196]), .inl [(3, 3, 1)], .inl [(0, 1001, 1)]], ([((196, 13), [(0, 0, 1)])], []), [(none, [], [((196, 13), [(1, 1, 1)])], [])], [(196, 9, 11), (196, 13, 14), (1000002, 0, 0)], [], 0)
set_option maxRecDepth 100000 in
theorem S_763 : aSpec wd ct_763 := aChk_ok (lk := []) (cd := oX12_wrong) (nds := []) (fk := []) (rk := (1, [])) (fuel := 3000) (by decide +kernel) (fun _ h => nomatch h) odX12_wrong
def ct_764 : aCt := (mX12_postLine, [.inr (.inl [196])], ([((196, 6), [(2, 2, 1)]), ((196, 8), [(1, 8, 1)]), ((196, 13), [(0, 0, 1)]), ((200, 0), [(2, 4, 1)]), ((200, 4), [(0, 0, 1)]), ((200, 9), [(1, 1, 1)]), ((200, 183), [(0, 0, 1)]), ((200, 184), [(0, 0, 1)]), ((200, 185), [(0, 0, 1)]), ((200, 186), [(0, 0, 1)]), ((200, 187), [(0, 0, 1)]), ((200, 188), [(0, 0, 1)]), ((200, 189), [(0, 0, 1)])], []), [(none, [], [((196, 13), [(1, 1, 1)])], [])], [(196, 9, 11), (196, 13, 14), (1000002, 0, 0)], [], 1)
set_option maxRecDepth 100000 in
theorem S_764 : aSpec wd ct_764 := aChk_ok (lk := [(127, 0, 3, ct_763)]) (cd := oX12_postLine) (nds := []) (fk := []) (rk := (1, [])) (fuel := 3000) (by decide +kernel) (List.forall_mem_cons.mpr ⟨⟨ml_12_127, S_763⟩, fun _ h => nomatch h⟩) odX12_postLine
def ct_765 : aCt := (mX12_begins, [.inr (.inl [196]), .inr (.inl [1000034, 1000035, 1000036, 1000037, 1000038, 1000039, 1000040, 1000041, 1000042, 1000043, 1000044, 1000045, 1000046, 1000047, 1000048, 1000049, 1000050, 1000051, 1000052, 1000053, 1000054, 1000055, 1000056]), .inl [(1, 1, 1)]], ([((196, 6), [(2, 2, 1)]), ((196, 8), [(0, 8, 1)]), ((196, 13), [(0, 0, 1)]), ((200, 9), [(1, 1, 1)])], []), [(some (.inl [(0, 0, 1)]), [], [((196, 6), [(2, 2, 1)]), ((196, 8), [(0, 8, 1)])], []), (some (.inl [(1, 1, 1)]), [], [((196, 6), [(0, 1, 1), (3, 3, 1), (59, 59, 1)]), ((196, 8), [(0, 0, 1), (9, 1000, 1)])], []), (some (.inl [(1, 1, 1)]), [], [((196, 6), [(2, 2, 1)]), ((196, 8), [(0, 8, 1)])], [])], [(196, 4, 9), (198, 0, 8), (1000002, 0, 0)], [], 2)
set_option maxRecDepth 100000 in
theorem S_765 : aSpec wd ct_765 := aChk_ok (lk := [(121, 0, 1, ct_X12_next_0), (117, 0, 2, ct_X12_isWord_0)]) (cd := oX12_begins) (nds := []) (fk := []) (rk := (1, [])) (fuel := 3000) (by decide +kernel) (List.forall_mem_cons.mpr ⟨⟨ml_12_121, S_X12_next_0⟩, List.forall_mem_cons.mpr ⟨⟨ml_12_117, S_X12_isWord_0⟩, fun _ h => nomatch h⟩⟩) odX12_begins
def oX12_mustName : aCd := [(0, .aload_n 0, 1), (1, .getfield 90, 3), (4, .iconst 2, 1), (5, .if_icmp .ne 57, 3), (8, .aload_n 0, 1), (9, .ldc 131, 2), (11, .invokevirtual 117, 3), (14, .ifCond .ne 48, 3), (17, .aload_n 0, 1), (18, .ldc 133, 2), (20, .invokevirtual 117, 3), (23, .ifCond .ne 39, 3), (26, .aload_n 0, 1), (27, .ldc 135, 2), (29, .invokevirtual 117, 3), (32, .ifCond .ne 30, 3), (35, .aload_n 0, 1), (36, .ldc 137, 2), (38, .invokevirtual 117, 3), (41, .ifCond .ne 21, 3), (44, .aload_n 0, 1), (45, .ldc 139, 2), (47, .invokevirtual 117, 3), (50, .ifCond .ne 12, 3), (53, .aload_n 0, 1), (54, .ldc 141, 2), (56, .invokevirtual 117, 3), (59, .ifCond .eq 12, 3), (62, .aload_n 0, 1), (63, .iconst 1, 1), (64, .aload_n 0, 1), (65, .getfield 81, 3), (68, .invokevirtual 127, 3), (71, .return_, 1)]
set_option maxRecDepth 100000 in
theorem odX12_mustName : ∀ q ∈ oX12_mustName, decode cX12_mustName q.1 = .ok (q.2.1, q.2.2) := List.forall_mem_cons.mpr ⟨dX12_mustName_0, List.forall_mem_cons.mpr ⟨dX12_mustName_1, List.forall_mem_cons.mpr ⟨dX12_mustName_4, List.forall_mem_cons.mpr ⟨dX12_mustName_5, List.forall_mem_cons.mpr ⟨dX12_mustName_8, List.forall_mem_cons.mpr ⟨dX12_mustName_9, List.forall_mem_cons.mpr ⟨dX12_mustName_11, List.forall_mem_cons.mpr ⟨dX12_mustName_14, List.forall_mem_cons.mpr ⟨dX12_mustName_17, List.forall_mem_cons.mpr ⟨dX12_mustName_18, List.forall_mem_cons.mpr ⟨dX12_mustName_20, List.forall_mem_cons.mpr ⟨dX12_mustName_23, List.forall_mem_cons.mpr ⟨dX12_mustName_26, List.forall_mem_cons.mpr ⟨dX12_mustName_27, List.forall_mem_cons.mpr ⟨dX12_mustName_29, List.forall_mem_cons.mpr ⟨dX12_mustName_32, List.forall_mem_cons.mpr ⟨dX12_mustName_35, List.forall_mem_cons.mpr ⟨dX12_mustName_36, List.forall_mem_cons.mpr ⟨dX12_mustName_38, List.forall_mem_cons.mpr ⟨dX12_mustName_41, List.forall_mem_cons.mpr ⟨dX12_mustName_44, List.forall_mem_cons.mpr ⟨dX12_mustName_45, List.forall_mem_cons.mpr ⟨dX12_mustName_47, List.forall_mem_cons.mpr ⟨dX12_mustName_50, List.forall_mem_cons.mpr ⟨dX12_mustName_53, List.forall_mem_cons.mpr ⟨dX12_mustName_54, List.forall_mem_cons.mpr ⟨dX12_mustName_56, List.forall_mem_cons.mpr ⟨dX12_mustName_59, List.forall_mem_cons.mpr ⟨dX12_mustName_62, List.forall_mem_cons.mpr ⟨dX12_mustName_63, List.forall_mem_cons.mpr ⟨dX12_mustName_64, List.forall_mem_cons.mpr ⟨dX12_mustName_65, List.forall_mem_cons.mpr ⟨dX12_mustName_68, List.forall_mem_cons.mpr ⟨dX12_mustName_71, fun _ h => nomatch h⟩⟩⟩⟩⟩⟩⟩⟩⟩⟩⟩⟩⟩⟩⟩⟩⟩⟩⟩⟩⟩⟩⟩⟩⟩⟩⟩⟩⟩⟩⟩⟩⟩⟩
def ct_766 : aCt := (mX12_mustName, [.inr (.inl [196])], ([((196, 6), [(2, 2, 1)]), ((196, 8), [(0, 8, 1)]), ((196, 13), [(0, 0, 1)])], []), [(none, [], [((196, 8), [(1, 8, 1)]), ((196, 13), [(1, 1, 1)])], []), (none, [], [((196, 13), [(0, 0, 1)])], [])], [(196, 9, 11), (196, 13, 14), (1000002, 0, 0)], [], 1)
set_option maxRecDepth 100000 in
theorem S_766 : aSpec wd ct_766 := aChk_ok (lk := [(117, 0, 2, ct_X12_isWord_0), (127, 0, 3, ct_664)]) (cd := oX12_mustName) (nds := []) (fk := []) (rk := (1, [])) (fuel := 3000) (by decide +kernel) (List.forall_mem_cons.mpr ⟨⟨ml_12_117, S_X12_isWord_0⟩, List.forall_mem_cons.mpr ⟨⟨ml_12_127, S_664⟩, fun _ h => nomatch h⟩⟩) odX12_mustName
def oX12_find : aCd := [(0, .iconst 0, 1), (1, .istore_n 1, 1), (2, .iload_n 1, 1), (3, .bipush 20, 2), (5, .if_icmp .ge 101, 3), (8, .aload_n 0, 1), (9, .getfield 23, 3), (12, .sipush 183, 3), (15, .iload_n 1, 1), (16, .iadd, 1), (17, .iaload, 1), (18, .ifCond .le 24, 3), (21, .aload_n 0, 1), (22, .getfield 23, 3), (25, .sipush 183, 3), (28, .iload_n 1, 1), (29, .iadd, 1), (30, .iaload, 1), (31, .aload_n 0, 1), (32, .getfield 84, 3), (35, .if_icmp .ne 7, 3), (38, .iconst 1, 1), (39, .goto 4, 3), (42, .iconst 0, 1), (43, .istore_n 2, 1), (44, .iconst 0, 1), (45, .istore_n 3, 1), (46, .iload_n 3, 1), (47, .aload_n 0, 1), (48, .getfield 84, 3), (51, .if_icmp .ge 43, 3), (54, .iload_n 2, 1), (55, .ifCond .eq 39, 3), (58, .aload_n 0, 1), (59, .getfield 23, 3), (62, .sipush 203, 3), (65, .bipush 8, 2), (67, .iload_n 1, 1), (68, .imul, 1), (69, .iadd, 1), (70, .iload_n 3, 1), (71, .iadd, 1), (72, .iaload, 1), (73, .aload_n 0, 1), (74, .getfield 17, 3), (77, .iload_n 3, 1), (78, .iaload, 1), (79, .if_icmp .ne 7, 3), (82, .iconst 1, 1), (83, .goto 4, 3), (86, .iconst 0, 1), (87, .istore_n 2, 1), (88, .iinc 3 1, 3), (91, .goto (-45), 3), (94, .iload_n 2, 1), (95, .ifCond .eq 5, 3), (98, .iload_n 1, 1), (99, .ireturn, 1), (100, .iinc 1 1, 3), (103, .goto (-101), 3), (106, .iconst (-1), 1), (107, .ireturn, 1)]
set_option maxRecDepth 100000 in
theorem odX12_find : ∀ q ∈ oX12_find, decode cX12_find q.1 = .ok (q.2.1, q.2.2) := List.forall_mem_cons.mpr ⟨dX12_find_0, List.forall_mem_cons.mpr ⟨dX12_find_1, List.forall_mem_cons.mpr ⟨dX12_find_2, List.forall_mem_cons.mpr ⟨dX12_find_3, List.forall_mem_cons.mpr ⟨dX12_find_5, List.forall_mem_cons.mpr ⟨dX12_find_8, List.forall_mem_cons.mpr ⟨dX12_find_9, List.forall_mem_cons.mpr ⟨dX12_find_12, List.forall_mem_cons.mpr ⟨dX12_find_15, List.forall_mem_cons.mpr ⟨dX12_find_16, List.forall_mem_cons.mpr ⟨dX12_find_17, List.forall_mem_cons.mpr ⟨dX12_find_18, List.forall_mem_cons.mpr ⟨dX12_find_21, List.forall_mem_cons.mpr ⟨dX12_find_22, List.forall_mem_cons.mpr ⟨dX12_find_25, List.forall_mem_cons.mpr ⟨dX12_find_28, List.forall_mem_cons.mpr ⟨dX12_find_29, List.forall_mem_cons.mpr ⟨dX12_find_30, List.forall_mem_cons.mpr ⟨dX12_find_31, List.forall_mem_cons.mpr ⟨dX12_find_32, List.forall_mem_cons.mpr ⟨dX12_find_35, List.forall_mem_cons.mpr ⟨dX12_find_38, List.forall_mem_cons.mpr ⟨dX12_find_39, List.forall_mem_cons.mpr ⟨dX12_find_42, List.forall_mem_cons.mpr ⟨dX12_find_43, List.forall_mem_cons.mpr ⟨dX12_find_44, List.forall_mem_cons.mpr ⟨dX12_find_45, List.forall_mem_cons.mpr ⟨dX12_find_46, List.forall_mem_cons.mpr ⟨dX12_find_47, List.forall_mem_cons.mpr ⟨dX12_find_48, List.forall_mem_cons.mpr ⟨dX12_find_51, List.forall_mem_cons.mpr ⟨dX12_find_54, List.forall_mem_cons.mpr ⟨dX12_find_55, List.forall_mem_cons.mpr ⟨dX12_find_58, List.forall_mem_cons.mpr ⟨dX12_find_59, List.forall_mem_cons.mpr ⟨dX12_find_62, List.forall_mem_cons.mpr ⟨dX12_find_65, List.forall_mem_cons.mpr ⟨dX12_find_67, List.forall_mem_cons.mpr ⟨dX12_find_68, List.forall_mem_cons.mpr ⟨dX12_find_69, List.forall_mem_cons.mpr ⟨dX12_find_70, List.forall_mem_cons.mpr ⟨dX12_find_71, List.forall_mem_cons.mpr ⟨dX12_find_72, List.forall_mem_cons.mpr ⟨dX12_find_73, List.forall_mem_cons.mpr ⟨dX12_find_74, List.forall_mem_cons.mpr ⟨dX12_find_77, List.forall_mem_cons.mpr ⟨dX12_find_78, List.forall_mem_cons.mpr ⟨dX12_find_79, List.forall_mem_cons.mpr ⟨dX12_find_82, List.forall_mem_cons.mpr ⟨dX12_find_83, List.forall_mem_cons.mpr ⟨dX12_find_86, List.forall_mem_cons.mpr ⟨dX12_find_87, List.forall_mem_cons.mpr ⟨dX12_find_88, List.forall_mem_cons.mpr ⟨dX12_find_91, List.forall_mem_cons.mpr ⟨dX12_find_94, List.forall_mem_cons.mpr ⟨dX12_find_95, List.forall_mem_cons.mpr ⟨dX12_find_98, List.forall_mem_cons.mpr ⟨dX12_find_99, List.forall_mem_cons.mpr ⟨dX12_find_100, List.forall_mem_cons.mpr ⟨dX12_find_103, List.forall_mem_cons.mpr ⟨dX12_find_106, List.forall_mem_cons.mpr ⟨dX12_find_107, fun _ h => nomatch h⟩⟩⟩⟩⟩⟩⟩⟩⟩⟩⟩⟩⟩⟩⟩⟩⟩⟩⟩⟩⟩⟩⟩⟩⟩⟩⟩⟩⟩⟩⟩⟩⟩⟩⟩⟩⟩⟩⟩⟩⟩⟩⟩⟩⟩⟩⟩⟩⟩⟩⟩⟩⟩⟩⟩⟩⟩⟩⟩⟩⟩⟩
def ct_767 : aCt := (mX12_find, [.inr (.inl [196])], ([((196, 8), [(0, 8, 1)])], []), [(some (.inl [(-1, 19, 1)]), [], [], [])], [(1000002, 0, 0)], [], 0)
def lk_767 : aLk := []
def nd_767_0 : aNd := (2, [(0, .inr (.inl [196])), (1, .inl [(0, 0, 1)])], [], [((196, 8), [(0, 8, 1)])], [], (220, []))
def nd_767_1 : aNd := (46, [(0, .inr (.inl [196])), (1, .inl [(0, 0, 1)]), (2, .inl [(1, 1, 1)]), (3, .inl [(0, 8, 1)])], [], [((196, 8), [(1, 8, 1)])], [], (219, [(0, -1)]))
def nd_767_2 : aNd := (46, [(0, .inr (.inl [196])), (1, .inl [(0, 0, 1)]), (2, .inl [(0, 0, 1)]), (3, .inl [(0, 8, 1)])], [], [((196, 8), [(0, 8, 1)])], [], (210, []))
def nd_767_3 : aNd := (2, [(0, .inr (.inl [196])), (1, .inl [(1, 1, 1)]), (2, .inl [(0, 0, 1)]), (3, .inl [(0, 8, 1)])], [], [((196, 8), [(0, 8, 1)])], [], (209, []))
def nd_767_4 : aNd := (46, [(0, .inr (.inl [196])), (1, .inl [(1, 1, 1)]), (2, .inl [(1, 1, 1)]), (3, .inl [(0, 8, 1)])], [], [((196, 8), [(1, 8, 1)])], [], (208, [(0, -1)]))
def nd_767_5 : aNd := (46, [(0, .inr (.inl [196])), (1, .inl [(1, 1, 1)]), (2, .inl [(0, 0, 1)]), (3, .inl [(0, 8, 1)])], [], [((196, 8), [(0, 8, 1)])], [], (199, []))
def nd_767_6 : aNd := (2, [(0, .inr (.inl [196])), (1, .inl [(2, 2, 1)]), (2, .inl [(0, 0, 1)]), (3, .inl [(0, 8, 1)])], [], [((196, 8), [(0, 8, 1)])], [], (198, []))
def nd_767_7 : aNd := (46, [(0, .inr (.inl [196])), (1, .inl [(2, 2, 1)]), (2, .inl [(1, 1, 1)]), (3, .inl [(0, 8, 1)])], [], [((196, 8), [(1, 8, 1)])], [], (197, [(0, -1)]))
def nd_767_8 : aNd := (46, [(0, .inr (.inl [196])), (1, .inl [(2, 2, 1)]), (2, .inl [(0, 0, 1)]), (3, .inl [(0, 8, 1)])], [], [((196, 8), [(0, 8, 1)])], [], (188, []))
def nd_767_9 : aNd := (2, [(0, .inr (.inl [196])), (1, .inl [(3, 3, 1)]), (2, .inl [(0, 0, 1)]), (3, .inl [(0, 8, 1)])], [], [((196, 8), [(0, 8, 1)])], [], (187, []))
def nd_767_10 : aNd := (46, [(0, .inr (.inl [196])), (1, .inl [(3, 3, 1)]), (2, .inl [(1, 1, 1)]), (3, .inl [(0, 8, 1)])], [], [((196, 8), [(1, 8, 1)])], [], (186, [(0, -1)]))
def nd_767_11 : aNd := (46, [(0, .inr (.inl [196])), (1, .inl [(3, 3, 1)]), (2, .inl [(0, 0, 1)]), (3, .inl [(0, 8, 1)])], [], [((196, 8), [(0, 8, 1)])], [], (177, []))
def nd_767_12 : aNd := (2, [(0, .inr (.inl [196])), (1, .inl [(4, 4, 1)]), (2, .inl [(0, 0, 1)]), (3, .inl [(0, 8, 1)])], [], [((196, 8), [(0, 8, 1)])], [], (176, []))
def nd_767_13 : aNd := (46, [(0, .inr (.inl [196])), (1, .inl [(4, 4, 1)]), (2, .inl [(1, 1, 1)]), (3, .inl [(0, 8, 1)])], [], [((196, 8), [(1, 8, 1)])], [], (175, [(0, -1)]))
def nd_767_14 : aNd := (46, [(0, .inr (.inl [196])), (1, .inl [(4, 4, 1)]), (2, .inl [(0, 0, 1)]), (3, .inl [(0, 8, 1)])], [], [((196, 8), [(0, 8, 1)])], [], (166, []))
def nd_767_15 : aNd := (2, [(0, .inr (.inl [196])), (1, .inl [(5, 5, 1)]), (2, .inl [(0, 0, 1)]), (3, .inl [(0, 8, 1)])], [], [((196, 8), [(0, 8, 1)])], [], (165, []))
def nd_767_16 : aNd := (46, [(0, .inr (.inl [196])), (1, .inl [(5, 5, 1)]), (2, .inl [(1, 1, 1)]), (3, .inl [(0, 8, 1)])], [], [((196, 8), [(1, 8, 1)])], [], (164, [(0, -1)]))
def nd_767_17 : aNd := (46, [(0, .inr (.inl [196])), (1, .inl [(5, 5, 1)]), (2, .inl [(0, 0, 1)]), (3, .inl [(0, 8, 1)])], [], [((196, 8), [(0, 8, 1)])], [], (155, []))
def nd_767_18 : aNd := (2, [(0, .inr (.inl [196])), (1, .inl [(6, 6, 1)]), (2, .inl [(0, 0, 1)]), (3, .inl [(0, 8, 1)])], [], [((196, 8), [(0, 8, 1)])], [], (154, []))
def nd_767_19 : aNd := (46, [(0, .inr (.inl [196])), (1, .inl [(6, 6, 1)]), (2, .inl [(1, 1, 1)]), (3, .inl [(0, 8, 1)])], [], [((196, 8), [(1, 8, 1)])], [], (153, [(0, -1)]))
def nd_767_20 : aNd := (46, [(0, .inr (.inl [196])), (1, .inl [(6, 6, 1)]), (2, .inl [(0, 0, 1)]), (3, .inl [(0, 8, 1)])], [], [((196, 8), [(0, 8, 1)])], [], (144, []))
def nd_767_21 : aNd := (2, [(0, .inr (.inl [196])), (1, .inl [(7, 7, 1)]), (2, .inl [(0, 0, 1)]), (3, .inl [(0, 8, 1)])], [], [((196, 8), [(0, 8, 1)])], [], (143, []))
def nd_767_22 : aNd := (46, [(0, .inr (.inl [196])), (1, .inl [(7, 7, 1)]), (2, .inl [(1, 1, 1)]), (3, .inl [(0, 8, 1)])], [], [((196, 8), [(1, 8, 1)]), ((200, 190), [(1, 8, 1)])], [], (142, [(0, -1)]))
def nd_767_23 : aNd := (46, [(0, .inr (.inl [196])), (1, .inl [(7, 7, 1)]), (2, .inl [(0, 0, 1)]), (3, .inl [(0, 8, 1)])], [], [((196, 8), [(0, 8, 1)])], [], (133, []))
def nd_767_24 : aNd := (2, [(0, .inr (.inl [196])), (1, .inl [(8, 8, 1)]), (2, .inl [(0, 0, 1)]), (3, .inl [(0, 8, 1)])], [], [((196, 8), [(0, 8, 1)])], [], (132, []))
def nd_767_25 : aNd := (46, [(0, .inr (.inl [196])), (1, .inl [(8, 8, 1)]), (2, .inl [(1, 1, 1)]), (3, .inl [(0, 8, 1)])], [], [((196, 8), [(1, 8, 1)]), ((200, 191), [(1, 8, 1)])], [], (131, [(0, -1)]))
def nd_767_26 : aNd := (46, [(0, .inr (.inl [196])), (1, .inl [(8, 8, 1)]), (2, .inl [(0, 0, 1)]), (3, .inl [(0, 8, 1)])], [], [((196, 8), [(0, 8, 1)])], [], (122, []))
def nd_767_27 : aNd := (2, [(0, .inr (.inl [196])), (1, .inl [(9, 9, 1)]), (2, .inl [(0, 0, 1)]), (3, .inl [(0, 8, 1)])], [], [((196, 8), [(0, 8, 1)])], [], (121, []))
def nd_767_28 : aNd := (46, [(0, .inr (.inl [196])), (1, .inl [(9, 9, 1)]), (2, .inl [(1, 1, 1)]), (3, .inl [(0, 8, 1)])], [], [((196, 8), [(1, 8, 1)]), ((200, 192), [(1, 8, 1)])], [], (120, [(0, -1)]))
def nd_767_29 : aNd := (46, [(0, .inr (.inl [196])), (1, .inl [(9, 9, 1)]), (2, .inl [(0, 0, 1)]), (3, .inl [(0, 8, 1)])], [], [((196, 8), [(0, 8, 1)])], [], (111, []))
def nd_767_30 : aNd := (2, [(0, .inr (.inl [196])), (1, .inl [(10, 10, 1)]), (2, .inl [(0, 0, 1)]), (3, .inl [(0, 8, 1)])], [], [((196, 8), [(0, 8, 1)])], [], (110, []))
def nd_767_31 : aNd := (46, [(0, .inr (.inl [196])), (1, .inl [(10, 10, 1)]), (2, .inl [(1, 1, 1)]), (3, .inl [(0, 8, 1)])], [], [((196, 8), [(1, 8, 1)]), ((200, 193), [(1, 8, 1)])], [], (109, [(0, -1)]))
def nd_767_32 : aNd := (46, [(0, .inr (.inl [196])), (1, .inl [(10, 10, 1)]), (2, .inl [(0, 0, 1)]), (3, .inl [(0, 8, 1)])], [], [((196, 8), [(0, 8, 1)])], [], (100, []))
def nd_767_33 : aNd := (2, [(0, .inr (.inl [196])), (1, .inl [(11, 11, 1)]), (2, .inl [(0, 0, 1)]), (3, .inl [(0, 8, 1)])], [], [((196, 8), [(0, 8, 1)])], [], (99, []))
def nd_767_34 : aNd := (46, [(0, .inr (.inl [196])), (1, .inl [(11, 11, 1)]), (2, .inl [(1, 1, 1)]), (3, .inl [(0, 8, 1)])], [], [((196, 8), [(1, 8, 1)]), ((200, 194), [(1, 8, 1)])], [], (98, [(0, -1)]))
def nd_767_35 : aNd := (46, [(0, .inr (.inl [196])), (1, .inl [(11, 11, 1)]), (2, .inl [(0, 0, 1)]), (3, .inl [(0, 8, 1)])], [], [((196, 8), [(0, 8, 1)])], [], (89, []))
def nd_767_36 : aNd := (2, [(0, .inr (.inl [196])), (1, .inl [(12, 12, 1)]), (2, .inl [(0, 0, 1)]), (3, .inl [(0, 8, 1)])], [], [((196, 8), [(0, 8, 1)])], [], (88, []))
def nd_767_37 : aNd := (46, [(0, .inr (.inl [196])), (1, .inl [(12, 12, 1)]), (2, .inl [(1, 1, 1)]), (3, .inl [(0, 8, 1)])], [], [((196, 8), [(1, 8, 1)]), ((200, 195), [(1, 8, 1)])], [], (87, [(0, -1)]))
def nd_767_38 : aNd := (46, [(0, .inr (.inl [196])), (1, .inl [(12, 12, 1)]), (2, .inl [(0, 0, 1)]), (3, .inl [(0, 8, 1)])], [], [((196, 8), [(0, 8, 1)])], [], (78, []))
def nd_767_39 : aNd := (2, [(0, .inr (.inl [196])), (1, .inl [(13, 13, 1)]), (2, .inl [(0, 0, 1)]), (3, .inl [(0, 8, 1)])], [], [((196, 8), [(0, 8, 1)])], [], (77, []))
def nd_767_40 : aNd := (46, [(0, .inr (.inl [196])), (1, .inl [(13, 13, 1)]), (2, .inl [(1, 1, 1)]), (3, .inl [(0, 8, 1)])], [], [((196, 8), [(1, 8, 1)]), ((200, 196), [(1, 8, 1)])], [], (76, [(0, -1)]))
def nd_767_41 : aNd := (46, [(0, .inr (.inl [196])), (1, .inl [(13, 13, 1)]), (2, .inl [(0, 0, 1)]), (3, .inl [(0, 8, 1)])], [], [((196, 8), [(0, 8, 1)])], [], (67, []))
def nd_767_42 : aNd := (2, [(0, .inr (.inl [196])), (1, .inl [(14, 14, 1)]), (2, .inl [(0, 0, 1)]), (3, .inl [(0, 8, 1)])], [], [((196, 8), [(0, 8, 1)])], [], (66, []))
def nd_767_43 : aNd := (46, [(0, .inr (.inl [196])), (1, .inl [(14, 14, 1)]), (2, .inl [(1, 1, 1)]), (3, .inl [(0, 8, 1)])], [], [((196, 8), [(1, 8, 1)]), ((200, 197), [(1, 8, 1)])], [], (65, [(0, -1)]))
def nd_767_44 : aNd := (46, [(0, .inr (.inl [196])), (1, .inl [(14, 14, 1)]), (2, .inl [(0, 0, 1)]), (3, .inl [(0, 8, 1)])], [], [((196, 8), [(0, 8, 1)])], [], (56, []))
def nd_767_45 : aNd := (2, [(0, .inr (.inl [196])), (1, .inl [(15, 15, 1)]), (2, .inl [(0, 0, 1)]), (3, .inl [(0, 8, 1)])], [], [((196, 8), [(0, 8, 1)])], [], (55, []))
def nd_767_46 : aNd := (46, [(0, .inr (.inl [196])), (1, .inl [(15, 15, 1)]), (2, .inl [(1, 1, 1)]), (3, .inl [(0, 8, 1)])], [], [((196, 8), [(1, 8, 1)]), ((200, 198), [(1, 8, 1)])], [], (54, [(0, -1)]))
def nd_767_47 : aNd := (46, [(0, .inr (.inl [196])), (1, .inl [(15, 15, 1)]), (2, .inl [(0, 0, 1)]), (3, .inl [(0, 8, 1)])], [], [((196, 8), [(0, 8, 1)])], [], (45, []))
def nd_767_48 : aNd := (2, [(0, .inr (.inl [196])), (1, .inl [(16, 16, 1)]), (2, .inl [(0, 0, 1)]), (3, .inl [(0, 8, 1)])], [], [((196, 8), [(0, 8, 1)])], [], (44, []))
def nd_767_49 : aNd := (46, [(0, .inr (.inl [196])), (1, .inl [(16, 16, 1)]), (2, .inl [(1, 1, 1)]), (3, .inl [(0, 8, 1)])], [], [((196, 8), [(1, 8, 1)]), ((200, 199), [(1, 8, 1)])], [], (43, [(0, -1)]))
def nd_767_50 : aNd := (46, [(0, .inr (.inl [196])), (1, .inl [(16, 16, 1)]), (2, .inl [(0, 0, 1)]), (3, .inl [(0, 8, 1)])], [], [((196, 8), [(0, 8, 1)])], [], (34, []))
def nd_767_51 : aNd := (2, [(0, .inr (.inl [196])), (1, .inl [(17, 17, 1)]), (2, .inl [(0, 0, 1)]), (3, .inl [(0, 8, 1)])], [], [((196, 8), [(0, 8, 1)])], [], (33, []))
def nd_767_52 : aNd := (46, [(0, .inr (.inl [196])), (1, .inl [(17, 17, 1)]), (2, .inl [(1, 1, 1)]), (3, .inl [(0, 8, 1)])], [], [((196, 8), [(1, 8, 1)]), ((200, 200), [(1, 8, 1)])], [], (32, [(0, -1)]))
def nd_767_53 : aNd := (46, [(0, .inr (.inl [196])), (1, .inl [(17, 17, 1)]), (2, .inl [(0, 0, 1)]), (3, .inl [(0, 8, 1)])], [], [((196, 8), [(0, 8, 1)])], [], (23, []))
def nd_767_54 : aNd := (2, [(0, .inr (.inl [196])), (1, .inl [(18, 18, 1)]), (2, .inl [(0, 0, 1)]), (3, .inl [(0, 8, 1)])], [], [((196, 8), [(0, 8, 1)])], [], (22, []))
def nd_767_55 : aNd := (46, [(0, .inr (.inl [196])), (1, .inl [(18, 18, 1)]), (2, .inl [(1, 1, 1)]), (3, .inl [(0, 8, 1)])], [], [((196, 8), [(1, 8, 1)]), ((200, 201), [(1, 8, 1)])], [], (21, [(0, -1)]))
def nd_767_56 : aNd := (46, [(0, .inr (.inl [196])), (1, .inl [(18, 18, 1)]), (2, .inl [(0, 0, 1)]), (3, .inl [(0, 8, 1)])], [], [((196, 8), [(0, 8, 1)])], [], (12, []))
def nd_767_57 : aNd := (2, [(0, .inr (.inl [196])), (1, .inl [(19, 19, 1)]), (2, .inl [(0, 0, 1)]), (3, .inl [(0, 8, 1)])], [], [((196, 8), [(0, 8, 1)])], [], (11, []))
def nd_767_58 : aNd := (46, [(0, .inr (.inl [196])), (1, .inl [(19, 19, 1)]), (2, .inl [(1, 1, 1)]), (3, .inl [(0, 8, 1)])], [], [((196, 8), [(1, 8, 1)]), ((200, 202), [(1, 8, 1)])], [], (10, [(0, -1)]))
def nd_767_59 : aNd := (46, [(0, .inr (.inl [196])), (1, .inl [(19, 19, 1)]), (2, .inl [(0, 0, 1)]), (3, .inl [(0, 8, 1)])], [], [((196, 8), [(0, 8, 1)])], [], (1, []))
def nd_767_60 : aNd := (2, [(0, .inr (.inl [196])), (1, .inl [(20, 20, 1)]), (2, .inl [(0, 0, 1)]), (3, .inl [(0, 8, 1)])], [], [((196, 8), [(0, 8, 1)])], [], (0, []))
def nd_767 : List aNd := [nd_767_0, nd_767_1, nd_767_2, nd_767_3, nd_767_4, nd_767_5, nd_767_6, nd_767_7, nd_767_8, nd_767_9, nd_767_10, nd_767_11, nd_767_12, nd_767_13, nd_767_14, nd_767_15, nd_767_16, nd_767_17, nd_767_18, nd_767_19, nd_767_20, nd_767_21, nd_767_22, nd_767_23, nd_767_24, nd_767_25, nd_767_26, nd_767_27, nd_767_28, nd_767_29, nd_767_30, nd_767_31, nd_767_32, nd_767_33, nd_767_34, nd_767_35, nd_767_36, nd_767_37, nd_767_38, nd_767_39, nd_767_40, nd_767_41, nd_767_42, nd_767_43, nd_767_44, nd_767_45, nd_767_46, nd_767_47, nd_767_48, nd_767_49, nd_767_50, nd_767_51, nd_767_52, nd_767_53, nd_767_54, nd_767_55, nd_767_56, nd_767_57, nd_767_58, nd_767_59, nd_767_60]
set_option maxRecDepth 100000 in
theorem kN_767_0 : aSgk wd ct_767 lk_767 oX12_find [] 3000 nd_767 nd_767_0 = true := by decide +kernel
set_option maxRecDepth 100000 in
theorem kN_767_1 : aSgk wd ct_767 lk_767 oX12_find [] 3000 nd_767 nd_767_1 = true := by decide +kernel
set_option maxRecDepth 100000 in
theorem kN_767_2 : aSgk wd ct_767 lk_767 oX12_find [] 3000 nd_767 nd_767_2 = true := by decide +kernel
set_option maxRecDepth 100000 in
theorem kN_767_3 : aSgk wd ct_767 lk_767 oX12_find [] 3000 nd_767 nd_767_3 = true := by decide +kernel
set_option maxRecDepth 100000 in
theorem kN_767_4 : aSgk wd ct_767 lk_767 oX12_find [] 3000 nd_767 nd_767_4 = true := by decide +kernel
set_option maxRecDepth 100000 in
theorem kN_767_5 : aSgk wd ct_767 lk_767 oX12_find [] 3000 nd_767 nd_767_5 = true := by decide +kernel
set_option maxRecDepth 100000 in
theorem kN_767_6 : aSgk wd ct_767 lk_767 oX12_find [] 3000 nd_767 nd_767_6 = true := by decide +kernel
set_option maxRecDepth 100000 in
theorem kN_767_7 : aSgk wd ct_767 lk_767 oX12_find [] 3000 nd_767 nd_767_7 = true := by decide +kernel
set_option maxRecDepth 100000 in
theorem kN_767_8 : aSgk wd ct_767 lk_767 oX12_find [] 3000 nd_767 nd_767_8 = true := by decide +kernel
set_option maxRecDepth 100000 in
theorem kN_767_9 : aSgk wd ct_767 lk_767 oX12_find [] 3000 nd_767 nd_767_9 = true := by decide +kernel
set_option maxRecDepth 100000 in
theorem kN_767_10 : aSgk wd ct_767 lk_767 oX12_find [] 3000 nd_767 nd_767_10 = true := by decide +kernel
set_option maxRecDepth 100000 in
theorem kN_767_11 : aSgk wd ct_767 lk_767 oX12_find [] 3000 nd_767 nd_767_11 = true := by decide +kernel
set_option maxRecDepth 100000 in
theorem kN_767_12 : aSgk wd ct_767 lk_767 oX12_find [] 3000 nd_767 nd_767_12 = true := by decide +kernel
set_option maxRecDepth 100000 in
theorem kN_767_13 : aSgk wd ct_767 lk_767 oX12_find [] 3000 nd_767 nd_767_13 = true := by decide +kernel
set_option maxRecDepth 100000 in
theorem kN_767_14 : aSgk wd ct_767 lk_767 oX12_find [] 3000 nd_767 nd_767_14 = true := by decide +kernel
set_option maxRecDepth 100000 in
theorem kN_767_15 : aSgk wd ct_767 lk_767 oX12_find [] 3000 nd_767 nd_767_15 = true := by decide +kernel
set_option maxRecDepth 100000 in
theorem kN_767_16 : aSgk wd ct_767 lk_767 oX12_find [] 3000 nd_767 nd_767_16 = true := by decide +kernel
set_option maxRecDepth 100000 in
theorem kN_767_17 : aSgk wd ct_767 lk_767 oX12_find [] 3000 nd_767 nd_767_17 = true := by decide +kernel
set_option maxRecDepth 100000 in
theorem kN_767_18 : aSgk wd ct_767 lk_767 oX12_find [] 3000 nd_767 nd_767_18 = true := by decide +kernel
set_option maxRecDepth 100000 in
theorem kN_767_19 : aSgk wd ct_767 lk_767 oX12_find [] 3000 nd_767 nd_767_19 = true := by decide +kernel
set_option maxRecDepth 100000 in
theorem kN_767_20 : aSgk wd ct_767 lk_767 oX12_find [] 3000 nd_767 nd_767_20 = true := by decide +kernel
set_option maxRecDepth 100000 in
theorem kN_767_21 : aSgk wd ct_767 lk_767 oX12_find [] 3000 nd_767 nd_767_21 = true := by decide +kernel
set_option maxRecDepth 100000 in
theorem kN_767_22 : aSgk wd ct_767 lk_767 oX12_find [] 3000 nd_767 nd_767_22 = true := by decide +kernel
set_option maxRecDepth 100000 in
theorem kN_767_23 : aSgk wd ct_767 lk_767 oX12_find [] 3000 nd_767 nd_767_23 = true := by decide +kernel
set_option maxRecDepth 100000 in
theorem kN_767_24 : aSgk wd ct_767 lk_767 oX12_find [] 3000 nd_767 nd_767_24 = true := by decide +kernel
set_option maxRecDepth 100000 in
theorem kN_767_25 : aSgk wd ct_767 lk_767 oX12_find [] 3000 nd_767 nd_767_25 = true := by decide +kernel
set_option maxRecDepth 100000 in
theorem kN_767_26 : aSgk wd ct_767 lk_767 oX12_find [] 3000 nd_767 nd_767_26 = true := by decide +kernel
set_option maxRecDepth 100000 in
theorem kN_767_27 : aSgk wd ct_767 lk_767 oX12_find [] 3000 nd_767 nd_767_27 = true := by decide +kernel
set_option maxRecDepth 100000 in
theorem kN_767_28 : aSgk wd ct_767 lk_767 oX12_find [] 3000 nd_767 nd_767_28 = true := by decide +kernel
set_option maxRecDepth 100000 in
theorem kN_767_29 : aSgk wd ct_767 lk_767 oX12_find [] 3000 nd_767 nd_767_29 = true := by decide +kernel
set_option maxRecDepth 100000 in
theorem kN_767_30 : aSgk wd ct_767 lk_767 oX12_find [] 3000 nd_767 nd_767_30 = true := by decide +kernel
set_option maxRecDepth 100000 in
theorem kN_767_31 : aSgk wd ct_767 lk_767 oX12_find [] 3000 nd_767 nd_767_31 = true := by decide +kernel
set_option maxRecDepth 100000 in
theorem kN_767_32 : aSgk wd ct_767 lk_767 oX12_find [] 3000 nd_767 nd_767_32 = true := by decide +kernel
set_option maxRecDepth 100000 in
theorem kN_767_33 : aSgk wd ct_767 lk_767 oX12_find [] 3000 nd_767 nd_767_33 = true := by decide +kernel
set_option maxRecDepth 100000 in
theorem kN_767_34 : aSgk wd ct_767 lk_767 oX12_find [] 3000 nd_767 nd_767_34 = true := by decide +kernel
set_option maxRecDepth 100000 in
theorem kN_767_35 : aSgk wd ct_767 lk_767 oX12_find [] 3000 nd_767 nd_767_35 = true := by decide +kernel
set_option maxRecDepth 100000 in
theorem kN_767_36 : aSgk wd ct_767 lk_767 oX12_find [] 3000 nd_767 nd_767_36 = true := by decide +kernel
set_option maxRecDepth 100000 in
theorem kN_767_37 : aSgk wd ct_767 lk_767 oX12_find [] 3000 nd_767 nd_767_37 = true := by decide +kernel
set_option maxRecDepth 100000 in
theorem kN_767_38 : aSgk wd ct_767 lk_767 oX12_find [] 3000 nd_767 nd_767_38 = true := by decide +kernel
set_option maxRecDepth 100000 in
theorem kN_767_39 : aSgk wd ct_767 lk_767 oX12_find [] 3000 nd_767 nd_767_39 = true := by decide +kernel
set_option maxRecDepth 100000 in
theorem kN_767_40 : aSgk wd ct_767 lk_767 oX12_find [] 3000 nd_767 nd_767_40 = true := by decide +kernel
set_option maxRecDepth 100000 in
theorem kN_767_41 : aSgk wd ct_767 lk_767 oX12_find [] 3000 nd_767 nd_767_41 = true := by decide +kernel
set_option maxRecDepth 100000 in
theorem kN_767_42 : aSgk wd ct_767 lk_767 oX12_find [] 3000 nd_767 nd_767_42 = true := by decide +kernel
set_option maxRecDepth 100000 in
theorem kN_767_43 : aSgk wd ct_767 lk_767 oX12_find [] 3000 nd_767 nd_767_43 = true := by decide +kernel
set_option maxRecDepth 100000 in
theorem kN_767_44 : aSgk wd ct_767 lk_767 oX12_find [] 3000 nd_767 nd_767_44 = true := by decide +kernel
set_option maxRecDepth 100000 in
theorem kN_767_45 : aSgk wd ct_767 lk_767 oX12_find [] 3000 nd_767 nd_767_45 = true := by decide +kernel
set_option maxRecDepth 100000 in
theorem kN_767_46 : aSgk wd ct_767 lk_767 oX12_find [] 3000 nd_767 nd_767_46 = true := by decide +kernel
set_option maxRecDepth 100000 in
theorem kN_767_47 : aSgk wd ct_767 lk_767 oX12_find [] 3000 nd_767 nd_767_47 = true := by decide +kernel
set_option maxRecDepth 100000 in
theorem kN_767_48 : aSgk wd ct_767 lk_767 oX12_find [] 3000 nd_767 nd_767_48 = true := by decide +kernel
set_option maxRecDepth 100000 in
theorem kN_767_49 : aSgk wd ct_767 lk_767 oX12_find [] 3000 nd_767 nd_767_49 = true := by decide +kernel
set_option maxRecDepth 100000 in
theorem kN_767_50 : aSgk wd ct_767 lk_767 oX12_find [] 3000 nd_767 nd_767_50 = true := by decide +kernel
set_option maxRecDepth 100000 in
theorem kN_767_51 : aSgk wd ct_767 lk_767 oX12_find [] 3000 nd_767 nd_767_51 = true := by decide +kernel
set_option maxRecDepth 100000 in
theorem kN_767_52 : aSgk wd ct_767 lk_767 oX12_find [] 3000 nd_767 nd_767_52 = true := by decide +kernel
set_option maxRecDepth 100000 in
theorem kN_767_53 : aSgk wd ct_767 lk_767 oX12_find [] 3000 nd_767 nd_767_53 = true := by decide +kernel
set_option maxRecDepth 100000 in
theorem kN_767_54 : aSgk wd ct_767 lk_767 oX12_find [] 3000 nd_767 nd_767_54 = true := by decide +kernel
set_option maxRecDepth 100000 in
theorem kN_767_55 : aSgk wd ct_767 lk_767 oX12_find [] 3000 nd_767 nd_767_55 = true := by decide +kernel
set_option maxRecDepth 100000 in
theorem kN_767_56 : aSgk wd ct_767 lk_767 oX12_find [] 3000 nd_767 nd_767_56 = true := by decide +kernel
set_option maxRecDepth 100000 in
theorem kN_767_57 : aSgk wd ct_767 lk_767 oX12_find [] 3000 nd_767 nd_767_57 = true := by decide +kernel
set_option maxRecDepth 100000 in
theorem kN_767_58 : aSgk wd ct_767 lk_767 oX12_find [] 3000 nd_767 nd_767_58 = true := by decide +kernel
set_option maxRecDepth 100000 in
theorem kN_767_59 : aSgk wd ct_767 lk_767 oX12_find [] 3000 nd_767 nd_767_59 = true := by decide +kernel
set_option maxRecDepth 100000 in
theorem kN_767_60 : aSgk wd ct_767 lk_767 oX12_find [] 3000 nd_767 nd_767_60 = true := by decide +kernel
set_option maxRecDepth 100000 in
theorem kE_767 : (aRkOk (aEnt ct_767 (221, [])) && aRun wd ct_767.2.2.2.2.1 ct_767.2.2.2.2.2.1 ct_767.1 ct_767.2.2.2.2.2.2 lk_767 oX12_find nd_767 ct_767.2.2.2.1 [] ((aPvl 0 (aPos 0 ct_767.2.1)).map (fun q => aXp q.2)) (221, []) 3000 true (aNs (aEnt ct_767 (221, [])))) = true := by decide +kernel
set_option maxRecDepth 100000 in
theorem S_767 : aSpec wd ct_767 := aChkL_ok (lk := lk_767) (cd := oX12_find) (nds := nd_767) (fk := []) (rk := (221, [])) (fuel := 3000) kE_767 (List.forall_mem_cons.mpr ⟨kN_767_0, List.forall_mem_cons.mpr ⟨kN_767_1, List.forall_mem_cons.mpr ⟨kN_767_2, List.forall_mem_cons.mpr ⟨kN_767_3, List.forall_mem_cons.mpr ⟨kN_767_4, List.forall_mem_cons.mpr ⟨kN_767_5, List.forall_mem_cons.mpr ⟨kN_767_6, List.forall_mem_cons.mpr ⟨kN_767_7, List.forall_mem_cons.mpr ⟨kN_767_8, List.forall_mem_cons.mpr ⟨kN_767_9, List.forall_mem_cons.mpr ⟨kN_767_10, List.forall_mem_cons.mpr ⟨kN_767_11, List.forall_mem_cons.mpr ⟨kN_767_12, List.forall_mem_cons.mpr ⟨kN_767_13, List.forall_mem_cons.mpr ⟨kN_767_14, List.forall_mem_cons.mpr ⟨kN_767_15, List.forall_mem_cons.mpr ⟨kN_767_16, List.forall_mem_cons.mpr ⟨kN_767_17, List.forall_mem_cons.mpr ⟨kN_767_18, List.forall_mem_cons.mpr ⟨kN_767_19, List.forall_mem_cons.mpr ⟨kN_767_20, List.forall_mem_cons.mpr ⟨kN_767_21, List.forall_mem_cons.mpr ⟨kN_767_22, List.forall_mem_cons.mpr ⟨kN_767_23, List.forall_mem_cons.mpr ⟨kN_767_24, List.forall_mem_cons.mpr ⟨kN_767_25, List.forall_mem_cons.mpr ⟨kN_767_26, List.forall_mem_cons.mpr ⟨kN_767_27, List.forall_mem_cons.mpr ⟨kN_767_28, List.forall_mem_cons.mpr ⟨kN_767_29, List.forall_mem_cons.mpr ⟨kN_767_30, List.forall_mem_cons.mpr ⟨kN_767_31, List.forall_mem_cons.mpr ⟨kN_767_32, List.forall_mem_cons.mpr ⟨kN_767_33, List.forall_mem_cons.mpr ⟨kN_767_34, List.forall_mem_cons.mpr ⟨kN_767_35, List.forall_mem_cons.mpr ⟨kN_767_36, List.forall_mem_cons.mpr ⟨kN_767_37, List.forall_mem_cons.mpr ⟨kN_767_38, List.forall_mem_cons.mpr ⟨kN_767_39, List.forall_mem_cons.mpr ⟨kN_767_40, List.forall_mem_cons.mpr ⟨kN_767_41, List.forall_mem_cons.mpr ⟨kN_767_42, List.forall_mem_cons.mpr ⟨kN_767_43, List.forall_mem_cons.mpr ⟨kN_767_44, List.forall_mem_cons.mpr ⟨kN_767_45, List.forall_mem_cons.mpr ⟨kN_767_46, List.forall_mem_cons.mpr ⟨kN_767_47, List.forall_mem_cons.mpr ⟨kN_767_48, List.forall_mem_cons.mpr ⟨kN_767_49, List.forall_mem_cons.mpr ⟨kN_767_50, List.forall_mem_cons.mpr ⟨kN_767_51, List.forall_mem_cons.mpr ⟨kN_767_52, List.forall_mem_cons.mpr ⟨kN_767_53, List.forall_mem_cons.mpr ⟨kN_767_54, List.forall_mem_cons.mpr ⟨kN_767_55, List.forall_mem_cons.mpr ⟨kN_767_56, List.forall_mem_cons.mpr ⟨kN_767_57, List.forall_mem_cons.mpr ⟨kN_767_58, List.forall_mem_cons.mpr ⟨kN_767_59, List.forall_mem_cons.mpr ⟨kN_767_60, fun _ h => nomatch h⟩⟩⟩⟩⟩⟩⟩⟩⟩⟩⟩⟩⟩⟩⟩⟩⟩⟩⟩⟩⟩⟩⟩⟩⟩⟩⟩⟩⟩⟩⟩⟩⟩⟩⟩⟩⟩⟩⟩⟩⟩⟩⟩⟩⟩⟩⟩⟩⟩⟩⟩⟩⟩⟩⟩⟩⟩⟩⟩⟩⟩) (fun _ h => nomatch h) odX12_find
def oX12_newName : aCd := [(0, .aload_n 0, 1), (1, .getfield 100, 3), (4, .ifCond .eq 4, 3), (7, .return_, 1), (8, .aload_n 0, 1), (9, .invokevirtual 143, 3), (12, .aload_n 0, 1), (13, .getfield 100, 3), (16, .ifCond .ne 19, 3), (19, .aload_n 0, 1), (20, .invokevirtual 146, 3), (23, .ifCond .lt 12, 3), (26, .aload_n 0, 1), (27, .iconst 3, 1), (28, .aload_n 0, 1), (29, .getfield 81, 3), (32, .invokevirtual 127, 3), (35, .aload_n 0, 1), (36, .getfield 100, 3), (39, .ifCond .eq 4, 3), (42, .return_, 1), (43, .iconst 0, 1), (44, .istore_n 2, 1), (45, .iload_n 2, 1), (46, .aload_n 0, 1), (47, .getfield 84, 3), (50, .if_icmp .ge 30, 3), (53, .aload_n 0, 1), (54, .getfield 23, 3), (57, .sipush 203, 3), (60, .bipush 8, 2), (62, .iload_n 1, 1), (63, .imul, 1), (64, .iadd, 1), (65, .iload_n 2, 1), (66, .iadd, 1), (67, .aload_n 0, 1), (68, .getfield 17, 3), (71, .iload_n 2, 1), (72, .iaload, 1), (73, .iastore, 1), (74, .iinc 2 1, 3), (77, .goto (-32), 3), (80, .aload_n 0, 1), (81, .getfield 23, 3), (84, .sipush 183, 3), (87, .iload_n 1, 1), (88, .iadd, 1), (89, .aload_n 0, 1), (90, .getfield 84, 3), (93, .iastore, 1), (94, .aload_n 0, 1), (95, .invokevirtual 121, 3), (98, .return_, 1)]
set_option maxRecDepth 100000 in
theorem odX12_newName : ∀ q ∈ oX12_newName, decode cX12_newName q.1 = .ok (q.2.1, q.2.2) := List.forall_mem_cons.mpr ⟨dX12_newName_0, List.forall_mem_cons.mpr ⟨dX12_newName_1, List.forall_mem_cons.mpr ⟨dX12_newName_4, List.forall_mem_cons.mpr ⟨dX12_newName_7, List.forall_mem_cons.mpr ⟨dX12_newName_8, List.forall_mem_cons.mpr ⟨dX12_newName_9, List.forall_mem_cons.mpr ⟨dX12_newName_12, List.forall_mem_cons.mpr ⟨dX12_newName_13, List.forall_mem_cons.mpr ⟨dX12_newName_16, List.forall_mem_cons.mpr ⟨dX12_newName_19, List.forall_mem_cons.mpr ⟨dX12_newName_20, List.forall_mem_cons.mpr ⟨dX12_newName_23, List.forall_mem_cons.mpr ⟨dX12_newName_26, List.forall_mem_cons.mpr ⟨dX12_newName_27, List.forall_mem_cons.mpr ⟨dX12_newName_28, List.forall_mem_cons.mpr ⟨dX12_newName_29, List.forall_mem_cons.mpr ⟨dX12_newName_32, List.forall_mem_cons.mpr ⟨dX12_newName_35, List.forall_mem_cons.mpr ⟨dX12_newName_36, List.forall_mem_cons.mpr ⟨dX12_newName_39, List.forall_mem_cons.mpr ⟨dX12_newName_42, List.forall_mem_cons.mpr ⟨dX12_newName_43, List.forall_mem_cons.mpr ⟨dX12_newName_44, List.forall_mem_cons.mpr ⟨dX12_newName_45, List.forall_mem_cons.mpr ⟨dX12_newName_46, List.forall_mem_cons.mpr ⟨dX12_newName_47, List.forall_mem_cons.mpr ⟨dX12_newName_50, List.forall_mem_cons.mpr ⟨dX12_newName_53, List.forall_mem_cons.mpr ⟨dX12_newName_54, List.forall_mem_cons.mpr ⟨dX12_newName_57, List.forall_mem_cons.mpr ⟨dX12_newName_60, List.forall_mem_cons.mpr ⟨dX12_newName_62, List.forall_mem_cons.mpr ⟨dX12_newName_63, List.forall_mem_cons.mpr ⟨dX12_newName_64, List.forall_mem_cons.mpr ⟨dX12_newName_65, List.forall_mem_cons.mpr ⟨dX12_newName_66, List.forall_mem_cons.mpr ⟨dX12_newName_67, List.forall_mem_cons.mpr ⟨dX12_newName_68, List.forall_mem_cons.mpr ⟨dX12_newName_71, List.forall_mem_cons.mpr ⟨dX12_newName_72, List.forall_mem_cons.mpr ⟨dX12_newName_73, List.forall_mem_cons.mpr ⟨dX12_newName_74, List.forall_mem_cons.mpr ⟨dX12_newName_77, List.forall_mem_cons.mpr ⟨dX12_newName_80, List.forall_mem_cons.mpr ⟨dX12_newName_81, List.forall_mem_cons.mpr ⟨dX12_newName_84, List.forall_mem_cons.mpr ⟨dX12_newName_87, List.forall_mem_cons.mpr ⟨dX12_newName_88, List.forall_mem_cons.mpr ⟨dX12_newName_89, List.forall_mem_cons.mpr ⟨dX12_newName_90, List.forall_mem_cons.mpr ⟨dX12_newName_93, List.forall_mem_cons.mpr ⟨dX12_newName_94, List.forall_mem_cons.mpr ⟨dX12_newName_95, List.forall_mem_cons.mpr ⟨dX12_newName_98, fun _ h => nomatch h⟩⟩⟩⟩⟩⟩⟩⟩⟩⟩⟩⟩⟩⟩⟩⟩⟩⟩⟩⟩⟩⟩⟩⟩⟩⟩⟩⟩⟩⟩⟩⟩⟩⟩⟩⟩⟩⟩⟩⟩⟩⟩⟩⟩⟩⟩⟩⟩⟩⟩⟩⟩⟩⟩
def ct_768 : aCt := (mX12_newName, [.inr (.inl [196]), .inl [(0, 0, 1)]], ([((196, 6), [(2, 2, 1)]), ((196, 8), [(0, 8, 1)]), ((196, 13), [(0, 0, 1)])], []), [(none, [], [((196, 6), [(2, 2, 1)]), ((196, 8), [(0, 8, 1)]), ((196, 13), [(1, 1, 1)])], []), (none, [], [((196, 6), [(0, 1, 1), (3, 3, 1), (59, 59, 1)]), ((196, 8), [(0, 0, 1), (9, 1000, 1)]), ((196, 13), [(0, 0, 1)])], []), (none, [], [((196, 6), [(2, 2, 1)]), ((196, 8), [(0, 8, 1)]), ((196, 13), [(0, 0, 1)])], [])], [(196, 4, 11), (196, 13, 14), (198, 0, 8), (200, 183, 184), (200, 203, 211), (1000002, 0, 0)], [], 2)
set_option maxRecDepth 100000 in
theorem S_768 : aSpec wd ct_768 := aChk_ok (lk := [(143, 0, 1, ct_766), (146, 0, 1, ct_767), (121, 0, 1, ct_X12_next_0), (127, 0, 3, ct_763)]) (cd := oX12_newName) (nds := [(45, [(0, .inr (.inl [196])), (1, .inl [(0, 0, 1)]), (2, .inl [(0, 8, 1)])], [], [((196, 6), [(2, 2, 1)]), ((196, 8), [(0, 8, 1)]), ((196, 13), [(0, 0, 1)])], [], (8, [(0, -1)]))]) (fk := []) (rk := (9, [])) (fuel := 3000) (by decide +kernel) (List.forall_mem_cons.mpr ⟨⟨ml_12_143, S_766⟩, List.forall_mem_cons.mpr ⟨⟨ml_12_146, S_767⟩, List.forall_mem_cons.mpr ⟨⟨ml_12_121, S_X12_next_0⟩, List.forall_mem_cons.mpr ⟨⟨ml_12_127, S_763⟩, fun _ h => nomatch h⟩⟩⟩⟩) odX12_newName
def ct_769 : aCt := (mX12_in, [.inl [(0, 8, 1)], .inl [(2, 2, 1)], .inl [(6, 6, 1)]], ([], []), [(some (.inl [(0, 0, 1)]), [some [(0, 1, 1), (7, 8, 1)], none, none], [], []), (some (.inl [(1, 1, 1)]), [some [(2, 6, 1)], none, none], [], [])], [(1000002, 0, 0)], [], 0)
set_option maxRecDepth 100000 in
theorem S_769 : aSpec wd ct_769 := aChk_ok (lk := []) (cd := oX12_in) (nds := []) (fk := []) (rk := (1, [])) (fuel := 3000) (by decide +kernel) (fun _ h => nomatch h) odX12_in
def ct_770 : aCt := (mX12_wrong, [.inr (.inl [196]), .inl [(7, 7, 1)], .inl [(0, 1001, 1)]], ([((196, 13), [(0, 0, 1)])], []), [(none, [], [((196, 13), [(1, 1, 1)])], [])], [(196, 9, 11), (196, 13, 14), (1000002, 0, 0)], [], 0)
set_option maxRecDepth 100000 in
theorem S_770 : aSpec wd ct_770 := aChk_ok (lk := []) (cd := oX12_wrong) (nds := []) (fk := []) (rk := (1, [])) (fuel := 3000) (by decide +kernel) (fun _ h => nomatch h) odX12_wrong
def ct_771 : aCt := (mX12_islandLine, [.inr (.inl [196])], ([((196, 6), [(2, 2, 1)]), ((196, 8), [(0, 8, 1)]), ((196, 13), [(0, 0, 1)]), ((200, 0), [(2, 4, 1)]), ((200, 4), [(0, 0, 1)])], []), [(none, [], [((196, 6), [(0, 3, 1), (59, 59, 1)]), ((196, 8), [(0, 1000, 1)]), ((196, 13), [(1, 1, 1)]), ((200, 4), [(0, 0, 1)])], []), (none, [], [((196, 6), [(0, 1, 1), (3, 3, 1), (59, 59, 1)]), ((196, 8), [(0, 0, 1), (9, 1000, 1)]), ((196, 13), [(0, 0, 1)]), ((200, 4), [(1, 1, 1)])], []), (none, [], [((196, 6), [(2, 2, 1)]), ((196, 8), [(0, 8, 1)]), ((196, 13), [(0, 0, 1)]), ((200, 4), [(1, 1, 1)])], [])], [(196, 4, 11), (196, 13, 14), (198, 0, 8), (200, 4, 5), (200, 10, 17), (200, 183, 184), (200, 203, 211), (1000002, 0, 0)], [], 3)
set_option maxRecDepth 100000 in
theorem S_771 : aSpec wd ct_771 := aChk_ok (lk := [(121, 0, 1, ct_X12_next_0), (223, 0, 2, ct_768), (149, 1, 3, ct_769), (127, 0, 3, ct_664), (127, 0, 3, ct_770)]) (cd := oX12_islandLine) (nds := [(65, [(0, .inr (.inl [196])), (1, .inl [(0, 0, 1)]), (2, .inl [(1, 1, 1)]), (3, .inl [(0, 6, 1)])], [], [((196, 6), [(2, 2, 1)]), ((196, 8), [(2, 6, 1)]), ((196, 13), [(0, 0, 1)]), ((200, 0), [(2, 4, 1)]), ((200, 4), [(0, 0, 1)])], [], (16, [(0, -1)])), (65, [(0, .inr (.inl [196])), (1, .inl [(0, 0, 1)]), (2, .inl [(0, 0, 1)]), (3, .inl [(0, 8, 1)])], [], [((196, 6), [(2, 2, 1)]), ((196, 8), [(0, 8, 1)]), ((196, 13), [(0, 0, 1)]), ((200, 0), [(2, 4, 1)]), ((200, 4), [(0, 0, 1)])], [], (9, [(0, -1)])), (112, [(0, .inr (.inl [196])), (1, .inl [(0, 0, 1)]), (2, .inl [(0, 0, 1)]), (3, .inl [(0, 0, 1)]), (4, .inl [(0, 0, 1)])], [], [((196, 6), [(2, 2, 1)]), ((196, 8), [(0, 8, 1)]), ((196, 13), [(0, 0, 1)]), ((200, 0), [(2, 4, 1)]), ((200, 4), [(0, 0, 1)])], [], (0, [])), (112, [(0, .inr (.inl [196])), (1, .inl [(0, 0, 1)]), (2, .inl [(1, 1, 1)]), (3, .inl [(0, 0, 1)]), (4, .inl [(0, 0, 1)])], [], [((196, 6), [(2, 2, 1)]), ((196, 8), [(2, 6, 1)]), ((196, 13), [(0, 0, 1)]), ((200, 0), [(2, 4, 1)]), ((200, 4), [(0, 0, 1)])], [], (7, [])), (204, [(0, .inr (.inl [196])), (1, .inl [(0, 0, 1)]), (2, .inl [(1, 1, 1)]), (3, .inl [(0, 0, 1)]), (4, .inl [(10, 10, 1)]), (5, .inl [(0, 6, 1)])], [], [((196, 6), [(2, 2, 1)]), ((196, 8), [(2, 6, 1)]), ((196, 13), [(0, 0, 1)]), ((200, 0), [(2, 4, 1)]), ((200, 4), [(0, 0, 1)]), ((200, 10), [(2, 6, 1)])], [], (6, [(0, -1)]))]) (fk := [14]) (rk := (17, [])) (fuel := 3000) (by decide +kernel) (List.forall_mem_cons.mpr ⟨⟨ml_12_121, S_X12_next_0⟩, List.forall_mem_cons.mpr ⟨⟨ml_12_223, S_768⟩, List.forall_mem_cons.mpr ⟨⟨ml_12_149, S_769⟩, List.forall_mem_cons.mpr ⟨⟨ml_12_127, S_664⟩, List.forall_mem_cons.mpr ⟨⟨ml_12_127, S_770⟩, fun _ h => nomatch h⟩⟩⟩⟩⟩) odX12_islandLine
def ct_772 : aCt := (mX12_mustName, [.inr (.inl [196])], ([((196, 6), [(0, 1, 1), (3, 3, 1), (59, 59, 1)]), ((196, 8), [(0, 0, 1), (9, 1000, 1)]), ((196, 13), [(0, 0, 1)])], []), [(none, [], [((196, 13), [(1, 1, 1)])], [])], [(196, 9, 11), (196, 13, 14), (1000002, 0, 0)], [], 1)
set_option maxRecDepth 100000 in
theorem S_772 : aSpec wd ct_772 := aChk_ok (lk := [(127, 0, 3, ct_664)]) (cd := oX12_mustName) (nds := []) (fk := []) (rk := (1, [])) (fuel := 3000) (by decide +kernel) (List.forall_mem_cons.mpr ⟨⟨ml_12_127, S_664⟩, fun _ h => nomatch h⟩) odX12_mustName
def ct_773 : aCt := (mX12_newName, [.inr (.inl [196]), .inl [(0, 0, 1)]], ([((196, 6), [(0, 1, 1), (3, 3, 1), (59, 59, 1)]), ((196, 8), [(0, 0, 1), (9, 1000, 1)]), ((196, 13), [(0, 0, 1)])], []), [(none, [], [((196, 13), [(1, 1, 1)])], [])], [(196, 9, 11), (196, 13, 14), (1000002, 0, 0)], [], 2)
set_option maxRecDepth 100000 in
theorem S_773 : aSpec wd ct_773 := aChk_ok (lk := [(143, 0, 1, ct_772)]) (cd := oX12_newName) (nds := []) (fk := []) (rk := (1, [])) (fuel := 3000) (by decide +kernel) (List.forall_mem_cons.mpr ⟨⟨ml_12_143, S_772⟩, fun _ h => nomatch h⟩) odX12_newName
def ct_774 : aCt := (mX12_islandLine, [.inr (.inl [196])], ([((196, 6), [(0, 1, 1), (3, 3, 1), (59, 59, 1)]), ((196, 8), [(0, 0, 1), (9, 1000, 1)]), ((196, 13), [(0, 0, 1)]), ((200, 0), [(2, 4, 1)]), ((200, 4), [(0, 0, 1)])], []), [(none, [], [((196, 13), [(1, 1, 1)])], [])], [(196, 9, 11), (196, 13, 14), (1000002, 0, 0)], [], 3)
set_option maxRecDepth 100000 in
theorem S_774 : aSpec wd ct_774 := aChk_ok (lk := [(223, 0, 2, ct_773)]) (cd := oX12_islandLine) (nds := []) (fk := [14]) (rk := (1, [])) (fuel := 3000) (by decide +kernel) (List.forall_mem_cons.mpr ⟨⟨ml_12_223, S_773⟩, fun _ h => nomatch h⟩) odX12_islandLine
def ct_775 : aCt := (mX12_in, [.inl [(-1, 19, 1)], .inl [(0, 0, 1)], .inl [(6, 6, 1)]], ([], []), [(some (.inl [(0, 0, 1)]), [some [(-1, -1, 1), (7, 19, 1)], none, none], [], []), (some (.inl [(1, 1, 1)]), [some [(0, 6, 1)], none, none], [], [])], [(1000002, 0, 0)], [], 0)
set_option maxRecDepth 100000 in
theorem S_775 : aSpec wd ct_775 := aChk_ok (lk := []) (cd := oX12_in) (nds := []) (fk := []) (rk := (1, [])) (fuel := 3000) (by decide +kernel) (fun _ h => nomatch h) odX12_in
def ct_776 : aCt := (mX12_wrong, [.inr (.inl [196]), .inl [(2, 2, 1)], .inl [(0, 1001, 1)]], ([((196, 13), [(0, 0, 1)])], []), [(none, [], [((196, 13), [(1, 1, 1)])], [])], [(196, 9, 11), (196, 13, 14), (1000002, 0, 0)], [], 0)
set_option maxRecDepth 100000 in
theorem S_776 : aSpec wd ct_776 := aChk_ok (lk := []) (cd := oX12_wrong) (nds := []) (fk := []) (rk := (1, [])) (fuel := 3000) (by decide +kernel) (fun _ h => nomatch h) odX12_wrong
def oX12_named : aCd := [(0, .aload_n 0, 1), (1, .getfield 100, 3), (4, .ifCond .eq 5, 3), (7, .iconst 0, 1), (8, .ireturn, 1), (9, .aload_n 0, 1), (10, .invokevirtual 143, 3), (13, .aload_n 0, 1), (14, .getfield 100, 3), (17, .ifCond .eq 5, 3), (20, .iconst 0, 1), (21, .ireturn, 1), (22, .aload_n 0, 1), (23, .invokevirtual 146, 3), (26, .istore_n 3, 1), (27, .iload_n 3, 1), (28, .iload_n 1, 1), (29, .iload_n 2, 1), (30, .invokestatic 149, 3), (33, .ifCond .ne 12, 3), (36, .aload_n 0, 1), (37, .iconst 2, 1), (38, .aload_n 0, 1), (39, .getfield 81, 3), (42, .invokevirtual 127, 3), (45, .aload_n 0, 1), (46, .getfield 100, 3), (49, .ifCond .eq 7, 3), (52, .iconst 0, 1), (53, .goto 6, 3), (56, .iload_n 3, 1), (57, .iload_n 1, 1), (58, .isub, 1), (59, .ireturn, 1)]
set_option maxRecDepth 100000 in
theorem odX12_named : ∀ q ∈ oX12_named, decode cX12_named q.1 = .ok (q.2.1, q.2.2) := List.forall_mem_cons.mpr ⟨dX12_named_0, List.forall_mem_cons.mpr ⟨dX12_named_1, List.forall_mem_cons.mpr ⟨dX12_named_4, List.forall_mem_cons.mpr ⟨dX12_named_7, List.forall_mem_cons.mpr ⟨dX12_named_8, List.forall_mem_cons.mpr ⟨dX12_named_9, List.forall_mem_cons.mpr ⟨dX12_named_10, List.forall_mem_cons.mpr ⟨dX12_named_13, List.forall_mem_cons.mpr ⟨dX12_named_14, List.forall_mem_cons.mpr ⟨dX12_named_17, List.forall_mem_cons.mpr ⟨dX12_named_20, List.forall_mem_cons.mpr ⟨dX12_named_21, List.forall_mem_cons.mpr ⟨dX12_named_22, List.forall_mem_cons.mpr ⟨dX12_named_23, List.forall_mem_cons.mpr ⟨dX12_named_26, List.forall_mem_cons.mpr ⟨dX12_named_27, List.forall_mem_cons.mpr ⟨dX12_named_28, List.forall_mem_cons.mpr ⟨dX12_named_29, List.forall_mem_cons.mpr ⟨dX12_named_30, List.forall_mem_cons.mpr ⟨dX12_named_33, List.forall_mem_cons.mpr ⟨dX12_named_36, List.forall_mem_cons.mpr ⟨dX12_named_37, List.forall_mem_cons.mpr ⟨dX12_named_38, List.forall_mem_cons.mpr ⟨dX12_named_39, List.forall_mem_cons.mpr ⟨dX12_named_42, List.forall_mem_cons.mpr ⟨dX12_named_45, List.forall_mem_cons.mpr ⟨dX12_named_46, List.forall_mem_cons.mpr ⟨dX12_named_49, List.forall_mem_cons.mpr ⟨dX12_named_52, List.forall_mem_cons.mpr ⟨dX12_named_53, List.forall_mem_cons.mpr ⟨dX12_named_56, List.forall_mem_cons.mpr ⟨dX12_named_57, List.forall_mem_cons.mpr ⟨dX12_named_58, List.forall_mem_cons.mpr ⟨dX12_named_59, fun _ h => nomatch h⟩⟩⟩⟩⟩⟩⟩⟩⟩⟩⟩⟩⟩⟩⟩⟩⟩⟩⟩⟩⟩⟩⟩⟩⟩⟩⟩⟩⟩⟩⟩⟩⟩⟩
def ct_777 : aCt := (mX12_named, [.inr (.inl [196]), .inl [(0, 0, 1)], .inl [(6, 6, 1)]], ([((196, 6), [(2, 2, 1)]), ((196, 8), [(0, 8, 1)]), ((196, 13), [(0, 0, 1)])], []), [(some (.inl [(0, 0, 1)]), [], [((196, 13), [(1, 1, 1)])], []), (some (.inl [(0, 6, 1)]), [], [((196, 13), [(0, 0, 1)])], [])], [(196, 9, 11), (196, 13, 14), (1000002, 0, 0)], [], 2)
set_option maxRecDepth 100000 in
theorem S_777 : aSpec wd ct_777 := aChk_ok (lk := [(143, 0, 1, ct_766), (146, 0, 1, ct_767), (149, 1, 3, ct_775), (127, 0, 3, ct_776)]) (cd := oX12_named) (nds := []) (fk := []) (rk := (1, [])) (fuel := 3000) (by decide +kernel) (List.forall_mem_cons.mpr ⟨⟨ml_12_143, S_766⟩, List.forall_mem_cons.mpr ⟨⟨ml_12_146, S_767⟩, List.forall_mem_cons.mpr ⟨⟨ml_12_149, S_775⟩, List.forall_mem_cons.mpr ⟨⟨ml_12_127, S_776⟩, fun _ h => nomatch h⟩⟩⟩⟩) odX12_named
def oX12_islandPassed : aCd := [(0, .aload_n 0, 1), (1, .iconst 0, 1), (2, .bipush 6, 2), (4, .invokevirtual 153, 3), (7, .istore_n 1, 1), (8, .aload_n 0, 1), (9, .getfield 100, 3), (12, .ifCond .ne 7, 3), (15, .aload_n 0, 1), (16, .invokevirtual 121, 3), (19, .iload_n 1, 1), (20, .ireturn, 1)]
set_option maxRecDepth 100000 in
theorem odX12_islandPassed : ∀ q ∈ oX12_islandPassed, decode cX12_islandPassed q.1 = .ok (q.2.1, q.2.2) := List.forall_mem_cons.mpr ⟨dX12_islandPassed_0, List.forall_mem_cons.mpr ⟨dX12_islandPassed_1, List.forall_mem_cons.mpr ⟨dX12_islandPassed_2, List.forall_mem_cons.mpr ⟨dX12_islandPassed_4, List.forall_mem_cons.mpr ⟨dX12_islandPassed_7, List.forall_mem_cons.mpr ⟨dX12_islandPassed_8, List.forall_mem_cons.mpr ⟨dX12_islandPassed_9, List.forall_mem_cons.mpr ⟨dX12_islandPassed_12, List.forall_mem_cons.mpr ⟨dX12_islandPassed_15, List.forall_mem_cons.mpr ⟨dX12_islandPassed_16, List.forall_mem_cons.mpr ⟨dX12_islandPassed_19, List.forall_mem_cons.mpr ⟨dX12_islandPassed_20, fun _ h => nomatch h⟩⟩⟩⟩⟩⟩⟩⟩⟩⟩⟩⟩
def ct_778 : aCt := (mX12_islandPassed, [.inr (.inl [196])], ([((196, 6), [(2, 2, 1)]), ((196, 8), [(0, 8, 1)]), ((196, 13), [(0, 0, 1)])], []), [(some (.inl [(0, 0, 1)]), [], [((196, 6), [(2, 2, 1)]), ((196, 8), [(0, 8, 1)]), ((196, 13), [(1, 1, 1)])], []), (some (.inl [(0, 6, 1)]), [], [((196, 6), [(0, 1, 1), (3, 3, 1), (59, 59, 1)]), ((196, 8), [(0, 0, 1), (9, 1000, 1)]), ((196, 13), [(0, 0, 1)])], []), (some (.inl [(0, 6, 1)]), [], [((196, 6), [(2, 2, 1)]), ((196, 8), [(0, 8, 1)]), ((196, 13), [(0, 0, 1)])], [])], [(196, 4, 11), (196, 13, 14), (198, 0, 8), (1000002, 0, 0)], [], 3)
set_option maxRecDepth 100000 in
theorem S_778 : aSpec wd ct_778 := aChk_ok (lk := [(121, 0, 1, ct_X12_next_0), (153, 0, 3, ct_777)]) (cd := oX12_islandPassed) (nds := []) (fk := []) (rk := (1, [])) (fuel := 3000) (by decide +kernel) (List.forall_mem_cons.mpr ⟨⟨ml_12_121, S_X12_next_0⟩, List.forall_mem_cons.mpr ⟨⟨ml_12_153, S_777⟩, fun _ h => nomatch h⟩⟩) odX12_islandPassed
def ct_779 : aCt := (mX12_named, [.inr (.inl [196]), .inl [(0, 0, 1)], .inl [(6, 6, 1)]], ([((196, 6), [(0, 1, 1), (3, 3, 1), (59, 59, 1)]), ((196, 8), [(0, 0, 1), (9, 1000, 1)]), ((196, 13), [(0, 0, 1)])], []), [(some (.inl [(0, 0, 1)]), [], [((196, 13), [(1, 1, 1)])], [])], [(196, 9, 11), (196, 13, 14), (1000002, 0, 0)], [], 2)
set_option maxRecDepth 100000 in
theorem S_779 : aSpec wd ct_779 := aChk_ok (lk := [(143, 0, 1, ct_772)]) (cd := oX12_named) (nds := []) (fk := []) (rk := (1, [])) (fuel := 3000) (by decide +kernel) (List.forall_mem_cons.mpr ⟨⟨ml_12_143, S_772⟩, fun _ h => nomatch h⟩) odX12_named
def ct_780 : aCt := (mX12_named, [.inr (.inl [196]), .inl [(0, 0, 1)], .inl [(6, 6, 1)]], ([((196, 6), [(2, 2, 1)]), ((196, 8), [(0, 8, 1)]), ((196, 13), [(1, 1, 1)])], []), [(some (.inl [(0, 0, 1)]), [], [], [])], [(1000002, 0, 0)], [], 0)
set_option maxRecDepth 100000 in
theorem S_780 : aSpec wd ct_780 := aChk_ok (lk := []) (cd := oX12_named) (nds := []) (fk := []) (rk := (1, [])) (fuel := 3000) (by decide +kernel) (fun _ h => nomatch h) odX12_named
def oX12_joins : aCd := [(0, .aload_n 0, 1), (1, .bipush 59, 2), (3, .iconst 4, 1), (4, .iload_n 1, 1), (5, .imul, 1), (6, .iadd, 1), (7, .iaload, 1), (8, .istore 4, 2), (10, .aload_n 0, 1), (11, .bipush 59, 2), (13, .iconst 4, 1), (14, .iload_n 1, 1), (15, .imul, 1), (16, .iadd, 1), (17, .iconst 1, 1), (18, .iadd, 1), (19, .iaload, 1), (20, .istore 5, 2), (22, .iload 4, 2), (24, .iload_n 2, 1), (25, .if_icmp .ne 9, 3), (28, .iload 5, 2), (30, .iload_n 3, 1), (31, .if_icmp .eq 15, 3), (34, .iload 4, 2), (36, .iload_n 3, 1), (37, .if_icmp .ne 13, 3), (40, .iload 5, 2), (42, .iload_n 2, 1), (43, .if_icmp .ne 7, 3), (46, .iconst 1, 1), (47, .goto 4, 3), (50, .iconst 0, 1), (51, .ireturn, 1)]
set_option maxRecDepth 100000 in
theorem odX12_joins : ∀ q ∈ oX12_joins, decode cX12_joins q.1 = .ok (q.2.1, q.2.2) := List.forall_mem_cons.mpr ⟨dX12_joins_0, List.forall_mem_cons.mpr ⟨dX12_joins_1, List.forall_mem_cons.mpr ⟨dX12_joins_3, List.forall_mem_cons.mpr ⟨dX12_joins_4, List.forall_mem_cons.mpr ⟨dX12_joins_5, List.forall_mem_cons.mpr ⟨dX12_joins_6, List.forall_mem_cons.mpr ⟨dX12_joins_7, List.forall_mem_cons.mpr ⟨dX12_joins_8, List.forall_mem_cons.mpr ⟨dX12_joins_10, List.forall_mem_cons.mpr ⟨dX12_joins_11, List.forall_mem_cons.mpr ⟨dX12_joins_13, List.forall_mem_cons.mpr ⟨dX12_joins_14, List.forall_mem_cons.mpr ⟨dX12_joins_15, List.forall_mem_cons.mpr ⟨dX12_joins_16, List.forall_mem_cons.mpr ⟨dX12_joins_17, List.forall_mem_cons.mpr ⟨dX12_joins_18, List.forall_mem_cons.mpr ⟨dX12_joins_19, List.forall_mem_cons.mpr ⟨dX12_joins_20, List.forall_mem_cons.mpr ⟨dX12_joins_22, List.forall_mem_cons.mpr ⟨dX12_joins_24, List.forall_mem_cons.mpr ⟨dX12_joins_25, List.forall_mem_cons.mpr ⟨dX12_joins_28, List.forall_mem_cons.mpr ⟨dX12_joins_30, List.forall_mem_cons.mpr ⟨dX12_joins_31, List.forall_mem_cons.mpr ⟨dX12_joins_34, List.forall_mem_cons.mpr ⟨dX12_joins_36, List.forall_mem_cons.mpr ⟨dX12_joins_37, List.forall_mem_cons.mpr ⟨dX12_joins_40, List.forall_mem_cons.mpr ⟨dX12_joins_42, List.forall_mem_cons.mpr ⟨dX12_joins_43, List.forall_mem_cons.mpr ⟨dX12_joins_46, List.forall_mem_cons.mpr ⟨dX12_joins_47, List.forall_mem_cons.mpr ⟨dX12_joins_50, List.forall_mem_cons.mpr ⟨dX12_joins_51, fun _ h => nomatch h⟩⟩⟩⟩⟩⟩⟩⟩⟩⟩⟩⟩⟩⟩⟩⟩⟩⟩⟩⟩⟩⟩⟩⟩⟩⟩⟩⟩⟩⟩⟩⟩⟩⟩
def ct_781 : aCt := (mX12_joins, [.inr (.inl [200]), .inl [(0, 10, 1)], .inl [(0, 6, 1)], .inl [(0, 6, 1)]], ([], []), [(some (.inl [(0, 0, 1)]), [], [], []), (some (.inl [(1, 1, 1)]), [], [], [])], [(1000002, 0, 0)], [], 0)
set_option maxRecDepth 100000 in
theorem S_781 : aSpec wd ct_781 := aChk_ok (lk := []) (cd := oX12_joins) (nds := []) (fk := []) (rk := (1, [])) (fuel := 3000) (by decide +kernel) (fun _ h => nomatch h) odX12_joins
def ct_782 : aCt := (mX12_joins, [.inr (.inl [200]), .inl [(0, 9, 1)], .inl [(0, 6, 1)], .inl [(0, 6, 1)]], ([], []), [(some (.inl [(0, 0, 1)]), [], [], []), (some (.inl [(1, 1, 1)]), [], [], [])], [(1000002, 0, 0)], [], 0)
set_option maxRecDepth 100000 in
theorem S_782 : aSpec wd ct_782 := aChk_ok (lk := []) (cd := oX12_joins) (nds := []) (fk := []) (rk := (1, [])) (fuel := 3000) (by decide +kernel) (fun _ h => nomatch h) odX12_joins
def ct_783 : aCt := (mX12_joins, [.inr (.inl [200]), .inl [(0, 8, 1)], .inl [(0, 6, 1)], .inl [(0, 6, 1)]], ([], []), [(some (.inl [(0, 0, 1)]), [], [], []), (some (.inl [(1, 1, 1)]), [], [], [])], [(1000002, 0, 0)], [], 0)
set_option maxRecDepth 100000 in
theorem S_783 : aSpec wd ct_783 := aChk_ok (lk := []) (cd := oX12_joins) (nds := []) (fk := []) (rk := (1, [])) (fuel := 3000) (by decide +kernel) (fun _ h => nomatch h) odX12_joins
def ct_784 : aCt := (mX12_joins, [.inr (.inl [200]), .inl [(0, 7, 1)], .inl [(0, 6, 1)], .inl [(0, 6, 1)]], ([], []), [(some (.inl [(0, 0, 1)]), [], [], []), (some (.inl [(1, 1, 1)]), [], [], [])], [(1000002, 0, 0)], [], 0)
set_option maxRecDepth 100000 in
theorem S_784 : aSpec wd ct_784 := aChk_ok (lk := []) (cd := oX12_joins) (nds := []) (fk := []) (rk := (1, [])) (fuel := 3000) (by decide +kernel) (fun _ h => nomatch h) odX12_joins
def ct_785 : aCt := (mX12_joins, [.inr (.inl [200]), .inl [(0, 6, 1)], .inl [(0, 6, 1)], .inl [(0, 6, 1)]], ([], []), [(some (.inl [(0, 0, 1)]), [], [], []), (some (.inl [(1, 1, 1)]), [], [], [])], [(1000002, 0, 0)], [], 0)
set_option maxRecDepth 100000 in
theorem S_785 : aSpec wd ct_785 := aChk_ok (lk := []) (cd := oX12_joins) (nds := []) (fk := []) (rk := (1, [])) (fuel := 3000) (by decide +kernel) (fun _ h => nomatch h) odX12_joins
def ct_786 : aCt := (mX12_joins, [.inr (.inl [200]), .inl [(0, 5, 1)], .inl [(0, 6, 1)], .inl [(0, 6, 1)]], ([], []), [(some (.inl [(0, 0, 1)]), [], [], []), (some (.inl [(1, 1, 1)]), [], [], [])], [(1000002, 0, 0)], [], 0)
set_option maxRecDepth 100000 in
theorem S_786 : aSpec wd ct_786 := aChk_ok (lk := []) (cd := oX12_joins) (nds := []) (fk := []) (rk := (1, [])) (fuel := 3000) (by decide +kernel) (fun _ h => nomatch h) odX12_joins
def ct_787 : aCt := (mX12_joins, [.inr (.inl [200]), .inl [(0, 4, 1)], .inl [(0, 6, 1)], .inl [(0, 6, 1)]], ([], []), [(some (.inl [(0, 0, 1)]), [], [], []), (some (.inl [(1, 1, 1)]), [], [], [])], [(1000002, 0, 0)], [], 0)
set_option maxRecDepth 100000 in
theorem S_787 : aSpec wd ct_787 := aChk_ok (lk := []) (cd := oX12_joins) (nds := []) (fk := []) (rk := (1, [])) (fuel := 3000) (by decide +kernel) (fun _ h => nomatch h) odX12_joins
def ct_788 : aCt := (mX12_joins, [.inr (.inl [200]), .inl [(0, 3, 1)], .inl [(0, 6, 1)], .inl [(0, 6, 1)]], ([], []), [(some (.inl [(0, 0, 1)]), [], [], []), (some (.inl [(1, 1, 1)]), [], [], [])], [(1000002, 0, 0)], [], 0)
set_option maxRecDepth 100000 in
theorem S_788 : aSpec wd ct_788 := aChk_ok (lk := []) (cd := oX12_joins) (nds := []) (fk := []) (rk := (1, [])) (fuel := 3000) (by decide +kernel) (fun _ h => nomatch h) odX12_joins
def ct_789 : aCt := (mX12_joins, [.inr (.inl [200]), .inl [(0, 2, 1)], .inl [(0, 6, 1)], .inl [(0, 6, 1)]], ([], []), [(some (.inl [(0, 0, 1)]), [], [], []), (some (.inl [(1, 1, 1)]), [], [], [])], [(1000002, 0, 0)], [], 0)
set_option maxRecDepth 100000 in
theorem S_789 : aSpec wd ct_789 := aChk_ok (lk := []) (cd := oX12_joins) (nds := []) (fk := []) (rk := (1, [])) (fuel := 3000) (by decide +kernel) (fun _ h => nomatch h) odX12_joins
def ct_790 : aCt := (mX12_joins, [.inr (.inl [200]), .inl [(0, 1, 1)], .inl [(0, 6, 1)], .inl [(0, 6, 1)]], ([], []), [(some (.inl [(0, 0, 1)]), [], [], []), (some (.inl [(1, 1, 1)]), [], [], [])], [(1000002, 0, 0)], [], 0)
set_option maxRecDepth 100000 in
theorem S_790 : aSpec wd ct_790 := aChk_ok (lk := []) (cd := oX12_joins) (nds := []) (fk := []) (rk := (1, [])) (fuel := 3000) (by decide +kernel) (fun _ h => nomatch h) odX12_joins
def ct_791 : aCt := (mX12_joins, [.inr (.inl [200]), .inl [(0, 0, 1)], .inl [(0, 6, 1)], .inl [(0, 6, 1)]], ([], []), [(some (.inl [(0, 0, 1)]), [], [], []), (some (.inl [(1, 1, 1)]), [], [], [])], [(1000002, 0, 0)], [], 0)
set_option maxRecDepth 100000 in
theorem S_791 : aSpec wd ct_791 := aChk_ok (lk := []) (cd := oX12_joins) (nds := []) (fk := []) (rk := (1, [])) (fuel := 3000) (by decide +kernel) (fun _ h => nomatch h) odX12_joins
def ct_792 : aCt := (mX12_number, [.inr (.inl [196]), .inl [(1, 1, 1)], .inl [(99, 99, 1)]], ([((196, 6), [(2, 2, 1)]), ((196, 8), [(0, 8, 1)]), ((196, 13), [(0, 0, 1)])], []), [(some (.inl [(1, 1, 1)]), [], [((196, 13), [(1, 1, 1)])], [])], [(196, 9, 11), (196, 13, 14), (1000002, 0, 0)], [], 1)
set_option maxRecDepth 100000 in
theorem S_792 : aSpec wd ct_792 := aChk_ok (lk := [(127, 0, 3, ct_664)]) (cd := oX12_number) (nds := []) (fk := []) (rk := (1, [])) (fuel := 3000) (by decide +kernel) (List.forall_mem_cons.mpr ⟨⟨ml_12_127, S_664⟩, fun _ h => nomatch h⟩) odX12_number
def ct_793 : aCt := (mX12_in, [.inl aTop, .inl [(1, 1, 1)], .inl [(99, 99, 1)]], ([], []), [(some (.inl [(0, 0, 1)]), [some [(-2147483648, 0, 1), (100, 2147483647, 1)], none, none], [], []), (some (.inl [(1, 1, 1)]), [some [(1, 99, 1)], none, none], [], [])], [(1000002, 0, 0)], [], 0)
set_option maxRecDepth 100000 in
theorem S_793 : aSpec wd ct_793 := aChk_ok (lk := []) (cd := oX12_in) (nds := []) (fk := []) (rk := (1, [])) (fuel := 3000) (by decide +kernel) (fun _ h => nomatch h) odX12_in
def ct_794 : aCt := (mX12_number, [.inr (.inl [196]), .inl [(1, 1, 1)], .inl [(99, 99, 1)]], ([((196, 6), [(0, 1, 1), (3, 3, 1), (59, 59, 1)]), ((196, 8), [(0, 0, 1), (9, 1000, 1)]), ((196, 13), [(0, 0, 1)])], []), [(some (.inl [(1, 1, 1)]), [], [((196, 6), [(0, 1, 1), (3, 3, 1), (59, 59, 1)]), ((196, 8), [(0, 0, 1), (9, 1000, 1)]), ((196, 13), [(1, 1, 1)])], []), (some (.inl [(1, 99, 1)]), [], [((196, 6), [(0, 1, 1), (3, 3, 1), (59, 59, 1)]), ((196, 8), [(0, 0, 1), (9, 1000, 1)]), ((196, 13), [(0, 0, 1)])], []), (some (.inl [(1, 99, 1)]), [], [((196, 6), [(2, 2, 1)]), ((196, 8), [(0, 8, 1)]), ((196, 13), [(0, 0, 1)])], [])], [(196, 4, 11), (196, 13, 14), (198, 0, 8), (1000002, 0, 0)], [], 2)
set_option maxRecDepth 100000 in
theorem S_794 : aSpec wd ct_794 := aChk_ok (lk := [(121, 0, 1, ct_X12_next_0), (127, 0, 3, ct_664), (127, 0, 3, ct_668), (149, 1, 3, ct_793)]) (cd := oX12_number) (nds := []) (fk := []) (rk := (1, [])) (fuel := 3000) (by decide +kernel) (List.forall_mem_cons.mpr ⟨⟨ml_12_121, S_X12_next_0⟩, List.forall_mem_cons.mpr ⟨⟨ml_12_127, S_664⟩, List.forall_mem_cons.mpr ⟨⟨ml_12_127, S_668⟩, List.forall_mem_cons.mpr ⟨⟨ml_12_149, S_793⟩, fun _ h => nomatch h⟩⟩⟩⟩) odX12_number
def ct_795 : aCt := (mX12_number, [.inr (.inl [196]), .inl [(1, 1, 1)], .inl [(99, 99, 1)]], ([((196, 6), [(2, 2, 1)]), ((196, 8), [(0, 8, 1)]), ((196, 13), [(1, 1, 1)])], []), [(some (.inl [(1, 1, 1)]), [], [], [])], [(1000002, 0, 0)], [], 0)
set_option maxRecDepth 100000 in
theorem S_795 : aSpec wd ct_795 := aChk_ok (lk := []) (cd := oX12_number) (nds := []) (fk := []) (rk := (1, [])) (fuel := 3000) (by decide +kernel) (fun _ h => nomatch h) odX12_number
def ct_796 : aCt := (mX12_after, [.inr (.inl [196]), .inr (.inl [1000034, 1000035, 1000036, 1000037, 1000038, 1000039, 1000040, 1000041, 1000042, 1000043, 1000044, 1000045, 1000046, 1000047, 1000048, 1000049, 1000050, 1000051, 1000052, 1000053, 1000054, 1000055, 1000056]), .inl [(1, 1, 1)], .inl [(99, 99, 1)]], ([((196, 6), [(2, 2, 1)]), ((196, 8), [(0, 8, 1)]), ((196, 13), [(0, 0, 1)])], []), [(some (.inl [(1, 1, 1)]), [], [((196, 6), [(0, 3, 1), (59, 59, 1)]), ((196, 8), [(0, 1000, 1)]), ((196, 13), [(1, 1, 1)])], []), (some (.inl [(1, 99, 1)]), [], [((196, 6), [(0, 1, 1), (3, 3, 1), (59, 59, 1)]), ((196, 8), [(0, 0, 1), (9, 1000, 1)]), ((196, 13), [(0, 0, 1)])], []), (some (.inl [(1, 99, 1)]), [], [((196, 6), [(2, 2, 1)]), ((196, 8), [(0, 8, 1)]), ((196, 13), [(0, 0, 1)])], [])], [(196, 4, 11), (196, 13, 14), (198, 0, 8), (1000002, 0, 0)], [], 4)
set_option maxRecDepth 100000 in
theorem S_796 : aSpec wd ct_796 := aChk_ok (lk := [(164, 0, 3, ct_792), (164, 0, 3, ct_795), (164, 0, 3, ct_794), (157, 0, 2, ct_665)]) (cd := oX12_after) (nds := []) (fk := []) (rk := (1, [])) (fuel := 3000) (by decide +kernel) (List.forall_mem_cons.mpr ⟨⟨ml_12_164, S_792⟩, List.forall_mem_cons.mpr ⟨⟨ml_12_164, S_795⟩, List.forall_mem_cons.mpr ⟨⟨ml_12_164, S_794⟩, List.forall_mem_cons.mpr ⟨⟨ml_12_157, S_665⟩, fun _ h => nomatch h⟩⟩⟩⟩) odX12_after
def ct_797 : aCt := (mX12_number, [.inr (.inl [196]), .inl [(1, 1, 1)], .inl [(99, 99, 1)]], ([((196, 6), [(0, 1, 1), (3, 3, 1), (59, 59, 1)]), ((196, 8), [(0, 0, 1), (9, 1000, 1)]), ((196, 13), [(1, 1, 1)])], []), [(some (.inl [(1, 1, 1)]), [], [], [])], [(1000002, 0, 0)], [], 0)
set_option maxRecDepth 100000 in
theorem S_797 : aSpec wd ct_797 := aChk_ok (lk := []) (cd := oX12_number) (nds := []) (fk := []) (rk := (1, [])) (fuel := 3000) (by decide +kernel) (fun _ h => nomatch h) odX12_number
def ct_798 : aCt := (mX12_after, [.inr (.inl [196]), .inr (.inl [1000034, 1000035, 1000036, 1000037, 1000038, 1000039, 1000040, 1000041, 1000042, 1000043, 1000044, 1000045, 1000046, 1000047, 1000048, 1000049, 1000050, 1000051, 1000052, 1000053, 1000054, 1000055, 1000056]), .inl [(1, 1, 1)], .inl [(99, 99, 1)]], ([((196, 6), [(0, 1, 1), (3, 3, 1), (59, 59, 1)]), ((196, 8), [(0, 0, 1), (9, 1000, 1)]), ((196, 13), [(0, 0, 1)])], []), [(some (.inl [(1, 1, 1)]), [], [((196, 13), [(1, 1, 1)])], [])], [(196, 9, 11), (196, 13, 14), (1000002, 0, 0)], [], 3)
set_option maxRecDepth 100000 in
theorem S_798 : aSpec wd ct_798 := aChk_ok (lk := [(164, 0, 3, ct_797), (157, 0, 2, ct_688)]) (cd := oX12_after) (nds := []) (fk := []) (rk := (1, [])) (fuel := 3000) (by decide +kernel) (List.forall_mem_cons.mpr ⟨⟨ml_12_164, S_797⟩, List.forall_mem_cons.mpr ⟨⟨ml_12_157, S_688⟩, fun _ h => nomatch h⟩⟩) odX12_after
def ct_799 : aCt := (mX12_number, [.inr (.inl [196]), .inl [(1, 1, 1)], .inl [(15, 15, 1)]], ([((196, 6), [(2, 2, 1)]), ((196, 8), [(0, 8, 1)]), ((196, 13), [(0, 0, 1)])], []), [(some (.inl [(1, 1, 1)]), [], [((196, 13), [(1, 1, 1)])], [])], [(196, 9, 11), (196, 13, 14), (1000002, 0, 0)], [], 1)
set_option maxRecDepth 100000 in
theorem S_799 : aSpec wd ct_799 := aChk_ok (lk := [(127, 0, 3, ct_664)]) (cd := oX12_number) (nds := []) (fk := []) (rk := (1, [])) (fuel := 3000) (by decide +kernel) (List.forall_mem_cons.mpr ⟨⟨ml_12_127, S_664⟩, fun _ h => nomatch h⟩) odX12_number
def ct_800 : aCt := (mX12_in, [.inl aTop, .inl [(1, 1, 1)], .inl [(15, 15, 1)]], ([], []), [(some (.inl [(0, 0, 1)]), [some [(-2147483648, 0, 1), (16, 2147483647, 1)], none, none], [], []), (some (.inl [(1, 1, 1)]), [some [(1, 15, 1)], none, none], [], [])], [(1000002, 0, 0)], [], 0)
set_option maxRecDepth 100000 in
theorem S_800 : aSpec wd ct_800 := aChk_ok (lk := []) (cd := oX12_in) (nds := []) (fk := []) (rk := (1, [])) (fuel := 3000) (by decide +kernel) (fun _ h => nomatch h) odX12_in
def ct_801 : aCt := (mX12_number, [.inr (.inl [196]), .inl [(1, 1, 1)], .inl [(15, 15, 1)]], ([((196, 6), [(0, 1, 1), (3, 3, 1), (59, 59, 1)]), ((196, 8), [(0, 0, 1), (9, 1000, 1)]), ((196, 13), [(0, 0, 1)])], []), [(some (.inl [(1, 1, 1)]), [], [((196, 6), [(0, 1, 1), (3, 3, 1), (59, 59, 1)]), ((196, 8), [(0, 0, 1), (9, 1000, 1)]), ((196, 13), [(1, 1, 1)])], []), (some (.inl [(1, 15, 1)]), [], [((196, 6), [(0, 1, 1), (3, 3, 1), (59, 59, 1)]), ((196, 8), [(0, 0, 1), (9, 1000, 1)]), ((196, 13), [(0, 0, 1)])], []), (some (.inl [(1, 15, 1)]), [], [((196, 6), [(2, 2, 1)]), ((196, 8), [(0, 8, 1)]), ((196, 13), [(0, 0, 1)])], [])], [(196, 4, 11), (196, 13, 14), (198, 0, 8), (1000002, 0, 0)], [], 2)
set_option maxRecDepth 100000 in
theorem S_801 : aSpec wd ct_801 := aChk_ok (lk := [(121, 0, 1, ct_X12_next_0), (127, 0, 3, ct_664), (127, 0, 3, ct_668), (149, 1, 3, ct_800)]) (cd := oX12_number) (nds := []) (fk := []) (rk := (1, [])) (fuel := 3000) (by decide +kernel) (List.forall_mem_cons.mpr ⟨⟨ml_12_121, S_X12_next_0⟩, List.forall_mem_cons.mpr ⟨⟨ml_12_127, S_664⟩, List.forall_mem_cons.mpr ⟨⟨ml_12_127, S_668⟩, List.forall_mem_cons.mpr ⟨⟨ml_12_149, S_800⟩, fun _ h => nomatch h⟩⟩⟩⟩) odX12_number
def ct_802 : aCt := (mX12_number, [.inr (.inl [196]), .inl [(1, 1, 1)], .inl [(15, 15, 1)]], ([((196, 6), [(2, 2, 1)]), ((196, 8), [(0, 8, 1)]), ((196, 13), [(1, 1, 1)])], []), [(some (.inl [(1, 1, 1)]), [], [], [])], [(1000002, 0, 0)], [], 0)
set_option maxRecDepth 100000 in
theorem S_802 : aSpec wd ct_802 := aChk_ok (lk := []) (cd := oX12_number) (nds := []) (fk := []) (rk := (1, [])) (fuel := 3000) (by decide +kernel) (fun _ h => nomatch h) odX12_number
def ct_803 : aCt := (mX12_after, [.inr (.inl [196]), .inr (.inl [1000034, 1000035, 1000036, 1000037, 1000038, 1000039, 1000040, 1000041, 1000042, 1000043, 1000044, 1000045, 1000046, 1000047, 1000048, 1000049, 1000050, 1000051, 1000052, 1000053, 1000054, 1000055, 1000056]), .inl [(1, 1, 1)], .inl [(15, 15, 1)]], ([((196, 6), [(2, 2, 1)]), ((196, 8), [(0, 8, 1)]), ((196, 13), [(0, 0, 1)])], []), [(some (.inl [(1, 1, 1)]), [], [((196, 6), [(0, 3, 1), (59, 59, 1)]), ((196, 8), [(0, 1000, 1)]), ((196, 13), [(1, 1, 1)])], []), (some (.inl [(1, 15, 1)]), [], [((196, 6), [(0, 1, 1), (3, 3, 1), (59, 59, 1)]), ((196, 8), [(0, 0, 1), (9, 1000, 1)]), ((196, 13), [(0, 0, 1)])], []), (some (.inl [(1, 15, 1)]), [], [((196, 6), [(2, 2, 1)]), ((196, 8), [(0, 8, 1)]), ((196, 13), [(0, 0, 1)])], [])], [(196, 4, 11), (196, 13, 14), (198, 0, 8), (1000002, 0, 0)], [], 4)
set_option maxRecDepth 100000 in
theorem S_803 : aSpec wd ct_803 := aChk_ok (lk := [(164, 0, 3, ct_799), (164, 0, 3, ct_802), (164, 0, 3, ct_801), (157, 0, 2, ct_665)]) (cd := oX12_after) (nds := []) (fk := []) (rk := (1, [])) (fuel := 3000) (by decide +kernel) (List.forall_mem_cons.mpr ⟨⟨ml_12_164, S_799⟩, List.forall_mem_cons.mpr ⟨⟨ml_12_164, S_802⟩, List.forall_mem_cons.mpr ⟨⟨ml_12_164, S_801⟩, List.forall_mem_cons.mpr ⟨⟨ml_12_157, S_665⟩, fun _ h => nomatch h⟩⟩⟩⟩) odX12_after
def ct_804 : aCt := (mX12_number, [.inr (.inl [196]), .inl [(1, 1, 1)], .inl [(15, 15, 1)]], ([((196, 6), [(0, 1, 1), (3, 3, 1), (59, 59, 1)]), ((196, 8), [(0, 0, 1), (9, 1000, 1)]), ((196, 13), [(1, 1, 1)])], []), [(some (.inl [(1, 1, 1)]), [], [], [])], [(1000002, 0, 0)], [], 0)
set_option maxRecDepth 100000 in
theorem S_804 : aSpec wd ct_804 := aChk_ok (lk := []) (cd := oX12_number) (nds := []) (fk := []) (rk := (1, [])) (fuel := 3000) (by decide +kernel) (fun _ h => nomatch h) odX12_number
def ct_805 : aCt := (mX12_after, [.inr (.inl [196]), .inr (.inl [1000034, 1000035, 1000036, 1000037, 1000038, 1000039, 1000040, 1000041, 1000042, 1000043, 1000044, 1000045, 1000046, 1000047, 1000048, 1000049, 1000050, 1000051, 1000052, 1000053, 1000054, 1000055, 1000056]), .inl [(1, 1, 1)], .inl [(15, 15, 1)]], ([((196, 6), [(0, 1, 1), (3, 3, 1), (59, 59, 1)]), ((196, 8), [(0, 0, 1), (9, 1000, 1)]), ((196, 13), [(0, 0, 1)])], []), [(some (.inl [(1, 1, 1)]), [], [((196, 13), [(1, 1, 1)])], [])], [(196, 9, 11), (196, 13, 14), (1000002, 0, 0)], [], 3)
set_option maxRecDepth 100000 in
theorem S_805 : aSpec wd ct_805 := aChk_ok (lk := [(164, 0, 3, ct_804), (157, 0, 2, ct_688)]) (cd := oX12_after) (nds := []) (fk := []) (rk := (1, [])) (fuel := 3000) (by decide +kernel) (List.forall_mem_cons.mpr ⟨⟨ml_12_164, S_804⟩, List.forall_mem_cons.mpr ⟨⟨ml_12_157, S_688⟩, fun _ h => nomatch h⟩⟩) odX12_after
def ct_806 : aCt := (mX12_number, [.inr (.inl [196]), .inl [(1, 1, 1)], .inl [(15, 15, 1)]], ([((196, 6), [(0, 3, 1), (59, 59, 1)]), ((196, 8), [(0, 1000, 1)]), ((196, 13), [(1, 1, 1)])], []), [(some (.inl [(1, 1, 1)]), [], [], [])], [(1000002, 0, 0)], [], 0)
set_option maxRecDepth 100000 in
theorem S_806 : aSpec wd ct_806 := aChk_ok (lk := []) (cd := oX12_number) (nds := []) (fk := []) (rk := (1, [])) (fuel := 3000) (by decide +kernel) (fun _ h => nomatch h) odX12_number
def ct_807 : aCt := (mX12_after, [.inr (.inl [196]), .inr (.inl [1000034, 1000035, 1000036, 1000037, 1000038, 1000039, 1000040, 1000041, 1000042, 1000043, 1000044, 1000045, 1000046, 1000047, 1000048, 1000049, 1000050, 1000051, 1000052, 1000053, 1000054, 1000055, 1000056]), .inl [(1, 1, 1)], .inl [(15, 15, 1)]], ([((196, 6), [(0, 3, 1), (59, 59, 1)]), ((196, 8), [(0, 1000, 1)]), ((196, 13), [(1, 1, 1)])], []), [(some (.inl [(1, 1, 1)]), [], [], [])], [(1000002, 0, 0)], [], 1)
set_option maxRecDepth 100000 in
theorem S_807 : aSpec wd ct_807 := aChk_ok (lk := [(164, 0, 3, ct_806), (157, 0, 2, ct_691)]) (cd := oX12_after) (nds := []) (fk := []) (rk := (1, [])) (fuel := 3000) (by decide +kernel) (List.forall_mem_cons.mpr ⟨⟨ml_12_164, S_806⟩, List.forall_mem_cons.mpr ⟨⟨ml_12_157, S_691⟩, fun _ h => nomatch h⟩⟩) odX12_after
def ct_808 : aCt := (mX12_wayLine, [.inr (.inl [196])], ([((196, 6), [(2, 2, 1)]), ((196, 8), [(0, 8, 1)]), ((196, 13), [(0, 0, 1)]), ((200, 5), [(0, 11, 1)])], []), [(none, [], [((196, 6), [(0, 3, 1), (59, 59, 1)]), ((196, 8), [(0, 1000, 1)]), ((196, 13), [(1, 1, 1)]), ((200, 5), [(0, 11, 1)])], []), (none, [], [((196, 6), [(0, 1, 1), (3, 3, 1), (59, 59, 1)]), ((196, 8), [(0, 0, 1), (9, 1000, 1)]), ((196, 13), [(0, 0, 1)]), ((200, 5), [(1, 12, 1)])], []), (none, [], [((196, 6), [(2, 2, 1)]), ((196, 8), [(0, 8, 1)]), ((196, 13), [(0, 0, 1)]), ((200, 5), [(1, 12, 1)])], [])], [(196, 4, 11), (196, 13, 14), (198, 0, 8), (200, 5, 6), (200, 59, 107), (1000002, 0, 0)], [], 5)
def lk_808 : aLk := [(161, 0, 1, ct_778), (121, 0, 1, ct_X12_next_0), (153, 0, 3, ct_777), (153, 0, 3, ct_780), (153, 0, 3, ct_779), (230, 1, 4, ct_791), (230, 1, 4, ct_790), (230, 1, 4, ct_789), (230, 1, 4, ct_788), (230, 1, 4, ct_787), (230, 1, 4, ct_786), (230, 1, 4, ct_785), (230, 1, 4, ct_784), (230, 1, 4, ct_783), (230, 1, 4, ct_782), (213, 0, 4, ct_796), (213, 0, 4, ct_803), (213, 0, 4, ct_798), (213, 0, 4, ct_805), (213, 0, 4, ct_807), (230, 1, 4, ct_781), (127, 0, 3, ct_763)]
def nd_808_0 : aNd := (48, [(0, .inr (.inl [196])), (1, .inl [(103, 103, 1)]), (2, .inl [(0, 6, 1)]), (3, .inl [(0, 6, 1)]), (4, .inl [(0, 1, 1)]), (5, .inl [(0, 11, 1)])], [], [((196, 6), [(0, 3, 1), (59, 59, 1)]), ((196, 8), [(0, 1000, 1)]), ((200, 5), [(11, 11, 1)])], [], (28, [(2, -12), (3, -1)]))
def nd_808_1 : aNd := (48, [(0, .inr (.inl [196])), (1, .inl [(99, 99, 1)]), (2, .inl [(0, 6, 1)]), (3, .inl [(0, 6, 1)]), (4, .inl [(0, 1, 1)]), (5, .inl [(0, 11, 1)])], [], [((196, 6), [(0, 3, 1), (59, 59, 1)]), ((196, 8), [(0, 1000, 1)]), ((200, 5), [(10, 10, 1)])], [], (28, [(2, -12), (3, -1)]))
def nd_808_2 : aNd := (48, [(0, .inr (.inl [196])), (1, .inl [(95, 95, 1)]), (2, .inl [(0, 6, 1)]), (3, .inl [(0, 6, 1)]), (4, .inl [(0, 1, 1)]), (5, .inl [(0, 9, 1)])], [], [((196, 6), [(0, 3, 1), (59, 59, 1)]), ((196, 8), [(0, 1000, 1)]), ((200, 5), [(9, 9, 1)])], [], (24, [(2, -10), (3, -1)]))
def nd_808_3 : aNd := (48, [(0, .inr (.inl [196])), (1, .inl [(91, 91, 1)]), (2, .inl [(0, 6, 1)]), (3, .inl [(0, 6, 1)]), (4, .inl [(0, 1, 1)]), (5, .inl [(0, 8, 1)])], [], [((196, 6), [(0, 3, 1), (59, 59, 1)]), ((196, 8), [(0, 1000, 1)]), ((200, 5), [(8, 8, 1)])], [], (22, [(2, -9), (3, -1)]))
def nd_808_4 : aNd := (48, [(0, .inr (.inl [196])), (1, .inl [(87, 87, 1)]), (2, .inl [(0, 6, 1)]), (3, .inl [(0, 6, 1)]), (4, .inl [(0, 1, 1)]), (5, .inl [(0, 7, 1)])], [], [((196, 6), [(0, 3, 1), (59, 59, 1)]), ((196, 8), [(0, 1000, 1)]), ((200, 5), [(7, 7, 1)])], [], (20, [(2, -8), (3, -1)]))
def nd_808_5 : aNd := (48, [(0, .inr (.inl [196])), (1, .inl [(83, 83, 1)]), (2, .inl [(0, 6, 1)]), (3, .inl [(0, 6, 1)]), (4, .inl [(0, 1, 1)]), (5, .inl [(0, 6, 1)])], [], [((196, 6), [(0, 3, 1), (59, 59, 1)]), ((196, 8), [(0, 1000, 1)]), ((200, 5), [(6, 6, 1)])], [], (18, [(2, -7), (3, -1)]))
def nd_808_6 : aNd := (48, [(0, .inr (.inl [196])), (1, .inl [(79, 79, 1)]), (2, .inl [(0, 6, 1)]), (3, .inl [(0, 6, 1)]), (4, .inl [(0, 1, 1)]), (5, .inl [(0, 5, 1)])], [], [((196, 6), [(0, 3, 1), (59, 59, 1)]), ((196, 8), [(0, 1000, 1)]), ((200, 5), [(5, 5, 1)])], [], (16, [(2, -6), (3, -1)]))
def nd_808_7 : aNd := (48, [(0, .inr (.inl [196])), (1, .inl [(75, 75, 1)]), (2, .inl [(0, 6, 1)]), (3, .inl [(0, 6, 1)]), (4, .inl [(0, 1, 1)]), (5, .inl [(0, 4, 1)])], [], [((196, 6), [(0, 3, 1), (59, 59, 1)]), ((196, 8), [(0, 1000, 1)]), ((200, 5), [(4, 4, 1)])], [], (14, [(2, -5), (3, -1)]))
def nd_808_8 : aNd := (48, [(0, .inr (.inl [196])), (1, .inl [(71, 71, 1)]), (2, .inl [(0, 6, 1)]), (3, .inl [(0, 6, 1)]), (4, .inl [(0, 1, 1)]), (5, .inl [(0, 3, 1)])], [], [((196, 6), [(0, 3, 1), (59, 59, 1)]), ((196, 8), [(0, 1000, 1)]), ((200, 5), [(3, 3, 1)])], [], (12, [(2, -4), (3, -1)]))
def nd_808_9 : aNd := (48, [(0, .inr (.inl [196])), (1, .inl [(67, 67, 1)]), (2, .inl [(0, 6, 1)]), (3, .inl [(0, 6, 1)]), (4, .inl [(0, 1, 1)]), (5, .inl [(0, 2, 1)])], [], [((196, 6), [(0, 3, 1), (59, 59, 1)]), ((196, 8), [(0, 1000, 1)]), ((200, 5), [(2, 2, 1)])], [], (10, [(2, -3), (3, -1)]))
def nd_808_10 : aNd := (48, [(0, .inr (.inl [196])), (1, .inl [(63, 63, 1)]), (2, .inl [(0, 6, 1)]), (3, .inl [(0, 6, 1)]), (4, .inl [(0, 1, 1)]), (5, .inl [(0, 1, 1)])], [], [((196, 6), [(0, 3, 1), (59, 59, 1)]), ((196, 8), [(0, 1000, 1)]), ((200, 5), [(1, 1, 1)])], [], (8, [(2, -2), (3, -1)]))
def nd_808_11 : aNd := (48, [(0, .inr (.inl [196])), (1, .inl [(59, 59, 1)]), (2, .inl [(0, 6, 1)]), (3, .inl [(0, 6, 1)]), (4, .inl [(0, 1, 1)]), (5, .inl [(0, 0, 1)])], [], [((196, 6), [(0, 3, 1), (59, 59, 1)]), ((196, 8), [(0, 1000, 1)]), ((200, 5), [(0, 0, 1)])], [], (5, []))
def nd_808_12 : aNd := (131, [(0, .inr (.inl [196])), (1, .inl [(59, 59, 1)]), (2, .inl [(0, 6, 1)]), (3, .inl [(0, 6, 1)]), (4, .inl [(0, 0, 1)]), (5, .inl [(0, 0, 1)])], [], [((196, 6), [(2, 2, 1)]), ((196, 8), [(0, 8, 1)]), ((196, 13), [(0, 0, 1)]), ((200, 5), [(0, 0, 1)])], [], (4, []))
def nd_808_13 : aNd := (131, [(0, .inr (.inl [196])), (1, .inl [(59, 59, 1)]), (2, .inl [(0, 6, 1)]), (3, .inl [(0, 6, 1)]), (4, .inl [(0, 0, 1)]), (5, .inl [(0, 0, 1)])], [], [((196, 6), [(0, 1, 1), (3, 3, 1), (59, 59, 1)]), ((196, 8), [(0, 0, 1), (9, 1000, 1)]), ((196, 13), [(0, 0, 1)]), ((200, 5), [(0, 0, 1)])], [], (4, []))
def nd_808_14 : aNd := (131, [(0, .inr (.inl [196])), (1, .inl [(63, 63, 1)]), (2, .inl [(0, 6, 1)]), (3, .inl [(0, 6, 1)]), (4, .inl [(0, 0, 1)]), (5, .inl [(1, 1, 1)])], [], [((196, 6), [(2, 2, 1)]), ((196, 8), [(0, 8, 1)]), ((196, 13), [(0, 0, 1)]), ((200, 5), [(1, 1, 1)])], [], (4, []))
def nd_808_15 : aNd := (131, [(0, .inr (.inl [196])), (1, .inl [(63, 63, 1)]), (2, .inl [(0, 6, 1)]), (3, .inl [(0, 6, 1)]), (4, .inl [(0, 0, 1)]), (5, .inl [(1, 1, 1)])], [], [((196, 6), [(0, 1, 1), (3, 3, 1), (59, 59, 1)]), ((196, 8), [(0, 0, 1), (9, 1000, 1)]), ((196, 13), [(0, 0, 1)]), ((200, 5), [(1, 1, 1)])], [], (4, []))
def nd_808_16 : aNd := (140, [(0, .inr (.inl [196])), (1, .inl [(59, 59, 1)]), (2, .inl [(0, 6, 1)]), (3, .inl [(0, 6, 1)]), (4, .inl [(0, 0, 1)]), (5, .inl [(0, 0, 1)])], [], [((196, 6), [(2, 2, 1)]), ((196, 8), [(0, 8, 1)]), ((196, 13), [(0, 0, 1)]), ((200, 5), [(0, 0, 1)])], [], (3, []))
def nd_808_17 : aNd := (140, [(0, .inr (.inl [196])), (1, .inl [(59, 59, 1)]), (2, .inl [(0, 6, 1)]), (3, .inl [(0, 6, 1)]), (4, .inl [(0, 0, 1)]), (5, .inl [(0, 0, 1)])], [], [((196, 6), [(0, 1, 1), (3, 3, 1), (59, 59, 1)]), ((196, 8), [(0, 0, 1), (9, 1000, 1)]), ((196, 13), [(0, 0, 1)]), ((200, 5), [(0, 0, 1)])], [], (3, []))
def nd_808_18 : aNd := (131, [(0, .inr (.inl [196])), (1, .inl [(67, 67, 1)]), (2, .inl [(0, 6, 1)]), (3, .inl [(0, 6, 1)]), (4, .inl [(0, 0, 1)]), (5, .inl [(2, 2, 1)])], [], [((196, 6), [(2, 2, 1)]), ((196, 8), [(0, 8, 1)]), ((196, 13), [(0, 0, 1)]), ((200, 5), [(2, 2, 1)])], [], (4, []))
def nd_808_19 : aNd := (131, [(0, .inr (.inl [196])), (1, .inl [(67, 67, 1)]), (2, .inl [(0, 6, 1)]), (3, .inl [(0, 6, 1)]), (4, .inl [(0, 0, 1)]), (5, .inl [(2, 2, 1)])], [], [((196, 6), [(0, 1, 1), (3, 3, 1), (59, 59, 1)]), ((196, 8), [(0, 0, 1), (9, 1000, 1)]), ((196, 13), [(0, 0, 1)]), ((200, 5), [(2, 2, 1)])], [], (4, []))
def nd_808_20 : aNd := (140, [(0, .inr (.inl [196])), (1, .inl [(63, 63, 1)]), (2, .inl [(0, 6, 1)]), (3, .inl [(0, 6, 1)]), (4, .inl [(0, 0, 1)]), (5, .inl [(1, 1, 1)])], [], [((196, 6), [(2, 2, 1)]), ((196, 8), [(0, 8, 1)]), ((196, 13), [(0, 0, 1)]), ((200, 5), [(1, 1, 1)])], [], (3, []))
def nd_808_21 : aNd := (140, [(0, .inr (.inl [196])), (1, .inl [(63, 63, 1)]), (2, .inl [(0, 6, 1)]), (3, .inl [(0, 6, 1)]), (4, .inl [(0, 0, 1)]), (5, .inl [(1, 1, 1)])], [], [((196, 6), [(0, 1, 1), (3, 3, 1), (59, 59, 1)]), ((196, 8), [(0, 0, 1), (9, 1000, 1)]), ((196, 13), [(0, 0, 1)]), ((200, 5), [(1, 1, 1)])], [], (3, []))
def nd_808_22 : aNd := (157, [(0, .inr (.inl [196])), (1, .inl [(59, 59, 1)]), (2, .inl [(0, 6, 1)]), (3, .inl [(0, 6, 1)]), (4, .inl [(0, 0, 1)]), (5, .inl [(0, 0, 1)])], [], [((196, 6), [(2, 2, 1)]), ((196, 8), [(0, 8, 1)]), ((196, 13), [(0, 0, 1)]), ((200, 5), [(0, 0, 1)]), ((200, 61), [(1, 99, 1)])], [], (2, []))
def nd_808_23 : aNd := (157, [(0, .inr (.inl [196])), (1, .inl [(59, 59, 1)]), (2, .inl [(0, 6, 1)]), (3, .inl [(0, 6, 1)]), (4, .inl [(0, 0, 1)]), (5, .inl [(0, 0, 1)])], [], [((196, 6), [(0, 1, 1), (3, 3, 1), (59, 59, 1)]), ((196, 8), [(0, 0, 1), (9, 1000, 1)]), ((196, 13), [(0, 0, 1)]), ((200, 5), [(0, 0, 1)]), ((200, 61), [(1, 99, 1)])], [], (2, []))
def nd_808_24 : aNd := (157, [(0, .inr (.inl [196])), (1, .inl [(59, 59, 1)]), (2, .inl [(0, 6, 1)]), (3, .inl [(0, 6, 1)]), (4, .inl [(0, 0, 1)]), (5, .inl [(0, 0, 1)])], [], [((196, 6), [(0, 3, 1), (59, 59, 1)]), ((196, 8), [(0, 1000, 1)]), ((196, 13), [(1, 1, 1)]), ((200, 5), [(0, 0, 1)]), ((200, 61), [(1, 1, 1)])], [], (2, []))
def nd_808_25 : aNd := (131, [(0, .inr (.inl [196])), (1, .inl [(71, 71, 1)]), (2, .inl [(0, 6, 1)]), (3, .inl [(0, 6, 1)]), (4, .inl [(0, 0, 1)]), (5, .inl [(3, 3, 1)])], [], [((196, 6), [(2, 2, 1)]), ((196, 8), [(0, 8, 1)]), ((196, 13), [(0, 0, 1)]), ((200, 5), [(3, 3, 1)])], [], (4, []))
def nd_808_26 : aNd := (131, [(0, .inr (.inl [196])), (1, .inl [(71, 71, 1)]), (2, .inl [(0, 6, 1)]), (3, .inl [(0, 6, 1)]), (4, .inl [(0, 0, 1)]), (5, .inl [(3, 3, 1)])], [], [((196, 6), [(0, 1, 1), (3, 3, 1), (59, 59, 1)]), ((196, 8), [(0, 0, 1), (9, 1000, 1)]), ((196, 13), [(0, 0, 1)]), ((200, 5), [(3, 3, 1)])], [], (4, []))
def nd_808_27 : aNd := (140, [(0, .inr (.inl [196])), (1, .inl [(67, 67, 1)]), (2, .inl [(0, 6, 1)]), (3, .inl [(0, 6, 1)]), (4, .inl [(0, 0, 1)]), (5, .inl [(2, 2, 1)])], [], [((196, 6), [(2, 2, 1)]), ((196, 8), [(0, 8, 1)]), ((196, 13), [(0, 0, 1)]), ((200, 5), [(2, 2, 1)])], [], (3, []))
def nd_808_28 : aNd := (140, [(0, .inr (.inl [196])), (1, .inl [(67, 67, 1)]), (2, .inl [(0, 6, 1)]), (3, .inl [(0, 6, 1)]), (4, .inl [(0, 0, 1)]), (5, .inl [(2, 2, 1)])], [], [((196, 6), [(0, 1, 1), (3, 3, 1), (59, 59, 1)]), ((196, 8), [(0, 0, 1), (9, 1000, 1)]), ((196, 13), [(0, 0, 1)]), ((200, 5), [(2, 2, 1)])], [], (3, []))
def nd_808_29 : aNd := (157, [(0, .inr (.inl [196])), (1, .inl [(63, 63, 1)]), (2, .inl [(0, 6, 1)]), (3, .inl [(0, 6, 1)]), (4, .inl [(0, 0, 1)]), (5, .inl [(1, 1, 1)])], [], [((196, 6), [(2, 2, 1)]), ((196, 8), [(0, 8, 1)]), ((196, 13), [(0, 0, 1)]), ((200, 5), [(1, 1, 1)]), ((200, 65), [(1, 99, 1)])], [], (2, []))
def nd_808_30 : aNd := (157, [(0, .inr (.inl [196])), (1, .inl [(63, 63, 1)]), (2, .inl [(0, 6, 1)]), (3, .inl [(0, 6, 1)]), (4, .inl [(0, 0, 1)]), (5, .inl [(1, 1, 1)])], [], [((196, 6), [(0, 1, 1), (3, 3, 1), (59, 59, 1)]), ((196, 8), [(0, 0, 1), (9, 1000, 1)]), ((196, 13), [(0, 0, 1)]), ((200, 5), [(1, 1, 1)]), ((200, 65), [(1, 99, 1)])], [], (2, []))
def nd_808_31 : aNd := (157, [(0, .inr (.inl [196])), (1, .inl [(63, 63, 1)]), (2, .inl [(0, 6, 1)]), (3, .inl [(0, 6, 1)]), (4, .inl [(0, 0, 1)]), (5, .inl [(1, 1, 1)])], [], [((196, 6), [(0, 3, 1), (59, 59, 1)]), ((196, 8), [(0, 1000, 1)]), ((196, 13), [(1, 1, 1)]), ((200, 5), [(1, 1, 1)]), ((200, 65), [(1, 1, 1)])], [], (2, []))
def nd_808_32 : aNd := (174, [(0, .inr (.inl [196])), (1, .inl [(59, 59, 1)]), (2, .inl [(0, 6, 1)]), (3, .inl [(0, 6, 1)]), (4, .inl [(0, 0, 1)]), (5, .inl [(0, 0, 1)])], [], [((196, 6), [(2, 2, 1)]), ((196, 8), [(0, 8, 1)]), ((196, 13), [(0, 0, 1)]), ((200, 5), [(0, 0, 1)]), ((200, 61), [(1, 99, 1)]), ((200, 62), [(1, 15, 1)])], [], (1, []))
def nd_808_33 : aNd := (174, [(0, .inr (.inl [196])), (1, .inl [(59, 59, 1)]), (2, .inl [(0, 6, 1)]), (3, .inl [(0, 6, 1)]), (4, .inl [(0, 0, 1)]), (5, .inl [(0, 0, 1)])], [], [((196, 6), [(0, 1, 1), (3, 3, 1), (59, 59, 1)]), ((196, 8), [(0, 0, 1), (9, 1000, 1)]), ((196, 13), [(0, 0, 1)]), ((200, 5), [(0, 0, 1)]), ((200, 61), [(1, 99, 1)]), ((200, 62), [(1, 15, 1)])], [], (1, []))
def nd_808_34 : aNd := (174, [(0, .inr (.inl [196])), (1, .inl [(59, 59, 1)]), (2, .inl [(0, 6, 1)]), (3, .inl [(0, 6, 1)]), (4, .inl [(0, 0, 1)]), (5, .inl [(0, 0, 1)])], [], [((196, 6), [(0, 3, 1), (59, 59, 1)]), ((196, 8), [(0, 1000, 1)]), ((196, 13), [(1, 1, 1)]), ((200, 5), [(0, 0, 1)]), ((200, 61), [(1, 99, 1)]), ((200, 62), [(1, 1, 1)])], [], (1, []))
def nd_808_35 : aNd := (131, [(0, .inr (.inl [196])), (1, .inl [(75, 75, 1)]), (2, .inl [(0, 6, 1)]), (3, .inl [(0, 6, 1)]), (4, .inl [(0, 0, 1)]), (5, .inl [(4, 4, 1)])], [], [((196, 6), [(2, 2, 1)]), ((196, 8), [(0, 8, 1)]), ((196, 13), [(0, 0, 1)]), ((200, 5), [(4, 4, 1)])], [], (4, []))
def nd_808_36 : aNd := (131, [(0, .inr (.inl [196])), (1, .inl [(75, 75, 1)]), (2, .inl [(0, 6, 1)]), (3, .inl [(0, 6, 1)]), (4, .inl [(0, 0, 1)]), (5, .inl [(4, 4, 1)])], [], [((196, 6), [(0, 1, 1), (3, 3, 1), (59, 59, 1)]), ((196, 8), [(0, 0, 1), (9, 1000, 1)]), ((196, 13), [(0, 0, 1)]), ((200, 5), [(4, 4, 1)])], [], (4, []))
def nd_808_37 : aNd := (140, [(0, .inr (.inl [196])), (1, .inl [(71, 71, 1)]), (2, .inl [(0, 6, 1)]), (3, .inl [(0, 6, 1)]), (4, .inl [(0, 0, 1)]), (5, .inl [(3, 3, 1)])], [], [((196, 6), [(2, 2, 1)]), ((196, 8), [(0, 8, 1)]), ((196, 13), [(0, 0, 1)]), ((200, 5), [(3, 3, 1)])], [], (3, []))
def nd_808_38 : aNd := (140, [(0, .inr (.inl [196])), (1, .inl [(71, 71, 1)]), (2, .inl [(0, 6, 1)]), (3, .inl [(0, 6, 1)]), (4, .inl [(0, 0, 1)]), (5, .inl [(3, 3, 1)])], [], [((196, 6), [(0, 1, 1), (3, 3, 1), (59, 59, 1)]), ((196, 8), [(0, 0, 1), (9, 1000, 1)]), ((196, 13), [(0, 0, 1)]), ((200, 5), [(3, 3, 1)])], [], (3, []))
def nd_808_39 : aNd := (157, [(0, .inr (.inl [196])), (1, .inl [(67, 67, 1)]), (2, .inl [(0, 6, 1)]), (3, .inl [(0, 6, 1)]), (4, .inl [(0, 0, 1)]), (5, .inl [(2, 2, 1)])], [], [((196, 6), [(2, 2, 1)]), ((196, 8), [(0, 8, 1)]), ((196, 13), [(0, 0, 1)]), ((200, 5), [(2, 2, 1)]), ((200, 69), [(1, 99, 1)])], [], (2, []))
def nd_808_40 : aNd := (157, [(0, .inr (.inl [196])), (1, .inl [(67, 67, 1)]), (2, .inl [(0, 6, 1)]), (3, .inl [(0, 6, 1)]), (4, .inl [(0, 0, 1)]), (5, .inl [(2, 2, 1)])], [], [((196, 6), [(0, 1, 1), (3, 3, 1), (59, 59, 1)]), ((196, 8), [(0, 0, 1), (9, 1000, 1)]), ((196, 13), [(0, 0, 1)]), ((200, 5), [(2, 2, 1)]), ((200, 69), [(1, 99, 1)])], [], (2, []))
def nd_808_41 : aNd := (157, [(0, .inr (.inl [196])), (1, .inl [(67, 67, 1)]), (2, .inl [(0, 6, 1)]), (3, .inl [(0, 6, 1)]), (4, .inl [(0, 0, 1)]), (5, .inl [(2, 2, 1)])], [], [((196, 6), [(0, 3, 1), (59, 59, 1)]), ((196, 8), [(0, 1000, 1)]), ((196, 13), [(1, 1, 1)]), ((200, 5), [(2, 2, 1)]), ((200, 69), [(1, 1, 1)])], [], (2, []))
def nd_808_42 : aNd := (174, [(0, .inr (.inl [196])), (1, .inl [(63, 63, 1)]), (2, .inl [(0, 6, 1)]), (3, .inl [(0, 6, 1)]), (4, .inl [(0, 0, 1)]), (5, .inl [(1, 1, 1)])], [], [((196, 6), [(2, 2, 1)]), ((196, 8), [(0, 8, 1)]), ((196, 13), [(0, 0, 1)]), ((200, 5), [(1, 1, 1)]), ((200, 65), [(1, 99, 1)]), ((200, 66), [(1, 15, 1)])], [], (1, []))
def nd_808_43 : aNd := (174, [(0, .inr (.inl [196])), (1, .inl [(63, 63, 1)]), (2, .inl [(0, 6, 1)]), (3, .inl [(0, 6, 1)]), (4, .inl [(0, 0, 1)]), (5, .inl [(1, 1, 1)])], [], [((196, 6), [(0, 1, 1), (3, 3, 1), (59, 59, 1)]), ((196, 8), [(0, 0, 1), (9, 1000, 1)]), ((196, 13), [(0, 0, 1)]), ((200, 5), [(1, 1, 1)]), ((200, 65), [(1, 99, 1)]), ((200, 66), [(1, 15, 1)])], [], (1, []))
def nd_808_44 : aNd := (174, [(0, .inr (.inl [196])), (1, .inl [(63, 63, 1)]), (2, .inl [(0, 6, 1)]), (3, .inl [(0, 6, 1)]), (4, .inl [(0, 0, 1)]), (5, .inl [(1, 1, 1)])], [], [((196, 6), [(0, 3, 1), (59, 59, 1)]), ((196, 8), [(0, 1000, 1)]), ((196, 13), [(1, 1, 1)]), ((200, 5), [(1, 1, 1)]), ((200, 65), [(1, 99, 1)]), ((200, 66), [(1, 1, 1)])], [], (1, []))
def nd_808_45 : aNd := (191, [(0, .inr (.inl [196])), (1, .inl [(59, 59, 1)]), (2, .inl [(0, 6, 1)]), (3, .inl [(0, 6, 1)]), (4, .inl [(0, 0, 1)]), (5, .inl [(0, 0, 1)])], [], [((196, 6), [(2, 2, 1)]), ((196, 8), [(0, 8, 1)]), ((196, 13), [(0, 0, 1)]), ((200, 5), [(1, 1, 1)]), ((200, 61), [(1, 99, 1)]), ((200, 62), [(1, 15, 1)])], [], (0, []))
def nd_808_46 : aNd := (191, [(0, .inr (.inl [196])), (1, .inl [(59, 59, 1)]), (2, .inl [(0, 6, 1)]), (3, .inl [(0, 6, 1)]), (4, .inl [(0, 0, 1)]), (5, .inl [(0, 0, 1)])], [], [((196, 6), [(0, 1, 1), (3, 3, 1), (59, 59, 1)]), ((196, 8), [(0, 0, 1), (9, 1000, 1)]), ((196, 13), [(0, 0, 1)]), ((200, 5), [(1, 1, 1)]), ((200, 61), [(1, 99, 1)]), ((200, 62), [(1, 15, 1)])], [], (0, []))
def nd_808_47 : aNd := (191, [(0, .inr (.inl [196])), (1, .inl [(59, 59, 1)]), (2, .inl [(0, 6, 1)]), (3, .inl [(0, 6, 1)]), (4, .inl [(0, 0, 1)]), (5, .inl [(0, 0, 1)])], [], [((196, 6), [(0, 3, 1), (59, 59, 1)]), ((196, 8), [(0, 1000, 1)]), ((196, 13), [(1, 1, 1)]), ((200, 5), [(0, 0, 1)]), ((200, 61), [(1, 99, 1)]), ((200, 62), [(1, 1, 1)])], [], (0, []))
def nd_808_48 : aNd := (131, [(0, .inr (.inl [196])), (1, .inl [(79, 79, 1)]), (2, .inl [(0, 6, 1)]), (3, .inl [(0, 6, 1)]), (4, .inl [(0, 0, 1)]), (5, .inl [(5, 5, 1)])], [], [((196, 6), [(2, 2, 1)]), ((196, 8), [(0, 8, 1)]), ((196, 13), [(0, 0, 1)]), ((200, 5), [(5, 5, 1)])], [], (4, []))
def nd_808_49 : aNd := (131, [(0, .inr (.inl [196])), (1, .inl [(79, 79, 1)]), (2, .inl [(0, 6, 1)]), (3, .inl [(0, 6, 1)]), (4, .inl [(0, 0, 1)]), (5, .inl [(5, 5, 1)])], [], [((196, 6), [(0, 1, 1), (3, 3, 1), (59, 59, 1)]), ((196, 8), [(0, 0, 1), (9, 1000, 1)]), ((196, 13), [(0, 0, 1)]), ((200, 5), [(5, 5, 1)])], [], (4, []))
def nd_808_50 : aNd := (140, [(0, .inr (.inl [196])), (1, .inl [(75, 75, 1)]), (2, .inl [(0, 6, 1)]), (3, .inl [(0, 6, 1)]), (4, .inl [(0, 0, 1)]), (5, .inl [(4, 4, 1)])], [], [((196, 6), [(2, 2, 1)]), ((196, 8), [(0, 8, 1)]), ((196, 13), [(0, 0, 1)]), ((200, 5), [(4, 4, 1)])], [], (3, []))
def nd_808_51 : aNd := (140, [(0, .inr (.inl [196])), (1, .inl [(75, 75, 1)]), (2, .inl [(0, 6, 1)]), (3, .inl [(0, 6, 1)]), (4, .inl [(0, 0, 1)]), (5, .inl [(4, 4, 1)])], [], [((196, 6), [(0, 1, 1), (3, 3, 1), (59, 59, 1)]), ((196, 8), [(0, 0, 1), (9, 1000, 1)]), ((196, 13), [(0, 0, 1)]), ((200, 5), [(4, 4, 1)])], [], (3, []))
def nd_808_52 : aNd := (157, [(0, .inr (.inl [196])), (1, .inl [(71, 71, 1)]), (2, .inl [(0, 6, 1)]), (3, .inl [(0, 6, 1)]), (4, .inl [(0, 0, 1)]), (5, .inl [(3, 3, 1)])], [], [((196, 6), [(2, 2, 1)]), ((196, 8), [(0, 8, 1)]), ((196, 13), [(0, 0, 1)]), ((200, 5), [(3, 3, 1)]), ((200, 73), [(1, 99, 1)])], [], (2, []))
def nd_808_53 : aNd := (157, [(0, .inr (.inl [196])), (1, .inl [(71, 71, 1)]), (2, .inl [(0, 6, 1)]), (3, .inl [(0, 6, 1)]), (4, .inl [(0, 0, 1)]), (5, .inl [(3, 3, 1)])], [], [((196, 6), [(0, 1, 1), (3, 3, 1), (59, 59, 1)]), ((196, 8), [(0, 0, 1), (9, 1000, 1)]), ((196, 13), [(0, 0, 1)]), ((200, 5), [(3, 3, 1)]), ((200, 73), [(1, 99, 1)])], [], (2, []))
def nd_808_54 : aNd := (157, [(0, .inr (.inl [196])), (1, .inl [(71, 71, 1)]), (2, .inl [(0, 6, 1)]), (3, .inl [(0, 6, 1)]), (4, .inl [(0, 0, 1)]), (5, .inl [(3, 3, 1)])], [], [((196, 6), [(0, 3, 1), (59, 59, 1)]), ((196, 8), [(0, 1000, 1)]), ((196, 13), [(1, 1, 1)]), ((200, 5), [(3, 3, 1)]), ((200, 73), [(1, 1, 1)])], [], (2, []))
def nd_808_55 : aNd := (174, [(0, .inr (.inl [196])), (1, .inl [(67, 67, 1)]), (2, .inl [(0, 6, 1)]), (3, .inl [(0, 6, 1)]), (4, .inl [(0, 0, 1)]), (5, .inl [(2, 2, 1)])], [], [((196, 6), [(2, 2, 1)]), ((196, 8), [(0, 8, 1)]), ((196, 13), [(0, 0, 1)]), ((200, 5), [(2, 2, 1)]), ((200, 69), [(1, 99, 1)]), ((200, 70), [(1, 15, 1)])], [], (1, []))
def nd_808_56 : aNd := (174, [(0, .inr (.inl [196])), (1, .inl [(67, 67, 1)]), (2, .inl [(0, 6, 1)]), (3, .inl [(0, 6, 1)]), (4, .inl [(0, 0, 1)]), (5, .inl [(2, 2, 1)])], [], [((196, 6), [(0, 1, 1), (3, 3, 1), (59, 59, 1)]), ((196, 8), [(0, 0, 1), (9, 1000, 1)]), ((196, 13), [(0, 0, 1)]), ((200, 5), [(2, 2, 1)]), ((200, 69), [(1, 99, 1)]), ((200, 70), [(1, 15, 1)])], [], (1, []))
def nd_808_57 : aNd := (174, [(0, .inr (.inl [196])), (1, .inl [(67, 67, 1)]), (2, .inl [(0, 6, 1)]), (3, .inl [(0, 6, 1)]), (4, .inl [(0, 0, 1)]), (5, .inl [(2, 2, 1)])], [], [((196, 6), [(0, 3, 1), (59, 59, 1)]), ((196, 8), [(0, 1000, 1)]), ((196, 13), [(1, 1, 1)]), ((200, 5), [(2, 2, 1)]), ((200, 69), [(1, 99, 1)]), ((200, 70), [(1, 1, 1)])], [], (1, []))
def nd_808_58 : aNd := (191, [(0, .inr (.inl [196])), (1, .inl [(63, 63, 1)]), (2, .inl [(0, 6, 1)]), (3, .inl [(0, 6, 1)]), (4, .inl [(0, 0, 1)]), (5, .inl [(1, 1, 1)])], [], [((196, 6), [(2, 2, 1)]), ((196, 8), [(0, 8, 1)]), ((196, 13), [(0, 0, 1)]), ((200, 5), [(2, 2, 1)]), ((200, 65), [(1, 99, 1)]), ((200, 66), [(1, 15, 1)])], [], (0, []))
def nd_808_59 : aNd := (191, [(0, .inr (.inl [196])), (1, .inl [(63, 63, 1)]), (2, .inl [(0, 6, 1)]), (3, .inl [(0, 6, 1)]), (4, .inl [(0, 0, 1)]), (5, .inl [(1, 1, 1)])], [], [((196, 6), [(0, 1, 1), (3, 3, 1), (59, 59, 1)]), ((196, 8), [(0, 0, 1), (9, 1000, 1)]), ((196, 13), [(0, 0, 1)]), ((200, 5), [(2, 2, 1)]), ((200, 65), [(1, 99, 1)]), ((200, 66), [(1, 15, 1)])], [], (0, []))
def nd_808_60 : aNd := (191, [(0, .inr (.inl [196])), (1, .inl [(63, 63, 1)]), (2, .inl [(0, 6, 1)]), (3, .inl [(0, 6, 1)]), (4, .inl [(0, 0, 1)]), (5, .inl [(1, 1, 1)])], [], [((196, 6), [(0, 3, 1), (59, 59, 1)]), ((196, 8), [(0, 1000, 1)]), ((196, 13), [(1, 1, 1)]), ((200, 5), [(1, 1, 1)]), ((200, 65), [(1, 99, 1)]), ((200, 66), [(1, 1, 1)])], [], (0, []))
def nd_808_61 : aNd := (131, [(0, .inr (.inl [196])), (1, .inl [(83, 83, 1)]), (2, .inl [(0, 6, 1)]), (3, .inl [(0, 6, 1)]), (4, .inl [(0, 0, 1)]), (5, .inl [(6, 6, 1)])], [], [((196, 6), [(2, 2, 1)]), ((196, 8), [(0, 8, 1)]), ((196, 13), [(0, 0, 1)]), ((200, 5), [(6, 6, 1)])], [], (4, []))
def nd_808_62 : aNd := (131, [(0, .inr (.inl [196])), (1, .inl [(83, 83, 1)]), (2, .inl [(0, 6, 1)]), (3, .inl [(0, 6, 1)]), (4, .inl [(0, 0, 1)]), (5, .inl [(6, 6, 1)])], [], [((196, 6), [(0, 1, 1), (3, 3, 1), (59, 59, 1)]), ((196, 8), [(0, 0, 1), (9, 1000, 1)]), ((196, 13), [(0, 0, 1)]), ((200, 5), [(6, 6, 1)])], [], (4, []))
def nd_808_63 : aNd := (140, [(0, .inr (.inl [196])), (1, .inl [(79, 79, 1)]), (2, .inl [(0, 6, 1)]), (3, .inl [(0, 6, 1)]), (4, .inl [(0, 0, 1)]), (5, .inl [(5, 5, 1)])], [], [((196, 6), [(2, 2, 1)]), ((196, 8), [(0, 8, 1)]), ((196, 13), [(0, 0, 1)]), ((200, 5), [(5, 5, 1)])], [], (3, []))
def nd_808_64 : aNd := (140, [(0, .inr (.inl [196])), (1, .inl [(79, 79, 1)]), (2, .inl [(0, 6, 1)]), (3, .inl [(0, 6, 1)]), (4, .inl [(0, 0, 1)]), (5, .inl [(5, 5, 1)])], [], [((196, 6), [(0, 1, 1), (3, 3, 1), (59, 59, 1)]), ((196, 8), [(0, 0, 1), (9, 1000, 1)]), ((196, 13), [(0, 0, 1)]), ((200, 5), [(5, 5, 1)])], [], (3, []))
def nd_808_65 : aNd := (157, [(0, .inr (.inl [196])), (1, .inl [(75, 75, 1)]), (2, .inl [(0, 6, 1)]), (3, .inl [(0, 6, 1)]), (4, .inl [(0, 0, 1)]), (5, .inl [(4, 4, 1)])], [], [((196, 6), [(2, 2, 1)]), ((196, 8), [(0, 8, 1)]), ((196, 13), [(0, 0, 1)]), ((200, 5), [(4, 4, 1)]), ((200, 77), [(1, 99, 1)])], [], (2, []))
def nd_808_66 : aNd := (157, [(0, .inr (.inl [196])), (1, .inl [(75, 75, 1)]), (2, .inl [(0, 6, 1)]), (3, .inl [(0, 6, 1)]), (4, .inl [(0, 0, 1)]), (5, .inl [(4, 4, 1)])], [], [((196, 6), [(0, 1, 1), (3, 3, 1), (59, 59, 1)]), ((196, 8), [(0, 0, 1), (9, 1000, 1)]), ((196, 13), [(0, 0, 1)]), ((200, 5), [(4, 4, 1)]), ((200, 77), [(1, 99, 1)])], [], (2, []))
def nd_808_67 : aNd := (157, [(0, .inr (.inl [196])), (1, .inl [(75, 75, 1)]), (2, .inl [(0, 6, 1)]), (3, .inl [(0, 6, 1)]), (4, .inl [(0, 0, 1)]), (5, .inl [(4, 4, 1)])], [], [((196, 6), [(0, 3, 1), (59, 59, 1)]), ((196, 8), [(0, 1000, 1)]), ((196, 13), [(1, 1, 1)]), ((200, 5), [(4, 4, 1)]), ((200, 77), [(1, 1, 1)])], [], (2, []))
def nd_808_68 : aNd := (174, [(0, .inr (.inl [196])), (1, .inl [(71, 71, 1)]), (2, .inl [(0, 6, 1)]), (3, .inl [(0, 6, 1)]), (4, .inl [(0, 0, 1)]), (5, .inl [(3, 3, 1)])], [], [((196, 6), [(2, 2, 1)]), ((196, 8), [(0, 8, 1)]), ((196, 13), [(0, 0, 1)]), ((200, 5), [(3, 3, 1)]), ((200, 73), [(1, 99, 1)]), ((200, 74), [(1, 15, 1)])], [], (1, []))
def nd_808_69 : aNd := (174, [(0, .inr (.inl [196])), (1, .inl [(71, 71, 1)]), (2, .inl [(0, 6, 1)]), (3, .inl [(0, 6, 1)]), (4, .inl [(0, 0, 1)]), (5, .inl [(3, 3, 1)])], [], [((196, 6), [(0, 1, 1), (3, 3, 1), (59, 59, 1)]), ((196, 8), [(0, 0, 1), (9, 1000, 1)]), ((196, 13), [(0, 0, 1)]), ((200, 5), [(3, 3, 1)]), ((200, 73), [(1, 99, 1)]), ((200, 74), [(1, 15, 1)])], [], (1, []))
def nd_808_70 : aNd := (174, [(0, .inr (.inl [196])), (1, .inl [(71, 71, 1)]), (2, .inl [(0, 6, 1)]), (3, .inl [(0, 6, 1)]), (4, .inl [(0, 0, 1)]), (5, .inl [(3, 3, 1)])], [], [((196, 6), [(0, 3, 1), (59, 59, 1)]), ((196, 8), [(0, 1000, 1)]), ((196, 13), [(1, 1, 1)]), ((200, 5), [(3, 3, 1)]), ((200, 73), [(1, 99, 1)]), ((200, 74), [(1, 1, 1)])], [], (1, []))
def nd_808_71 : aNd := (191, [(0, .inr (.inl [196])), (1, .inl [(67, 67, 1)]), (2, .inl [(0, 6, 1)]), (3, .inl [(0, 6, 1)]), (4, .inl [(0, 0, 1)]), (5, .inl [(2, 2, 1)])], [], [((196, 6), [(2, 2, 1)]), ((196, 8), [(0, 8, 1)]), ((196, 13), [(0, 0, 1)]), ((200, 5), [(3, 3, 1)]), ((200, 69), [(1, 99, 1)]), ((200, 70), [(1, 15, 1)])], [], (0, []))
def nd_808_72 : aNd := (191, [(0, .inr (.inl [196])), (1, .inl [(67, 67, 1)]), (2, .inl [(0, 6, 1)]), (3, .inl [(0, 6, 1)]), (4, .inl [(0, 0, 1)]), (5, .inl [(2, 2, 1)])], [], [((196, 6), [(0, 1, 1), (3, 3, 1), (59, 59, 1)]), ((196, 8), [(0, 0, 1), (9, 1000, 1)]), ((196, 13), [(0, 0, 1)]), ((200, 5), [(3, 3, 1)]), ((200, 69), [(1, 99, 1)]), ((200, 70), [(1, 15, 1)])], [], (0, []))
def nd_808_73 : aNd := (191, [(0, .inr (.inl [196])), (1, .inl [(67, 67, 1)]), (2, .inl [(0, 6, 1)]), (3, .inl [(0, 6, 1)]), (4, .inl [(0, 0, 1)]), (5, .inl [(2, 2, 1)])], [], [((196, 6), [(0, 3, 1), (59, 59, 1)]), ((196, 8), [(0, 1000, 1)]), ((196, 13), [(1, 1, 1)]), ((200, 5), [(2, 2, 1)]), ((200, 69), [(1, 99, 1)]), ((200, 70), [(1, 1, 1)])], [], (0, []))
def nd_808_74 : aNd := (131, [(0, .inr (.inl [196])), (1, .inl [(87, 87, 1)]), (2, .inl [(0, 6, 1)]), (3, .inl [(0, 6, 1)]), (4, .inl [(0, 0, 1)]), (5, .inl [(7, 7, 1)])], [], [((196, 6), [(2, 2, 1)]), ((196, 8), [(0, 8, 1)]), ((196, 13), [(0, 0, 1)]), ((200, 5), [(7, 7, 1)])], [], (4, []))
def nd_808_75 : aNd := (131, [(0, .inr (.inl [196])), (1, .inl [(87, 87, 1)]), (2, .inl [(0, 6, 1)]), (3, .inl [(0, 6, 1)]), (4, .inl [(0, 0, 1)]), (5, .inl [(7, 7, 1)])], [], [((196, 6), [(0, 1, 1), (3, 3, 1), (59, 59, 1)]), ((196, 8), [(0, 0, 1), (9, 1000, 1)]), ((196, 13), [(0, 0, 1)]), ((200, 5), [(7, 7, 1)])], [], (4, []))
def nd_808_76 : aNd := (140, [(0, .inr (.inl [196])), (1, .inl [(83, 83, 1)]), (2, .inl [(0, 6, 1)]), (3, .inl [(0, 6, 1)]), (4, .inl [(0, 0, 1)]), (5, .inl [(6, 6, 1)])], [], [((196, 6), [(2, 2, 1)]), ((196, 8), [(0, 8, 1)]), ((196, 13), [(0, 0, 1)]), ((200, 5), [(6, 6, 1)])], [], (3, []))
def nd_808_77 : aNd := (140, [(0, .inr (.inl [196])), (1, .inl [(83, 83, 1)]), (2, .inl [(0, 6, 1)]), (3, .inl [(0, 6, 1)]), (4, .inl [(0, 0, 1)]), (5, .inl [(6, 6, 1)])], [], [((196, 6), [(0, 1, 1), (3, 3, 1), (59, 59, 1)]), ((196, 8), [(0, 0, 1), (9, 1000, 1)]), ((196, 13), [(0, 0, 1)]), ((200, 5), [(6, 6, 1)])], [], (3, []))
def nd_808_78 : aNd := (157, [(0, .inr (.inl [196])), (1, .inl [(79, 79, 1)]), (2, .inl [(0, 6, 1)]), (3, .inl [(0, 6, 1)]), (4, .inl [(0, 0, 1)]), (5, .inl [(5, 5, 1)])], [], [((196, 6), [(2, 2, 1)]), ((196, 8), [(0, 8, 1)]), ((196, 13), [(0, 0, 1)]), ((200, 5), [(5, 5, 1)]), ((200, 81), [(1, 99, 1)])], [], (2, []))
def nd_808_79 : aNd := (157, [(0, .inr (.inl [196])), (1, .inl [(79, 79, 1)]), (2, .inl [(0, 6, 1)]), (3, .inl [(0, 6, 1)]), (4, .inl [(0, 0, 1)]), (5, .inl [(5, 5, 1)])], [], [((196, 6), [(0, 1, 1), (3, 3, 1), (59, 59, 1)]), ((196, 8), [(0, 0, 1), (9, 1000, 1)]), ((196, 13), [(0, 0, 1)]), ((200, 5), [(5, 5, 1)]), ((200, 81), [(1, 99, 1)])], [], (2, []))
def nd_808_80 : aNd := (157, [(0, .inr (.inl [196])), (1, .inl [(79, 79, 1)]), (2, .inl [(0, 6, 1)]), (3, .inl [(0, 6, 1)]), (4, .inl [(0, 0, 1)]), (5, .inl [(5, 5, 1)])], [], [((196, 6), [(0, 3, 1), (59, 59, 1)]), ((196, 8), [(0, 1000, 1)]), ((196, 13), [(1, 1, 1)]), ((200, 5), [(5, 5, 1)]), ((200, 81), [(1, 1, 1)])], [], (2, []))
def nd_808_81 : aNd := (174, [(0, .inr (.inl [196])), (1, .inl [(75, 75, 1)]), (2, .inl [(0, 6, 1)]), (3, .inl [(0, 6, 1)]), (4, .inl [(0, 0, 1)]), (5, .inl [(4, 4, 1)])], [], [((196, 6), [(2, 2, 1)]), ((196, 8), [(0, 8, 1)]), ((196, 13), [(0, 0, 1)]), ((200, 5), [(4, 4, 1)]), ((200, 77), [(1, 99, 1)]), ((200, 78), [(1, 15, 1)])], [], (1, []))
def nd_808_82 : aNd := (174, [(0, .inr (.inl [196])), (1, .inl [(75, 75, 1)]), (2, .inl [(0, 6, 1)]), (3, .inl [(0, 6, 1)]), (4, .inl [(0, 0, 1)]), (5, .inl [(4, 4, 1)])], [], [((196, 6), [(0, 1, 1), (3, 3, 1), (59, 59, 1)]), ((196, 8), [(0, 0, 1), (9, 1000, 1)]), ((196, 13), [(0, 0, 1)]), ((200, 5), [(4, 4, 1)]), ((200, 77), [(1, 99, 1)]), ((200, 78), [(1, 15, 1)])], [], (1, []))
def nd_808_83 : aNd := (174, [(0, .inr (.inl [196])), (1, .inl [(75, 75, 1)]), (2, .inl [(0, 6, 1)]), (3, .inl [(0, 6, 1)]), (4, .inl [(0, 0, 1)]), (5, .inl [(4, 4, 1)])], [], [((196, 6), [(0, 3, 1), (59, 59, 1)]), ((196, 8), [(0, 1000, 1)]), ((196, 13), [(1, 1, 1)]), ((200, 5), [(4, 4, 1)]), ((200, 77), [(1, 99, 1)]), ((200, 78), [(1, 1, 1)])], [], (1, []))
def nd_808_84 : aNd := (191, [(0, .inr (.inl [196])), (1, .inl [(71, 71, 1)]), (2, .inl [(0, 6, 1)]), (3, .inl [(0, 6, 1)]), (4, .inl [(0, 0, 1)]), (5, .inl [(3, 3, 1)])], [], [((196, 6), [(2, 2, 1)]), ((196, 8), [(0, 8, 1)]), ((196, 13), [(0, 0, 1)]), ((200, 5), [(4, 4, 1)]), ((200, 73), [(1, 99, 1)]), ((200, 74), [(1, 15, 1)])], [], (0, []))
def nd_808_85 : aNd := (191, [(0, .inr (.inl [196])), (1, .inl [(71, 71, 1)]), (2, .inl [(0, 6, 1)]), (3, .inl [(0, 6, 1)]), (4, .inl [(0, 0, 1)]), (5, .inl [(3, 3, 1)])], [], [((196, 6), [(0, 1, 1), (3, 3, 1), (59, 59, 1)]), ((196, 8), [(0, 0, 1), (9, 1000, 1)]), ((196, 13), [(0, 0, 1)]), ((200, 5), [(4, 4, 1)]), ((200, 73), [(1, 99, 1)]), ((200, 74), [(1, 15, 1)])], [], (0, []))
def nd_808_86 : aNd := (191, [(0, .inr (.inl [196])), (1, .inl [(71, 71, 1)]), (2, .inl [(0, 6, 1)]), (3, .inl [(0, 6, 1)]), (4, .inl [(0, 0, 1)]), (5, .inl [(3, 3, 1)])], [], [((196, 6), [(0, 3, 1), (59, 59, 1)]), ((196, 8), [(0, 1000, 1)]), ((196, 13), [(1, 1, 1)]), ((200, 5), [(3, 3, 1)]), ((200, 73), [(1, 99, 1)]), ((200, 74), [(1, 1, 1)])], [], (0, []))
def nd_808_87 : aNd := (131, [(0, .inr (.inl [196])), (1, .inl [(91, 91, 1)]), (2, .inl [(0, 6, 1)]), (3, .inl [(0, 6, 1)]), (4, .inl [(0, 0, 1)]), (5, .inl [(8, 8, 1)])], [], [((196, 6), [(2, 2, 1)]), ((196, 8), [(0, 8, 1)]), ((196, 13), [(0, 0, 1)]), ((200, 5), [(8, 8, 1)])], [], (4, []))
def nd_808_88 : aNd := (131, [(0, .inr (.inl [196])), (1, .inl [(91, 91, 1)]), (2, .inl [(0, 6, 1)]), (3, .inl [(0, 6, 1)]), (4, .inl [(0, 0, 1)]), (5, .inl [(8, 8, 1)])], [], [((196, 6), [(0, 1, 1), (3, 3, 1), (59, 59, 1)]), ((196, 8), [(0, 0, 1), (9, 1000, 1)]), ((196, 13), [(0, 0, 1)]), ((200, 5), [(8, 8, 1)])], [], (4, []))
def nd_808_89 : aNd := (140, [(0, .inr (.inl [196])), (1, .inl [(87, 87, 1)]), (2, .inl [(0, 6, 1)]), (3, .inl [(0, 6, 1)]), (4, .inl [(0, 0, 1)]), (5, .inl [(7, 7, 1)])], [], [((196, 6), [(2, 2, 1)]), ((196, 8), [(0, 8, 1)]), ((196, 13), [(0, 0, 1)]), ((200, 5), [(7, 7, 1)])], [], (3, []))
def nd_808_90 : aNd := (140, [(0, .inr (.inl [196])), (1, .inl [(87, 87, 1)]), (2, .inl [(0, 6, 1)]), (3, .inl [(0, 6, 1)]), (4, .inl [(0, 0, 1)]), (5, .inl [(7, 7, 1)])], [], [((196, 6), [(0, 1, 1), (3, 3, 1), (59, 59, 1)]), ((196, 8), [(0, 0, 1), (9, 1000, 1)]), ((196, 13), [(0, 0, 1)]), ((200, 5), [(7, 7, 1)])], [], (3, []))
def nd_808_91 : aNd := (157, [(0, .inr (.inl [196])), (1, .inl [(83, 83, 1)]), (2, .inl [(0, 6, 1)]), (3, .inl [(0, 6, 1)]), (4, .inl [(0, 0, 1)]), (5, .inl [(6, 6, 1)])], [], [((196, 6), [(2, 2, 1)]), ((196, 8), [(0, 8, 1)]), ((196, 13), [(0, 0, 1)]), ((200, 5), [(6, 6, 1)]), ((200, 85), [(1, 99, 1)])], [], (2, []))
def nd_808_92 : aNd := (157, [(0, .inr (.inl [196])), (1, .inl [(83, 83, 1)]), (2, .inl [(0, 6, 1)]), (3, .inl [(0, 6, 1)]), (4, .inl [(0, 0, 1)]), (5, .inl [(6, 6, 1)])], [], [((196, 6), [(0, 1, 1), (3, 3, 1), (59, 59, 1)]), ((196, 8), [(0, 0, 1), (9, 1000, 1)]), ((196, 13), [(0, 0, 1)]), ((200, 5), [(6, 6, 1)]), ((200, 85), [(1, 99, 1)])], [], (2, []))
def nd_808_93 : aNd := (157, [(0, .inr (.inl [196])), (1, .inl [(83, 83, 1)]), (2, .inl [(0, 6, 1)]), (3, .inl [(0, 6, 1)]), (4, .inl [(0, 0, 1)]), (5, .inl [(6, 6, 1)])], [], [((196, 6), [(0, 3, 1), (59, 59, 1)]), ((196, 8), [(0, 1000, 1)]), ((196, 13), [(1, 1, 1)]), ((200, 5), [(6, 6, 1)]), ((200, 85), [(1, 1, 1)])], [], (2, []))
def nd_808_94 : aNd := (174, [(0, .inr (.inl [196])), (1, .inl [(79, 79, 1)]), (2, .inl [(0, 6, 1)]), (3, .inl [(0, 6, 1)]), (4, .inl [(0, 0, 1)]), (5, .inl [(5, 5, 1)])], [], [((196, 6), [(2, 2, 1)]), ((196, 8), [(0, 8, 1)]), ((196, 13), [(0, 0, 1)]), ((200, 5), [(5, 5, 1)]), ((200, 81), [(1, 99, 1)]), ((200, 82), [(1, 15, 1)])], [], (1, []))
def nd_808_95 : aNd := (174, [(0, .inr (.inl [196])), (1, .inl [(79, 79, 1)]), (2, .inl [(0, 6, 1)]), (3, .inl [(0, 6, 1)]), (4, .inl [(0, 0, 1)]), (5, .inl [(5, 5, 1)])], [], [((196, 6), [(0, 1, 1), (3, 3, 1), (59, 59, 1)]), ((196, 8), [(0, 0, 1), (9, 1000, 1)]), ((196, 13), [(0, 0, 1)]), ((200, 5), [(5, 5, 1)]), ((200, 81), [(1, 99, 1)]), ((200, 82), [(1, 15, 1)])], [], (1, []))
def nd_808_96 : aNd := (174, [(0, .inr (.inl [196])), (1, .inl [(79, 79, 1)]), (2, .inl [(0, 6, 1)]), (3, .inl [(0, 6, 1)]), (4, .inl [(0, 0, 1)]), (5, .inl [(5, 5, 1)])], [], [((196, 6), [(0, 3, 1), (59, 59, 1)]), ((196, 8), [(0, 1000, 1)]), ((196, 13), [(1, 1, 1)]), ((200, 5), [(5, 5, 1)]), ((200, 81), [(1, 99, 1)]), ((200, 82), [(1, 1, 1)])], [], (1, []))
def nd_808_97 : aNd := (191, [(0, .inr (.inl [196])), (1, .inl [(75, 75, 1)]), (2, .inl [(0, 6, 1)]), (3, .inl [(0, 6, 1)]), (4, .inl [(0, 0, 1)]), (5, .inl [(4, 4, 1)])], [], [((196, 6), [(2, 2, 1)]), ((196, 8), [(0, 8, 1)]), ((196, 13), [(0, 0, 1)]), ((200, 5), [(5, 5, 1)]), ((200, 77), [(1, 99, 1)]), ((200, 78), [(1, 15, 1)])], [], (0, []))
def nd_808_98 : aNd := (191, [(0, .inr (.inl [196])), (1, .inl [(75, 75, 1)]), (2, .inl [(0, 6, 1)]), (3, .inl [(0, 6, 1)]), (4, .inl [(0, 0, 1)]), (5, .inl [(4, 4, 1)])], [], [((196, 6), [(0, 1, 1), (3, 3, 1), (59, 59, 1)]), ((196, 8), [(0, 0, 1), (9, 1000, 1)]), ((196, 13), [(0, 0, 1)]), ((200, 5), [(5, 5, 1)]), ((200, 77), [(1, 99, 1)]), ((200, 78), [(1, 15, 1)])], [], (0, []))
def nd_808_99 : aNd := (191, [(0, .inr (.inl [196])), (1, .inl [(75, 75, 1)]), (2, .inl [(0, 6, 1)]), (3, .inl [(0, 6, 1)]), (4, .inl [(0, 0, 1)]), (5, .inl [(4, 4, 1)])], [], [((196, 6), [(0, 3, 1), (59, 59, 1)]), ((196, 8), [(0, 1000, 1)]), ((196, 13), [(1, 1, 1)]), ((200, 5), [(4, 4, 1)]), ((200, 77), [(1, 99, 1)]), ((200, 78), [(1, 1, 1)])], [], (0, []))
def nd_808_100 : aNd := (131, [(0, .inr (.inl [196])), (1, .inl [(95, 95, 1)]), (2, .inl [(0, 6, 1)]), (3, .inl [(0, 6, 1)]), (4, .inl [(0, 0, 1)]), (5, .inl [(9, 9, 1)])], [], [((196, 6), [(2, 2, 1)]), ((196, 8), [(0, 8, 1)]), ((196, 13), [(0, 0, 1)]), ((200, 5), [(9, 9, 1)])], [], (4, []))
def nd_808_101 : aNd := (131, [(0, .inr (.inl [196])), (1, .inl [(95, 95, 1)]), (2, .inl [(0, 6, 1)]), (3, .inl [(0, 6, 1)]), (4, .inl [(0, 0, 1)]), (5, .inl [(9, 9, 1)])], [], [((196, 6), [(0, 1, 1), (3, 3, 1), (59, 59, 1)]), ((196, 8), [(0, 0, 1), (9, 1000, 1)]), ((196, 13), [(0, 0, 1)]), ((200, 5), [(9, 9, 1)])], [], (4, []))
def nd_808_102 : aNd := (140, [(0, .inr (.inl [196])), (1, .inl [(91, 91, 1)]), (2, .inl [(0, 6, 1)]), (3, .inl [(0, 6, 1)]), (4, .inl [(0, 0, 1)]), (5, .inl [(8, 8, 1)])], [], [((196, 6), [(2, 2, 1)]), ((196, 8), [(0, 8, 1)]), ((196, 13), [(0, 0, 1)]), ((200, 5), [(8, 8, 1)])], [], (3, []))
def nd_808_103 : aNd := (140, [(0, .inr (.inl [196])), (1, .inl [(91, 91, 1)]), (2, .inl [(0, 6, 1)]), (3, .inl [(0, 6, 1)]), (4, .inl [(0, 0, 1)]), (5, .inl [(8, 8, 1)])], [], [((196, 6), [(0, 1, 1), (3, 3, 1), (59, 59, 1)]), ((196, 8), [(0, 0, 1), (9, 1000, 1)]), ((196, 13), [(0, 0, 1)]), ((200, 5), [(8, 8, 1)])], [], (3, []))
def nd_808_104 : aNd := (157, [(0, .inr (.inl [196])), (1, .inl [(87, 87, 1)]), (2, .inl [(0, 6, 1)]), (3, .inl [(0, 6, 1)]), (4, .inl [(0, 0, 1)]), (5, .inl [(7, 7, 1)])], [], [((196, 6), [(2, 2, 1)]), ((196, 8), [(0, 8, 1)]), ((196, 13), [(0, 0, 1)]), ((200, 5), [(7, 7, 1)]), ((200, 89), [(1, 99, 1)])], [], (2, []))
def nd_808_105 : aNd := (157, [(0, .inr (.inl [196])), (1, .inl [(87, 87, 1)]), (2, .inl [(0, 6, 1)]), (3, .inl [(0, 6, 1)]), (4, .inl [(0, 0, 1)]), (5, .inl [(7, 7, 1)])], [], [((196, 6), [(0, 1, 1), (3, 3, 1), (59, 59, 1)]), ((196, 8), [(0, 0, 1), (9, 1000, 1)]), ((196, 13), [(0, 0, 1)]), ((200, 5), [(7, 7, 1)]), ((200, 89), [(1, 99, 1)])], [], (2, []))
def nd_808_106 : aNd := (157, [(0, .inr (.inl [196])), (1, .inl [(87, 87, 1)]), (2, .inl [(0, 6, 1)]), (3, .inl [(0, 6, 1)]), (4, .inl [(0, 0, 1)]), (5, .inl [(7, 7, 1)])], [], [((196, 6), [(0, 3, 1), (59, 59, 1)]), ((196, 8), [(0, 1000, 1)]), ((196, 13), [(1, 1, 1)]), ((200, 5), [(7, 7, 1)]), ((200, 89), [(1, 1, 1)])], [], (2, []))
def nd_808_107 : aNd := (174, [(0, .inr (.inl [196])), (1, .inl [(83, 83, 1)]), (2, .inl [(0, 6, 1)]), (3, .inl [(0, 6, 1)]), (4, .inl [(0, 0, 1)]), (5, .inl [(6, 6, 1)])], [], [((196, 6), [(2, 2, 1)]), ((196, 8), [(0, 8, 1)]), ((196, 13), [(0, 0, 1)]), ((200, 5), [(6, 6, 1)]), ((200, 85), [(1, 99, 1)]), ((200, 86), [(1, 15, 1)])], [], (1, []))
def nd_808_108 : aNd := (174, [(0, .inr (.inl [196])), (1, .inl [(83, 83, 1)]), (2, .inl [(0, 6, 1)]), (3, .inl [(0, 6, 1)]), (4, .inl [(0, 0, 1)]), (5, .inl [(6, 6, 1)])], [], [((196, 6), [(0, 1, 1), (3, 3, 1), (59, 59, 1)]), ((196, 8), [(0, 0, 1), (9, 1000, 1)]), ((196, 13), [(0, 0, 1)]), ((200, 5), [(6, 6, 1)]), ((200, 85), [(1, 99, 1)]), ((200, 86), [(1, 15, 1)])], [], (1, []))
def nd_808_109 : aNd := (174, [(0, .inr (.inl [196])), (1, .inl [(83, 83, 1)]), (2, .inl [(0, 6, 1)]), (3, .inl [(0, 6, 1)]), (4, .inl [(0, 0, 1)]), (5, .inl [(6, 6, 1)])], [], [((196, 6), [(0, 3, 1), (59, 59, 1)]), ((196, 8), [(0, 1000, 1)]), ((196, 13), [(1, 1, 1)]), ((200, 5), [(6, 6, 1)]), ((200, 85), [(1, 99, 1)]), ((200, 86), [(1, 1, 1)])], [], (1, []))
def nd_808_110 : aNd := (191, [(0, .inr (.inl [196])), (1, .inl [(79, 79, 1)]), (2, .inl [(0, 6, 1)]), (3, .inl [(0, 6, 1)]), (4, .inl [(0, 0, 1)]), (5, .inl [(5, 5, 1)])], [], [((196, 6), [(2, 2, 1)]), ((196, 8), [(0, 8, 1)]), ((196, 13), [(0, 0, 1)]), ((200, 5), [(6, 6, 1)]), ((200, 81), [(1, 99, 1)]), ((200, 82), [(1, 15, 1)])], [], (0, []))
def nd_808_111 : aNd := (191, [(0, .inr (.inl [196])), (1, .inl [(79, 79, 1)]), (2, .inl [(0, 6, 1)]), (3, .inl [(0, 6, 1)]), (4, .inl [(0, 0, 1)]), (5, .inl [(5, 5, 1)])], [], [((196, 6), [(0, 1, 1), (3, 3, 1), (59, 59, 1)]), ((196, 8), [(0, 0, 1), (9, 1000, 1)]), ((196, 13), [(0, 0, 1)]), ((200, 5), [(6, 6, 1)]), ((200, 81), [(1, 99, 1)]), ((200, 82), [(1, 15, 1)])], [], (0, []))
def nd_808_112 : aNd := (191, [(0, .inr (.inl [196])), (1, .inl [(79, 79, 1)]), (2, .inl [(0, 6, 1)]), (3, .inl [(0, 6, 1)]), (4, .inl [(0, 0, 1)]), (5, .inl [(5, 5, 1)])], [], [((196, 6), [(0, 3, 1), (59, 59, 1)]), ((196, 8), [(0, 1000, 1)]), ((196, 13), [(1, 1, 1)]), ((200, 5), [(5, 5, 1)]), ((200, 81), [(1, 99, 1)]), ((200, 82), [(1, 1, 1)])], [], (0, []))
def nd_808_113 : aNd := (131, [(0, .inr (.inl [196])), (1, .inl [(103, 103, 1)]), (2, .inl [(0, 6, 1)]), (3, .inl [(0, 6, 1)]), (4, .inl [(0, 0, 1)]), (5, .inl [(11, 11, 1)])], [], [((196, 6), [(2, 2, 1)]), ((196, 8), [(0, 8, 1)]), ((196, 13), [(0, 0, 1)]), ((200, 5), [(11, 11, 1)])], [], (4, []))
def nd_808_114 : aNd := (131, [(0, .inr (.inl [196])), (1, .inl [(103, 103, 1)]), (2, .inl [(0, 6, 1)]), (3, .inl [(0, 6, 1)]), (4, .inl [(0, 0, 1)]), (5, .inl [(11, 11, 1)])], [], [((196, 6), [(0, 1, 1), (3, 3, 1), (59, 59, 1)]), ((196, 8), [(0, 0, 1), (9, 1000, 1)]), ((196, 13), [(0, 0, 1)]), ((200, 5), [(11, 11, 1)])], [], (4, []))
def nd_808_115 : aNd := (131, [(0, .inr (.inl [196])), (1, .inl [(99, 99, 1)]), (2, .inl [(0, 6, 1)]), (3, .inl [(0, 6, 1)]), (4, .inl [(0, 0, 1)]), (5, .inl [(10, 11, 1)])], [], [((196, 6), [(2, 2, 1)]), ((196, 8), [(0, 8, 1)]), ((196, 13), [(0, 0, 1)]), ((200, 5), [(10, 10, 1)])], [], (4, []))
def nd_808_116 : aNd := (131, [(0, .inr (.inl [196])), (1, .inl [(99, 99, 1)]), (2, .inl [(0, 6, 1)]), (3, .inl [(0, 6, 1)]), (4, .inl [(0, 0, 1)]), (5, .inl [(10, 11, 1)])], [], [((196, 6), [(0, 1, 1), (3, 3, 1), (59, 59, 1)]), ((196, 8), [(0, 0, 1), (9, 1000, 1)]), ((196, 13), [(0, 0, 1)]), ((200, 5), [(10, 10, 1)])], [], (4, []))
def nd_808_117 : aNd := (140, [(0, .inr (.inl [196])), (1, .inl [(95, 95, 1)]), (2, .inl [(0, 6, 1)]), (3, .inl [(0, 6, 1)]), (4, .inl [(0, 0, 1)]), (5, .inl [(9, 9, 1)])], [], [((196, 6), [(2, 2, 1)]), ((196, 8), [(0, 8, 1)]), ((196, 13), [(0, 0, 1)]), ((200, 5), [(9, 9, 1)])], [], (3, []))
def nd_808_118 : aNd := (140, [(0, .inr (.inl [196])), (1, .inl [(95, 95, 1)]), (2, .inl [(0, 6, 1)]), (3, .inl [(0, 6, 1)]), (4, .inl [(0, 0, 1)]), (5, .inl [(9, 9, 1)])], [], [((196, 6), [(0, 1, 1), (3, 3, 1), (59, 59, 1)]), ((196, 8), [(0, 0, 1), (9, 1000, 1)]), ((196, 13), [(0, 0, 1)]), ((200, 5), [(9, 9, 1)])], [], (3, []))
def nd_808_119 : aNd := (157, [(0, .inr (.inl [196])), (1, .inl [(91, 91, 1)]), (2, .inl [(0, 6, 1)]), (3, .inl [(0, 6, 1)]), (4, .inl [(0, 0, 1)]), (5, .inl [(8, 8, 1)])], [], [((196, 6), [(2, 2, 1)]), ((196, 8), [(0, 8, 1)]), ((196, 13), [(0, 0, 1)]), ((200, 5), [(8, 8, 1)]), ((200, 93), [(1, 99, 1)])], [], (2, []))
def nd_808_120 : aNd := (157, [(0, .inr (.inl [196])), (1, .inl [(91, 91, 1)]), (2, .inl [(0, 6, 1)]), (3, .inl [(0, 6, 1)]), (4, .inl [(0, 0, 1)]), (5, .inl [(8, 8, 1)])], [], [((196, 6), [(0, 1, 1), (3, 3, 1), (59, 59, 1)]), ((196, 8), [(0, 0, 1), (9, 1000, 1)]), ((196, 13), [(0, 0, 1)]), ((200, 5), [(8, 8, 1)]), ((200, 93), [(1, 99, 1)])], [], (2, []))
def nd_808_121 : aNd := (157, [(0, .inr (.inl [196])), (1, .inl [(91, 91, 1)]), (2, .inl [(0, 6, 1)]), (3, .inl [(0, 6, 1)]), (4, .inl [(0, 0, 1)]), (5, .inl [(8, 8, 1)])], [], [((196, 6), [(0, 3, 1), (59, 59, 1)]), ((196, 8), [(0, 1000, 1)]), ((196, 13), [(1, 1, 1)]), ((200, 5), [(8, 8, 1)]), ((200, 93), [(1, 1, 1)])], [], (2, []))
def nd_808_122 : aNd := (174, [(0, .inr (.inl [196])), (1, .inl [(87, 87, 1)]), (2, .inl [(0, 6, 1)]), (3, .inl [(0, 6, 1)]), (4, .inl [(0, 0, 1)]), (5, .inl [(7, 7, 1)])], [], [((196, 6), [(2, 2, 1)]), ((196, 8), [(0, 8, 1)]), ((196, 13), [(0, 0, 1)]), ((200, 5), [(7, 7, 1)]), ((200, 89), [(1, 99, 1)]), ((200, 90), [(1, 15, 1)])], [], (1, []))
def nd_808_123 : aNd := (174, [(0, .inr (.inl [196])), (1, .inl [(87, 87, 1)]), (2, .inl [(0, 6, 1)]), (3, .inl [(0, 6, 1)]), (4, .inl [(0, 0, 1)]), (5, .inl [(7, 7, 1)])], [], [((196, 6), [(0, 1, 1), (3, 3, 1), (59, 59, 1)]), ((196, 8), [(0, 0, 1), (9, 1000, 1)]), ((196, 13), [(0, 0, 1)]), ((200, 5), [(7, 7, 1)]), ((200, 89), [(1, 99, 1)]), ((200, 90), [(1, 15, 1)])], [], (1, []))
def nd_808_124 : aNd := (174, [(0, .inr (.inl [196])), (1, .inl [(87, 87, 1)]), (2, .inl [(0, 6, 1)]), (3, .inl [(0, 6, 1)]), (4, .inl [(0, 0, 1)]), (5, .inl [(7, 7, 1)])], [], [((196, 6), [(0, 3, 1), (59, 59, 1)]), ((196, 8), [(0, 1000, 1)]), ((196, 13), [(1, 1, 1)]), ((200, 5), [(7, 7, 1)]), ((200, 89), [(1, 99, 1)]), ((200, 90), [(1, 1, 1)])], [], (1, []))
def nd_808_125 : aNd := (191, [(0, .inr (.inl [196])), (1, .inl [(83, 83, 1)]), (2, .inl [(0, 6, 1)]), (3, .inl [(0, 6, 1)]), (4, .inl [(0, 0, 1)]), (5, .inl [(6, 6, 1)])], [], [((196, 6), [(2, 2, 1)]), ((196, 8), [(0, 8, 1)]), ((196, 13), [(0, 0, 1)]), ((200, 5), [(7, 7, 1)]), ((200, 85), [(1, 99, 1)]), ((200, 86), [(1, 15, 1)])], [], (0, []))
def nd_808_126 : aNd := (191, [(0, .inr (.inl [196])), (1, .inl [(83, 83, 1)]), (2, .inl [(0, 6, 1)]), (3, .inl [(0, 6, 1)]), (4, .inl [(0, 0, 1)]), (5, .inl [(6, 6, 1)])], [], [((196, 6), [(0, 1, 1), (3, 3, 1), (59, 59, 1)]), ((196, 8), [(0, 0, 1), (9, 1000, 1)]), ((196, 13), [(0, 0, 1)]), ((200, 5), [(7, 7, 1)]), ((200, 85), [(1, 99, 1)]), ((200, 86), [(1, 15, 1)])], [], (0, []))
def nd_808_127 : aNd := (191, [(0, .inr (.inl [196])), (1, .inl [(83, 83, 1)]), (2, .inl [(0, 6, 1)]), (3, .inl [(0, 6, 1)]), (4, .inl [(0, 0, 1)]), (5, .inl [(6, 6, 1)])], [], [((196, 6), [(0, 3, 1), (59, 59, 1)]), ((196, 8), [(0, 1000, 1)]), ((196, 13), [(1, 1, 1)]), ((200, 5), [(6, 6, 1)]), ((200, 85), [(1, 99, 1)]), ((200, 86), [(1, 1, 1)])], [], (0, []))
def nd_808_128 : aNd := (140, [(0, .inr (.inl [196])), (1, .inl [(103, 103, 1)]), (2, .inl [(0, 6, 1)]), (3, .inl [(0, 6, 1)]), (4, .inl [(0, 0, 1)]), (5, .inl [(11, 11, 1)])], [], [((196, 6), [(2, 2, 1)]), ((196, 8), [(0, 8, 1)]), ((196, 13), [(0, 0, 1)]), ((200, 5), [(11, 11, 1)])], [], (3, []))
def nd_808_129 : aNd := (140, [(0, .inr (.inl [196])), (1, .inl [(103, 103, 1)]), (2, .inl [(0, 6, 1)]), (3, .inl [(0, 6, 1)]), (4, .inl [(0, 0, 1)]), (5, .inl [(11, 11, 1)])], [], [((196, 6), [(0, 1, 1), (3, 3, 1), (59, 59, 1)]), ((196, 8), [(0, 0, 1), (9, 1000, 1)]), ((196, 13), [(0, 0, 1)]), ((200, 5), [(11, 11, 1)])], [], (3, []))
def nd_808_130 : aNd := (140, [(0, .inr (.inl [196])), (1, .inl [(99, 99, 1)]), (2, .inl [(0, 6, 1)]), (3, .inl [(0, 6, 1)]), (4, .inl [(0, 0, 1)]), (5, .inl [(10, 11, 1)])], [], [((196, 6), [(2, 2, 1)]), ((196, 8), [(0, 8, 1)]), ((196, 13), [(0, 0, 1)]), ((200, 5), [(10, 10, 1)])], [], (3, []))
def nd_808_131 : aNd := (140, [(0, .inr (.inl [196])), (1, .inl [(99, 99, 1)]), (2, .inl [(0, 6, 1)]), (3, .inl [(0, 6, 1)]), (4, .inl [(0, 0, 1)]), (5, .inl [(10, 11, 1)])], [], [((196, 6), [(0, 1, 1), (3, 3, 1), (59, 59, 1)]), ((196, 8), [(0, 0, 1), (9, 1000, 1)]), ((196, 13), [(0, 0, 1)]), ((200, 5), [(10, 10, 1)])], [], (3, []))
def nd_808_132 : aNd := (157, [(0, .inr (.inl [196])), (1, .inl [(95, 95, 1)]), (2, .inl [(0, 6, 1)]), (3, .inl [(0, 6, 1)]), (4, .inl [(0, 0, 1)]), (5, .inl [(9, 9, 1)])], [], [((196, 6), [(2, 2, 1)]), ((196, 8), [(0, 8, 1)]), ((196, 13), [(0, 0, 1)]), ((200, 5), [(9, 9, 1)]), ((200, 97), [(1, 99, 1)])], [], (2, []))
def nd_808_133 : aNd := (157, [(0, .inr (.inl [196])), (1, .inl [(95, 95, 1)]), (2, .inl [(0, 6, 1)]), (3, .inl [(0, 6, 1)]), (4, .inl [(0, 0, 1)]), (5, .inl [(9, 9, 1)])], [], [((196, 6), [(0, 1, 1), (3, 3, 1), (59, 59, 1)]), ((196, 8), [(0, 0, 1), (9, 1000, 1)]), ((196, 13), [(0, 0, 1)]), ((200, 5), [(9, 9, 1)]), ((200, 97), [(1, 99, 1)])], [], (2, []))
def nd_808_134 : aNd := (157, [(0, .inr (.inl [196])), (1, .inl [(95, 95, 1)]), (2, .inl [(0, 6, 1)]), (3, .inl [(0, 6, 1)]), (4, .inl [(0, 0, 1)]), (5, .inl [(9, 9, 1)])], [], [((196, 6), [(0, 3, 1), (59, 59, 1)]), ((196, 8), [(0, 1000, 1)]), ((196, 13), [(1, 1, 1)]), ((200, 5), [(9, 9, 1)]), ((200, 97), [(1, 1, 1)])], [], (2, []))
def nd_808_135 : aNd := (174, [(0, .inr (.inl [196])), (1, .inl [(91, 91, 1)]), (2, .inl [(0, 6, 1)]), (3, .inl [(0, 6, 1)]), (4, .inl [(0, 0, 1)]), (5, .inl [(8, 8, 1)])], [], [((196, 6), [(2, 2, 1)]), ((196, 8), [(0, 8, 1)]), ((196, 13), [(0, 0, 1)]), ((200, 5), [(8, 8, 1)]), ((200, 93), [(1, 99, 1)]), ((200, 94), [(1, 15, 1)])], [], (1, []))
def nd_808_136 : aNd := (174, [(0, .inr (.inl [196])), (1, .inl [(91, 91, 1)]), (2, .inl [(0, 6, 1)]), (3, .inl [(0, 6, 1)]), (4, .inl [(0, 0, 1)]), (5, .inl [(8, 8, 1)])], [], [((196, 6), [(0, 1, 1), (3, 3, 1), (59, 59, 1)]), ((196, 8), [(0, 0, 1), (9, 1000, 1)]), ((196, 13), [(0, 0, 1)]), ((200, 5), [(8, 8, 1)]), ((200, 93), [(1, 99, 1)]), ((200, 94), [(1, 15, 1)])], [], (1, []))
def nd_808_137 : aNd := (174, [(0, .inr (.inl [196])), (1, .inl [(91, 91, 1)]), (2, .inl [(0, 6, 1)]), (3, .inl [(0, 6, 1)]), (4, .inl [(0, 0, 1)]), (5, .inl [(8, 8, 1)])], [], [((196, 6), [(0, 3, 1), (59, 59, 1)]), ((196, 8), [(0, 1000, 1)]), ((196, 13), [(1, 1, 1)]), ((200, 5), [(8, 8, 1)]), ((200, 93), [(1, 99, 1)]), ((200, 94), [(1, 1, 1)])], [], (1, []))
def nd_808_138 : aNd := (191, [(0, .inr (.inl [196])), (1, .inl [(87, 87, 1)]), (2, .inl [(0, 6, 1)]), (3, .inl [(0, 6, 1)]), (4, .inl [(0, 0, 1)]), (5, .inl [(7, 7, 1)])], [], [((196, 6), [(2, 2, 1)]), ((196, 8), [(0, 8, 1)]), ((196, 13), [(0, 0, 1)]), ((200, 5), [(8, 8, 1)]), ((200, 89), [(1, 99, 1)]), ((200, 90), [(1, 15, 1)])], [], (0, []))
def nd_808_139 : aNd := (191, [(0, .inr (.inl [196])), (1, .inl [(87, 87, 1)]), (2, .inl [(0, 6, 1)]), (3, .inl [(0, 6, 1)]), (4, .inl [(0, 0, 1)]), (5, .inl [(7, 7, 1)])], [], [((196, 6), [(0, 1, 1), (3, 3, 1), (59, 59, 1)]), ((196, 8), [(0, 0, 1), (9, 1000, 1)]), ((196, 13), [(0, 0, 1)]), ((200, 5), [(8, 8, 1)]), ((200, 89), [(1, 99, 1)]), ((200, 90), [(1, 15, 1)])], [], (0, []))
def nd_808_140 : aNd := (191, [(0, .inr (.inl [196])), (1, .inl [(87, 87, 1)]), (2, .inl [(0, 6, 1)]), (3, .inl [(0, 6, 1)]), (4, .inl [(0, 0, 1)]), (5, .inl [(7, 7, 1)])], [], [((196, 6), [(0, 3, 1), (59, 59, 1)]), ((196, 8), [(0, 1000, 1)]), ((196, 13), [(1, 1, 1)]), ((200, 5), [(7, 7, 1)]), ((200, 89), [(1, 99, 1)]), ((200, 90), [(1, 1, 1)])], [], (0, []))
def nd_808_141 : aNd := (157, [(0, .inr (.inl [196])), (1, .inl [(103, 103, 1)]), (2, .inl [(0, 6, 1)]), (3, .inl [(0, 6, 1)]), (4, .inl [(0, 0, 1)]), (5, .inl [(11, 11, 1)])], [], [((196, 6), [(2, 2, 1)]), ((196, 8), [(0, 8, 1)]), ((196, 13), [(0, 0, 1)]), ((200, 5), [(11, 11, 1)]), ((200, 105), [(1, 99, 1)])], [], (2, []))
def nd_808_142 : aNd := (157, [(0, .inr (.inl [196])), (1, .inl [(103, 103, 1)]), (2, .inl [(0, 6, 1)]), (3, .inl [(0, 6, 1)]), (4, .inl [(0, 0, 1)]), (5, .inl [(11, 11, 1)])], [], [((196, 6), [(0, 1, 1), (3, 3, 1), (59, 59, 1)]), ((196, 8), [(0, 0, 1), (9, 1000, 1)]), ((196, 13), [(0, 0, 1)]), ((200, 5), [(11, 11, 1)]), ((200, 105), [(1, 99, 1)])], [], (2, []))
def nd_808_143 : aNd := (157, [(0, .inr (.inl [196])), (1, .inl [(103, 103, 1)]), (2, .inl [(0, 6, 1)]), (3, .inl [(0, 6, 1)]), (4, .inl [(0, 0, 1)]), (5, .inl [(11, 11, 1)])], [], [((196, 6), [(0, 3, 1), (59, 59, 1)]), ((196, 8), [(0, 1000, 1)]), ((196, 13), [(1, 1, 1)]), ((200, 5), [(11, 11, 1)]), ((200, 105), [(1, 1, 1)])], [], (2, []))
def nd_808_144 : aNd := (157, [(0, .inr (.inl [196])), (1, .inl [(99, 99, 1)]), (2, .inl [(0, 6, 1)]), (3, .inl [(0, 6, 1)]), (4, .inl [(0, 0, 1)]), (5, .inl [(10, 11, 1)])], [], [((196, 6), [(2, 2, 1)]), ((196, 8), [(0, 8, 1)]), ((196, 13), [(0, 0, 1)]), ((200, 5), [(10, 10, 1)]), ((200, 101), [(1, 99, 1)])], [], (2, []))
def nd_808_145 : aNd := (157, [(0, .inr (.inl [196])), (1, .inl [(99, 99, 1)]), (2, .inl [(0, 6, 1)]), (3, .inl [(0, 6, 1)]), (4, .inl [(0, 0, 1)]), (5, .inl [(10, 11, 1)])], [], [((196, 6), [(0, 1, 1), (3, 3, 1), (59, 59, 1)]), ((196, 8), [(0, 0, 1), (9, 1000, 1)]), ((196, 13), [(0, 0, 1)]), ((200, 5), [(10, 10, 1)]), ((200, 101), [(1, 99, 1)])], [], (2, []))
def nd_808_146 : aNd := (157, [(0, .inr (.inl [196])), (1, .inl [(99, 99, 1)]), (2, .inl [(0, 6, 1)]), (3, .inl [(0, 6, 1)]), (4, .inl [(0, 0, 1)]), (5, .inl [(10, 11, 1)])], [], [((196, 6), [(0, 3, 1), (59, 59, 1)]), ((196, 8), [(0, 1000, 1)]), ((196, 13), [(1, 1, 1)]), ((200, 5), [(10, 10, 1)]), ((200, 101), [(1, 1, 1)])], [], (2, []))
def nd_808_147 : aNd := (174, [(0, .inr (.inl [196])), (1, .inl [(95, 95, 1)]), (2, .inl [(0, 6, 1)]), (3, .inl [(0, 6, 1)]), (4, .inl [(0, 0, 1)]), (5, .inl [(9, 9, 1)])], [], [((196, 6), [(2, 2, 1)]), ((196, 8), [(0, 8, 1)]), ((196, 13), [(0, 0, 1)]), ((200, 5), [(9, 9, 1)]), ((200, 97), [(1, 99, 1)]), ((200, 98), [(1, 15, 1)])], [], (1, []))
def nd_808_148 : aNd := (174, [(0, .inr (.inl [196])), (1, .inl [(95, 95, 1)]), (2, .inl [(0, 6, 1)]), (3, .inl [(0, 6, 1)]), (4, .inl [(0, 0, 1)]), (5, .inl [(9, 9, 1)])], [], [((196, 6), [(0, 1, 1), (3, 3, 1), (59, 59, 1)]), ((196, 8), [(0, 0, 1), (9, 1000, 1)]), ((196, 13), [(0, 0, 1)]), ((200, 5), [(9, 9, 1)]), ((200, 97), [(1, 99, 1)]), ((200, 98), [(1, 15, 1)])], [], (1, []))
def nd_808_149 : aNd := (174, [(0, .inr (.inl [196])), (1, .inl [(95, 95, 1)]), (2, .inl [(0, 6, 1)]), (3, .inl [(0, 6, 1)]), (4, .inl [(0, 0, 1)]), (5, .inl [(9, 9, 1)])], [], [((196, 6), [(0, 3, 1), (59, 59, 1)]), ((196, 8), [(0, 1000, 1)]), ((196, 13), [(1, 1, 1)]), ((200, 5), [(9, 9, 1)]), ((200, 97), [(1, 99, 1)]), ((200, 98), [(1, 1, 1)])], [], (1, []))
def nd_808_150 : aNd := (191, [(0, .inr (.inl [196])), (1, .inl [(91, 91, 1)]), (2, .inl [(0, 6, 1)]), (3, .inl [(0, 6, 1)]), (4, .inl [(0, 0, 1)]), (5, .inl [(8, 8, 1)])], [], [((196, 6), [(2, 2, 1)]), ((196, 8), [(0, 8, 1)]), ((196, 13), [(0, 0, 1)]), ((200, 5), [(9, 9, 1)]), ((200, 93), [(1, 99, 1)]), ((200, 94), [(1, 15, 1)])], [], (0, []))
def nd_808_151 : aNd := (191, [(0, .inr (.inl [196])), (1, .inl [(91, 91, 1)]), (2, .inl [(0, 6, 1)]), (3, .inl [(0, 6, 1)]), (4, .inl [(0, 0, 1)]), (5, .inl [(8, 8, 1)])], [], [((196, 6), [(0, 1, 1), (3, 3, 1), (59, 59, 1)]), ((196, 8), [(0, 0, 1), (9, 1000, 1)]), ((196, 13), [(0, 0, 1)]), ((200, 5), [(9, 9, 1)]), ((200, 93), [(1, 99, 1)]), ((200, 94), [(1, 15, 1)])], [], (0, []))
def nd_808_152 : aNd := (191, [(0, .inr (.inl [196])), (1, .inl [(91, 91, 1)]), (2, .inl [(0, 6, 1)]), (3, .inl [(0, 6, 1)]), (4, .inl [(0, 0, 1)]), (5, .inl [(8, 8, 1)])], [], [((196, 6), [(0, 3, 1), (59, 59, 1)]), ((196, 8), [(0, 1000, 1)]), ((196, 13), [(1, 1, 1)]), ((200, 5), [(8, 8, 1)]), ((200, 93), [(1, 99, 1)]), ((200, 94), [(1, 1, 1)])], [], (0, []))
def nd_808_153 : aNd := (174, [(0, .inr (.inl [196])), (1, .inl [(103, 103, 1)]), (2, .inl [(0, 6, 1)]), (3, .inl [(0, 6, 1)]), (4, .inl [(0, 0, 1)]), (5, .inl [(11, 11, 1)])], [], [((196, 6), [(2, 2, 1)]), ((196, 8), [(0, 8, 1)]), ((196, 13), [(0, 0, 1)]), ((200, 5), [(11, 11, 1)]), ((200, 105), [(1, 99, 1)]), ((200, 106), [(1, 15, 1)])], [], (1, []))
def nd_808_154 : aNd := (174, [(0, .inr (.inl [196])), (1, .inl [(103, 103, 1)]), (2, .inl [(0, 6, 1)]), (3, .inl [(0, 6, 1)]), (4, .inl [(0, 0, 1)]), (5, .inl [(11, 11, 1)])], [], [((196, 6), [(0, 1, 1), (3, 3, 1), (59, 59, 1)]), ((196, 8), [(0, 0, 1), (9, 1000, 1)]), ((196, 13), [(0, 0, 1)]), ((200, 5), [(11, 11, 1)]), ((200, 105), [(1, 99, 1)]), ((200, 106), [(1, 15, 1)])], [], (1, []))
def nd_808_155 : aNd := (174, [(0, .inr (.inl [196])), (1, .inl [(103, 103, 1)]), (2, .inl [(0, 6, 1)]), (3, .inl [(0, 6, 1)]), (4, .inl [(0, 0, 1)]), (5, .inl [(11, 11, 1)])], [], [((196, 6), [(0, 3, 1), (59, 59, 1)]), ((196, 8), [(0, 1000, 1)]), ((196, 13), [(1, 1, 1)]), ((200, 5), [(11, 11, 1)]), ((200, 105), [(1, 99, 1)]), ((200, 106), [(1, 1, 1)])], [], (1, []))
def nd_808_156 : aNd := (174, [(0, .inr (.inl [196])), (1, .inl [(99, 99, 1)]), (2, .inl [(0, 6, 1)]), (3, .inl [(0, 6, 1)]), (4, .inl [(0, 0, 1)]), (5, .inl [(10, 11, 1)])], [], [((196, 6), [(2, 2, 1)]), ((196, 8), [(0, 8, 1)]), ((196, 13), [(0, 0, 1)]), ((200, 5), [(10, 10, 1)]), ((200, 101), [(1, 99, 1)]), ((200, 102), [(1, 15, 1)])], [], (1, []))
def nd_808_157 : aNd := (174, [(0, .inr (.inl [196])), (1, .inl [(99, 99, 1)]), (2, .inl [(0, 6, 1)]), (3, .inl [(0, 6, 1)]), (4, .inl [(0, 0, 1)]), (5, .inl [(10, 11, 1)])], [], [((196, 6), [(0, 1, 1), (3, 3, 1), (59, 59, 1)]), ((196, 8), [(0, 0, 1), (9, 1000, 1)]), ((196, 13), [(0, 0, 1)]), ((200, 5), [(10, 10, 1)]), ((200, 101), [(1, 99, 1)]), ((200, 102), [(1, 15, 1)])], [], (1, []))
def nd_808_158 : aNd := (174, [(0, .inr (.inl [196])), (1, .inl [(99, 99, 1)]), (2, .inl [(0, 6, 1)]), (3, .inl [(0, 6, 1)]), (4, .inl [(0, 0, 1)]), (5, .inl [(10, 11, 1)])], [], [((196, 6), [(0, 3, 1), (59, 59, 1)]), ((196, 8), [(0, 1000, 1)]), ((196, 13), [(1, 1, 1)]), ((200, 5), [(10, 10, 1)]), ((200, 101), [(1, 99, 1)]), ((200, 102), [(1, 1, 1)])], [], (1, []))
def nd_808_159 : aNd := (191, [(0, .inr (.inl [196])), (1, .inl [(95, 95, 1)]), (2, .inl [(0, 6, 1)]), (3, .inl [(0, 6, 1)]), (4, .inl [(0, 0, 1)]), (5, .inl [(9, 9, 1)])], [], [((196, 6), [(2, 2, 1)]), ((196, 8), [(0, 8, 1)]), ((196, 13), [(0, 0, 1)]), ((200, 5), [(10, 10, 1)]), ((200, 97), [(1, 99, 1)]), ((200, 98), [(1, 15, 1)])], [], (0, []))
def nd_808_160 : aNd := (191, [(0, .inr (.inl [196])), (1, .inl [(95, 95, 1)]), (2, .inl [(0, 6, 1)]), (3, .inl [(0, 6, 1)]), (4, .inl [(0, 0, 1)]), (5, .inl [(9, 9, 1)])], [], [((196, 6), [(0, 1, 1), (3, 3, 1), (59, 59, 1)]), ((196, 8), [(0, 0, 1), (9, 1000, 1)]), ((196, 13), [(0, 0, 1)]), ((200, 5), [(10, 10, 1)]), ((200, 97), [(1, 99, 1)]), ((200, 98), [(1, 15, 1)])], [], (0, []))
def nd_808_161 : aNd := (191, [(0, .inr (.inl [196])), (1, .inl [(95, 95, 1)]), (2, .inl [(0, 6, 1)]), (3, .inl [(0, 6, 1)]), (4, .inl [(0, 0, 1)]), (5, .inl [(9, 9, 1)])], [], [((196, 6), [(0, 3, 1), (59, 59, 1)]), ((196, 8), [(0, 1000, 1)]), ((196, 13), [(1, 1, 1)]), ((200, 5), [(9, 9, 1)]), ((200, 97), [(1, 99, 1)]), ((200, 98), [(1, 1, 1)])], [], (0, []))
def nd_808_162 : aNd := (191, [(0, .inr (.inl [196])), (1, .inl [(103, 103, 1)]), (2, .inl [(0, 6, 1)]), (3, .inl [(0, 6, 1)]), (4, .inl [(0, 0, 1)]), (5, .inl [(11, 11, 1)])], [], [((196, 6), [(2, 2, 1)]), ((196, 8), [(0, 8, 1)]), ((196, 13), [(0, 0, 1)]), ((200, 5), [(12, 12, 1)]), ((200, 105), [(1, 99, 1)]), ((200, 106), [(1, 15, 1)])], [], (0, []))
def nd_808_163 : aNd := (191, [(0, .inr (.inl [196])), (1, .inl [(103, 103, 1)]), (2, .inl [(0, 6, 1)]), (3, .inl [(0, 6, 1)]), (4, .inl [(0, 0, 1)]), (5, .inl [(11, 11, 1)])], [], [((196, 6), [(0, 1, 1), (3, 3, 1), (59, 59, 1)]), ((196, 8), [(0, 0, 1), (9, 1000, 1)]), ((196, 13), [(0, 0, 1)]), ((200, 5), [(12, 12, 1)]), ((200, 105), [(1, 99, 1)]), ((200, 106), [(1, 15, 1)])], [], (0, []))
def nd_808_164 : aNd := (191, [(0, .inr (.inl [196])), (1, .inl [(103, 103, 1)]), (2, .inl [(0, 6, 1)]), (3, .inl [(0, 6, 1)]), (4, .inl [(0, 0, 1)]), (5, .inl [(11, 11, 1)])], [], [((196, 6), [(0, 3, 1), (59, 59, 1)]), ((196, 8), [(0, 1000, 1)]), ((196, 13), [(1, 1, 1)]), ((200, 5), [(11, 11, 1)]), ((200, 105), [(1, 99, 1)]), ((200, 106), [(1, 1, 1)])], [], (0, []))
def nd_808_165 : aNd := (191, [(0, .inr (.inl [196])), (1, .inl [(99, 99, 1)]), (2, .inl [(0, 6, 1)]), (3, .inl [(0, 6, 1)]), (4, .inl [(0, 0, 1)]), (5, .inl [(10, 11, 1)])], [], [((196, 6), [(2, 2, 1)]), ((196, 8), [(0, 8, 1)]), ((196, 13), [(0, 0, 1)]), ((200, 5), [(11, 11, 1)]), ((200, 101), [(1, 99, 1)]), ((200, 102), [(1, 15, 1)])], [], (0, []))
def nd_808_166 : aNd := (191, [(0, .inr (.inl [196])), (1, .inl [(99, 99, 1)]), (2, .inl [(0, 6, 1)]), (3, .inl [(0, 6, 1)]), (4, .inl [(0, 0, 1)]), (5, .inl [(10, 11, 1)])], [], [((196, 6), [(0, 1, 1), (3, 3, 1), (59, 59, 1)]), ((196, 8), [(0, 0, 1), (9, 1000, 1)]), ((196, 13), [(0, 0, 1)]), ((200, 5), [(11, 11, 1)]), ((200, 101), [(1, 99, 1)]), ((200, 102), [(1, 15, 1)])], [], (0, []))
def nd_808_167 : aNd := (191, [(0, .inr (.inl [196])), (1, .inl [(99, 99, 1)]), (2, .inl [(0, 6, 1)]), (3, .inl [(0, 6, 1)]), (4, .inl [(0, 0, 1)]), (5, .inl [(10, 11, 1)])], [], [((196, 6), [(0, 3, 1), (59, 59, 1)]), ((196, 8), [(0, 1000, 1)]), ((196, 13), [(1, 1, 1)]), ((200, 5), [(10, 10, 1)]), ((200, 101), [(1, 99, 1)]), ((200, 102), [(1, 1, 1)])], [], (0, []))
def nd_808 : List aNd := [nd_808_0, nd_808_1, nd_808_2, nd_808_3, nd_808_4, nd_808_5, nd_808_6, nd_808_7, nd_808_8, nd_808_9, nd_808_10, nd_808_11, nd_808_12, nd_808_13, nd_808_14, nd_808_15, nd_808_16, nd_808_17, nd_808_18, nd_808_19, nd_808_20, nd_808_21, nd_808_22, nd_808_23, nd_808_24, nd_808_25, nd_808_26, nd_808_27, nd_808_28, nd_808_29, nd_808_30, nd_808_31, nd_808_32, nd_808_33, nd_808_34, nd_808_35, nd_808_36, nd_808_37, nd_808_38, nd_808_39, nd_808_40, nd_808_41, nd_808_42, nd_808_43, nd_808_44, nd_808_45, nd_808_46, nd_808_47, nd_808_48, nd_808_49, nd_808_50, nd_808_51, nd_808_52, nd_808_53, nd_808_54, nd_808_55, nd_808_56, nd_808_57, nd_808_58, nd_808_59, nd_808_60, nd_808_61, nd_808_62, nd_808_63, nd_808_64, nd_808_65, nd_808_66, nd_808_67, nd_808_68, nd_808_69, nd_808_70, nd_808_71, nd_808_72, nd_808_73, nd_808_74, nd_808_75, nd_808_76, nd_808_77, nd_808_78, nd_808_79, nd_808_80, nd_808_81, nd_808_82, nd_808_83, nd_808_84, nd_808_85, nd_808_86, nd_808_87, nd_808_88, nd_808_89, nd_808_90, nd_808_91, nd_808_92, nd_808_93, nd_808_94, nd_808_95, nd_808_96, nd_808_97, nd_808_98, nd_808_99, nd_808_100, nd_808_101, nd_808_102, nd_808_103, nd_808_104, nd_808_105, nd_808_106, nd_808_107, nd_808_108, nd_808_109, nd_808_110, nd_808_111, nd_808_112, nd_808_113, nd_808_114, nd_808_115, nd_808_116, nd_808_117, nd_808_118, nd_808_119, nd_808_120, nd_808_121, nd_808_122, nd_808_123, nd_808_124, nd_808_125, nd_808_126, nd_808_127, nd_808_128, nd_808_129, nd_808_130, nd_808_131, nd_808_132, nd_808_133, nd_808_134, nd_808_135, nd_808_136, nd_808_137, nd_808_138, nd_808_139, nd_808_140, nd_808_141, nd_808_142, nd_808_143, nd_808_144, nd_808_145, nd_808_146, nd_808_147, nd_808_148, nd_808_149, nd_808_150, nd_808_151, nd_808_152, nd_808_153, nd_808_154, nd_808_155, nd_808_156, nd_808_157, nd_808_158, nd_808_159, nd_808_160, nd_808_161, nd_808_162, nd_808_163, nd_808_164, nd_808_165, nd_808_166, nd_808_167]
set_option maxRecDepth 100000 in
theorem kN_808_0 : aSgk wd ct_808 lk_808 oX12_wayLine [17] 3000 nd_808 nd_808_0 = true := by decide +kernel
set_option maxRecDepth 100000 in
theorem kN_808_1 : aSgk wd ct_808 lk_808 oX12_wayLine [17] 3000 nd_808 nd_808_1 = true := by decide +kernel
set_option maxRecDepth 100000 in
theorem kN_808_2 : aSgk wd ct_808 lk_808 oX12_wayLine [17] 3000 nd_808 nd_808_2 = true := by decide +kernel
set_option maxRecDepth 100000 in
theorem kN_808_3 : aSgk wd ct_808 lk_808 oX12_wayLine [17] 3000 nd_808 nd_808_3 = true := by decide +kernel
set_option maxRecDepth 100000 in
theorem kN_808_4 : aSgk wd ct_808 lk_808 oX12_wayLine [17] 3000 nd_808 nd_808_4 = true := by decide +kernel
set_option maxRecDepth 100000 in
theorem kN_808_5 : aSgk wd ct_808 lk_808 oX12_wayLine [17] 3000 nd_808 nd_808_5 = true := by decide +kernel
set_option maxRecDepth 100000 in
theorem kN_808_6 : aSgk wd ct_808 lk_808 oX12_wayLine [17] 3000 nd_808 nd_808_6 = true := by decide +kernel
set_option maxRecDepth 100000 in
theorem kN_808_7 : aSgk wd ct_808 lk_808 oX12_wayLine [17] 3000 nd_808 nd_808_7 = true := by decide +kernel
set_option maxRecDepth 100000 in
theorem kN_808_8 : aSgk wd ct_808 lk_808 oX12_wayLine [17] 3000 nd_808 nd_808_8 = true := by decide +kernel
set_option maxRecDepth 100000 in
theorem kN_808_9 : aSgk wd ct_808 lk_808 oX12_wayLine [17] 3000 nd_808 nd_808_9 = true := by decide +kernel
set_option maxRecDepth 100000 in
theorem kN_808_10 : aSgk wd ct_808 lk_808 oX12_wayLine [17] 3000 nd_808 nd_808_10 = true := by decide +kernel
set_option maxRecDepth 100000 in
theorem kN_808_11 : aSgk wd ct_808 lk_808 oX12_wayLine [17] 3000 nd_808 nd_808_11 = true := by decide +kernel
set_option maxRecDepth 100000 in
theorem kN_808_12 : aSgk wd ct_808 lk_808 oX12_wayLine [17] 3000 nd_808 nd_808_12 = true := by decide +kernel
set_option maxRecDepth 100000 in
theorem kN_808_13 : aSgk wd ct_808 lk_808 oX12_wayLine [17] 3000 nd_808 nd_808_13 = true := by decide +kernel
set_option maxRecDepth 100000 in
theorem kN_808_14 : aSgk wd ct_808 lk_808 oX12_wayLine [17] 3000 nd_808 nd_808_14 = true := by decide +kernel
set_option maxRecDepth 100000 in
theorem kN_808_15 : aSgk wd ct_808 lk_808 oX12_wayLine [17] 3000 nd_808 nd_808_15 = true := by decide +kernel
set_option maxRecDepth 100000 in
theorem kN_808_16 : aSgk wd ct_808 lk_808 oX12_wayLine [17] 3000 nd_808 nd_808_16 = true := by decide +kernel
set_option maxRecDepth 100000 in
theorem kN_808_17 : aSgk wd ct_808 lk_808 oX12_wayLine [17] 3000 nd_808 nd_808_17 = true := by decide +kernel
set_option maxRecDepth 100000 in
theorem kN_808_18 : aSgk wd ct_808 lk_808 oX12_wayLine [17] 3000 nd_808 nd_808_18 = true := by decide +kernel
set_option maxRecDepth 100000 in
theorem kN_808_19 : aSgk wd ct_808 lk_808 oX12_wayLine [17] 3000 nd_808 nd_808_19 = true := by decide +kernel
set_option maxRecDepth 100000 in
theorem kN_808_20 : aSgk wd ct_808 lk_808 oX12_wayLine [17] 3000 nd_808 nd_808_20 = true := by decide +kernel
set_option maxRecDepth 100000 in
theorem kN_808_21 : aSgk wd ct_808 lk_808 oX12_wayLine [17] 3000 nd_808 nd_808_21 = true := by decide +kernel
set_option maxRecDepth 100000 in
theorem kN_808_22 : aSgk wd ct_808 lk_808 oX12_wayLine [17] 3000 nd_808 nd_808_22 = true := by decide +kernel
set_option maxRecDepth 100000 in
theorem kN_808_23 : aSgk wd ct_808 lk_808 oX12_wayLine [17] 3000 nd_808 nd_808_23 = true := by decide +kernel
set_option maxRecDepth 100000 in
theorem kN_808_24 : aSgk wd ct_808 lk_808 oX12_wayLine [17] 3000 nd_808 nd_808_24 = true := by decide +kernel
set_option maxRecDepth 100000 in
theorem kN_808_25 : aSgk wd ct_808 lk_808 oX12_wayLine [17] 3000 nd_808 nd_808_25 = true := by decide +kernel
set_option maxRecDepth 100000 in
theorem kN_808_26 : aSgk wd ct_808 lk_808 oX12_wayLine [17] 3000 nd_808 nd_808_26 = true := by decide +kernel
set_option maxRecDepth 100000 in
theorem kN_808_27 : aSgk wd ct_808 lk_808 oX12_wayLine [17] 3000 nd_808 nd_808_27 = true := by decide +kernel
set_option maxRecDepth 100000 in
theorem kN_808_28 : aSgk wd ct_808 lk_808 oX12_wayLine [17] 3000 nd_808 nd_808_28 = true := by decide +kernel
set_option maxRecDepth 100000 in
theorem kN_808_29 : aSgk wd ct_808 lk_808 oX12_wayLine [17] 3000 nd_808 nd_808_29 = true := by decide +kernel
set_option maxRecDepth 100000 in
theorem kN_808_30 : aSgk wd ct_808 lk_808 oX12_wayLine [17] 3000 nd_808 nd_808_30 = true := by decide +kernel
set_option maxRecDepth 100000 in
theorem kN_808_31 : aSgk wd ct_808 lk_808 oX12_wayLine [17] 3000 nd_808 nd_808_31 = true := by decide +kernel
set_option maxRecDepth 100000 in
theorem kN_808_32 : aSgk wd ct_808 lk_808 oX12_wayLine [17] 3000 nd_808 nd_808_32 = true := by decide +kernel
set_option maxRecDepth 100000 in
theorem kN_808_33 : aSgk wd ct_808 lk_808 oX12_wayLine [17] 3000 nd_808 nd_808_33 = true := by decide +kernel
set_option maxRecDepth 100000 in
theorem kN_808_34 : aSgk wd ct_808 lk_808 oX12_wayLine [17] 3000 nd_808 nd_808_34 = true := by decide +kernel
set_option maxRecDepth 100000 in
theorem kN_808_35 : aSgk wd ct_808 lk_808 oX12_wayLine [17] 3000 nd_808 nd_808_35 = true := by decide +kernel
set_option maxRecDepth 100000 in
theorem kN_808_36 : aSgk wd ct_808 lk_808 oX12_wayLine [17] 3000 nd_808 nd_808_36 = true := by decide +kernel
set_option maxRecDepth 100000 in
theorem kN_808_37 : aSgk wd ct_808 lk_808 oX12_wayLine [17] 3000 nd_808 nd_808_37 = true := by decide +kernel
set_option maxRecDepth 100000 in
theorem kN_808_38 : aSgk wd ct_808 lk_808 oX12_wayLine [17] 3000 nd_808 nd_808_38 = true := by decide +kernel
set_option maxRecDepth 100000 in
theorem kN_808_39 : aSgk wd ct_808 lk_808 oX12_wayLine [17] 3000 nd_808 nd_808_39 = true := by decide +kernel
set_option maxRecDepth 100000 in
theorem kN_808_40 : aSgk wd ct_808 lk_808 oX12_wayLine [17] 3000 nd_808 nd_808_40 = true := by decide +kernel
set_option maxRecDepth 100000 in
theorem kN_808_41 : aSgk wd ct_808 lk_808 oX12_wayLine [17] 3000 nd_808 nd_808_41 = true := by decide +kernel
set_option maxRecDepth 100000 in
theorem kN_808_42 : aSgk wd ct_808 lk_808 oX12_wayLine [17] 3000 nd_808 nd_808_42 = true := by decide +kernel
set_option maxRecDepth 100000 in
theorem kN_808_43 : aSgk wd ct_808 lk_808 oX12_wayLine [17] 3000 nd_808 nd_808_43 = true := by decide +kernel
set_option maxRecDepth 100000 in
theorem kN_808_44 : aSgk wd ct_808 lk_808 oX12_wayLine [17] 3000 nd_808 nd_808_44 = true := by decide +kernel
set_option maxRecDepth 100000 in
theorem kN_808_45 : aSgk wd ct_808 lk_808 oX12_wayLine [17] 3000 nd_808 nd_808_45 = true := by decide +kernel
set_option maxRecDepth 100000 in
theorem kN_808_46 : aSgk wd ct_808 lk_808 oX12_wayLine [17] 3000 nd_808 nd_808_46 = true := by decide +kernel
set_option maxRecDepth 100000 in
theorem kN_808_47 : aSgk wd ct_808 lk_808 oX12_wayLine [17] 3000 nd_808 nd_808_47 = true := by decide +kernel
set_option maxRecDepth 100000 in
theorem kN_808_48 : aSgk wd ct_808 lk_808 oX12_wayLine [17] 3000 nd_808 nd_808_48 = true := by decide +kernel
set_option maxRecDepth 100000 in
theorem kN_808_49 : aSgk wd ct_808 lk_808 oX12_wayLine [17] 3000 nd_808 nd_808_49 = true := by decide +kernel
set_option maxRecDepth 100000 in
theorem kN_808_50 : aSgk wd ct_808 lk_808 oX12_wayLine [17] 3000 nd_808 nd_808_50 = true := by decide +kernel
set_option maxRecDepth 100000 in
theorem kN_808_51 : aSgk wd ct_808 lk_808 oX12_wayLine [17] 3000 nd_808 nd_808_51 = true := by decide +kernel
set_option maxRecDepth 100000 in
theorem kN_808_52 : aSgk wd ct_808 lk_808 oX12_wayLine [17] 3000 nd_808 nd_808_52 = true := by decide +kernel
set_option maxRecDepth 100000 in
theorem kN_808_53 : aSgk wd ct_808 lk_808 oX12_wayLine [17] 3000 nd_808 nd_808_53 = true := by decide +kernel
set_option maxRecDepth 100000 in
theorem kN_808_54 : aSgk wd ct_808 lk_808 oX12_wayLine [17] 3000 nd_808 nd_808_54 = true := by decide +kernel
set_option maxRecDepth 100000 in
theorem kN_808_55 : aSgk wd ct_808 lk_808 oX12_wayLine [17] 3000 nd_808 nd_808_55 = true := by decide +kernel
set_option maxRecDepth 100000 in
theorem kN_808_56 : aSgk wd ct_808 lk_808 oX12_wayLine [17] 3000 nd_808 nd_808_56 = true := by decide +kernel
set_option maxRecDepth 100000 in
theorem kN_808_57 : aSgk wd ct_808 lk_808 oX12_wayLine [17] 3000 nd_808 nd_808_57 = true := by decide +kernel
set_option maxRecDepth 100000 in
theorem kN_808_58 : aSgk wd ct_808 lk_808 oX12_wayLine [17] 3000 nd_808 nd_808_58 = true := by decide +kernel
set_option maxRecDepth 100000 in
theorem kN_808_59 : aSgk wd ct_808 lk_808 oX12_wayLine [17] 3000 nd_808 nd_808_59 = true := by decide +kernel
set_option maxRecDepth 100000 in
theorem kN_808_60 : aSgk wd ct_808 lk_808 oX12_wayLine [17] 3000 nd_808 nd_808_60 = true := by decide +kernel
set_option maxRecDepth 100000 in
theorem kN_808_61 : aSgk wd ct_808 lk_808 oX12_wayLine [17] 3000 nd_808 nd_808_61 = true := by decide +kernel
set_option maxRecDepth 100000 in
theorem kN_808_62 : aSgk wd ct_808 lk_808 oX12_wayLine [17] 3000 nd_808 nd_808_62 = true := by decide +kernel
set_option maxRecDepth 100000 in
theorem kN_808_63 : aSgk wd ct_808 lk_808 oX12_wayLine [17] 3000 nd_808 nd_808_63 = true := by decide +kernel
set_option maxRecDepth 100000 in
theorem kN_808_64 : aSgk wd ct_808 lk_808 oX12_wayLine [17] 3000 nd_808 nd_808_64 = true := by decide +kernel
set_option maxRecDepth 100000 in
theorem kN_808_65 : aSgk wd ct_808 lk_808 oX12_wayLine [17] 3000 nd_808 nd_808_65 = true := by decide +kernel
set_option maxRecDepth 100000 in
theorem kN_808_66 : aSgk wd ct_808 lk_808 oX12_wayLine [17] 3000 nd_808 nd_808_66 = true := by decide +kernel
set_option maxRecDepth 100000 in
theorem kN_808_67 : aSgk wd ct_808 lk_808 oX12_wayLine [17] 3000 nd_808 nd_808_67 = true := by decide +kernel
set_option maxRecDepth 100000 in
theorem kN_808_68 : aSgk wd ct_808 lk_808 oX12_wayLine [17] 3000 nd_808 nd_808_68 = true := by decide +kernel
set_option maxRecDepth 100000 in
theorem kN_808_69 : aSgk wd ct_808 lk_808 oX12_wayLine [17] 3000 nd_808 nd_808_69 = true := by decide +kernel
set_option maxRecDepth 100000 in
theorem kN_808_70 : aSgk wd ct_808 lk_808 oX12_wayLine [17] 3000 nd_808 nd_808_70 = true := by decide +kernel
set_option maxRecDepth 100000 in
theorem kN_808_71 : aSgk wd ct_808 lk_808 oX12_wayLine [17] 3000 nd_808 nd_808_71 = true := by decide +kernel
set_option maxRecDepth 100000 in
theorem kN_808_72 : aSgk wd ct_808 lk_808 oX12_wayLine [17] 3000 nd_808 nd_808_72 = true := by decide +kernel
set_option maxRecDepth 100000 in
theorem kN_808_73 : aSgk wd ct_808 lk_808 oX12_wayLine [17] 3000 nd_808 nd_808_73 = true := by decide +kernel
set_option maxRecDepth 100000 in
theorem kN_808_74 : aSgk wd ct_808 lk_808 oX12_wayLine [17] 3000 nd_808 nd_808_74 = true := by decide +kernel
set_option maxRecDepth 100000 in
theorem kN_808_75 : aSgk wd ct_808 lk_808 oX12_wayLine [17] 3000 nd_808 nd_808_75 = true := by decide +kernel
set_option maxRecDepth 100000 in
theorem kN_808_76 : aSgk wd ct_808 lk_808 oX12_wayLine [17] 3000 nd_808 nd_808_76 = true := by decide +kernel
set_option maxRecDepth 100000 in
theorem kN_808_77 : aSgk wd ct_808 lk_808 oX12_wayLine [17] 3000 nd_808 nd_808_77 = true := by decide +kernel
set_option maxRecDepth 100000 in
theorem kN_808_78 : aSgk wd ct_808 lk_808 oX12_wayLine [17] 3000 nd_808 nd_808_78 = true := by decide +kernel
set_option maxRecDepth 100000 in
theorem kN_808_79 : aSgk wd ct_808 lk_808 oX12_wayLine [17] 3000 nd_808 nd_808_79 = true := by decide +kernel
set_option maxRecDepth 100000 in
theorem kN_808_80 : aSgk wd ct_808 lk_808 oX12_wayLine [17] 3000 nd_808 nd_808_80 = true := by decide +kernel
set_option maxRecDepth 100000 in
theorem kN_808_81 : aSgk wd ct_808 lk_808 oX12_wayLine [17] 3000 nd_808 nd_808_81 = true := by decide +kernel
set_option maxRecDepth 100000 in
theorem kN_808_82 : aSgk wd ct_808 lk_808 oX12_wayLine [17] 3000 nd_808 nd_808_82 = true := by decide +kernel
set_option maxRecDepth 100000 in
theorem kN_808_83 : aSgk wd ct_808 lk_808 oX12_wayLine [17] 3000 nd_808 nd_808_83 = true := by decide +kernel
set_option maxRecDepth 100000 in
theorem kN_808_84 : aSgk wd ct_808 lk_808 oX12_wayLine [17] 3000 nd_808 nd_808_84 = true := by decide +kernel
set_option maxRecDepth 100000 in
theorem kN_808_85 : aSgk wd ct_808 lk_808 oX12_wayLine [17] 3000 nd_808 nd_808_85 = true := by decide +kernel
set_option maxRecDepth 100000 in
theorem kN_808_86 : aSgk wd ct_808 lk_808 oX12_wayLine [17] 3000 nd_808 nd_808_86 = true := by decide +kernel
set_option maxRecDepth 100000 in
theorem kN_808_87 : aSgk wd ct_808 lk_808 oX12_wayLine [17] 3000 nd_808 nd_808_87 = true := by decide +kernel
set_option maxRecDepth 100000 in
theorem kN_808_88 : aSgk wd ct_808 lk_808 oX12_wayLine [17] 3000 nd_808 nd_808_88 = true := by decide +kernel
set_option maxRecDepth 100000 in
theorem kN_808_89 : aSgk wd ct_808 lk_808 oX12_wayLine [17] 3000 nd_808 nd_808_89 = true := by decide +kernel
set_option maxRecDepth 100000 in
theorem kN_808_90 : aSgk wd ct_808 lk_808 oX12_wayLine [17] 3000 nd_808 nd_808_90 = true := by decide +kernel
set_option maxRecDepth 100000 in
theorem kN_808_91 : aSgk wd ct_808 lk_808 oX12_wayLine [17] 3000 nd_808 nd_808_91 = true := by decide +kernel
set_option maxRecDepth 100000 in
theorem kN_808_92 : aSgk wd ct_808 lk_808 oX12_wayLine [17] 3000 nd_808 nd_808_92 = true := by decide +kernel
set_option maxRecDepth 100000 in
theorem kN_808_93 : aSgk wd ct_808 lk_808 oX12_wayLine [17] 3000 nd_808 nd_808_93 = true := by decide +kernel
set_option maxRecDepth 100000 in
theorem kN_808_94 : aSgk wd ct_808 lk_808 oX12_wayLine [17] 3000 nd_808 nd_808_94 = true := by decide +kernel
set_option maxRecDepth 100000 in
theorem kN_808_95 : aSgk wd ct_808 lk_808 oX12_wayLine [17] 3000 nd_808 nd_808_95 = true := by decide +kernel
set_option maxRecDepth 100000 in
theorem kN_808_96 : aSgk wd ct_808 lk_808 oX12_wayLine [17] 3000 nd_808 nd_808_96 = true := by decide +kernel
set_option maxRecDepth 100000 in
theorem kN_808_97 : aSgk wd ct_808 lk_808 oX12_wayLine [17] 3000 nd_808 nd_808_97 = true := by decide +kernel
set_option maxRecDepth 100000 in
theorem kN_808_98 : aSgk wd ct_808 lk_808 oX12_wayLine [17] 3000 nd_808 nd_808_98 = true := by decide +kernel
set_option maxRecDepth 100000 in
theorem kN_808_99 : aSgk wd ct_808 lk_808 oX12_wayLine [17] 3000 nd_808 nd_808_99 = true := by decide +kernel
set_option maxRecDepth 100000 in
theorem kN_808_100 : aSgk wd ct_808 lk_808 oX12_wayLine [17] 3000 nd_808 nd_808_100 = true := by decide +kernel
set_option maxRecDepth 100000 in
theorem kN_808_101 : aSgk wd ct_808 lk_808 oX12_wayLine [17] 3000 nd_808 nd_808_101 = true := by decide +kernel
set_option maxRecDepth 100000 in
theorem kN_808_102 : aSgk wd ct_808 lk_808 oX12_wayLine [17] 3000 nd_808 nd_808_102 = true := by decide +kernel
set_option maxRecDepth 100000 in
theorem kN_808_103 : aSgk wd ct_808 lk_808 oX12_wayLine [17] 3000 nd_808 nd_808_103 = true := by decide +kernel
set_option maxRecDepth 100000 in
theorem kN_808_104 : aSgk wd ct_808 lk_808 oX12_wayLine [17] 3000 nd_808 nd_808_104 = true := by decide +kernel
set_option maxRecDepth 100000 in
theorem kN_808_105 : aSgk wd ct_808 lk_808 oX12_wayLine [17] 3000 nd_808 nd_808_105 = true := by decide +kernel
set_option maxRecDepth 100000 in
theorem kN_808_106 : aSgk wd ct_808 lk_808 oX12_wayLine [17] 3000 nd_808 nd_808_106 = true := by decide +kernel
set_option maxRecDepth 100000 in
theorem kN_808_107 : aSgk wd ct_808 lk_808 oX12_wayLine [17] 3000 nd_808 nd_808_107 = true := by decide +kernel
set_option maxRecDepth 100000 in
theorem kN_808_108 : aSgk wd ct_808 lk_808 oX12_wayLine [17] 3000 nd_808 nd_808_108 = true := by decide +kernel
set_option maxRecDepth 100000 in
theorem kN_808_109 : aSgk wd ct_808 lk_808 oX12_wayLine [17] 3000 nd_808 nd_808_109 = true := by decide +kernel
set_option maxRecDepth 100000 in
theorem kN_808_110 : aSgk wd ct_808 lk_808 oX12_wayLine [17] 3000 nd_808 nd_808_110 = true := by decide +kernel
set_option maxRecDepth 100000 in
theorem kN_808_111 : aSgk wd ct_808 lk_808 oX12_wayLine [17] 3000 nd_808 nd_808_111 = true := by decide +kernel
set_option maxRecDepth 100000 in
theorem kN_808_112 : aSgk wd ct_808 lk_808 oX12_wayLine [17] 3000 nd_808 nd_808_112 = true := by decide +kernel
set_option maxRecDepth 100000 in
theorem kN_808_113 : aSgk wd ct_808 lk_808 oX12_wayLine [17] 3000 nd_808 nd_808_113 = true := by decide +kernel
set_option maxRecDepth 100000 in
theorem kN_808_114 : aSgk wd ct_808 lk_808 oX12_wayLine [17] 3000 nd_808 nd_808_114 = true := by decide +kernel
set_option maxRecDepth 100000 in
theorem kN_808_115 : aSgk wd ct_808 lk_808 oX12_wayLine [17] 3000 nd_808 nd_808_115 = true := by decide +kernel
set_option maxRecDepth 100000 in
theorem kN_808_116 : aSgk wd ct_808 lk_808 oX12_wayLine [17] 3000 nd_808 nd_808_116 = true := by decide +kernel
set_option maxRecDepth 100000 in
theorem kN_808_117 : aSgk wd ct_808 lk_808 oX12_wayLine [17] 3000 nd_808 nd_808_117 = true := by decide +kernel
set_option maxRecDepth 100000 in
theorem kN_808_118 : aSgk wd ct_808 lk_808 oX12_wayLine [17] 3000 nd_808 nd_808_118 = true := by decide +kernel
set_option maxRecDepth 100000 in
theorem kN_808_119 : aSgk wd ct_808 lk_808 oX12_wayLine [17] 3000 nd_808 nd_808_119 = true := by decide +kernel
set_option maxRecDepth 100000 in
theorem kN_808_120 : aSgk wd ct_808 lk_808 oX12_wayLine [17] 3000 nd_808 nd_808_120 = true := by decide +kernel
set_option maxRecDepth 100000 in
theorem kN_808_121 : aSgk wd ct_808 lk_808 oX12_wayLine [17] 3000 nd_808 nd_808_121 = true := by decide +kernel
set_option maxRecDepth 100000 in
theorem kN_808_122 : aSgk wd ct_808 lk_808 oX12_wayLine [17] 3000 nd_808 nd_808_122 = true := by decide +kernel
set_option maxRecDepth 100000 in
theorem kN_808_123 : aSgk wd ct_808 lk_808 oX12_wayLine [17] 3000 nd_808 nd_808_123 = true := by decide +kernel
set_option maxRecDepth 100000 in
theorem kN_808_124 : aSgk wd ct_808 lk_808 oX12_wayLine [17] 3000 nd_808 nd_808_124 = true := by decide +kernel
set_option maxRecDepth 100000 in
theorem kN_808_125 : aSgk wd ct_808 lk_808 oX12_wayLine [17] 3000 nd_808 nd_808_125 = true := by decide +kernel
set_option maxRecDepth 100000 in
theorem kN_808_126 : aSgk wd ct_808 lk_808 oX12_wayLine [17] 3000 nd_808 nd_808_126 = true := by decide +kernel
set_option maxRecDepth 100000 in
theorem kN_808_127 : aSgk wd ct_808 lk_808 oX12_wayLine [17] 3000 nd_808 nd_808_127 = true := by decide +kernel
set_option maxRecDepth 100000 in
theorem kN_808_128 : aSgk wd ct_808 lk_808 oX12_wayLine [17] 3000 nd_808 nd_808_128 = true := by decide +kernel
set_option maxRecDepth 100000 in
theorem kN_808_129 : aSgk wd ct_808 lk_808 oX12_wayLine [17] 3000 nd_808 nd_808_129 = true := by decide +kernel
set_option maxRecDepth 100000 in
theorem kN_808_130 : aSgk wd ct_808 lk_808 oX12_wayLine [17] 3000 nd_808 nd_808_130 = true := by decide +kernel
set_option maxRecDepth 100000 in
theorem kN_808_131 : aSgk wd ct_808 lk_808 oX12_wayLine [17] 3000 nd_808 nd_808_131 = true := by decide +kernel
set_option maxRecDepth 100000 in
theorem kN_808_132 : aSgk wd ct_808 lk_808 oX12_wayLine [17] 3000 nd_808 nd_808_132 = true := by decide +kernel
set_option maxRecDepth 100000 in
theorem kN_808_133 : aSgk wd ct_808 lk_808 oX12_wayLine [17] 3000 nd_808 nd_808_133 = true := by decide +kernel
set_option maxRecDepth 100000 in
theorem kN_808_134 : aSgk wd ct_808 lk_808 oX12_wayLine [17] 3000 nd_808 nd_808_134 = true := by decide +kernel
set_option maxRecDepth 100000 in
theorem kN_808_135 : aSgk wd ct_808 lk_808 oX12_wayLine [17] 3000 nd_808 nd_808_135 = true := by decide +kernel
set_option maxRecDepth 100000 in
theorem kN_808_136 : aSgk wd ct_808 lk_808 oX12_wayLine [17] 3000 nd_808 nd_808_136 = true := by decide +kernel
set_option maxRecDepth 100000 in
theorem kN_808_137 : aSgk wd ct_808 lk_808 oX12_wayLine [17] 3000 nd_808 nd_808_137 = true := by decide +kernel
set_option maxRecDepth 100000 in
theorem kN_808_138 : aSgk wd ct_808 lk_808 oX12_wayLine [17] 3000 nd_808 nd_808_138 = true := by decide +kernel
set_option maxRecDepth 100000 in
theorem kN_808_139 : aSgk wd ct_808 lk_808 oX12_wayLine [17] 3000 nd_808 nd_808_139 = true := by decide +kernel
set_option maxRecDepth 100000 in
theorem kN_808_140 : aSgk wd ct_808 lk_808 oX12_wayLine [17] 3000 nd_808 nd_808_140 = true := by decide +kernel
set_option maxRecDepth 100000 in
theorem kN_808_141 : aSgk wd ct_808 lk_808 oX12_wayLine [17] 3000 nd_808 nd_808_141 = true := by decide +kernel
set_option maxRecDepth 100000 in
theorem kN_808_142 : aSgk wd ct_808 lk_808 oX12_wayLine [17] 3000 nd_808 nd_808_142 = true := by decide +kernel
set_option maxRecDepth 100000 in
theorem kN_808_143 : aSgk wd ct_808 lk_808 oX12_wayLine [17] 3000 nd_808 nd_808_143 = true := by decide +kernel
set_option maxRecDepth 100000 in
theorem kN_808_144 : aSgk wd ct_808 lk_808 oX12_wayLine [17] 3000 nd_808 nd_808_144 = true := by decide +kernel
set_option maxRecDepth 100000 in
theorem kN_808_145 : aSgk wd ct_808 lk_808 oX12_wayLine [17] 3000 nd_808 nd_808_145 = true := by decide +kernel
set_option maxRecDepth 100000 in
theorem kN_808_146 : aSgk wd ct_808 lk_808 oX12_wayLine [17] 3000 nd_808 nd_808_146 = true := by decide +kernel
set_option maxRecDepth 100000 in
theorem kN_808_147 : aSgk wd ct_808 lk_808 oX12_wayLine [17] 3000 nd_808 nd_808_147 = true := by decide +kernel
set_option maxRecDepth 100000 in
theorem kN_808_148 : aSgk wd ct_808 lk_808 oX12_wayLine [17] 3000 nd_808 nd_808_148 = true := by decide +kernel
set_option maxRecDepth 100000 in
theorem kN_808_149 : aSgk wd ct_808 lk_808 oX12_wayLine [17] 3000 nd_808 nd_808_149 = true := by decide +kernel
set_option maxRecDepth 100000 in
theorem kN_808_150 : aSgk wd ct_808 lk_808 oX12_wayLine [17] 3000 nd_808 nd_808_150 = true := by decide +kernel
set_option maxRecDepth 100000 in
theorem kN_808_151 : aSgk wd ct_808 lk_808 oX12_wayLine [17] 3000 nd_808 nd_808_151 = true := by decide +kernel
set_option maxRecDepth 100000 in
theorem kN_808_152 : aSgk wd ct_808 lk_808 oX12_wayLine [17] 3000 nd_808 nd_808_152 = true := by decide +kernel
set_option maxRecDepth 100000 in
theorem kN_808_153 : aSgk wd ct_808 lk_808 oX12_wayLine [17] 3000 nd_808 nd_808_153 = true := by decide +kernel
set_option maxRecDepth 100000 in
theorem kN_808_154 : aSgk wd ct_808 lk_808 oX12_wayLine [17] 3000 nd_808 nd_808_154 = true := by decide +kernel
set_option maxRecDepth 100000 in
theorem kN_808_155 : aSgk wd ct_808 lk_808 oX12_wayLine [17] 3000 nd_808 nd_808_155 = true := by decide +kernel
set_option maxRecDepth 100000 in
theorem kN_808_156 : aSgk wd ct_808 lk_808 oX12_wayLine [17] 3000 nd_808 nd_808_156 = true := by decide +kernel
set_option maxRecDepth 100000 in
theorem kN_808_157 : aSgk wd ct_808 lk_808 oX12_wayLine [17] 3000 nd_808 nd_808_157 = true := by decide +kernel
set_option maxRecDepth 100000 in
theorem kN_808_158 : aSgk wd ct_808 lk_808 oX12_wayLine [17] 3000 nd_808 nd_808_158 = true := by decide +kernel
set_option maxRecDepth 100000 in
theorem kN_808_159 : aSgk wd ct_808 lk_808 oX12_wayLine [17] 3000 nd_808 nd_808_159 = true := by decide +kernel
set_option maxRecDepth 100000 in
theorem kN_808_160 : aSgk wd ct_808 lk_808 oX12_wayLine [17] 3000 nd_808 nd_808_160 = true := by decide +kernel
set_option maxRecDepth 100000 in
theorem kN_808_161 : aSgk wd ct_808 lk_808 oX12_wayLine [17] 3000 nd_808 nd_808_161 = true := by decide +kernel
set_option maxRecDepth 100000 in
theorem kN_808_162 : aSgk wd ct_808 lk_808 oX12_wayLine [17] 3000 nd_808 nd_808_162 = true := by decide +kernel
set_option maxRecDepth 100000 in
theorem kN_808_163 : aSgk wd ct_808 lk_808 oX12_wayLine [17] 3000 nd_808 nd_808_163 = true := by decide +kernel
set_option maxRecDepth 100000 in
theorem kN_808_164 : aSgk wd ct_808 lk_808 oX12_wayLine [17] 3000 nd_808 nd_808_164 = true := by decide +kernel
set_option maxRecDepth 100000 in
theorem kN_808_165 : aSgk wd ct_808 lk_808 oX12_wayLine [17] 3000 nd_808 nd_808_165 = true := by decide +kernel
set_option maxRecDepth 100000 in
theorem kN_808_166 : aSgk wd ct_808 lk_808 oX12_wayLine [17] 3000 nd_808 nd_808_166 = true := by decide +kernel
set_option maxRecDepth 100000 in
theorem kN_808_167 : aSgk wd ct_808 lk_808 oX12_wayLine [17] 3000 nd_808 nd_808_167 = true := by decide +kernel
set_option maxRecDepth 100000 in
theorem kE_808 : (aRkOk (aEnt ct_808 (29, [])) && aRun wd ct_808.2.2.2.2.1 ct_808.2.2.2.2.2.1 ct_808.1 ct_808.2.2.2.2.2.2 lk_808 oX12_wayLine nd_808 ct_808.2.2.2.1 [17] ((aPvl 0 (aPos 0 ct_808.2.1)).map (fun q => aXp q.2)) (29, []) 3000 true (aNs (aEnt ct_808 (29, [])))) = true := by decide +kernel
set_option maxRecDepth 100000 in
theorem S_808 : aSpec wd ct_808 := aChkL_ok (lk := lk_808) (cd := oX12_wayLine) (nds := nd_808) (fk := [17]) (rk := (29, [])) (fuel := 3000) kE_808 (List.forall_mem_cons.mpr ⟨kN_808_0, List.forall_mem_cons.mpr ⟨kN_808_1, List.forall_mem_cons.mpr ⟨kN_808_2, List.forall_mem_cons.mpr ⟨kN_808_3, List.forall_mem_cons.mpr ⟨kN_808_4, List.forall_mem_cons.mpr ⟨kN_808_5, List.forall_mem_cons.mpr ⟨kN_808_6, List.forall_mem_cons.mpr ⟨kN_808_7, List.forall_mem_cons.mpr ⟨kN_808_8, List.forall_mem_cons.mpr ⟨kN_808_9, List.forall_mem_cons.mpr ⟨kN_808_10, List.forall_mem_cons.mpr ⟨kN_808_11, List.forall_mem_cons.mpr ⟨kN_808_12, List.forall_mem_cons.mpr ⟨kN_808_13, List.forall_mem_cons.mpr ⟨kN_808_14, List.forall_mem_cons.mpr ⟨kN_808_15, List.forall_mem_cons.mpr ⟨kN_808_16, List.forall_mem_cons.mpr ⟨kN_808_17, List.forall_mem_cons.mpr ⟨kN_808_18, List.forall_mem_cons.mpr ⟨kN_808_19, List.forall_mem_cons.mpr ⟨kN_808_20, List.forall_mem_cons.mpr ⟨kN_808_21, List.forall_mem_cons.mpr ⟨kN_808_22, List.forall_mem_cons.mpr ⟨kN_808_23, List.forall_mem_cons.mpr ⟨kN_808_24, List.forall_mem_cons.mpr ⟨kN_808_25, List.forall_mem_cons.mpr ⟨kN_808_26, List.forall_mem_cons.mpr ⟨kN_808_27, List.forall_mem_cons.mpr ⟨kN_808_28, List.forall_mem_cons.mpr ⟨kN_808_29, List.forall_mem_cons.mpr ⟨kN_808_30, List.forall_mem_cons.mpr ⟨kN_808_31, List.forall_mem_cons.mpr ⟨kN_808_32, List.forall_mem_cons.mpr ⟨kN_808_33, List.forall_mem_cons.mpr ⟨kN_808_34, List.forall_mem_cons.mpr ⟨kN_808_35, List.forall_mem_cons.mpr ⟨kN_808_36, List.forall_mem_cons.mpr ⟨kN_808_37, List.forall_mem_cons.mpr ⟨kN_808_38, List.forall_mem_cons.mpr ⟨kN_808_39, List.forall_mem_cons.mpr ⟨kN_808_40, List.forall_mem_cons.mpr ⟨kN_808_41, List.forall_mem_cons.mpr ⟨kN_808_42, List.forall_mem_cons.mpr ⟨kN_808_43, List.forall_mem_cons.mpr ⟨kN_808_44, List.forall_mem_cons.mpr ⟨kN_808_45, List.forall_mem_cons.mpr ⟨kN_808_46, List.forall_mem_cons.mpr ⟨kN_808_47, List.forall_mem_cons.mpr ⟨kN_808_48, List.forall_mem_cons.mpr ⟨kN_808_49, List.forall_mem_cons.mpr ⟨kN_808_50, List.forall_mem_cons.mpr ⟨kN_808_51, List.forall_mem_cons.mpr ⟨kN_808_52, List.forall_mem_cons.mpr ⟨kN_808_53, List.forall_mem_cons.mpr ⟨kN_808_54, List.forall_mem_cons.mpr ⟨kN_808_55, List.forall_mem_cons.mpr ⟨kN_808_56, List.forall_mem_cons.mpr ⟨kN_808_57, List.forall_mem_cons.mpr ⟨kN_808_58, List.forall_mem_cons.mpr ⟨kN_808_59, List.forall_mem_cons.mpr ⟨kN_808_60, List.forall_mem_cons.mpr ⟨kN_808_61, List.forall_mem_cons.mpr ⟨kN_808_62, List.forall_mem_cons.mpr ⟨kN_808_63, List.forall_mem_cons.mpr ⟨kN_808_64, List.forall_mem_cons.mpr ⟨kN_808_65, List.forall_mem_cons.mpr ⟨kN_808_66, List.forall_mem_cons.mpr ⟨kN_808_67, List.forall_mem_cons.mpr ⟨kN_808_68, List.forall_mem_cons.mpr ⟨kN_808_69, List.forall_mem_cons.mpr ⟨kN_808_70, List.forall_mem_cons.mpr ⟨kN_808_71, List.forall_mem_cons.mpr ⟨kN_808_72, List.forall_mem_cons.mpr ⟨kN_808_73, List.forall_mem_cons.mpr ⟨kN_808_74, List.forall_mem_cons.mpr ⟨kN_808_75, List.forall_mem_cons.mpr ⟨kN_808_76, List.forall_mem_cons.mpr ⟨kN_808_77, List.forall_mem_cons.mpr ⟨kN_808_78, List.forall_mem_cons.mpr ⟨kN_808_79, List.forall_mem_cons.mpr ⟨kN_808_80, List.forall_mem_cons.mpr ⟨kN_808_81, List.forall_mem_cons.mpr ⟨kN_808_82, List.forall_mem_cons.mpr ⟨kN_808_83, List.forall_mem_cons.mpr ⟨kN_808_84, List.forall_mem_cons.mpr ⟨kN_808_85, List.forall_mem_cons.mpr ⟨kN_808_86, List.forall_mem_cons.mpr ⟨kN_808_87, List.forall_mem_cons.mpr ⟨kN_808_88, List.forall_mem_cons.mpr ⟨kN_808_89, List.forall_mem_cons.mpr ⟨kN_808_90, List.forall_mem_cons.mpr ⟨kN_808_91, List.forall_mem_cons.mpr ⟨kN_808_92, List.forall_mem_cons.mpr ⟨kN_808_93, List.forall_mem_cons.mpr ⟨kN_808_94, List.forall_mem_cons.mpr ⟨kN_808_95, List.forall_mem_cons.mpr ⟨kN_808_96, List.forall_mem_cons.mpr ⟨kN_808_97, List.forall_mem_cons.mpr ⟨kN_808_98, List.forall_mem_cons.mpr ⟨kN_808_99, List.forall_mem_cons.mpr ⟨kN_808_100, List.forall_mem_cons.mpr ⟨kN_808_101, List.forall_mem_cons.mpr ⟨kN_808_102, List.forall_mem_cons.mpr ⟨kN_808_103, List.forall_mem_cons.mpr ⟨kN_808_104, List.forall_mem_cons.mpr ⟨kN_808_105, List.forall_mem_cons.mpr ⟨kN_808_106, List.forall_mem_cons.mpr ⟨kN_808_107, List.forall_mem_cons.mpr ⟨kN_808_108, List.forall_mem_cons.mpr ⟨kN_808_109, List.forall_mem_cons.mpr ⟨kN_808_110, List.forall_mem_cons.mpr ⟨kN_808_111, List.forall_mem_cons.mpr ⟨kN_808_112, List.forall_mem_cons.mpr ⟨kN_808_113, List.forall_mem_cons.mpr ⟨kN_808_114, List.forall_mem_cons.mpr ⟨kN_808_115, List.forall_mem_cons.mpr ⟨kN_808_116, List.forall_mem_cons.mpr ⟨kN_808_117, List.forall_mem_cons.mpr ⟨kN_808_118, List.forall_mem_cons.mpr ⟨kN_808_119, List.forall_mem_cons.mpr ⟨kN_808_120, List.forall_mem_cons.mpr ⟨kN_808_121, List.forall_mem_cons.mpr ⟨kN_808_122, List.forall_mem_cons.mpr ⟨kN_808_123, List.forall_mem_cons.mpr ⟨kN_808_124, List.forall_mem_cons.mpr ⟨kN_808_125, List.forall_mem_cons.mpr ⟨kN_808_126, List.forall_mem_cons.mpr ⟨kN_808_127, List.forall_mem_cons.mpr ⟨kN_808_128, List.forall_mem_cons.mpr ⟨kN_808_129, List.forall_mem_cons.mpr ⟨kN_808_130, List.forall_mem_cons.mpr ⟨kN_808_131, List.forall_mem_cons.mpr ⟨kN_808_132, List.forall_mem_cons.mpr ⟨kN_808_133, List.forall_mem_cons.mpr ⟨kN_808_134, List.forall_mem_cons.mpr ⟨kN_808_135, List.forall_mem_cons.mpr ⟨kN_808_136, List.forall_mem_cons.mpr ⟨kN_808_137, List.forall_mem_cons.mpr ⟨kN_808_138, List.forall_mem_cons.mpr ⟨kN_808_139, List.forall_mem_cons.mpr ⟨kN_808_140, List.forall_mem_cons.mpr ⟨kN_808_141, List.forall_mem_cons.mpr ⟨kN_808_142, List.forall_mem_cons.mpr ⟨kN_808_143, List.forall_mem_cons.mpr ⟨kN_808_144, List.forall_mem_cons.mpr ⟨kN_808_145, List.forall_mem_cons.mpr ⟨kN_808_146, List.forall_mem_cons.mpr ⟨kN_808_147, List.forall_mem_cons.mpr ⟨kN_808_148, List.forall_mem_cons.mpr ⟨kN_808_149, List.forall_mem_cons.mpr ⟨kN_808_150, List.forall_mem_cons.mpr ⟨kN_808_151, List.forall_mem_cons.mpr ⟨kN_808_152, List.forall_mem_cons.mpr ⟨kN_808_153, List.forall_mem_cons.mpr ⟨kN_808_154, List.forall_mem_cons.mpr ⟨kN_808_155, List.forall_mem_cons.mpr ⟨kN_808_156, List.forall_mem_cons.mpr ⟨kN_808_157, List.forall_mem_cons.mpr ⟨kN_808_158, List.forall_mem_cons.mpr ⟨kN_808_159, List.forall_mem_cons.mpr ⟨kN_808_160, List.forall_mem_cons.mpr ⟨kN_808_161, List.forall_mem_cons.mpr ⟨kN_808_162, List.forall_mem_cons.mpr ⟨kN_808_163, List.forall_mem_cons.mpr ⟨kN_808_164, List.forall_mem_cons.mpr ⟨kN_808_165, List.forall_mem_cons.mpr ⟨kN_808_166, List.forall_mem_cons.mpr ⟨kN_808_167, fun _ h => nomatch h⟩⟩⟩⟩⟩⟩⟩⟩⟩⟩⟩⟩⟩⟩⟩⟩⟩⟩⟩⟩⟩⟩⟩⟩⟩⟩⟩⟩⟩⟩⟩⟩⟩⟩⟩⟩⟩⟩⟩⟩⟩⟩⟩⟩⟩⟩⟩⟩⟩⟩⟩⟩⟩⟩⟩⟩⟩⟩⟩⟩⟩⟩⟩⟩⟩⟩⟩⟩⟩⟩⟩⟩⟩⟩⟩⟩⟩⟩⟩⟩⟩⟩⟩⟩⟩⟩⟩⟩⟩⟩⟩⟩⟩⟩⟩⟩⟩⟩⟩⟩⟩⟩⟩⟩⟩⟩⟩⟩⟩⟩⟩⟩⟩⟩⟩⟩⟩⟩⟩⟩⟩⟩⟩⟩⟩⟩⟩⟩⟩⟩⟩⟩⟩⟩⟩⟩⟩⟩⟩⟩⟩⟩⟩⟩⟩⟩⟩⟩⟩⟩⟩⟩⟩⟩⟩⟩⟩⟩⟩⟩⟩⟩⟩⟩⟩⟩⟩⟩) (List.forall_mem_cons.mpr ⟨⟨ml_12_161, S_778⟩, List.forall_mem_cons.mpr ⟨⟨ml_12_121, S_X12_next_0⟩, List.forall_mem_cons.mpr ⟨⟨ml_12_153, S_777⟩, List.forall_mem_cons.mpr ⟨⟨ml_12_153, S_780⟩, List.forall_mem_cons.mpr ⟨⟨ml_12_153, S_779⟩, List.forall_mem_cons.mpr ⟨⟨ml_12_230, S_791⟩, List.forall_mem_cons.mpr ⟨⟨ml_12_230, S_790⟩, List.forall_mem_cons.mpr ⟨⟨ml_12_230, S_789⟩, List.forall_mem_cons.mpr ⟨⟨ml_12_230, S_788⟩, List.forall_mem_cons.mpr ⟨⟨ml_12_230, S_787⟩, List.forall_mem_cons.mpr ⟨⟨ml_12_230, S_786⟩, List.forall_mem_cons.mpr ⟨⟨ml_12_230, S_785⟩, List.forall_mem_cons.mpr ⟨⟨ml_12_230, S_784⟩, List.forall_mem_cons.mpr ⟨⟨ml_12_230, S_783⟩, List.forall_mem_cons.mpr ⟨⟨ml_12_230, S_782⟩, List.forall_mem_cons.mpr ⟨⟨ml_12_213, S_796⟩, List.forall_mem_cons.mpr ⟨⟨ml_12_213, S_803⟩, List.forall_mem_cons.mpr ⟨⟨ml_12_213, S_798⟩, List.forall_mem_cons.mpr ⟨⟨ml_12_213, S_805⟩, List.forall_mem_cons.mpr ⟨⟨ml_12_213, S_807⟩, List.forall_mem_cons.mpr ⟨⟨ml_12_230, S_781⟩, List.forall_mem_cons.mpr ⟨⟨ml_12_127, S_763⟩, fun _ h => nomatch h⟩⟩⟩⟩⟩⟩⟩⟩⟩⟩⟩⟩⟩⟩⟩⟩⟩⟩⟩⟩⟩⟩) odX12_wayLine
