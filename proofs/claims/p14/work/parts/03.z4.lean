set_option maxRecDepth 100000 in
def bX12_newSongs : List Nat := [42, 3, 181, 1, 59, 3, 54, 4, 21, 4, 42, 180, 0, 20, 7, 46, 162, 0, 87, 42, 21, 4, 182, 1, 9, 27, 159, 0, 6, 167, 0, 68, 3, 54, 5, 3, 54, 6, 21, 6, 27, 162, 0, 35, 21, 5, 42, 180, 0, 20, 3, 46, 104, 42, 21, 4, 21, 6, 42, 180, 0, 26, 3, 46, 182, 1, 24, 96, 54, 5, 132, 6, 1, 167, 255, 221, 42, 180, 0, 35, 42, 180, 1, 59, 21, 5, 79, 42, 89, 180, 1, 59, 4, 96, 181, 1, 59, 132, 4, 1, 167, 255, 164, 3, 54, 4, 3, 54, 5, 21, 5, 42, 27, 182, 1, 62, 162, 0, 104, 4, 54, 6, 3, 54, 7, 21, 7, 42, 180, 1, 59, 162, 0, 39, 21, 6, 153, 0, 34, 42, 21, 5, 42, 180, 0, 35, 21, 7, 46, 27, 182, 1, 65, 28, 161, 0, 7, 4, 167, 0, 4, 3, 54, 6, 132, 7, 1, 167, 255, 214, 21, 6, 154, 0, 6, 167, 0, 39, 29, 154, 0, 6, 21, 5, 172, 132, 4, 1, 28, 4, 164, 0, 24, 42, 180, 0, 35, 42, 180, 1, 59, 21, 5, 79, 42, 89, 180, 1, 59, 4, 96, 181, 1, 59, 132, 5, 1, 167, 255, 148, 29, 153, 0, 8, 21, 4, 167, 0, 5, 16, 254, 172]
set_option maxRecDepth 100000 in
theorem bbX12_newSongs : cX12_newSongs.data.toList.map UInt8.toNat = bX12_newSongs := by decide +kernel
set_option maxRecDepth 100000 in
def tX12_newSongs : Lean.RArray dLf := .branch 111 (.branch 53 (.branch 26 (.branch 11 (.branch 5 (.branch 1 (.leaf (0, .aload_n 0, 1)) (.branch 2 (.leaf (1, .iconst 0, 1)) (.leaf (2, .putfield 315, 3)))) (.branch 8 (.branch 6 (.leaf (5, .iconst 0, 1)) (.leaf (6, .istore 4, 2))) (.branch 10 (.leaf (8, .iload 4, 2)) (.leaf (10, .aload_n 0, 1))))) (.branch 19 (.branch 15 (.branch 14 (.leaf (11, .getfield 20, 3)) (.leaf (14, .iconst 4, 1))) (.branch 16 (.leaf (15, .iaload, 1)) (.leaf (16, .if_icmp .ge 87, 3)))) (.branch 22 (.branch 20 (.leaf (19, .aload_n 0, 1)) (.leaf (20, .iload 4, 2))) (.branch 25 (.leaf (22, .invokevirtual 265, 3)) (.leaf (25, .iload_n 1, 1)))))) (.branch 40 (.branch 33 (.branch 29 (.leaf (26, .if_icmp .eq 6, 3)) (.branch 32 (.leaf (29, .goto 68, 3)) (.leaf (32, .iconst 0, 1)))) (.branch 36 (.branch 35 (.leaf (33, .istore 5, 2)) (.leaf (35, .iconst 0, 1))) (.branch 38 (.leaf (36, .istore 6, 2)) (.leaf (38, .iload 6, 2))))) (.branch 47 (.branch 44 (.branch 41 (.leaf (40, .iload_n 1, 1)) (.leaf (41, .if_icmp .ge 35, 3))) (.branch 46 (.leaf (44, .iload 5, 2)) (.leaf (46, .aload_n 0, 1)))) (.branch 51 (.branch 50 (.leaf (47, .getfield 20, 3)) (.leaf (50, .iconst 0, 1))) (.branch 52 (.leaf (51, .iaload, 1)) (.leaf (52, .imul, 1))))))) (.branch 81 (.branch 64 (.branch 58 (.branch 54 (.leaf (53, .aload_n 0, 1)) (.branch 56 (.leaf (54, .iload 4, 2)) (.leaf (56, .iload 6, 2)))) (.branch 62 (.branch 59 (.leaf (58, .aload_n 0, 1)) (.leaf (59, .getfield 26, 3))) (.branch 63 (.leaf (62, .iconst 0, 1)) (.leaf (63, .iaload, 1))))) (.branch 73 (.branch 68 (.branch 67 (.leaf (64, .invokevirtual 280, 3)) (.leaf (67, .iadd, 1))) (.branch 70 (.leaf (68, .istore 5, 2)) (.leaf (70, .iinc 6 1, 3)))) (.branch 77 (.branch 76 (.leaf (73, .goto (-35), 3)) (.leaf (76, .aload_n 0, 1))) (.branch 80 (.leaf (77, .getfield 35, 3)) (.leaf (80, .aload_n 0, 1)))))) (.branch 94 (.branch 88 (.branch 86 (.branch 84 (.leaf (81, .getfield 315, 3)) (.leaf (84, .iload 5, 2))) (.branch 87 (.leaf (86, .iastore, 1)) (.leaf (87, .aload_n 0, 1)))) (.branch 92 (.branch 89 (.leaf (88, .dup, 1)) (.leaf (89, .getfield 315, 3))) (.branch 93 (.leaf (92, .iconst 1, 1)) (.leaf (93, .iadd, 1))))) (.branch 104 (.branch 100 (.branch 97 (.leaf (94, .putfield 315, 3)) (.leaf (97, .iinc 4 1, 3))) (.branch 103 (.leaf (100, .goto (-92), 3)) (.leaf (103, .iconst 0, 1)))) (.branch 107 (.branch 106 (.leaf (104, .istore 4, 2)) (.leaf (106, .iconst 0, 1))) (.branch 109 (.leaf (107, .istore 5, 2)) (.leaf (109, .iload 5, 2)))))))) (.branch 170 (.branch 140 (.branch 123 (.branch 116 (.branch 112 (.leaf (111, .aload_n 0, 1)) (.branch 113 (.leaf (112, .iload_n 1, 1)) (.leaf (113, .invokevirtual 318, 3)))) (.branch 120 (.branch 119 (.leaf (116, .if_icmp .ge 104, 3)) (.leaf (119, .iconst 1, 1))) (.branch 122 (.leaf (120, .istore 6, 2)) (.leaf (122, .iconst 0, 1))))) (.branch 131 (.branch 127 (.branch 125 (.leaf (123, .istore 7, 2)) (.leaf (125, .iload 7, 2))) (.branch 128 (.leaf (127, .aload_n 0, 1)) (.leaf (128, .getfield 315, 3)))) (.branch 136 (.branch 134 (.leaf (131, .if_icmp .ge 39, 3)) (.leaf (134, .iload 6, 2))) (.branch 139 (.leaf (136, .ifCond .eq 34, 3)) (.leaf (139, .aload_n 0, 1)))))) (.branch 153 (.branch 146 (.branch 142 (.leaf (140, .iload 5, 2)) (.branch 143 (.leaf (142, .aload_n 0, 1)) (.leaf (143, .getfield 35, 3)))) (.branch 149 (.branch 148 (.leaf (146, .iload 7, 2)) (.leaf (148, .iaload, 1))) (.branch 150 (.leaf (149, .iload_n 1, 1)) (.leaf (150, .invokevirtual 321, 3))))) (.branch 161 (.branch 157 (.branch 154 (.leaf (153, .iload_n 2, 1)) (.leaf (154, .if_icmp .lt 7, 3))) (.branch 158 (.leaf (157, .iconst 1, 1)) (.leaf (158, .goto 4, 3)))) (.branch 164 (.branch 162 (.leaf (161, .iconst 0, 1)) (.leaf (162, .istore 6, 2))) (.branch 167 (.leaf (164, .iinc 7 1, 3)) (.leaf (167, .goto (-42), 3))))))) (.branch 201 (.branch 185 (.branch 178 (.branch 172 (.leaf (170, .iload 6, 2)) (.branch 175 (.leaf (172, .ifCond .ne 6, 3)) (.leaf (175, .goto 39, 3)))) (.branch 182 (.branch 179 (.leaf (178, .iload_n 3, 1)) (.leaf (179, .ifCond .ne 6, 3))) (.branch 184 (.leaf (182, .iload 5, 2)) (.leaf (184, .ireturn, 1))))) (.branch 193 (.branch 189 (.branch 188 (.leaf (185, .iinc 4 1, 3)) (.leaf (188, .iload_n 2, 1))) (.branch 190 (.leaf (189, .iconst 1, 1)) (.leaf (190, .if_icmp .le 24, 3)))) (.branch 197 (.branch 194 (.leaf (193, .aload_n 0, 1)) (.leaf (194, .getfield 35, 3))) (.branch 198 (.leaf (197, .aload_n 0, 1)) (.leaf (198, .getfield 315, 3)))))) (.branch 214 (.branch 206 (.branch 204 (.branch 203 (.leaf (201, .iload 5, 2)) (.leaf (203, .iastore, 1))) (.branch 205 (.leaf (204, .aload_n 0, 1)) (.leaf (205, .dup, 1)))) (.branch 210 (.branch 209 (.leaf (206, .getfield 315, 3)) (.leaf (209, .iconst 1, 1))) (.branch 211 (.leaf (210, .iadd, 1)) (.leaf (211, .putfield 315, 3))))) (.branch 224 (.branch 220 (.branch 217 (.leaf (214, .iinc 5 1, 3)) (.leaf (217, .goto (-108), 3))) (.branch 221 (.leaf (220, .iload_n 3, 1)) (.leaf (221, .ifCond .eq 8, 3)))) (.branch 229 (.branch 226 (.leaf (224, .iload 4, 2)) (.leaf (226, .goto 5, 3))) (.branch 231 (.leaf (229, .bipush (-2), 2)) (.leaf (231, .ireturn, 1))))))))
noncomputable def oX12_newSongs : List dLf := dFl tX12_newSongs
theorem ofX12_newSongs : dFl tX12_newSongs = oX12_newSongs := rfl
set_option maxRecDepth 100000 in
theorem odX12_newSongs : ∀ q ∈ oX12_newSongs, decode cX12_newSongs q.1 = .ok (q.2.1, q.2.2) := q_go qT_ok bbX12_newSongs oX12_newSongs 0 (by decide +kernel)
set_option maxRecDepth 100000 in
def bX12_songWhy : List Nat := [42, 180, 0, 180, 154, 0, 7, 4, 167, 0, 26, 27, 5, 8, 184, 0, 149, 153, 0, 16, 28, 4, 8, 184, 0, 149, 153, 0, 7, 3, 167, 0, 4, 5, 172]
set_option maxRecDepth 100000 in
theorem bbX12_songWhy : cX12_songWhy.data.toList.map UInt8.toNat = bX12_songWhy := by decide +kernel
set_option maxRecDepth 100000 in
def tX12_songWhy : Lean.RArray dLf := .branch 17 (.branch 8 (.branch 4 (.branch 1 (.leaf (0, .aload_n 0, 1)) (.leaf (1, .getfield 180, 3))) (.branch 7 (.leaf (4, .ifCond .ne 7, 3)) (.leaf (7, .iconst 1, 1)))) (.branch 12 (.branch 11 (.leaf (8, .goto 26, 3)) (.leaf (11, .iload_n 1, 1))) (.branch 13 (.leaf (12, .iconst 2, 1)) (.branch 14 (.leaf (13, .iconst 5, 1)) (.leaf (14, .invokestatic 149, 3)))))) (.branch 26 (.branch 21 (.branch 20 (.leaf (17, .ifCond .eq 16, 3)) (.leaf (20, .iload_n 2, 1))) (.branch 22 (.leaf (21, .iconst 1, 1)) (.branch 23 (.leaf (22, .iconst 5, 1)) (.leaf (23, .invokestatic 149, 3))))) (.branch 30 (.branch 29 (.leaf (26, .ifCond .eq 7, 3)) (.leaf (29, .iconst 0, 1))) (.branch 33 (.leaf (30, .goto 4, 3)) (.branch 34 (.leaf (33, .iconst 2, 1)) (.leaf (34, .ireturn, 1))))))
noncomputable def oX12_songWhy : List dLf := dFl tX12_songWhy
theorem ofX12_songWhy : dFl tX12_songWhy = oX12_songWhy := rfl
set_option maxRecDepth 100000 in
theorem odX12_songWhy : ∀ q ∈ oX12_songWhy, decode cX12_songWhy q.1 = .ok (q.2.1, q.2.2) := q_go qT_ok bbX12_songWhy oX12_songWhy 0 (by decide +kernel)
set_option maxRecDepth 100000 in
def bX12_fresh : List Nat := [42, 182, 0, 167, 42, 27, 28, 182, 1, 68, 62, 29, 153, 0, 11, 42, 29, 182, 0, 170, 167, 0, 10, 42, 27, 28, 3, 182, 1, 71, 172]
set_option maxRecDepth 100000 in
theorem bbX12_fresh : cX12_fresh.data.toList.map UInt8.toNat = bX12_fresh := by decide +kernel
set_option maxRecDepth 100000 in
def tX12_fresh : Lean.RArray dLf := .branch 15 (.branch 6 (.branch 4 (.branch 1 (.leaf (0, .aload_n 0, 1)) (.leaf (1, .invokevirtual 167, 3))) (.branch 5 (.leaf (4, .aload_n 0, 1)) (.leaf (5, .iload_n 1, 1)))) (.branch 10 (.branch 7 (.leaf (6, .iload_n 2, 1)) (.leaf (7, .invokevirtual 324, 3))) (.branch 11 (.leaf (10, .istore_n 3, 1)) (.branch 12 (.leaf (11, .iload_n 3, 1)) (.leaf (12, .ifCond .eq 11, 3)))))) (.branch 24 (.branch 17 (.branch 16 (.leaf (15, .aload_n 0, 1)) (.leaf (16, .iload_n 3, 1))) (.branch 20 (.leaf (17, .invokevirtual 170, 3)) (.branch 23 (.leaf (20, .goto 10, 3)) (.leaf (23, .aload_n 0, 1))))) (.branch 26 (.branch 25 (.leaf (24, .iload_n 1, 1)) (.leaf (25, .iload_n 2, 1))) (.branch 27 (.leaf (26, .iconst 0, 1)) (.branch 30 (.leaf (27, .invokevirtual 327, 3)) (.leaf (30, .ireturn, 1))))))
noncomputable def oX12_fresh : List dLf := dFl tX12_fresh
theorem ofX12_fresh : dFl tX12_fresh = oX12_fresh := rfl
set_option maxRecDepth 100000 in
theorem odX12_fresh : ∀ q ∈ oX12_fresh, decode cX12_fresh q.1 = .ok (q.2.1, q.2.2) := q_go qT_ok bbX12_fresh oX12_fresh 0 (by decide +kernel)
set_option maxRecDepth 100000 in
def bX12_byTurns : List Nat := [42, 182, 0, 167, 42, 27, 28, 182, 1, 68, 62, 29, 153, 0, 11, 42, 29, 182, 0, 170, 167, 0, 10, 42, 27, 28, 4, 182, 1, 71, 172]
set_option maxRecDepth 100000 in
theorem bbX12_byTurns : cX12_byTurns.data.toList.map UInt8.toNat = bX12_byTurns := by decide +kernel
set_option maxRecDepth 100000 in
def tX12_byTurns : Lean.RArray dLf := .branch 15 (.branch 6 (.branch 4 (.branch 1 (.leaf (0, .aload_n 0, 1)) (.leaf (1, .invokevirtual 167, 3))) (.branch 5 (.leaf (4, .aload_n 0, 1)) (.leaf (5, .iload_n 1, 1)))) (.branch 10 (.branch 7 (.leaf (6, .iload_n 2, 1)) (.leaf (7, .invokevirtual 324, 3))) (.branch 11 (.leaf (10, .istore_n 3, 1)) (.branch 12 (.leaf (11, .iload_n 3, 1)) (.leaf (12, .ifCond .eq 11, 3)))))) (.branch 24 (.branch 17 (.branch 16 (.leaf (15, .aload_n 0, 1)) (.leaf (16, .iload_n 3, 1))) (.branch 20 (.leaf (17, .invokevirtual 170, 3)) (.branch 23 (.leaf (20, .goto 10, 3)) (.leaf (23, .aload_n 0, 1))))) (.branch 26 (.branch 25 (.leaf (24, .iload_n 1, 1)) (.leaf (25, .iload_n 2, 1))) (.branch 27 (.leaf (26, .iconst 1, 1)) (.branch 30 (.leaf (27, .invokevirtual 327, 3)) (.leaf (30, .ireturn, 1))))))
noncomputable def oX12_byTurns : List dLf := dFl tX12_byTurns
theorem ofX12_byTurns : dFl tX12_byTurns = oX12_byTurns := rfl
set_option maxRecDepth 100000 in
theorem odX12_byTurns : ∀ q ∈ oX12_byTurns, decode cX12_byTurns q.1 = .ok (q.2.1, q.2.2) := q_go qT_ok bbX12_byTurns oX12_byTurns 0 (by decide +kernel)
set_option maxRecDepth 100000 in
def bX12_heardIn : List Nat := [42, 182, 0, 167, 42, 27, 182, 1, 18, 154, 0, 9, 42, 4, 182, 0, 170, 172, 28, 3, 16, 99, 184, 0, 149, 153, 0, 21, 42, 27, 42, 180, 0, 26, 3, 46, 28, 96, 2, 3, 182, 1, 35, 167, 0, 8, 42, 5, 182, 0, 170, 172]
set_option maxRecDepth 100000 in
theorem bbX12_heardIn : cX12_heardIn.data.toList.map UInt8.toNat = bX12_heardIn := by decide +kernel
set_option maxRecDepth 100000 in
def tX12_heardIn : Lean.RArray dLf := .branch 28 (.branch 13 (.branch 5 (.branch 1 (.leaf (0, .aload_n 0, 1)) (.branch 4 (.leaf (1, .invokevirtual 167, 3)) (.leaf (4, .aload_n 0, 1)))) (.branch 9 (.branch 6 (.leaf (5, .iload_n 1, 1)) (.leaf (6, .invokevirtual 274, 3))) (.branch 12 (.leaf (9, .ifCond .ne 9, 3)) (.leaf (12, .aload_n 0, 1))))) (.branch 19 (.branch 17 (.branch 14 (.leaf (13, .iconst 1, 1)) (.leaf (14, .invokevirtual 170, 3))) (.branch 18 (.leaf (17, .ireturn, 1)) (.leaf (18, .iload_n 2, 1)))) (.branch 22 (.branch 20 (.leaf (19, .iconst 0, 1)) (.leaf (20, .bipush 99, 2))) (.branch 25 (.leaf (22, .invokestatic 149, 3)) (.leaf (25, .ifCond .eq 21, 3)))))) (.branch 38 (.branch 34 (.branch 30 (.branch 29 (.leaf (28, .aload_n 0, 1)) (.leaf (29, .iload_n 1, 1))) (.branch 31 (.leaf (30, .aload_n 0, 1)) (.leaf (31, .getfield 26, 3)))) (.branch 36 (.branch 35 (.leaf (34, .iconst 0, 1)) (.leaf (35, .iaload, 1))) (.branch 37 (.leaf (36, .iload_n 2, 1)) (.leaf (37, .iadd, 1))))) (.branch 46 (.branch 40 (.branch 39 (.leaf (38, .iconst (-1), 1)) (.leaf (39, .iconst 0, 1))) (.branch 43 (.leaf (40, .invokevirtual 291, 3)) (.leaf (43, .goto 8, 3)))) (.branch 48 (.branch 47 (.leaf (46, .aload_n 0, 1)) (.leaf (47, .iconst 2, 1))) (.branch 51 (.leaf (48, .invokevirtual 170, 3)) (.leaf (51, .ireturn, 1))))))
noncomputable def oX12_heardIn : List dLf := dFl tX12_heardIn
theorem ofX12_heardIn : dFl tX12_heardIn = oX12_heardIn := rfl
set_option maxRecDepth 100000 in
theorem odX12_heardIn : ∀ q ∈ oX12_heardIn, decode cX12_heardIn q.1 = .ok (q.2.1, q.2.2) := q_go qT_ok bbX12_heardIn oX12_heardIn 0 (by decide +kernel)
theorem dX12_heardIn_0 : decode cX12_heardIn 0 = .ok (.aload_n 0, 1) := d_by (d_at odX12_heardIn ofX12_heardIn 0) rfl
theorem dX12_heardIn_1 : decode cX12_heardIn 1 = .ok (.invokevirtual 167, 3) := d_by (d_at odX12_heardIn ofX12_heardIn 1) rfl
theorem dX12_heardIn_4 : decode cX12_heardIn 4 = .ok (.aload_n 0, 1) := d_by (d_at odX12_heardIn ofX12_heardIn 4) rfl
theorem dX12_heardIn_5 : decode cX12_heardIn 5 = .ok (.iload_n 1, 1) := d_by (d_at odX12_heardIn ofX12_heardIn 5) rfl
theorem dX12_heardIn_6 : decode cX12_heardIn 6 = .ok (.invokevirtual 274, 3) := d_by (d_at odX12_heardIn ofX12_heardIn 6) rfl
theorem dX12_heardIn_9 : decode cX12_heardIn 9 = .ok (.ifCond .ne 9, 3) := d_by (d_at odX12_heardIn ofX12_heardIn 9) rfl
theorem dX12_heardIn_12 : decode cX12_heardIn 12 = .ok (.aload_n 0, 1) := d_by (d_at odX12_heardIn ofX12_heardIn 12) rfl
theorem dX12_heardIn_13 : decode cX12_heardIn 13 = .ok (.iconst 1, 1) := d_by (d_at odX12_heardIn ofX12_heardIn 13) rfl
theorem dX12_heardIn_14 : decode cX12_heardIn 14 = .ok (.invokevirtual 170, 3) := d_by (d_at odX12_heardIn ofX12_heardIn 14) rfl
theorem dX12_heardIn_17 : decode cX12_heardIn 17 = .ok (.ireturn, 1) := d_by (d_at odX12_heardIn ofX12_heardIn 17) rfl
theorem dX12_heardIn_18 : decode cX12_heardIn 18 = .ok (.iload_n 2, 1) := d_by (d_at odX12_heardIn ofX12_heardIn 18) rfl
theorem dX12_heardIn_19 : decode cX12_heardIn 19 = .ok (.iconst 0, 1) := d_by (d_at odX12_heardIn ofX12_heardIn 19) rfl
theorem dX12_heardIn_20 : decode cX12_heardIn 20 = .ok (.bipush 99, 2) := d_by (d_at odX12_heardIn ofX12_heardIn 20) rfl
theorem dX12_heardIn_22 : decode cX12_heardIn 22 = .ok (.invokestatic 149, 3) := d_by (d_at odX12_heardIn ofX12_heardIn 22) rfl
theorem dX12_heardIn_25 : decode cX12_heardIn 25 = .ok (.ifCond .eq 21, 3) := d_by (d_at odX12_heardIn ofX12_heardIn 25) rfl
theorem dX12_heardIn_28 : decode cX12_heardIn 28 = .ok (.aload_n 0, 1) := d_by (d_at odX12_heardIn ofX12_heardIn 28) rfl
theorem dX12_heardIn_29 : decode cX12_heardIn 29 = .ok (.iload_n 1, 1) := d_by (d_at odX12_heardIn ofX12_heardIn 29) rfl
theorem dX12_heardIn_30 : decode cX12_heardIn 30 = .ok (.aload_n 0, 1) := d_by (d_at odX12_heardIn ofX12_heardIn 30) rfl
theorem dX12_heardIn_31 : decode cX12_heardIn 31 = .ok (.getfield 26, 3) := d_by (d_at odX12_heardIn ofX12_heardIn 31) rfl
theorem dX12_heardIn_34 : decode cX12_heardIn 34 = .ok (.iconst 0, 1) := d_by (d_at odX12_heardIn ofX12_heardIn 34) rfl
theorem dX12_heardIn_35 : decode cX12_heardIn 35 = .ok (.iaload, 1) := d_by (d_at odX12_heardIn ofX12_heardIn 35) rfl
theorem dX12_heardIn_36 : decode cX12_heardIn 36 = .ok (.iload_n 2, 1) := d_by (d_at odX12_heardIn ofX12_heardIn 36) rfl
theorem dX12_heardIn_37 : decode cX12_heardIn 37 = .ok (.iadd, 1) := d_by (d_at odX12_heardIn ofX12_heardIn 37) rfl
theorem dX12_heardIn_38 : decode cX12_heardIn 38 = .ok (.iconst (-1), 1) := d_by (d_at odX12_heardIn ofX12_heardIn 38) rfl
theorem dX12_heardIn_39 : decode cX12_heardIn 39 = .ok (.iconst 0, 1) := d_by (d_at odX12_heardIn ofX12_heardIn 39) rfl
theorem dX12_heardIn_40 : decode cX12_heardIn 40 = .ok (.invokevirtual 291, 3) := d_by (d_at odX12_heardIn ofX12_heardIn 40) rfl
theorem dX12_heardIn_43 : decode cX12_heardIn 43 = .ok (.goto 8, 3) := d_by (d_at odX12_heardIn ofX12_heardIn 43) rfl
theorem dX12_heardIn_46 : decode cX12_heardIn 46 = .ok (.aload_n 0, 1) := d_by (d_at odX12_heardIn ofX12_heardIn 46) rfl
theorem dX12_heardIn_47 : decode cX12_heardIn 47 = .ok (.iconst 2, 1) := d_by (d_at odX12_heardIn ofX12_heardIn 47) rfl
theorem dX12_heardIn_48 : decode cX12_heardIn 48 = .ok (.invokevirtual 170, 3) := d_by (d_at odX12_heardIn ofX12_heardIn 48) rfl
theorem dX12_heardIn_51 : decode cX12_heardIn 51 = .ok (.ireturn, 1) := d_by (d_at odX12_heardIn ofX12_heardIn 51) rfl
set_option maxRecDepth 100000 in
def bX12_hearsItself : List Nat := [3, 62, 3, 54, 4, 21, 4, 42, 27, 182, 1, 9, 162, 0, 45, 29, 42, 27, 21, 4, 28, 182, 1, 24, 42, 180, 0, 20, 16, 10, 16, 7, 27, 104, 96, 4, 96, 21, 4, 96, 46, 160, 0, 7, 3, 167, 0, 4, 4, 96, 62, 132, 4, 1, 167, 255, 207, 29, 42, 180, 0, 20, 4, 46, 163, 0, 7, 4, 167, 0, 4, 3, 54, 4, 3, 54, 5, 21, 5, 42, 180, 0, 20, 7, 46, 162, 0, 111, 21, 5, 27, 159, 0, 99, 42, 21, 5, 182, 1, 9, 42, 27, 182, 1, 9, 159, 0, 6, 167, 0, 82, 3, 54, 6, 3, 54, 7, 21, 7, 42, 27, 182, 1, 9, 162, 0, 48, 21, 6, 42, 21, 5, 21, 7, 28, 182, 1, 24, 42, 180, 0, 20, 16, 10, 16, 7, 27, 104, 96, 4, 96, 21, 7, 96, 46, 160, 0, 7, 3, 167, 0, 4, 4, 96, 54, 6, 132, 7, 1, 167, 255, 204, 21, 4, 153, 0, 13, 29, 21, 6, 162, 0, 7, 4, 167, 0, 4, 3, 54, 4, 132, 5, 1, 167, 255, 140, 21, 4, 172]
set_option maxRecDepth 100000 in
theorem bbX12_hearsItself : cX12_hearsItself.data.toList.map UInt8.toNat = bX12_hearsItself := by decide +kernel
set_option maxRecDepth 100000 in
def tX12_hearsItself : Lean.RArray dLf := .branch 94 (.branch 44 (.branch 21 (.branch 9 (.branch 3 (.branch 1 (.leaf (0, .iconst 0, 1)) (.branch 2 (.leaf (1, .istore_n 3, 1)) (.leaf (2, .iconst 0, 1)))) (.branch 7 (.branch 5 (.leaf (3, .istore 4, 2)) (.leaf (5, .iload 4, 2))) (.branch 8 (.leaf (7, .aload_n 0, 1)) (.leaf (8, .iload_n 1, 1))))) (.branch 16 (.branch 12 (.leaf (9, .invokevirtual 265, 3)) (.branch 15 (.leaf (12, .if_icmp .ge 45, 3)) (.leaf (15, .iload_n 3, 1)))) (.branch 18 (.branch 17 (.leaf (16, .aload_n 0, 1)) (.leaf (17, .iload_n 1, 1))) (.branch 20 (.leaf (18, .iload 4, 2)) (.leaf (20, .iload_n 2, 1)))))) (.branch 34 (.branch 28 (.branch 24 (.leaf (21, .invokevirtual 280, 3)) (.branch 25 (.leaf (24, .aload_n 0, 1)) (.leaf (25, .getfield 20, 3)))) (.branch 32 (.branch 30 (.leaf (28, .bipush 10, 2)) (.leaf (30, .bipush 7, 2))) (.branch 33 (.leaf (32, .iload_n 1, 1)) (.leaf (33, .imul, 1))))) (.branch 37 (.branch 35 (.leaf (34, .iadd, 1)) (.branch 36 (.leaf (35, .iconst 1, 1)) (.leaf (36, .iadd, 1)))) (.branch 40 (.branch 39 (.leaf (37, .iload 4, 2)) (.leaf (39, .iadd, 1))) (.branch 41 (.leaf (40, .iaload, 1)) (.leaf (41, .if_icmp .ne 7, 3))))))) (.branch 68 (.branch 57 (.branch 49 (.branch 45 (.leaf (44, .iconst 0, 1)) (.branch 48 (.leaf (45, .goto 4, 3)) (.leaf (48, .iconst 1, 1)))) (.branch 51 (.branch 50 (.leaf (49, .iadd, 1)) (.leaf (50, .istore_n 3, 1))) (.branch 54 (.leaf (51, .iinc 4 1, 3)) (.leaf (54, .goto (-49), 3))))) (.branch 62 (.branch 58 (.leaf (57, .iload_n 3, 1)) (.branch 59 (.leaf (58, .aload_n 0, 1)) (.leaf (59, .getfield 20, 3)))) (.branch 64 (.branch 63 (.leaf (62, .iconst 1, 1)) (.leaf (63, .iaload, 1))) (.branch 67 (.leaf (64, .if_icmp .gt 7, 3)) (.leaf (67, .iconst 1, 1)))))) (.branch 80 (.branch 74 (.branch 71 (.leaf (68, .goto 4, 3)) (.branch 72 (.leaf (71, .iconst 0, 1)) (.leaf (72, .istore 4, 2)))) (.branch 77 (.branch 75 (.leaf (74, .iconst 0, 1)) (.leaf (75, .istore 5, 2))) (.branch 79 (.leaf (77, .iload 5, 2)) (.leaf (79, .aload_n 0, 1))))) (.branch 85 (.branch 83 (.leaf (80, .getfield 20, 3)) (.branch 84 (.leaf (83, .iconst 4, 1)) (.leaf (84, .iaload, 1)))) (.branch 90 (.branch 88 (.leaf (85, .if_icmp .ge 111, 3)) (.leaf (88, .iload 5, 2))) (.branch 91 (.leaf (90, .iload_n 1, 1)) (.leaf (91, .if_icmp .eq 99, 3)))))))) (.branch 147 (.branch 120 (.branch 108 (.branch 100 (.branch 95 (.leaf (94, .aload_n 0, 1)) (.branch 97 (.leaf (95, .iload 5, 2)) (.leaf (97, .invokevirtual 265, 3)))) (.branch 102 (.branch 101 (.leaf (100, .aload_n 0, 1)) (.leaf (101, .iload_n 1, 1))) (.branch 105 (.leaf (102, .invokevirtual 265, 3)) (.leaf (105, .if_icmp .eq 6, 3))))) (.branch 114 (.branch 111 (.leaf (108, .goto 82, 3)) (.branch 112 (.leaf (111, .iconst 0, 1)) (.leaf (112, .istore 6, 2)))) (.branch 117 (.branch 115 (.leaf (114, .iconst 0, 1)) (.leaf (115, .istore 7, 2))) (.branch 119 (.leaf (117, .iload 7, 2)) (.leaf (119, .aload_n 0, 1)))))) (.branch 134 (.branch 127 (.branch 121 (.leaf (120, .iload_n 1, 1)) (.branch 124 (.leaf (121, .invokevirtual 265, 3)) (.leaf (124, .if_icmp .ge 48, 3)))) (.branch 130 (.branch 129 (.leaf (127, .iload 6, 2)) (.leaf (129, .aload_n 0, 1))) (.branch 132 (.leaf (130, .iload 5, 2)) (.leaf (132, .iload 7, 2))))) (.branch 139 (.branch 135 (.leaf (134, .iload_n 2, 1)) (.branch 138 (.leaf (135, .invokevirtual 280, 3)) (.leaf (138, .aload_n 0, 1)))) (.branch 144 (.branch 142 (.leaf (139, .getfield 20, 3)) (.leaf (142, .bipush 10, 2))) (.branch 146 (.leaf (144, .bipush 7, 2)) (.leaf (146, .iload_n 1, 1))))))) (.branch 169 (.branch 155 (.branch 150 (.branch 148 (.leaf (147, .imul, 1)) (.branch 149 (.leaf (148, .iadd, 1)) (.leaf (149, .iconst 1, 1)))) (.branch 153 (.branch 151 (.leaf (150, .iadd, 1)) (.leaf (151, .iload 7, 2))) (.branch 154 (.leaf (153, .iadd, 1)) (.leaf (154, .iaload, 1))))) (.branch 162 (.branch 158 (.leaf (155, .if_icmp .ne 7, 3)) (.branch 159 (.leaf (158, .iconst 0, 1)) (.leaf (159, .goto 4, 3)))) (.branch 164 (.branch 163 (.leaf (162, .iconst 1, 1)) (.leaf (163, .iadd, 1))) (.branch 166 (.leaf (164, .istore 6, 2)) (.leaf (166, .iinc 7 1, 3)))))) (.branch 184 (.branch 177 (.branch 172 (.leaf (169, .goto (-52), 3)) (.branch 174 (.leaf (172, .iload 4, 2)) (.leaf (174, .ifCond .eq 13, 3)))) (.branch 180 (.branch 178 (.leaf (177, .iload_n 3, 1)) (.leaf (178, .iload 6, 2))) (.branch 183 (.leaf (180, .if_icmp .ge 7, 3)) (.leaf (183, .iconst 1, 1))))) (.branch 190 (.branch 187 (.leaf (184, .goto 4, 3)) (.branch 188 (.leaf (187, .iconst 0, 1)) (.leaf (188, .istore 4, 2)))) (.branch 196 (.branch 193 (.leaf (190, .iinc 5 1, 3)) (.leaf (193, .goto (-116), 3))) (.branch 198 (.leaf (196, .iload 4, 2)) (.leaf (198, .ireturn, 1))))))))
noncomputable def oX12_hearsItself : List dLf := dFl tX12_hearsItself
theorem ofX12_hearsItself : dFl tX12_hearsItself = oX12_hearsItself := rfl
set_option maxRecDepth 100000 in
theorem odX12_hearsItself : ∀ q ∈ oX12_hearsItself, decode cX12_hearsItself q.1 = .ok (q.2.1, q.2.2) := q_go qT_ok bbX12_hearsItself oX12_hearsItself 0 (by decide +kernel)
set_option maxRecDepth 100000 in
def bX12_strange : List Nat := [42, 182, 0, 167, 42, 27, 182, 1, 21, 154, 0, 9, 42, 4, 182, 0, 170, 172, 3, 61, 28, 16, 100, 162, 0, 27, 42, 27, 42, 180, 0, 26, 3, 46, 28, 96, 182, 1, 75, 154, 0, 5, 28, 172, 132, 2, 1, 167, 255, 229, 16, 254, 172]
set_option maxRecDepth 100000 in
theorem bbX12_strange : cX12_strange.data.toList.map UInt8.toNat = bX12_strange := by decide +kernel
set_option maxRecDepth 100000 in
def tX12_strange : Lean.RArray dLf := .branch 26 (.branch 13 (.branch 5 (.branch 1 (.leaf (0, .aload_n 0, 1)) (.branch 4 (.leaf (1, .invokevirtual 167, 3)) (.leaf (4, .aload_n 0, 1)))) (.branch 9 (.branch 6 (.leaf (5, .iload_n 1, 1)) (.leaf (6, .invokevirtual 277, 3))) (.branch 12 (.leaf (9, .ifCond .ne 9, 3)) (.leaf (12, .aload_n 0, 1))))) (.branch 19 (.branch 17 (.branch 14 (.leaf (13, .iconst 1, 1)) (.leaf (14, .invokevirtual 170, 3))) (.branch 18 (.leaf (17, .ireturn, 1)) (.leaf (18, .iconst 0, 1)))) (.branch 21 (.branch 20 (.leaf (19, .istore_n 2, 1)) (.leaf (20, .iload_n 2, 1))) (.branch 23 (.leaf (21, .bipush 100, 2)) (.leaf (23, .if_icmp .ge 27, 3)))))) (.branch 36 (.branch 32 (.branch 28 (.branch 27 (.leaf (26, .aload_n 0, 1)) (.leaf (27, .iload_n 1, 1))) (.branch 29 (.leaf (28, .aload_n 0, 1)) (.leaf (29, .getfield 26, 3)))) (.branch 34 (.branch 33 (.leaf (32, .iconst 0, 1)) (.leaf (33, .iaload, 1))) (.branch 35 (.leaf (34, .iload_n 2, 1)) (.leaf (35, .iadd, 1))))) (.branch 44 (.branch 42 (.branch 39 (.leaf (36, .invokevirtual 331, 3)) (.leaf (39, .ifCond .ne 5, 3))) (.branch 43 (.leaf (42, .iload_n 2, 1)) (.leaf (43, .ireturn, 1)))) (.branch 50 (.branch 47 (.leaf (44, .iinc 2 1, 3)) (.leaf (47, .goto (-27), 3))) (.branch 52 (.leaf (50, .bipush (-2), 2)) (.leaf (52, .ireturn, 1))))))
noncomputable def oX12_strange : List dLf := dFl tX12_strange
theorem ofX12_strange : dFl tX12_strange = oX12_strange := rfl
set_option maxRecDepth 100000 in
theorem odX12_strange : ∀ q ∈ oX12_strange, decode cX12_strange q.1 = .ok (q.2.1, q.2.2) := q_go qT_ok bbX12_strange oX12_strange 0 (by decide +kernel)
set_option maxRecDepth 100000 in
def bX12_dayBy : List Nat := [42, 27, 28, 29, 182, 1, 78, 28, 5, 160, 0, 7, 5, 167, 0, 4, 4, 42, 180, 0, 20, 16, 59, 7, 27, 104, 96, 5, 96, 46, 104, 96, 172]
set_option maxRecDepth 100000 in
theorem bbX12_dayBy : cX12_dayBy.data.toList.map UInt8.toNat = bX12_dayBy := by decide +kernel
set_option maxRecDepth 100000 in
def tX12_dayBy : Lean.RArray dLf := .branch 18 (.branch 8 (.branch 3 (.branch 1 (.leaf (0, .aload_n 0, 1)) (.branch 2 (.leaf (1, .iload_n 1, 1)) (.leaf (2, .iload_n 2, 1)))) (.branch 4 (.leaf (3, .iload_n 3, 1)) (.branch 7 (.leaf (4, .invokevirtual 334, 3)) (.leaf (7, .iload_n 2, 1))))) (.branch 13 (.branch 9 (.leaf (8, .iconst 2, 1)) (.branch 12 (.leaf (9, .if_icmp .ne 7, 3)) (.leaf (12, .iconst 2, 1)))) (.branch 16 (.leaf (13, .goto 4, 3)) (.branch 17 (.leaf (16, .iconst 1, 1)) (.leaf (17, .aload_n 0, 1)))))) (.branch 27 (.branch 24 (.branch 21 (.leaf (18, .getfield 20, 3)) (.branch 23 (.leaf (21, .bipush 59, 2)) (.leaf (23, .iconst 4, 1)))) (.branch 25 (.leaf (24, .iload_n 1, 1)) (.branch 26 (.leaf (25, .imul, 1)) (.leaf (26, .iadd, 1))))) (.branch 30 (.branch 28 (.leaf (27, .iconst 2, 1)) (.branch 29 (.leaf (28, .iadd, 1)) (.leaf (29, .iaload, 1)))) (.branch 31 (.leaf (30, .imul, 1)) (.branch 32 (.leaf (31, .iadd, 1)) (.leaf (32, .ireturn, 1))))))
noncomputable def oX12_dayBy : List dLf := dFl tX12_dayBy
theorem ofX12_dayBy : dFl tX12_dayBy = oX12_dayBy := rfl
set_option maxRecDepth 100000 in
theorem odX12_dayBy : ∀ q ∈ oX12_dayBy, decode cX12_dayBy q.1 = .ok (q.2.1, q.2.2) := q_go qT_ok bbX12_dayBy oX12_dayBy 0 (by decide +kernel)
theorem dX12_dayBy_0 : decode cX12_dayBy 0 = .ok (.aload_n 0, 1) := d_by (d_at odX12_dayBy ofX12_dayBy 0) rfl
theorem dX12_dayBy_1 : decode cX12_dayBy 1 = .ok (.iload_n 1, 1) := d_by (d_at odX12_dayBy ofX12_dayBy 1) rfl
theorem dX12_dayBy_2 : decode cX12_dayBy 2 = .ok (.iload_n 2, 1) := d_by (d_at odX12_dayBy ofX12_dayBy 2) rfl
theorem dX12_dayBy_3 : decode cX12_dayBy 3 = .ok (.iload_n 3, 1) := d_by (d_at odX12_dayBy ofX12_dayBy 3) rfl
theorem dX12_dayBy_4 : decode cX12_dayBy 4 = .ok (.invokevirtual 334, 3) := d_by (d_at odX12_dayBy ofX12_dayBy 4) rfl
theorem dX12_dayBy_7 : decode cX12_dayBy 7 = .ok (.iload_n 2, 1) := d_by (d_at odX12_dayBy ofX12_dayBy 7) rfl
theorem dX12_dayBy_8 : decode cX12_dayBy 8 = .ok (.iconst 2, 1) := d_by (d_at odX12_dayBy ofX12_dayBy 8) rfl
theorem dX12_dayBy_9 : decode cX12_dayBy 9 = .ok (.if_icmp .ne 7, 3) := d_by (d_at odX12_dayBy ofX12_dayBy 9) rfl
theorem dX12_dayBy_12 : decode cX12_dayBy 12 = .ok (.iconst 2, 1) := d_by (d_at odX12_dayBy ofX12_dayBy 12) rfl
theorem dX12_dayBy_13 : decode cX12_dayBy 13 = .ok (.goto 4, 3) := d_by (d_at odX12_dayBy ofX12_dayBy 13) rfl
theorem dX12_dayBy_16 : decode cX12_dayBy 16 = .ok (.iconst 1, 1) := d_by (d_at odX12_dayBy ofX12_dayBy 16) rfl
theorem dX12_dayBy_17 : decode cX12_dayBy 17 = .ok (.aload_n 0, 1) := d_by (d_at odX12_dayBy ofX12_dayBy 17) rfl
theorem dX12_dayBy_18 : decode cX12_dayBy 18 = .ok (.getfield 20, 3) := d_by (d_at odX12_dayBy ofX12_dayBy 18) rfl
theorem dX12_dayBy_21 : decode cX12_dayBy 21 = .ok (.bipush 59, 2) := d_by (d_at odX12_dayBy ofX12_dayBy 21) rfl
theorem dX12_dayBy_23 : decode cX12_dayBy 23 = .ok (.iconst 4, 1) := d_by (d_at odX12_dayBy ofX12_dayBy 23) rfl
theorem dX12_dayBy_24 : decode cX12_dayBy 24 = .ok (.iload_n 1, 1) := d_by (d_at odX12_dayBy ofX12_dayBy 24) rfl
theorem dX12_dayBy_25 : decode cX12_dayBy 25 = .ok (.imul, 1) := d_by (d_at odX12_dayBy ofX12_dayBy 25) rfl
theorem dX12_dayBy_26 : decode cX12_dayBy 26 = .ok (.iadd, 1) := d_by (d_at odX12_dayBy ofX12_dayBy 26) rfl
theorem dX12_dayBy_27 : decode cX12_dayBy 27 = .ok (.iconst 2, 1) := d_by (d_at odX12_dayBy ofX12_dayBy 27) rfl
theorem dX12_dayBy_28 : decode cX12_dayBy 28 = .ok (.iadd, 1) := d_by (d_at odX12_dayBy ofX12_dayBy 28) rfl
theorem dX12_dayBy_29 : decode cX12_dayBy 29 = .ok (.iaload, 1) := d_by (d_at odX12_dayBy ofX12_dayBy 29) rfl
theorem dX12_dayBy_30 : decode cX12_dayBy 30 = .ok (.imul, 1) := d_by (d_at odX12_dayBy ofX12_dayBy 30) rfl
theorem dX12_dayBy_31 : decode cX12_dayBy 31 = .ok (.iadd, 1) := d_by (d_at odX12_dayBy ofX12_dayBy 31) rfl
theorem dX12_dayBy_32 : decode cX12_dayBy 32 = .ok (.ireturn, 1) := d_by (d_at odX12_dayBy ofX12_dayBy 32) rfl
set_option maxRecDepth 100000 in
def bX12_setsOut : List Nat := [29, 54, 4, 28, 6, 159, 0, 42, 42, 180, 0, 20, 16, 59, 7, 27, 104, 96, 6, 96, 46, 21, 4, 184, 1, 81, 184, 1, 42, 154, 0, 18, 16, 90, 21, 4, 16, 90, 108, 4, 96, 104, 54, 4, 167, 255, 220, 21, 4, 172]
set_option maxRecDepth 100000 in
theorem bbX12_setsOut : cX12_setsOut.data.toList.map UInt8.toNat = bX12_setsOut := by decide +kernel
set_option maxRecDepth 100000 in
def tX12_setsOut : Lean.RArray dLf := .branch 21 (.branch 12 (.branch 4 (.branch 1 (.leaf (0, .iload_n 3, 1)) (.branch 3 (.leaf (1, .istore 4, 2)) (.leaf (3, .iload_n 2, 1)))) (.branch 8 (.branch 5 (.leaf (4, .iconst 3, 1)) (.leaf (5, .if_icmp .eq 42, 3))) (.branch 9 (.leaf (8, .aload_n 0, 1)) (.leaf (9, .getfield 20, 3))))) (.branch 17 (.branch 15 (.branch 14 (.leaf (12, .bipush 59, 2)) (.leaf (14, .iconst 4, 1))) (.branch 16 (.leaf (15, .iload_n 1, 1)) (.leaf (16, .imul, 1)))) (.branch 19 (.branch 18 (.leaf (17, .iadd, 1)) (.leaf (18, .iconst 3, 1))) (.branch 20 (.leaf (19, .iadd, 1)) (.leaf (20, .iaload, 1)))))) (.branch 38 (.branch 29 (.branch 23 (.leaf (21, .iload 4, 2)) (.branch 26 (.leaf (23, .invokestatic 337, 3)) (.leaf (26, .invokestatic 298, 3)))) (.branch 34 (.branch 32 (.leaf (29, .ifCond .ne 18, 3)) (.leaf (32, .bipush 90, 2))) (.branch 36 (.leaf (34, .iload 4, 2)) (.leaf (36, .bipush 90, 2))))) (.branch 42 (.branch 40 (.branch 39 (.leaf (38, .idiv, 1)) (.leaf (39, .iconst 1, 1))) (.branch 41 (.leaf (40, .iadd, 1)) (.leaf (41, .imul, 1)))) (.branch 47 (.branch 44 (.leaf (42, .istore 4, 2)) (.leaf (44, .goto (-36), 3))) (.branch 49 (.leaf (47, .iload 4, 2)) (.leaf (49, .ireturn, 1))))))
noncomputable def oX12_setsOut : List dLf := dFl tX12_setsOut
theorem ofX12_setsOut : dFl tX12_setsOut = oX12_setsOut := rfl
set_option maxRecDepth 100000 in
theorem odX12_setsOut : ∀ q ∈ oX12_setsOut, decode cX12_setsOut q.1 = .ok (q.2.1, q.2.2) := q_go qT_ok bbX12_setsOut oX12_setsOut 0 (by decide +kernel)
theorem dX12_setsOut_0 : decode cX12_setsOut 0 = .ok (.iload_n 3, 1) := d_by (d_at odX12_setsOut ofX12_setsOut 0) rfl
theorem dX12_setsOut_1 : decode cX12_setsOut 1 = .ok (.istore 4, 2) := d_by (d_at odX12_setsOut ofX12_setsOut 1) rfl
theorem dX12_setsOut_3 : decode cX12_setsOut 3 = .ok (.iload_n 2, 1) := d_by (d_at odX12_setsOut ofX12_setsOut 3) rfl
theorem dX12_setsOut_4 : decode cX12_setsOut 4 = .ok (.iconst 3, 1) := d_by (d_at odX12_setsOut ofX12_setsOut 4) rfl
theorem dX12_setsOut_5 : decode cX12_setsOut 5 = .ok (.if_icmp .eq 42, 3) := d_by (d_at odX12_setsOut ofX12_setsOut 5) rfl
theorem dX12_setsOut_8 : decode cX12_setsOut 8 = .ok (.aload_n 0, 1) := d_by (d_at odX12_setsOut ofX12_setsOut 8) rfl
theorem dX12_setsOut_9 : decode cX12_setsOut 9 = .ok (.getfield 20, 3) := d_by (d_at odX12_setsOut ofX12_setsOut 9) rfl
theorem dX12_setsOut_12 : decode cX12_setsOut 12 = .ok (.bipush 59, 2) := d_by (d_at odX12_setsOut ofX12_setsOut 12) rfl
theorem dX12_setsOut_14 : decode cX12_setsOut 14 = .ok (.iconst 4, 1) := d_by (d_at odX12_setsOut ofX12_setsOut 14) rfl
theorem dX12_setsOut_15 : decode cX12_setsOut 15 = .ok (.iload_n 1, 1) := d_by (d_at odX12_setsOut ofX12_setsOut 15) rfl
theorem dX12_setsOut_16 : decode cX12_setsOut 16 = .ok (.imul, 1) := d_by (d_at odX12_setsOut ofX12_setsOut 16) rfl
theorem dX12_setsOut_17 : decode cX12_setsOut 17 = .ok (.iadd, 1) := d_by (d_at odX12_setsOut ofX12_setsOut 17) rfl
theorem dX12_setsOut_18 : decode cX12_setsOut 18 = .ok (.iconst 3, 1) := d_by (d_at odX12_setsOut ofX12_setsOut 18) rfl
theorem dX12_setsOut_19 : decode cX12_setsOut 19 = .ok (.iadd, 1) := d_by (d_at odX12_setsOut ofX12_setsOut 19) rfl
theorem dX12_setsOut_20 : decode cX12_setsOut 20 = .ok (.iaload, 1) := d_by (d_at odX12_setsOut ofX12_setsOut 20) rfl
theorem dX12_setsOut_21 : decode cX12_setsOut 21 = .ok (.iload 4, 2) := d_by (d_at odX12_setsOut ofX12_setsOut 21) rfl
theorem dX12_setsOut_23 : decode cX12_setsOut 23 = .ok (.invokestatic 337, 3) := d_by (d_at odX12_setsOut ofX12_setsOut 23) rfl
theorem dX12_setsOut_26 : decode cX12_setsOut 26 = .ok (.invokestatic 298, 3) := d_by (d_at odX12_setsOut ofX12_setsOut 26) rfl
theorem dX12_setsOut_29 : decode cX12_setsOut 29 = .ok (.ifCond .ne 18, 3) := d_by (d_at odX12_setsOut ofX12_setsOut 29) rfl
theorem dX12_setsOut_32 : decode cX12_setsOut 32 = .ok (.bipush 90, 2) := d_by (d_at odX12_setsOut ofX12_setsOut 32) rfl
theorem dX12_setsOut_34 : decode cX12_setsOut 34 = .ok (.iload 4, 2) := d_by (d_at odX12_setsOut ofX12_setsOut 34) rfl
theorem dX12_setsOut_36 : decode cX12_setsOut 36 = .ok (.bipush 90, 2) := d_by (d_at odX12_setsOut ofX12_setsOut 36) rfl
theorem dX12_setsOut_38 : decode cX12_setsOut 38 = .ok (.idiv, 1) := d_by (d_at odX12_setsOut ofX12_setsOut 38) rfl
theorem dX12_setsOut_39 : decode cX12_setsOut 39 = .ok (.iconst 1, 1) := d_by (d_at odX12_setsOut ofX12_setsOut 39) rfl
theorem dX12_setsOut_40 : decode cX12_setsOut 40 = .ok (.iadd, 1) := d_by (d_at odX12_setsOut ofX12_setsOut 40) rfl
theorem dX12_setsOut_41 : decode cX12_setsOut 41 = .ok (.imul, 1) := d_by (d_at odX12_setsOut ofX12_setsOut 41) rfl
theorem dX12_setsOut_42 : decode cX12_setsOut 42 = .ok (.istore 4, 2) := d_by (d_at odX12_setsOut ofX12_setsOut 42) rfl
theorem dX12_setsOut_44 : decode cX12_setsOut 44 = .ok (.goto (-36), 3) := d_by (d_at odX12_setsOut ofX12_setsOut 44) rfl
theorem dX12_setsOut_47 : decode cX12_setsOut 47 = .ok (.iload 4, 2) := d_by (d_at odX12_setsOut ofX12_setsOut 47) rfl
theorem dX12_setsOut_49 : decode cX12_setsOut 49 = .ok (.ireturn, 1) := d_by (d_at odX12_setsOut ofX12_setsOut 49) rfl
set_option maxRecDepth 100000 in
def bX12_seasonOf : List Nat := [26, 16, 90, 108, 7, 112, 172]
set_option maxRecDepth 100000 in
theorem bbX12_seasonOf : cX12_seasonOf.data.toList.map UInt8.toNat = bX12_seasonOf := by decide +kernel
set_option maxRecDepth 100000 in
def tX12_seasonOf : Lean.RArray dLf := .branch 4 (.branch 1 (.leaf (0, .iload_n 0, 1)) (.branch 3 (.leaf (1, .bipush 90, 2)) (.leaf (3, .idiv, 1)))) (.branch 5 (.leaf (4, .iconst 4, 1)) (.branch 6 (.leaf (5, .irem, 1)) (.leaf (6, .ireturn, 1))))
noncomputable def oX12_seasonOf : List dLf := dFl tX12_seasonOf
theorem ofX12_seasonOf : dFl tX12_seasonOf = oX12_seasonOf := rfl
set_option maxRecDepth 100000 in
theorem odX12_seasonOf : ∀ q ∈ oX12_seasonOf, decode cX12_seasonOf q.1 = .ok (q.2.1, q.2.2) := q_go qT_ok bbX12_seasonOf oX12_seasonOf 0 (by decide +kernel)
theorem dX12_seasonOf_0 : decode cX12_seasonOf 0 = .ok (.iload_n 0, 1) := d_by (d_at odX12_seasonOf ofX12_seasonOf 0) rfl
theorem dX12_seasonOf_1 : decode cX12_seasonOf 1 = .ok (.bipush 90, 2) := d_by (d_at odX12_seasonOf ofX12_seasonOf 1) rfl
theorem dX12_seasonOf_3 : decode cX12_seasonOf 3 = .ok (.idiv, 1) := d_by (d_at odX12_seasonOf ofX12_seasonOf 3) rfl
theorem dX12_seasonOf_4 : decode cX12_seasonOf 4 = .ok (.iconst 4, 1) := d_by (d_at odX12_seasonOf ofX12_seasonOf 4) rfl
theorem dX12_seasonOf_5 : decode cX12_seasonOf 5 = .ok (.irem, 1) := d_by (d_at odX12_seasonOf ofX12_seasonOf 5) rfl
theorem dX12_seasonOf_6 : decode cX12_seasonOf 6 = .ok (.ireturn, 1) := d_by (d_at odX12_seasonOf ofX12_seasonOf 6) rfl
set_option maxRecDepth 100000 in
def bX12_season : List Nat := [42, 182, 0, 167, 42, 180, 0, 180, 154, 0, 9, 42, 4, 182, 0, 170, 172, 27, 3, 19, 1, 84, 184, 0, 149, 153, 0, 10, 27, 184, 1, 81, 167, 0, 8, 42, 5, 182, 0, 170, 172]
set_option maxRecDepth 100000 in
theorem bbX12_season : cX12_season.data.toList.map UInt8.toNat = bX12_season := by decide +kernel
set_option maxRecDepth 100000 in
def tX12_season : Lean.RArray dLf := .branch 18 (.branch 11 (.branch 4 (.branch 1 (.leaf (0, .aload_n 0, 1)) (.leaf (1, .invokevirtual 167, 3))) (.branch 5 (.leaf (4, .aload_n 0, 1)) (.branch 8 (.leaf (5, .getfield 180, 3)) (.leaf (8, .ifCond .ne 9, 3))))) (.branch 13 (.branch 12 (.leaf (11, .aload_n 0, 1)) (.leaf (12, .iconst 1, 1))) (.branch 16 (.leaf (13, .invokevirtual 170, 3)) (.branch 17 (.leaf (16, .ireturn, 1)) (.leaf (17, .iload_n 1, 1)))))) (.branch 29 (.branch 22 (.branch 19 (.leaf (18, .iconst 0, 1)) (.leaf (19, .ldc_w 340, 3))) (.branch 25 (.leaf (22, .invokestatic 149, 3)) (.branch 28 (.leaf (25, .ifCond .eq 10, 3)) (.leaf (28, .iload_n 1, 1))))) (.branch 36 (.branch 32 (.leaf (29, .invokestatic 337, 3)) (.branch 35 (.leaf (32, .goto 8, 3)) (.leaf (35, .aload_n 0, 1)))) (.branch 37 (.leaf (36, .iconst 2, 1)) (.branch 40 (.leaf (37, .invokevirtual 170, 3)) (.leaf (40, .ireturn, 1))))))
noncomputable def oX12_season : List dLf := dFl tX12_season
theorem ofX12_season : dFl tX12_season = oX12_season := rfl
set_option maxRecDepth 100000 in
theorem odX12_season : ∀ q ∈ oX12_season, decode cX12_season q.1 = .ok (q.2.1, q.2.2) := q_go qT_ok bbX12_season oX12_season 0 (by decide +kernel)
theorem dX12_season_0 : decode cX12_season 0 = .ok (.aload_n 0, 1) := d_by (d_at odX12_season ofX12_season 0) rfl
theorem dX12_season_1 : decode cX12_season 1 = .ok (.invokevirtual 167, 3) := d_by (d_at odX12_season ofX12_season 1) rfl
theorem dX12_season_4 : decode cX12_season 4 = .ok (.aload_n 0, 1) := d_by (d_at odX12_season ofX12_season 4) rfl
theorem dX12_season_5 : decode cX12_season 5 = .ok (.getfield 180, 3) := d_by (d_at odX12_season ofX12_season 5) rfl
theorem dX12_season_8 : decode cX12_season 8 = .ok (.ifCond .ne 9, 3) := d_by (d_at odX12_season ofX12_season 8) rfl
theorem dX12_season_11 : decode cX12_season 11 = .ok (.aload_n 0, 1) := d_by (d_at odX12_season ofX12_season 11) rfl
theorem dX12_season_12 : decode cX12_season 12 = .ok (.iconst 1, 1) := d_by (d_at odX12_season ofX12_season 12) rfl
theorem dX12_season_13 : decode cX12_season 13 = .ok (.invokevirtual 170, 3) := d_by (d_at odX12_season ofX12_season 13) rfl
theorem dX12_season_16 : decode cX12_season 16 = .ok (.ireturn, 1) := d_by (d_at odX12_season ofX12_season 16) rfl
theorem dX12_season_17 : decode cX12_season 17 = .ok (.iload_n 1, 1) := d_by (d_at odX12_season ofX12_season 17) rfl
theorem dX12_season_18 : decode cX12_season 18 = .ok (.iconst 0, 1) := d_by (d_at odX12_season ofX12_season 18) rfl
theorem dX12_season_19 : decode cX12_season 19 = .ok (.ldc_w 340, 3) := d_by (d_at odX12_season ofX12_season 19) rfl
theorem dX12_season_22 : decode cX12_season 22 = .ok (.invokestatic 149, 3) := d_by (d_at odX12_season ofX12_season 22) rfl
theorem dX12_season_25 : decode cX12_season 25 = .ok (.ifCond .eq 10, 3) := d_by (d_at odX12_season ofX12_season 25) rfl
theorem dX12_season_28 : decode cX12_season 28 = .ok (.iload_n 1, 1) := d_by (d_at odX12_season ofX12_season 28) rfl
theorem dX12_season_29 : decode cX12_season 29 = .ok (.invokestatic 337, 3) := d_by (d_at odX12_season ofX12_season 29) rfl
theorem dX12_season_32 : decode cX12_season 32 = .ok (.goto 8, 3) := d_by (d_at odX12_season ofX12_season 32) rfl
theorem dX12_season_35 : decode cX12_season 35 = .ok (.aload_n 0, 1) := d_by (d_at odX12_season ofX12_season 35) rfl
theorem dX12_season_36 : decode cX12_season 36 = .ok (.iconst 2, 1) := d_by (d_at odX12_season ofX12_season 36) rfl
theorem dX12_season_37 : decode cX12_season 37 = .ok (.invokevirtual 170, 3) := d_by (d_at odX12_season ofX12_season 37) rfl
theorem dX12_season_40 : decode cX12_season 40 = .ok (.ireturn, 1) := d_by (d_at odX12_season ofX12_season 40) rfl
set_option maxRecDepth 100000 in
def bX12_sets : List Nat := [42, 182, 0, 167, 42, 27, 182, 1, 12, 153, 0, 19, 28, 3, 42, 180, 0, 20, 8, 46, 4, 100, 184, 0, 149, 154, 0, 9, 42, 4, 182, 0, 170, 172, 29, 3, 17, 39, 15, 184, 0, 149, 154, 0, 9, 42, 5, 182, 0, 170, 172, 42, 28, 182, 1, 46, 153, 0, 8, 16, 254, 167, 0, 15, 42, 28, 42, 27, 3, 182, 1, 15, 29, 182, 1, 78, 172]
set_option maxRecDepth 100000 in
theorem bbX12_sets : cX12_sets.data.toList.map UInt8.toNat = bX12_sets := by decide +kernel
set_option maxRecDepth 100000 in
def tX12_sets : Lean.RArray dLf := .branch 36 (.branch 19 (.branch 9 (.branch 4 (.branch 1 (.leaf (0, .aload_n 0, 1)) (.leaf (1, .invokevirtual 167, 3))) (.branch 5 (.leaf (4, .aload_n 0, 1)) (.branch 6 (.leaf (5, .iload_n 1, 1)) (.leaf (6, .invokevirtual 268, 3))))) (.branch 14 (.branch 12 (.leaf (9, .ifCond .eq 19, 3)) (.branch 13 (.leaf (12, .iload_n 2, 1)) (.leaf (13, .iconst 0, 1)))) (.branch 15 (.leaf (14, .aload_n 0, 1)) (.branch 18 (.leaf (15, .getfield 20, 3)) (.leaf (18, .iconst 5, 1)))))) (.branch 28 (.branch 21 (.branch 20 (.leaf (19, .iaload, 1)) (.leaf (20, .iconst 1, 1))) (.branch 22 (.leaf (21, .isub, 1)) (.branch 25 (.leaf (22, .invokestatic 149, 3)) (.leaf (25, .ifCond .ne 9, 3))))) (.branch 33 (.branch 29 (.leaf (28, .aload_n 0, 1)) (.branch 30 (.leaf (29, .iconst 1, 1)) (.leaf (30, .invokevirtual 170, 3)))) (.branch 34 (.leaf (33, .ireturn, 1)) (.branch 35 (.leaf (34, .iload_n 3, 1)) (.leaf (35, .iconst 0, 1))))))) (.branch 59 (.branch 47 (.branch 42 (.branch 39 (.leaf (36, .sipush 9999, 3)) (.leaf (39, .invokestatic 149, 3))) (.branch 45 (.leaf (42, .ifCond .ne 9, 3)) (.branch 46 (.leaf (45, .aload_n 0, 1)) (.leaf (46, .iconst 2, 1))))) (.branch 52 (.branch 50 (.leaf (47, .invokevirtual 170, 3)) (.branch 51 (.leaf (50, .ireturn, 1)) (.leaf (51, .aload_n 0, 1)))) (.branch 53 (.leaf (52, .iload_n 2, 1)) (.branch 56 (.leaf (53, .invokevirtual 302, 3)) (.leaf (56, .ifCond .eq 8, 3)))))) (.branch 67 (.branch 64 (.branch 61 (.leaf (59, .bipush (-2), 2)) (.leaf (61, .goto 15, 3))) (.branch 65 (.leaf (64, .aload_n 0, 1)) (.branch 66 (.leaf (65, .iload_n 2, 1)) (.leaf (66, .aload_n 0, 1))))) (.branch 72 (.branch 68 (.leaf (67, .iload_n 1, 1)) (.branch 69 (.leaf (68, .iconst 0, 1)) (.leaf (69, .invokevirtual 271, 3)))) (.branch 73 (.leaf (72, .iload_n 3, 1)) (.branch 76 (.leaf (73, .invokevirtual 334, 3)) (.leaf (76, .ireturn, 1)))))))
noncomputable def oX12_sets : List dLf := dFl tX12_sets
theorem ofX12_sets : dFl tX12_sets = oX12_sets := rfl
set_option maxRecDepth 100000 in
theorem odX12_sets : ∀ q ∈ oX12_sets, decode cX12_sets q.1 = .ok (q.2.1, q.2.2) := q_go qT_ok bbX12_sets oX12_sets 0 (by decide +kernel)
theorem dX12_sets_0 : decode cX12_sets 0 = .ok (.aload_n 0, 1) := d_by (d_at odX12_sets ofX12_sets 0) rfl
theorem dX12_sets_1 : decode cX12_sets 1 = .ok (.invokevirtual 167, 3) := d_by (d_at odX12_sets ofX12_sets 1) rfl
theorem dX12_sets_4 : decode cX12_sets 4 = .ok (.aload_n 0, 1) := d_by (d_at odX12_sets ofX12_sets 4) rfl
theorem dX12_sets_5 : decode cX12_sets 5 = .ok (.iload_n 1, 1) := d_by (d_at odX12_sets ofX12_sets 5) rfl
theorem dX12_sets_6 : decode cX12_sets 6 = .ok (.invokevirtual 268, 3) := d_by (d_at odX12_sets ofX12_sets 6) rfl
theorem dX12_sets_9 : decode cX12_sets 9 = .ok (.ifCond .eq 19, 3) := d_by (d_at odX12_sets ofX12_sets 9) rfl
theorem dX12_sets_12 : decode cX12_sets 12 = .ok (.iload_n 2, 1) := d_by (d_at odX12_sets ofX12_sets 12) rfl
theorem dX12_sets_13 : decode cX12_sets 13 = .ok (.iconst 0, 1) := d_by (d_at odX12_sets ofX12_sets 13) rfl
theorem dX12_sets_14 : decode cX12_sets 14 = .ok (.aload_n 0, 1) := d_by (d_at odX12_sets ofX12_sets 14) rfl
theorem dX12_sets_15 : decode cX12_sets 15 = .ok (.getfield 20, 3) := d_by (d_at odX12_sets ofX12_sets 15) rfl
theorem dX12_sets_18 : decode cX12_sets 18 = .ok (.iconst 5, 1) := d_by (d_at odX12_sets ofX12_sets 18) rfl
theorem dX12_sets_19 : decode cX12_sets 19 = .ok (.iaload, 1) := d_by (d_at odX12_sets ofX12_sets 19) rfl
theorem dX12_sets_20 : decode cX12_sets 20 = .ok (.iconst 1, 1) := d_by (d_at odX12_sets ofX12_sets 20) rfl
theorem dX12_sets_21 : decode cX12_sets 21 = .ok (.isub, 1) := d_by (d_at odX12_sets ofX12_sets 21) rfl
theorem dX12_sets_22 : decode cX12_sets 22 = .ok (.invokestatic 149, 3) := d_by (d_at odX12_sets ofX12_sets 22) rfl
theorem dX12_sets_25 : decode cX12_sets 25 = .ok (.ifCond .ne 9, 3) := d_by (d_at odX12_sets ofX12_sets 25) rfl
theorem dX12_sets_28 : decode cX12_sets 28 = .ok (.aload_n 0, 1) := d_by (d_at odX12_sets ofX12_sets 28) rfl
theorem dX12_sets_29 : decode cX12_sets 29 = .ok (.iconst 1, 1) := d_by (d_at odX12_sets ofX12_sets 29) rfl
theorem dX12_sets_30 : decode cX12_sets 30 = .ok (.invokevirtual 170, 3) := d_by (d_at odX12_sets ofX12_sets 30) rfl
theorem dX12_sets_33 : decode cX12_sets 33 = .ok (.ireturn, 1) := d_by (d_at odX12_sets ofX12_sets 33) rfl
theorem dX12_sets_34 : decode cX12_sets 34 = .ok (.iload_n 3, 1) := d_by (d_at odX12_sets ofX12_sets 34) rfl
theorem dX12_sets_35 : decode cX12_sets 35 = .ok (.iconst 0, 1) := d_by (d_at odX12_sets ofX12_sets 35) rfl
theorem dX12_sets_36 : decode cX12_sets 36 = .ok (.sipush 9999, 3) := d_by (d_at odX12_sets ofX12_sets 36) rfl
theorem dX12_sets_39 : decode cX12_sets 39 = .ok (.invokestatic 149, 3) := d_by (d_at odX12_sets ofX12_sets 39) rfl
theorem dX12_sets_42 : decode cX12_sets 42 = .ok (.ifCond .ne 9, 3) := d_by (d_at odX12_sets ofX12_sets 42) rfl
theorem dX12_sets_45 : decode cX12_sets 45 = .ok (.aload_n 0, 1) := d_by (d_at odX12_sets ofX12_sets 45) rfl
theorem dX12_sets_46 : decode cX12_sets 46 = .ok (.iconst 2, 1) := d_by (d_at odX12_sets ofX12_sets 46) rfl
theorem dX12_sets_47 : decode cX12_sets 47 = .ok (.invokevirtual 170, 3) := d_by (d_at odX12_sets ofX12_sets 47) rfl
theorem dX12_sets_50 : decode cX12_sets 50 = .ok (.ireturn, 1) := d_by (d_at odX12_sets ofX12_sets 50) rfl
theorem dX12_sets_51 : decode cX12_sets 51 = .ok (.aload_n 0, 1) := d_by (d_at odX12_sets ofX12_sets 51) rfl
theorem dX12_sets_52 : decode cX12_sets 52 = .ok (.iload_n 2, 1) := d_by (d_at odX12_sets ofX12_sets 52) rfl
theorem dX12_sets_53 : decode cX12_sets 53 = .ok (.invokevirtual 302, 3) := d_by (d_at odX12_sets ofX12_sets 53) rfl
theorem dX12_sets_56 : decode cX12_sets 56 = .ok (.ifCond .eq 8, 3) := d_by (d_at odX12_sets ofX12_sets 56) rfl
theorem dX12_sets_59 : decode cX12_sets 59 = .ok (.bipush (-2), 2) := d_by (d_at odX12_sets ofX12_sets 59) rfl
theorem dX12_sets_61 : decode cX12_sets 61 = .ok (.goto 15, 3) := d_by (d_at odX12_sets ofX12_sets 61) rfl
theorem dX12_sets_64 : decode cX12_sets 64 = .ok (.aload_n 0, 1) := d_by (d_at odX12_sets ofX12_sets 64) rfl
theorem dX12_sets_65 : decode cX12_sets 65 = .ok (.iload_n 2, 1) := d_by (d_at odX12_sets ofX12_sets 65) rfl
theorem dX12_sets_66 : decode cX12_sets 66 = .ok (.aload_n 0, 1) := d_by (d_at odX12_sets ofX12_sets 66) rfl
theorem dX12_sets_67 : decode cX12_sets 67 = .ok (.iload_n 1, 1) := d_by (d_at odX12_sets ofX12_sets 67) rfl
theorem dX12_sets_68 : decode cX12_sets 68 = .ok (.iconst 0, 1) := d_by (d_at odX12_sets ofX12_sets 68) rfl
theorem dX12_sets_69 : decode cX12_sets 69 = .ok (.invokevirtual 271, 3) := d_by (d_at odX12_sets ofX12_sets 69) rfl
theorem dX12_sets_72 : decode cX12_sets 72 = .ok (.iload_n 3, 1) := d_by (d_at odX12_sets ofX12_sets 72) rfl
theorem dX12_sets_73 : decode cX12_sets 73 = .ok (.invokevirtual 334, 3) := d_by (d_at odX12_sets ofX12_sets 73) rfl
theorem dX12_sets_76 : decode cX12_sets 76 = .ok (.ireturn, 1) := d_by (d_at odX12_sets ofX12_sets 76) rfl
set_option maxRecDepth 100000 in
def bX12_layDays : List Nat := [3, 54, 4, 21, 4, 16, 7, 162, 0, 27, 42, 180, 0, 38, 21, 4, 19, 1, 85, 79, 42, 180, 0, 41, 21, 4, 3, 79, 132, 4, 1, 167, 255, 228, 42, 180, 0, 38, 28, 29, 79, 3, 54, 4, 21, 4, 42, 180, 0, 20, 7, 46, 162, 0, 143, 2, 54, 5, 3, 54, 6, 21, 6, 42, 180, 0, 20, 7, 46, 162, 0, 58, 42, 180, 0, 41, 21, 6, 46, 154, 0, 42, 42, 180, 0, 38, 21, 6, 46, 19, 1, 85, 162, 0, 29, 21, 5, 155, 0, 20, 42, 180, 0, 38, 21, 6, 46, 42, 180, 0, 38, 21, 5, 46, 162, 0, 7, 21, 6, 54, 5, 132, 6, 1, 167, 255, 193, 21, 5, 156, 0, 4, 177, 42, 180, 0, 41, 21, 5, 4, 79, 3, 54, 6, 21, 6, 42, 180, 0, 20, 8, 46, 162, 0, 37, 27, 154, 0, 9, 21, 5, 28, 160, 0, 27, 42, 21, 6, 182, 1, 46, 154, 0, 12, 42, 21, 6, 27, 21, 5, 182, 1, 86, 132, 6, 1, 167, 255, 214, 132, 4, 1, 167, 255, 108, 177]
set_option maxRecDepth 100000 in
theorem bbX12_layDays : cX12_layDays.data.toList.map UInt8.toNat = bX12_layDays := by decide +kernel
set_option maxRecDepth 100000 in
def tX12_layDays : Lean.RArray dLf := .branch 92 (.branch 46 (.branch 24 (.branch 11 (.branch 5 (.branch 1 (.leaf (0, .iconst 0, 1)) (.branch 3 (.leaf (1, .istore 4, 2)) (.leaf (3, .iload 4, 2)))) (.branch 7 (.leaf (5, .bipush 7, 2)) (.branch 10 (.leaf (7, .if_icmp .ge 27, 3)) (.leaf (10, .aload_n 0, 1))))) (.branch 19 (.branch 14 (.leaf (11, .getfield 38, 3)) (.branch 16 (.leaf (14, .iload 4, 2)) (.leaf (16, .ldc_w 341, 3)))) (.branch 20 (.leaf (19, .iastore, 1)) (.branch 21 (.leaf (20, .aload_n 0, 1)) (.leaf (21, .getfield 41, 3)))))) (.branch 35 (.branch 28 (.branch 26 (.leaf (24, .iload 4, 2)) (.branch 27 (.leaf (26, .iconst 0, 1)) (.leaf (27, .iastore, 1)))) (.branch 31 (.leaf (28, .iinc 4 1, 3)) (.branch 34 (.leaf (31, .goto (-28), 3)) (.leaf (34, .aload_n 0, 1))))) (.branch 40 (.branch 38 (.leaf (35, .getfield 38, 3)) (.branch 39 (.leaf (38, .iload_n 2, 1)) (.leaf (39, .iload_n 3, 1)))) (.branch 42 (.branch 41 (.leaf (40, .iastore, 1)) (.leaf (41, .iconst 0, 1))) (.branch 44 (.leaf (42, .istore 4, 2)) (.leaf (44, .iload 4, 2))))))) (.branch 67 (.branch 56 (.branch 51 (.branch 47 (.leaf (46, .aload_n 0, 1)) (.branch 50 (.leaf (47, .getfield 20, 3)) (.leaf (50, .iconst 4, 1)))) (.branch 52 (.leaf (51, .iaload, 1)) (.branch 55 (.leaf (52, .if_icmp .ge 143, 3)) (.leaf (55, .iconst (-1), 1))))) (.branch 61 (.branch 58 (.leaf (56, .istore 5, 2)) (.branch 59 (.leaf (58, .iconst 0, 1)) (.leaf (59, .istore 6, 2)))) (.branch 63 (.leaf (61, .iload 6, 2)) (.branch 64 (.leaf (63, .aload_n 0, 1)) (.leaf (64, .getfield 20, 3)))))) (.branch 78 (.branch 72 (.branch 68 (.leaf (67, .iconst 4, 1)) (.branch 69 (.leaf (68, .iaload, 1)) (.leaf (69, .if_icmp .ge 58, 3)))) (.branch 73 (.leaf (72, .aload_n 0, 1)) (.branch 76 (.leaf (73, .getfield 41, 3)) (.leaf (76, .iload 6, 2))))) (.branch 83 (.branch 79 (.leaf (78, .iaload, 1)) (.branch 82 (.leaf (79, .ifCond .ne 42, 3)) (.leaf (82, .aload_n 0, 1)))) (.branch 88 (.branch 86 (.leaf (83, .getfield 38, 3)) (.leaf (86, .iload 6, 2))) (.branch 89 (.leaf (88, .iaload, 1)) (.leaf (89, .ldc_w 341, 3)))))))) (.branch 142 (.branch 117 (.branch 106 (.branch 100 (.branch 95 (.leaf (92, .if_icmp .ge 29, 3)) (.branch 97 (.leaf (95, .iload 5, 2)) (.leaf (97, .ifCond .lt 20, 3)))) (.branch 101 (.leaf (100, .aload_n 0, 1)) (.branch 104 (.leaf (101, .getfield 38, 3)) (.leaf (104, .iload 6, 2))))) (.branch 111 (.branch 107 (.leaf (106, .iaload, 1)) (.branch 108 (.leaf (107, .aload_n 0, 1)) (.leaf (108, .getfield 38, 3)))) (.branch 113 (.leaf (111, .iload 5, 2)) (.branch 114 (.leaf (113, .iaload, 1)) (.leaf (114, .if_icmp .ge 7, 3)))))) (.branch 132 (.branch 124 (.branch 119 (.leaf (117, .iload 6, 2)) (.branch 121 (.leaf (119, .istore 5, 2)) (.leaf (121, .iinc 6 1, 3)))) (.branch 127 (.leaf (124, .goto (-63), 3)) (.branch 129 (.leaf (127, .iload 5, 2)) (.leaf (129, .ifCond .ge 4, 3))))) (.branch 137 (.branch 133 (.leaf (132, .return_, 1)) (.branch 134 (.leaf (133, .aload_n 0, 1)) (.leaf (134, .getfield 41, 3)))) (.branch 140 (.branch 139 (.leaf (137, .iload 5, 2)) (.leaf (139, .iconst 1, 1))) (.branch 141 (.leaf (140, .iastore, 1)) (.leaf (141, .iconst 0, 1))))))) (.branch 166 (.branch 152 (.branch 147 (.branch 144 (.leaf (142, .istore 6, 2)) (.branch 146 (.leaf (144, .iload 6, 2)) (.leaf (146, .aload_n 0, 1)))) (.branch 150 (.leaf (147, .getfield 20, 3)) (.branch 151 (.leaf (150, .iconst 5, 1)) (.leaf (151, .iaload, 1))))) (.branch 159 (.branch 155 (.leaf (152, .if_icmp .ge 37, 3)) (.branch 156 (.leaf (155, .iload_n 1, 1)) (.leaf (156, .ifCond .ne 9, 3)))) (.branch 162 (.branch 161 (.leaf (159, .iload 5, 2)) (.leaf (161, .iload_n 2, 1))) (.branch 165 (.leaf (162, .if_icmp .ne 27, 3)) (.leaf (165, .aload_n 0, 1)))))) (.branch 178 (.branch 174 (.branch 168 (.leaf (166, .iload 6, 2)) (.branch 171 (.leaf (168, .invokevirtual 302, 3)) (.leaf (171, .ifCond .ne 12, 3)))) (.branch 175 (.leaf (174, .aload_n 0, 1)) (.branch 177 (.leaf (175, .iload 6, 2)) (.leaf (177, .iload_n 1, 1))))) (.branch 186 (.branch 180 (.leaf (178, .iload 5, 2)) (.branch 183 (.leaf (180, .invokevirtual 342, 3)) (.leaf (183, .iinc 6 1, 3)))) (.branch 192 (.branch 189 (.leaf (186, .goto (-42), 3)) (.leaf (189, .iinc 4 1, 3))) (.branch 195 (.leaf (192, .goto (-148), 3)) (.leaf (195, .return_, 1))))))))
noncomputable def oX12_layDays : List dLf := dFl tX12_layDays
theorem ofX12_layDays : dFl tX12_layDays = oX12_layDays := rfl
set_option maxRecDepth 100000 in
theorem odX12_layDays : ∀ q ∈ oX12_layDays, decode cX12_layDays q.1 = .ok (q.2.1, q.2.2) := q_go qT_ok bbX12_layDays oX12_layDays 0 (by decide +kernel)
theorem dX12_layDays_0 : decode cX12_layDays 0 = .ok (.iconst 0, 1) := d_by (d_at odX12_layDays ofX12_layDays 0) rfl
theorem dX12_layDays_1 : decode cX12_layDays 1 = .ok (.istore 4, 2) := d_by (d_at odX12_layDays ofX12_layDays 1) rfl
theorem dX12_layDays_3 : decode cX12_layDays 3 = .ok (.iload 4, 2) := d_by (d_at odX12_layDays ofX12_layDays 3) rfl
theorem dX12_layDays_5 : decode cX12_layDays 5 = .ok (.bipush 7, 2) := d_by (d_at odX12_layDays ofX12_layDays 5) rfl
theorem dX12_layDays_7 : decode cX12_layDays 7 = .ok (.if_icmp .ge 27, 3) := d_by (d_at odX12_layDays ofX12_layDays 7) rfl
theorem dX12_layDays_10 : decode cX12_layDays 10 = .ok (.aload_n 0, 1) := d_by (d_at odX12_layDays ofX12_layDays 10) rfl
theorem dX12_layDays_11 : decode cX12_layDays 11 = .ok (.getfield 38, 3) := d_by (d_at odX12_layDays ofX12_layDays 11) rfl
theorem dX12_layDays_14 : decode cX12_layDays 14 = .ok (.iload 4, 2) := d_by (d_at odX12_layDays ofX12_layDays 14) rfl
theorem dX12_layDays_16 : decode cX12_layDays 16 = .ok (.ldc_w 341, 3) := d_by (d_at odX12_layDays ofX12_layDays 16) rfl
theorem dX12_layDays_19 : decode cX12_layDays 19 = .ok (.iastore, 1) := d_by (d_at odX12_layDays ofX12_layDays 19) rfl
theorem dX12_layDays_20 : decode cX12_layDays 20 = .ok (.aload_n 0, 1) := d_by (d_at odX12_layDays ofX12_layDays 20) rfl
theorem dX12_layDays_21 : decode cX12_layDays 21 = .ok (.getfield 41, 3) := d_by (d_at odX12_layDays ofX12_layDays 21) rfl
theorem dX12_layDays_24 : decode cX12_layDays 24 = .ok (.iload 4, 2) := d_by (d_at odX12_layDays ofX12_layDays 24) rfl
theorem dX12_layDays_26 : decode cX12_layDays 26 = .ok (.iconst 0, 1) := d_by (d_at odX12_layDays ofX12_layDays 26) rfl
theorem dX12_layDays_27 : decode cX12_layDays 27 = .ok (.iastore, 1) := d_by (d_at odX12_layDays ofX12_layDays 27) rfl
theorem dX12_layDays_28 : decode cX12_layDays 28 = .ok (.iinc 4 1, 3) := d_by (d_at odX12_layDays ofX12_layDays 28) rfl
theorem dX12_layDays_31 : decode cX12_layDays 31 = .ok (.goto (-28), 3) := d_by (d_at odX12_layDays ofX12_layDays 31) rfl
theorem dX12_layDays_34 : decode cX12_layDays 34 = .ok (.aload_n 0, 1) := d_by (d_at odX12_layDays ofX12_layDays 34) rfl
theorem dX12_layDays_35 : decode cX12_layDays 35 = .ok (.getfield 38, 3) := d_by (d_at odX12_layDays ofX12_layDays 35) rfl
theorem dX12_layDays_38 : decode cX12_layDays 38 = .ok (.iload_n 2, 1) := d_by (d_at odX12_layDays ofX12_layDays 38) rfl
theorem dX12_layDays_39 : decode cX12_layDays 39 = .ok (.iload_n 3, 1) := d_by (d_at odX12_layDays ofX12_layDays 39) rfl
theorem dX12_layDays_40 : decode cX12_layDays 40 = .ok (.iastore, 1) := d_by (d_at odX12_layDays ofX12_layDays 40) rfl
theorem dX12_layDays_41 : decode cX12_layDays 41 = .ok (.iconst 0, 1) := d_by (d_at odX12_layDays ofX12_layDays 41) rfl
theorem dX12_layDays_42 : decode cX12_layDays 42 = .ok (.istore 4, 2) := d_by (d_at odX12_layDays ofX12_layDays 42) rfl
theorem dX12_layDays_44 : decode cX12_layDays 44 = .ok (.iload 4, 2) := d_by (d_at odX12_layDays ofX12_layDays 44) rfl
theorem dX12_layDays_46 : decode cX12_layDays 46 = .ok (.aload_n 0, 1) := d_by (d_at odX12_layDays ofX12_layDays 46) rfl
theorem dX12_layDays_47 : decode cX12_layDays 47 = .ok (.getfield 20, 3) := d_by (d_at odX12_layDays ofX12_layDays 47) rfl
theorem dX12_layDays_50 : decode cX12_layDays 50 = .ok (.iconst 4, 1) := d_by (d_at odX12_layDays ofX12_layDays 50) rfl
theorem dX12_layDays_51 : decode cX12_layDays 51 = .ok (.iaload, 1) := d_by (d_at odX12_layDays ofX12_layDays 51) rfl
theorem dX12_layDays_52 : decode cX12_layDays 52 = .ok (.if_icmp .ge 143, 3) := d_by (d_at odX12_layDays ofX12_layDays 52) rfl
theorem dX12_layDays_55 : decode cX12_layDays 55 = .ok (.iconst (-1), 1) := d_by (d_at odX12_layDays ofX12_layDays 55) rfl
theorem dX12_layDays_56 : decode cX12_layDays 56 = .ok (.istore 5, 2) := d_by (d_at odX12_layDays ofX12_layDays 56) rfl
theorem dX12_layDays_58 : decode cX12_layDays 58 = .ok (.iconst 0, 1) := d_by (d_at odX12_layDays ofX12_layDays 58) rfl
theorem dX12_layDays_59 : decode cX12_layDays 59 = .ok (.istore 6, 2) := d_by (d_at odX12_layDays ofX12_layDays 59) rfl
theorem dX12_layDays_61 : decode cX12_layDays 61 = .ok (.iload 6, 2) := d_by (d_at odX12_layDays ofX12_layDays 61) rfl
theorem dX12_layDays_63 : decode cX12_layDays 63 = .ok (.aload_n 0, 1) := d_by (d_at odX12_layDays ofX12_layDays 63) rfl
theorem dX12_layDays_64 : decode cX12_layDays 64 = .ok (.getfield 20, 3) := d_by (d_at odX12_layDays ofX12_layDays 64) rfl
theorem dX12_layDays_67 : decode cX12_layDays 67 = .ok (.iconst 4, 1) := d_by (d_at odX12_layDays ofX12_layDays 67) rfl
theorem dX12_layDays_68 : decode cX12_layDays 68 = .ok (.iaload, 1) := d_by (d_at odX12_layDays ofX12_layDays 68) rfl
theorem dX12_layDays_69 : decode cX12_layDays 69 = .ok (.if_icmp .ge 58, 3) := d_by (d_at odX12_layDays ofX12_layDays 69) rfl
theorem dX12_layDays_72 : decode cX12_layDays 72 = .ok (.aload_n 0, 1) := d_by (d_at odX12_layDays ofX12_layDays 72) rfl
theorem dX12_layDays_73 : decode cX12_layDays 73 = .ok (.getfield 41, 3) := d_by (d_at odX12_layDays ofX12_layDays 73) rfl
theorem dX12_layDays_76 : decode cX12_layDays 76 = .ok (.iload 6, 2) := d_by (d_at odX12_layDays ofX12_layDays 76) rfl
theorem dX12_layDays_78 : decode cX12_layDays 78 = .ok (.iaload, 1) := d_by (d_at odX12_layDays ofX12_layDays 78) rfl
theorem dX12_layDays_79 : decode cX12_layDays 79 = .ok (.ifCond .ne 42, 3) := d_by (d_at odX12_layDays ofX12_layDays 79) rfl
theorem dX12_layDays_82 : decode cX12_layDays 82 = .ok (.aload_n 0, 1) := d_by (d_at odX12_layDays ofX12_layDays 82) rfl
theorem dX12_layDays_83 : decode cX12_layDays 83 = .ok (.getfield 38, 3) := d_by (d_at odX12_layDays ofX12_layDays 83) rfl
theorem dX12_layDays_86 : decode cX12_layDays 86 = .ok (.iload 6, 2) := d_by (d_at odX12_layDays ofX12_layDays 86) rfl
theorem dX12_layDays_88 : decode cX12_layDays 88 = .ok (.iaload, 1) := d_by (d_at odX12_layDays ofX12_layDays 88) rfl
theorem dX12_layDays_89 : decode cX12_layDays 89 = .ok (.ldc_w 341, 3) := d_by (d_at odX12_layDays ofX12_layDays 89) rfl
theorem dX12_layDays_92 : decode cX12_layDays 92 = .ok (.if_icmp .ge 29, 3) := d_by (d_at odX12_layDays ofX12_layDays 92) rfl
theorem dX12_layDays_95 : decode cX12_layDays 95 = .ok (.iload 5, 2) := d_by (d_at odX12_layDays ofX12_layDays 95) rfl
theorem dX12_layDays_97 : decode cX12_layDays 97 = .ok (.ifCond .lt 20, 3) := d_by (d_at odX12_layDays ofX12_layDays 97) rfl
theorem dX12_layDays_100 : decode cX12_layDays 100 = .ok (.aload_n 0, 1) := d_by (d_at odX12_layDays ofX12_layDays 100) rfl
theorem dX12_layDays_101 : decode cX12_layDays 101 = .ok (.getfield 38, 3) := d_by (d_at odX12_layDays ofX12_layDays 101) rfl
theorem dX12_layDays_104 : decode cX12_layDays 104 = .ok (.iload 6, 2) := d_by (d_at odX12_layDays ofX12_layDays 104) rfl
theorem dX12_layDays_106 : decode cX12_layDays 106 = .ok (.iaload, 1) := d_by (d_at odX12_layDays ofX12_layDays 106) rfl
theorem dX12_layDays_107 : decode cX12_layDays 107 = .ok (.aload_n 0, 1) := d_by (d_at odX12_layDays ofX12_layDays 107) rfl
theorem dX12_layDays_108 : decode cX12_layDays 108 = .ok (.getfield 38, 3) := d_by (d_at odX12_layDays ofX12_layDays 108) rfl
theorem dX12_layDays_111 : decode cX12_layDays 111 = .ok (.iload 5, 2) := d_by (d_at odX12_layDays ofX12_layDays 111) rfl
theorem dX12_layDays_113 : decode cX12_layDays 113 = .ok (.iaload, 1) := d_by (d_at odX12_layDays ofX12_layDays 113) rfl
theorem dX12_layDays_114 : decode cX12_layDays 114 = .ok (.if_icmp .ge 7, 3) := d_by (d_at odX12_layDays ofX12_layDays 114) rfl
theorem dX12_layDays_117 : decode cX12_layDays 117 = .ok (.iload 6, 2) := d_by (d_at odX12_layDays ofX12_layDays 117) rfl
theorem dX12_layDays_119 : decode cX12_layDays 119 = .ok (.istore 5, 2) := d_by (d_at odX12_layDays ofX12_layDays 119) rfl
theorem dX12_layDays_121 : decode cX12_layDays 121 = .ok (.iinc 6 1, 3) := d_by (d_at odX12_layDays ofX12_layDays 121) rfl
theorem dX12_layDays_124 : decode cX12_layDays 124 = .ok (.goto (-63), 3) := d_by (d_at odX12_layDays ofX12_layDays 124) rfl
theorem dX12_layDays_127 : decode cX12_layDays 127 = .ok (.iload 5, 2) := d_by (d_at odX12_layDays ofX12_layDays 127) rfl
theorem dX12_layDays_129 : decode cX12_layDays 129 = .ok (.ifCond .ge 4, 3) := d_by (d_at odX12_layDays ofX12_layDays 129) rfl
theorem dX12_layDays_132 : decode cX12_layDays 132 = .ok (.return_, 1) := d_by (d_at odX12_layDays ofX12_layDays 132) rfl
theorem dX12_layDays_133 : decode cX12_layDays 133 = .ok (.aload_n 0, 1) := d_by (d_at odX12_layDays ofX12_layDays 133) rfl
theorem dX12_layDays_134 : decode cX12_layDays 134 = .ok (.getfield 41, 3) := d_by (d_at odX12_layDays ofX12_layDays 134) rfl
theorem dX12_layDays_137 : decode cX12_layDays 137 = .ok (.iload 5, 2) := d_by (d_at odX12_layDays ofX12_layDays 137) rfl
theorem dX12_layDays_139 : decode cX12_layDays 139 = .ok (.iconst 1, 1) := d_by (d_at odX12_layDays ofX12_layDays 139) rfl
theorem dX12_layDays_140 : decode cX12_layDays 140 = .ok (.iastore, 1) := d_by (d_at odX12_layDays ofX12_layDays 140) rfl
theorem dX12_layDays_141 : decode cX12_layDays 141 = .ok (.iconst 0, 1) := d_by (d_at odX12_layDays ofX12_layDays 141) rfl
theorem dX12_layDays_142 : decode cX12_layDays 142 = .ok (.istore 6, 2) := d_by (d_at odX12_layDays ofX12_layDays 142) rfl
theorem dX12_layDays_144 : decode cX12_layDays 144 = .ok (.iload 6, 2) := d_by (d_at odX12_layDays ofX12_layDays 144) rfl
theorem dX12_layDays_146 : decode cX12_layDays 146 = .ok (.aload_n 0, 1) := d_by (d_at odX12_layDays ofX12_layDays 146) rfl
theorem dX12_layDays_147 : decode cX12_layDays 147 = .ok (.getfield 20, 3) := d_by (d_at odX12_layDays ofX12_layDays 147) rfl
theorem dX12_layDays_150 : decode cX12_layDays 150 = .ok (.iconst 5, 1) := d_by (d_at odX12_layDays ofX12_layDays 150) rfl
theorem dX12_layDays_151 : decode cX12_layDays 151 = .ok (.iaload, 1) := d_by (d_at odX12_layDays ofX12_layDays 151) rfl
theorem dX12_layDays_152 : decode cX12_layDays 152 = .ok (.if_icmp .ge 37, 3) := d_by (d_at odX12_layDays ofX12_layDays 152) rfl
theorem dX12_layDays_155 : decode cX12_layDays 155 = .ok (.iload_n 1, 1) := d_by (d_at odX12_layDays ofX12_layDays 155) rfl
theorem dX12_layDays_156 : decode cX12_layDays 156 = .ok (.ifCond .ne 9, 3) := d_by (d_at odX12_layDays ofX12_layDays 156) rfl
theorem dX12_layDays_159 : decode cX12_layDays 159 = .ok (.iload 5, 2) := d_by (d_at odX12_layDays ofX12_layDays 159) rfl
theorem dX12_layDays_161 : decode cX12_layDays 161 = .ok (.iload_n 2, 1) := d_by (d_at odX12_layDays ofX12_layDays 161) rfl
theorem dX12_layDays_162 : decode cX12_layDays 162 = .ok (.if_icmp .ne 27, 3) := d_by (d_at odX12_layDays ofX12_layDays 162) rfl
theorem dX12_layDays_165 : decode cX12_layDays 165 = .ok (.aload_n 0, 1) := d_by (d_at odX12_layDays ofX12_layDays 165) rfl
theorem dX12_layDays_166 : decode cX12_layDays 166 = .ok (.iload 6, 2) := d_by (d_at odX12_layDays ofX12_layDays 166) rfl
theorem dX12_layDays_168 : decode cX12_layDays 168 = .ok (.invokevirtual 302, 3) := d_by (d_at odX12_layDays ofX12_layDays 168) rfl
theorem dX12_layDays_171 : decode cX12_layDays 171 = .ok (.ifCond .ne 12, 3) := d_by (d_at odX12_layDays ofX12_layDays 171) rfl
theorem dX12_layDays_174 : decode cX12_layDays 174 = .ok (.aload_n 0, 1) := d_by (d_at odX12_layDays ofX12_layDays 174) rfl
theorem dX12_layDays_175 : decode cX12_layDays 175 = .ok (.iload 6, 2) := d_by (d_at odX12_layDays ofX12_layDays 175) rfl
theorem dX12_layDays_177 : decode cX12_layDays 177 = .ok (.iload_n 1, 1) := d_by (d_at odX12_layDays ofX12_layDays 177) rfl
theorem dX12_layDays_178 : decode cX12_layDays 178 = .ok (.iload 5, 2) := d_by (d_at odX12_layDays ofX12_layDays 178) rfl
theorem dX12_layDays_180 : decode cX12_layDays 180 = .ok (.invokevirtual 342, 3) := d_by (d_at odX12_layDays ofX12_layDays 180) rfl
theorem dX12_layDays_183 : decode cX12_layDays 183 = .ok (.iinc 6 1, 3) := d_by (d_at odX12_layDays ofX12_layDays 183) rfl
theorem dX12_layDays_186 : decode cX12_layDays 186 = .ok (.goto (-42), 3) := d_by (d_at odX12_layDays ofX12_layDays 186) rfl
theorem dX12_layDays_189 : decode cX12_layDays 189 = .ok (.iinc 4 1, 3) := d_by (d_at odX12_layDays ofX12_layDays 189) rfl
theorem dX12_layDays_192 : decode cX12_layDays 192 = .ok (.goto (-148), 3) := d_by (d_at odX12_layDays ofX12_layDays 192) rfl
theorem dX12_layDays_195 : decode cX12_layDays 195 = .ok (.return_, 1) := d_by (d_at odX12_layDays ofX12_layDays 195) rfl
set_option maxRecDepth 100000 in
def bX12_goesBy : List Nat := [42, 180, 0, 20, 16, 59, 7, 27, 104, 96, 46, 54, 4, 42, 180, 0, 20, 16, 59, 7, 27, 104, 96, 4, 96, 46, 54, 5, 21, 4, 29, 159, 0, 10, 21, 5, 29, 159, 0, 4, 177, 21, 4, 29, 160, 0, 8, 21, 5, 167, 0, 5, 21, 4, 54, 6, 42, 27, 28, 42, 180, 0, 38, 29, 46, 182, 1, 90, 54, 7, 21, 7, 42, 180, 0, 38, 21, 6, 46, 162, 0, 12, 42, 180, 0, 38, 21, 6, 21, 7, 79, 177]
set_option maxRecDepth 100000 in
theorem bbX12_goesBy : cX12_goesBy.data.toList.map UInt8.toNat = bX12_goesBy := by decide +kernel
set_option maxRecDepth 100000 in
def tX12_goesBy : Lean.RArray dLf := .branch 41 (.branch 20 (.branch 9 (.branch 6 (.branch 1 (.leaf (0, .aload_n 0, 1)) (.branch 4 (.leaf (1, .getfield 20, 3)) (.leaf (4, .bipush 59, 2)))) (.branch 7 (.leaf (6, .iconst 4, 1)) (.branch 8 (.leaf (7, .iload_n 1, 1)) (.leaf (8, .imul, 1))))) (.branch 13 (.branch 10 (.leaf (9, .iadd, 1)) (.branch 11 (.leaf (10, .iaload, 1)) (.leaf (11, .istore 4, 2)))) (.branch 17 (.branch 14 (.leaf (13, .aload_n 0, 1)) (.leaf (14, .getfield 20, 3))) (.branch 19 (.leaf (17, .bipush 59, 2)) (.leaf (19, .iconst 4, 1)))))) (.branch 28 (.branch 23 (.branch 21 (.leaf (20, .iload_n 1, 1)) (.branch 22 (.leaf (21, .imul, 1)) (.leaf (22, .iadd, 1)))) (.branch 25 (.branch 24 (.leaf (23, .iconst 1, 1)) (.leaf (24, .iadd, 1))) (.branch 26 (.leaf (25, .iaload, 1)) (.leaf (26, .istore 5, 2))))) (.branch 34 (.branch 30 (.leaf (28, .iload 4, 2)) (.branch 31 (.leaf (30, .iload_n 3, 1)) (.leaf (31, .if_icmp .eq 10, 3)))) (.branch 37 (.branch 36 (.leaf (34, .iload 5, 2)) (.leaf (36, .iload_n 3, 1))) (.branch 40 (.leaf (37, .if_icmp .eq 4, 3)) (.leaf (40, .return_, 1))))))) (.branch 65 (.branch 56 (.branch 47 (.branch 43 (.leaf (41, .iload 4, 2)) (.branch 44 (.leaf (43, .iload_n 3, 1)) (.leaf (44, .if_icmp .ne 8, 3)))) (.branch 52 (.branch 49 (.leaf (47, .iload 5, 2)) (.leaf (49, .goto 5, 3))) (.branch 54 (.leaf (52, .iload 4, 2)) (.leaf (54, .istore 6, 2))))) (.branch 59 (.branch 57 (.leaf (56, .aload_n 0, 1)) (.branch 58 (.leaf (57, .iload_n 1, 1)) (.leaf (58, .iload_n 2, 1)))) (.branch 63 (.branch 60 (.leaf (59, .aload_n 0, 1)) (.leaf (60, .getfield 38, 3))) (.branch 64 (.leaf (63, .iload_n 3, 1)) (.leaf (64, .iaload, 1)))))) (.branch 79 (.branch 72 (.branch 68 (.leaf (65, .invokevirtual 346, 3)) (.branch 70 (.leaf (68, .istore 7, 2)) (.leaf (70, .iload 7, 2)))) (.branch 76 (.branch 73 (.leaf (72, .aload_n 0, 1)) (.leaf (73, .getfield 38, 3))) (.branch 78 (.leaf (76, .iload 6, 2)) (.leaf (78, .iaload, 1))))) (.branch 86 (.branch 82 (.leaf (79, .if_icmp .ge 12, 3)) (.branch 83 (.leaf (82, .aload_n 0, 1)) (.leaf (83, .getfield 38, 3)))) (.branch 90 (.branch 88 (.leaf (86, .iload 6, 2)) (.leaf (88, .iload 7, 2))) (.branch 91 (.leaf (90, .iastore, 1)) (.leaf (91, .return_, 1)))))))
noncomputable def oX12_goesBy : List dLf := dFl tX12_goesBy
theorem ofX12_goesBy : dFl tX12_goesBy = oX12_goesBy := rfl
set_option maxRecDepth 100000 in
theorem odX12_goesBy : ∀ q ∈ oX12_goesBy, decode cX12_goesBy q.1 = .ok (q.2.1, q.2.2) := q_go qT_ok bbX12_goesBy oX12_goesBy 0 (by decide +kernel)
theorem dX12_goesBy_0 : decode cX12_goesBy 0 = .ok (.aload_n 0, 1) := d_by (d_at odX12_goesBy ofX12_goesBy 0) rfl
theorem dX12_goesBy_1 : decode cX12_goesBy 1 = .ok (.getfield 20, 3) := d_by (d_at odX12_goesBy ofX12_goesBy 1) rfl
theorem dX12_goesBy_4 : decode cX12_goesBy 4 = .ok (.bipush 59, 2) := d_by (d_at odX12_goesBy ofX12_goesBy 4) rfl
theorem dX12_goesBy_6 : decode cX12_goesBy 6 = .ok (.iconst 4, 1) := d_by (d_at odX12_goesBy ofX12_goesBy 6) rfl
theorem dX12_goesBy_7 : decode cX12_goesBy 7 = .ok (.iload_n 1, 1) := d_by (d_at odX12_goesBy ofX12_goesBy 7) rfl
theorem dX12_goesBy_8 : decode cX12_goesBy 8 = .ok (.imul, 1) := d_by (d_at odX12_goesBy ofX12_goesBy 8) rfl
theorem dX12_goesBy_9 : decode cX12_goesBy 9 = .ok (.iadd, 1) := d_by (d_at odX12_goesBy ofX12_goesBy 9) rfl
theorem dX12_goesBy_10 : decode cX12_goesBy 10 = .ok (.iaload, 1) := d_by (d_at odX12_goesBy ofX12_goesBy 10) rfl
theorem dX12_goesBy_11 : decode cX12_goesBy 11 = .ok (.istore 4, 2) := d_by (d_at odX12_goesBy ofX12_goesBy 11) rfl
theorem dX12_goesBy_13 : decode cX12_goesBy 13 = .ok (.aload_n 0, 1) := d_by (d_at odX12_goesBy ofX12_goesBy 13) rfl
theorem dX12_goesBy_14 : decode cX12_goesBy 14 = .ok (.getfield 20, 3) := d_by (d_at odX12_goesBy ofX12_goesBy 14) rfl
theorem dX12_goesBy_17 : decode cX12_goesBy 17 = .ok (.bipush 59, 2) := d_by (d_at odX12_goesBy ofX12_goesBy 17) rfl
theorem dX12_goesBy_19 : decode cX12_goesBy 19 = .ok (.iconst 4, 1) := d_by (d_at odX12_goesBy ofX12_goesBy 19) rfl
theorem dX12_goesBy_20 : decode cX12_goesBy 20 = .ok (.iload_n 1, 1) := d_by (d_at odX12_goesBy ofX12_goesBy 20) rfl
theorem dX12_goesBy_21 : decode cX12_goesBy 21 = .ok (.imul, 1) := d_by (d_at odX12_goesBy ofX12_goesBy 21) rfl
theorem dX12_goesBy_22 : decode cX12_goesBy 22 = .ok (.iadd, 1) := d_by (d_at odX12_goesBy ofX12_goesBy 22) rfl
theorem dX12_goesBy_23 : decode cX12_goesBy 23 = .ok (.iconst 1, 1) := d_by (d_at odX12_goesBy ofX12_goesBy 23) rfl
theorem dX12_goesBy_24 : decode cX12_goesBy 24 = .ok (.iadd, 1) := d_by (d_at odX12_goesBy ofX12_goesBy 24) rfl
theorem dX12_goesBy_25 : decode cX12_goesBy 25 = .ok (.iaload, 1) := d_by (d_at odX12_goesBy ofX12_goesBy 25) rfl
theorem dX12_goesBy_26 : decode cX12_goesBy 26 = .ok (.istore 5, 2) := d_by (d_at odX12_goesBy ofX12_goesBy 26) rfl
theorem dX12_goesBy_28 : decode cX12_goesBy 28 = .ok (.iload 4, 2) := d_by (d_at odX12_goesBy ofX12_goesBy 28) rfl
theorem dX12_goesBy_30 : decode cX12_goesBy 30 = .ok (.iload_n 3, 1) := d_by (d_at odX12_goesBy ofX12_goesBy 30) rfl
theorem dX12_goesBy_31 : decode cX12_goesBy 31 = .ok (.if_icmp .eq 10, 3) := d_by (d_at odX12_goesBy ofX12_goesBy 31) rfl
theorem dX12_goesBy_34 : decode cX12_goesBy 34 = .ok (.iload 5, 2) := d_by (d_at odX12_goesBy ofX12_goesBy 34) rfl
theorem dX12_goesBy_36 : decode cX12_goesBy 36 = .ok (.iload_n 3, 1) := d_by (d_at odX12_goesBy ofX12_goesBy 36) rfl
theorem dX12_goesBy_37 : decode cX12_goesBy 37 = .ok (.if_icmp .eq 4, 3) := d_by (d_at odX12_goesBy ofX12_goesBy 37) rfl
theorem dX12_goesBy_40 : decode cX12_goesBy 40 = .ok (.return_, 1) := d_by (d_at odX12_goesBy ofX12_goesBy 40) rfl
theorem dX12_goesBy_41 : decode cX12_goesBy 41 = .ok (.iload 4, 2) := d_by (d_at odX12_goesBy ofX12_goesBy 41) rfl
theorem dX12_goesBy_43 : decode cX12_goesBy 43 = .ok (.iload_n 3, 1) := d_by (d_at odX12_goesBy ofX12_goesBy 43) rfl
theorem dX12_goesBy_44 : decode cX12_goesBy 44 = .ok (.if_icmp .ne 8, 3) := d_by (d_at odX12_goesBy ofX12_goesBy 44) rfl
theorem dX12_goesBy_47 : decode cX12_goesBy 47 = .ok (.iload 5, 2) := d_by (d_at odX12_goesBy ofX12_goesBy 47) rfl
theorem dX12_goesBy_49 : decode cX12_goesBy 49 = .ok (.goto 5, 3) := d_by (d_at odX12_goesBy ofX12_goesBy 49) rfl
theorem dX12_goesBy_52 : decode cX12_goesBy 52 = .ok (.iload 4, 2) := d_by (d_at odX12_goesBy ofX12_goesBy 52) rfl
theorem dX12_goesBy_54 : decode cX12_goesBy 54 = .ok (.istore 6, 2) := d_by (d_at odX12_goesBy ofX12_goesBy 54) rfl
theorem dX12_goesBy_56 : decode cX12_goesBy 56 = .ok (.aload_n 0, 1) := d_by (d_at odX12_goesBy ofX12_goesBy 56) rfl
theorem dX12_goesBy_57 : decode cX12_goesBy 57 = .ok (.iload_n 1, 1) := d_by (d_at odX12_goesBy ofX12_goesBy 57) rfl
theorem dX12_goesBy_58 : decode cX12_goesBy 58 = .ok (.iload_n 2, 1) := d_by (d_at odX12_goesBy ofX12_goesBy 58) rfl
theorem dX12_goesBy_59 : decode cX12_goesBy 59 = .ok (.aload_n 0, 1) := d_by (d_at odX12_goesBy ofX12_goesBy 59) rfl
theorem dX12_goesBy_60 : decode cX12_goesBy 60 = .ok (.getfield 38, 3) := d_by (d_at odX12_goesBy ofX12_goesBy 60) rfl
theorem dX12_goesBy_63 : decode cX12_goesBy 63 = .ok (.iload_n 3, 1) := d_by (d_at odX12_goesBy ofX12_goesBy 63) rfl
theorem dX12_goesBy_64 : decode cX12_goesBy 64 = .ok (.iaload, 1) := d_by (d_at odX12_goesBy ofX12_goesBy 64) rfl
theorem dX12_goesBy_65 : decode cX12_goesBy 65 = .ok (.invokevirtual 346, 3) := d_by (d_at odX12_goesBy ofX12_goesBy 65) rfl
theorem dX12_goesBy_68 : decode cX12_goesBy 68 = .ok (.istore 7, 2) := d_by (d_at odX12_goesBy ofX12_goesBy 68) rfl
theorem dX12_goesBy_70 : decode cX12_goesBy 70 = .ok (.iload 7, 2) := d_by (d_at odX12_goesBy ofX12_goesBy 70) rfl
theorem dX12_goesBy_72 : decode cX12_goesBy 72 = .ok (.aload_n 0, 1) := d_by (d_at odX12_goesBy ofX12_goesBy 72) rfl
theorem dX12_goesBy_73 : decode cX12_goesBy 73 = .ok (.getfield 38, 3) := d_by (d_at odX12_goesBy ofX12_goesBy 73) rfl
theorem dX12_goesBy_76 : decode cX12_goesBy 76 = .ok (.iload 6, 2) := d_by (d_at odX12_goesBy ofX12_goesBy 76) rfl
theorem dX12_goesBy_78 : decode cX12_goesBy 78 = .ok (.iaload, 1) := d_by (d_at odX12_goesBy ofX12_goesBy 78) rfl
theorem dX12_goesBy_79 : decode cX12_goesBy 79 = .ok (.if_icmp .ge 12, 3) := d_by (d_at odX12_goesBy ofX12_goesBy 79) rfl
theorem dX12_goesBy_82 : decode cX12_goesBy 82 = .ok (.aload_n 0, 1) := d_by (d_at odX12_goesBy ofX12_goesBy 82) rfl
theorem dX12_goesBy_83 : decode cX12_goesBy 83 = .ok (.getfield 38, 3) := d_by (d_at odX12_goesBy ofX12_goesBy 83) rfl
theorem dX12_goesBy_86 : decode cX12_goesBy 86 = .ok (.iload 6, 2) := d_by (d_at odX12_goesBy ofX12_goesBy 86) rfl
theorem dX12_goesBy_88 : decode cX12_goesBy 88 = .ok (.iload 7, 2) := d_by (d_at odX12_goesBy ofX12_goesBy 88) rfl
theorem dX12_goesBy_90 : decode cX12_goesBy 90 = .ok (.iastore, 1) := d_by (d_at odX12_goesBy ofX12_goesBy 90) rfl
theorem dX12_goesBy_91 : decode cX12_goesBy 91 = .ok (.return_, 1) := d_by (d_at odX12_goesBy ofX12_goesBy 91) rfl
set_option maxRecDepth 100000 in
def bX12_arrivalOf : List Nat := [42, 27, 28, 21, 4, 182, 1, 93, 42, 180, 0, 38, 29, 46, 19, 1, 85, 160, 0, 8, 16, 254, 167, 0, 9, 42, 180, 0, 38, 29, 46, 172]
set_option maxRecDepth 100000 in
theorem bbX12_arrivalOf : cX12_arrivalOf.data.toList.map UInt8.toNat = bX12_arrivalOf := by decide +kernel
set_option maxRecDepth 100000 in
def tX12_arrivalOf : Lean.RArray dLf := .branch 14 (.branch 5 (.branch 2 (.branch 1 (.leaf (0, .aload_n 0, 1)) (.leaf (1, .iload_n 1, 1))) (.branch 3 (.leaf (2, .iload_n 2, 1)) (.leaf (3, .iload 4, 2)))) (.branch 9 (.branch 8 (.leaf (5, .invokevirtual 349, 3)) (.leaf (8, .aload_n 0, 1))) (.branch 12 (.leaf (9, .getfield 38, 3)) (.branch 13 (.leaf (12, .iload_n 3, 1)) (.leaf (13, .iaload, 1)))))) (.branch 25 (.branch 20 (.branch 17 (.leaf (14, .ldc_w 341, 3)) (.leaf (17, .if_icmp .ne 8, 3))) (.branch 22 (.leaf (20, .bipush (-2), 2)) (.leaf (22, .goto 9, 3)))) (.branch 29 (.branch 26 (.leaf (25, .aload_n 0, 1)) (.leaf (26, .getfield 38, 3))) (.branch 30 (.leaf (29, .iload_n 3, 1)) (.branch 31 (.leaf (30, .iaload, 1)) (.leaf (31, .ireturn, 1))))))
noncomputable def oX12_arrivalOf : List dLf := dFl tX12_arrivalOf
theorem ofX12_arrivalOf : dFl tX12_arrivalOf = oX12_arrivalOf := rfl
set_option maxRecDepth 100000 in
theorem odX12_arrivalOf : ∀ q ∈ oX12_arrivalOf, decode cX12_arrivalOf q.1 = .ok (q.2.1, q.2.2) := q_go qT_ok bbX12_arrivalOf oX12_arrivalOf 0 (by decide +kernel)
theorem dX12_arrivalOf_0 : decode cX12_arrivalOf 0 = .ok (.aload_n 0, 1) := d_by (d_at odX12_arrivalOf ofX12_arrivalOf 0) rfl
theorem dX12_arrivalOf_1 : decode cX12_arrivalOf 1 = .ok (.iload_n 1, 1) := d_by (d_at odX12_arrivalOf ofX12_arrivalOf 1) rfl
theorem dX12_arrivalOf_2 : decode cX12_arrivalOf 2 = .ok (.iload_n 2, 1) := d_by (d_at odX12_arrivalOf ofX12_arrivalOf 2) rfl
theorem dX12_arrivalOf_3 : decode cX12_arrivalOf 3 = .ok (.iload 4, 2) := d_by (d_at odX12_arrivalOf ofX12_arrivalOf 3) rfl
theorem dX12_arrivalOf_5 : decode cX12_arrivalOf 5 = .ok (.invokevirtual 349, 3) := d_by (d_at odX12_arrivalOf ofX12_arrivalOf 5) rfl
theorem dX12_arrivalOf_8 : decode cX12_arrivalOf 8 = .ok (.aload_n 0, 1) := d_by (d_at odX12_arrivalOf ofX12_arrivalOf 8) rfl
theorem dX12_arrivalOf_9 : decode cX12_arrivalOf 9 = .ok (.getfield 38, 3) := d_by (d_at odX12_arrivalOf ofX12_arrivalOf 9) rfl
theorem dX12_arrivalOf_12 : decode cX12_arrivalOf 12 = .ok (.iload_n 3, 1) := d_by (d_at odX12_arrivalOf ofX12_arrivalOf 12) rfl
theorem dX12_arrivalOf_13 : decode cX12_arrivalOf 13 = .ok (.iaload, 1) := d_by (d_at odX12_arrivalOf ofX12_arrivalOf 13) rfl
theorem dX12_arrivalOf_14 : decode cX12_arrivalOf 14 = .ok (.ldc_w 341, 3) := d_by (d_at odX12_arrivalOf ofX12_arrivalOf 14) rfl
theorem dX12_arrivalOf_17 : decode cX12_arrivalOf 17 = .ok (.if_icmp .ne 8, 3) := d_by (d_at odX12_arrivalOf ofX12_arrivalOf 17) rfl
theorem dX12_arrivalOf_20 : decode cX12_arrivalOf 20 = .ok (.bipush (-2), 2) := d_by (d_at odX12_arrivalOf ofX12_arrivalOf 20) rfl
theorem dX12_arrivalOf_22 : decode cX12_arrivalOf 22 = .ok (.goto 9, 3) := d_by (d_at odX12_arrivalOf ofX12_arrivalOf 22) rfl
theorem dX12_arrivalOf_25 : decode cX12_arrivalOf 25 = .ok (.aload_n 0, 1) := d_by (d_at odX12_arrivalOf ofX12_arrivalOf 25) rfl
theorem dX12_arrivalOf_26 : decode cX12_arrivalOf 26 = .ok (.getfield 38, 3) := d_by (d_at odX12_arrivalOf ofX12_arrivalOf 26) rfl
theorem dX12_arrivalOf_29 : decode cX12_arrivalOf 29 = .ok (.iload_n 3, 1) := d_by (d_at odX12_arrivalOf ofX12_arrivalOf 29) rfl
theorem dX12_arrivalOf_30 : decode cX12_arrivalOf 30 = .ok (.iaload, 1) := d_by (d_at odX12_arrivalOf ofX12_arrivalOf 30) rfl
theorem dX12_arrivalOf_31 : decode cX12_arrivalOf 31 = .ok (.ireturn, 1) := d_by (d_at odX12_arrivalOf ofX12_arrivalOf 31) rfl
set_option maxRecDepth 100000 in
def bX12_arrival : List Nat := [42, 182, 0, 167, 42, 27, 182, 1, 12, 153, 0, 19, 42, 28, 182, 1, 21, 153, 0, 11, 42, 29, 182, 1, 21, 154, 0, 9, 42, 4, 182, 0, 170, 172, 21, 4, 3, 17, 39, 15, 184, 0, 149, 153, 0, 20, 42, 42, 27, 3, 182, 1, 15, 28, 29, 21, 4, 182, 1, 96, 167, 0, 8, 42, 5, 182, 0, 170, 172]
set_option maxRecDepth 100000 in
theorem bbX12_arrival : cX12_arrival.data.toList.map UInt8.toNat = bX12_arrival := by decide +kernel
set_option maxRecDepth 100000 in
def tX12_arrival : Lean.RArray dLf := .branch 34 (.branch 17 (.branch 6 (.branch 4 (.branch 1 (.leaf (0, .aload_n 0, 1)) (.leaf (1, .invokevirtual 167, 3))) (.branch 5 (.leaf (4, .aload_n 0, 1)) (.leaf (5, .iload_n 1, 1)))) (.branch 12 (.branch 9 (.leaf (6, .invokevirtual 268, 3)) (.leaf (9, .ifCond .eq 19, 3))) (.branch 13 (.leaf (12, .aload_n 0, 1)) (.branch 14 (.leaf (13, .iload_n 2, 1)) (.leaf (14, .invokevirtual 277, 3)))))) (.branch 25 (.branch 21 (.branch 20 (.leaf (17, .ifCond .eq 11, 3)) (.leaf (20, .aload_n 0, 1))) (.branch 22 (.leaf (21, .iload_n 3, 1)) (.leaf (22, .invokevirtual 277, 3)))) (.branch 29 (.branch 28 (.leaf (25, .ifCond .ne 9, 3)) (.leaf (28, .aload_n 0, 1))) (.branch 30 (.leaf (29, .iconst 1, 1)) (.branch 33 (.leaf (30, .invokevirtual 170, 3)) (.leaf (33, .ireturn, 1))))))) (.branch 50 (.branch 43 (.branch 37 (.branch 36 (.leaf (34, .iload 4, 2)) (.leaf (36, .iconst 0, 1))) (.branch 40 (.leaf (37, .sipush 9999, 3)) (.leaf (40, .invokestatic 149, 3)))) (.branch 47 (.branch 46 (.leaf (43, .ifCond .eq 20, 3)) (.leaf (46, .aload_n 0, 1))) (.branch 48 (.leaf (47, .aload_n 0, 1)) (.branch 49 (.leaf (48, .iload_n 1, 1)) (.leaf (49, .iconst 0, 1)))))) (.branch 60 (.branch 54 (.branch 53 (.leaf (50, .invokevirtual 271, 3)) (.leaf (53, .iload_n 2, 1))) (.branch 55 (.leaf (54, .iload_n 3, 1)) (.branch 57 (.leaf (55, .iload 4, 2)) (.leaf (57, .invokevirtual 352, 3))))) (.branch 64 (.branch 63 (.leaf (60, .goto 8, 3)) (.leaf (63, .aload_n 0, 1))) (.branch 65 (.leaf (64, .iconst 2, 1)) (.branch 68 (.leaf (65, .invokevirtual 170, 3)) (.leaf (68, .ireturn, 1)))))))
noncomputable def oX12_arrival : List dLf := dFl tX12_arrival
theorem ofX12_arrival : dFl tX12_arrival = oX12_arrival := rfl
set_option maxRecDepth 100000 in
theorem odX12_arrival : ∀ q ∈ oX12_arrival, decode cX12_arrival q.1 = .ok (q.2.1, q.2.2) := q_go qT_ok bbX12_arrival oX12_arrival 0 (by decide +kernel)
set_option maxRecDepth 100000 in
def bX12_lays : List Nat := [42, 27, 3, 182, 1, 15, 62, 29, 154, 0, 7, 6, 167, 0, 15, 29, 5, 160, 0, 8, 16, 99, 167, 0, 5, 16, 9, 54, 4, 42, 28, 182, 1, 39, 54, 5, 42, 28, 5, 182, 1, 6, 21, 4, 163, 0, 20, 42, 180, 0, 26, 16, 12, 28, 96, 46, 157, 0, 8, 21, 5, 156, 0, 5, 3, 172, 42, 29, 42, 180, 0, 26, 5, 27, 96, 46, 42, 28, 3, 182, 1, 6, 42, 180, 0, 26, 16, 7, 27, 96, 46, 182, 1, 96, 54, 6, 21, 6, 156, 0, 5, 3, 172, 42, 21, 6, 42, 28, 6, 182, 1, 6, 184, 1, 99, 181, 1, 102, 42, 42, 29, 42, 28, 3, 182, 1, 6, 21, 5, 42, 180, 1, 102, 182, 1, 96, 181, 1, 105, 42, 180, 1, 105, 155, 0, 7, 4, 167, 0, 4, 3, 172]
set_option maxRecDepth 100000 in
theorem bbX12_lays : cX12_lays.data.toList.map UInt8.toNat = bX12_lays := by decide +kernel
set_option maxRecDepth 100000 in
def tX12_lays : Lean.RArray dLf := .branch 75 (.branch 38 (.branch 17 (.branch 7 (.branch 2 (.branch 1 (.leaf (0, .aload_n 0, 1)) (.leaf (1, .iload_n 1, 1))) (.branch 3 (.leaf (2, .iconst 0, 1)) (.branch 6 (.leaf (3, .invokevirtual 271, 3)) (.leaf (6, .istore_n 3, 1))))) (.branch 12 (.branch 8 (.leaf (7, .iload_n 3, 1)) (.branch 11 (.leaf (8, .ifCond .ne 7, 3)) (.leaf (11, .iconst 3, 1)))) (.branch 15 (.leaf (12, .goto 15, 3)) (.branch 16 (.leaf (15, .iload_n 3, 1)) (.leaf (16, .iconst 2, 1)))))) (.branch 29 (.branch 22 (.branch 20 (.leaf (17, .if_icmp .ne 8, 3)) (.leaf (20, .bipush 99, 2))) (.branch 25 (.leaf (22, .goto 5, 3)) (.branch 27 (.leaf (25, .bipush 9, 2)) (.leaf (27, .istore 4, 2))))) (.branch 34 (.branch 30 (.leaf (29, .aload_n 0, 1)) (.branch 31 (.leaf (30, .iload_n 2, 1)) (.leaf (31, .invokevirtual 295, 3)))) (.branch 36 (.leaf (34, .istore 5, 2)) (.branch 37 (.leaf (36, .aload_n 0, 1)) (.leaf (37, .iload_n 2, 1))))))) (.branch 59 (.branch 48 (.branch 42 (.branch 39 (.leaf (38, .iconst 2, 1)) (.leaf (39, .invokevirtual 262, 3))) (.branch 44 (.leaf (42, .iload 4, 2)) (.branch 47 (.leaf (44, .if_icmp .gt 20, 3)) (.leaf (47, .aload_n 0, 1))))) (.branch 54 (.branch 51 (.leaf (48, .getfield 26, 3)) (.branch 53 (.leaf (51, .bipush 12, 2)) (.leaf (53, .iload_n 2, 1)))) (.branch 55 (.leaf (54, .iadd, 1)) (.branch 56 (.leaf (55, .iaload, 1)) (.leaf (56, .ifCond .gt 8, 3)))))) (.branch 67 (.branch 64 (.branch 61 (.leaf (59, .iload 5, 2)) (.leaf (61, .ifCond .ge 5, 3))) (.branch 65 (.leaf (64, .iconst 0, 1)) (.branch 66 (.leaf (65, .ireturn, 1)) (.leaf (66, .aload_n 0, 1))))) (.branch 72 (.branch 68 (.leaf (67, .iload_n 3, 1)) (.branch 69 (.leaf (68, .aload_n 0, 1)) (.leaf (69, .getfield 26, 3)))) (.branch 73 (.leaf (72, .iconst 2, 1)) (.branch 74 (.leaf (73, .iload_n 1, 1)) (.leaf (74, .iadd, 1)))))))) (.branch 109 (.branch 91 (.branch 82 (.branch 77 (.branch 76 (.leaf (75, .iaload, 1)) (.leaf (76, .aload_n 0, 1))) (.branch 78 (.leaf (77, .iload_n 2, 1)) (.branch 79 (.leaf (78, .iconst 0, 1)) (.leaf (79, .invokevirtual 262, 3))))) (.branch 88 (.branch 83 (.leaf (82, .aload_n 0, 1)) (.branch 86 (.leaf (83, .getfield 26, 3)) (.leaf (86, .bipush 7, 2)))) (.branch 89 (.leaf (88, .iload_n 1, 1)) (.branch 90 (.leaf (89, .iadd, 1)) (.leaf (90, .iaload, 1)))))) (.branch 102 (.branch 96 (.branch 94 (.leaf (91, .invokevirtual 352, 3)) (.leaf (94, .istore 6, 2))) (.branch 98 (.leaf (96, .iload 6, 2)) (.branch 101 (.leaf (98, .ifCond .ge 5, 3)) (.leaf (101, .iconst 0, 1))))) (.branch 106 (.branch 103 (.leaf (102, .ireturn, 1)) (.branch 104 (.leaf (103, .aload_n 0, 1)) (.leaf (104, .iload 6, 2)))) (.branch 107 (.leaf (106, .aload_n 0, 1)) (.branch 108 (.leaf (107, .iload_n 2, 1)) (.leaf (108, .iconst 3, 1))))))) (.branch 129 (.branch 120 (.branch 115 (.branch 112 (.leaf (109, .invokevirtual 262, 3)) (.leaf (112, .invokestatic 355, 3))) (.branch 118 (.leaf (115, .putfield 358, 3)) (.branch 119 (.leaf (118, .aload_n 0, 1)) (.leaf (119, .aload_n 0, 1))))) (.branch 123 (.branch 121 (.leaf (120, .iload_n 3, 1)) (.branch 122 (.leaf (121, .aload_n 0, 1)) (.leaf (122, .iload_n 2, 1)))) (.branch 124 (.leaf (123, .iconst 0, 1)) (.branch 127 (.leaf (124, .invokevirtual 262, 3)) (.leaf (127, .iload 5, 2)))))) (.branch 140 (.branch 133 (.branch 130 (.leaf (129, .aload_n 0, 1)) (.leaf (130, .getfield 358, 3))) (.branch 136 (.leaf (133, .invokevirtual 352, 3)) (.branch 139 (.leaf (136, .putfield 361, 3)) (.leaf (139, .aload_n 0, 1))))) (.branch 147 (.branch 143 (.leaf (140, .getfield 361, 3)) (.branch 146 (.leaf (143, .ifCond .lt 7, 3)) (.leaf (146, .iconst 1, 1)))) (.branch 150 (.leaf (147, .goto 4, 3)) (.branch 151 (.leaf (150, .iconst 0, 1)) (.leaf (151, .ireturn, 1))))))))
noncomputable def oX12_lays : List dLf := dFl tX12_lays
theorem ofX12_lays : dFl tX12_lays = oX12_lays := rfl
set_option maxRecDepth 100000 in
theorem odX12_lays : ∀ q ∈ oX12_lays, decode cX12_lays q.1 = .ok (q.2.1, q.2.2) := q_go qT_ok bbX12_lays oX12_lays 0 (by decide +kernel)
theorem dX12_lays_0 : decode cX12_lays 0 = .ok (.aload_n 0, 1) := d_by (d_at odX12_lays ofX12_lays 0) rfl
theorem dX12_lays_1 : decode cX12_lays 1 = .ok (.iload_n 1, 1) := d_by (d_at odX12_lays ofX12_lays 1) rfl
theorem dX12_lays_2 : decode cX12_lays 2 = .ok (.iconst 0, 1) := d_by (d_at odX12_lays ofX12_lays 2) rfl
theorem dX12_lays_3 : decode cX12_lays 3 = .ok (.invokevirtual 271, 3) := d_by (d_at odX12_lays ofX12_lays 3) rfl
theorem dX12_lays_6 : decode cX12_lays 6 = .ok (.istore_n 3, 1) := d_by (d_at odX12_lays ofX12_lays 6) rfl
theorem dX12_lays_7 : decode cX12_lays 7 = .ok (.iload_n 3, 1) := d_by (d_at odX12_lays ofX12_lays 7) rfl
theorem dX12_lays_8 : decode cX12_lays 8 = .ok (.ifCond .ne 7, 3) := d_by (d_at odX12_lays ofX12_lays 8) rfl
theorem dX12_lays_11 : decode cX12_lays 11 = .ok (.iconst 3, 1) := d_by (d_at odX12_lays ofX12_lays 11) rfl
theorem dX12_lays_12 : decode cX12_lays 12 = .ok (.goto 15, 3) := d_by (d_at odX12_lays ofX12_lays 12) rfl
theorem dX12_lays_15 : decode cX12_lays 15 = .ok (.iload_n 3, 1) := d_by (d_at odX12_lays ofX12_lays 15) rfl
theorem dX12_lays_16 : decode cX12_lays 16 = .ok (.iconst 2, 1) := d_by (d_at odX12_lays ofX12_lays 16) rfl
theorem dX12_lays_17 : decode cX12_lays 17 = .ok (.if_icmp .ne 8, 3) := d_by (d_at odX12_lays ofX12_lays 17) rfl
theorem dX12_lays_20 : decode cX12_lays 20 = .ok (.bipush 99, 2) := d_by (d_at odX12_lays ofX12_lays 20) rfl
theorem dX12_lays_22 : decode cX12_lays 22 = .ok (.goto 5, 3) := d_by (d_at odX12_lays ofX12_lays 22) rfl
theorem dX12_lays_25 : decode cX12_lays 25 = .ok (.bipush 9, 2) := d_by (d_at odX12_lays ofX12_lays 25) rfl
theorem dX12_lays_27 : decode cX12_lays 27 = .ok (.istore 4, 2) := d_by (d_at odX12_lays ofX12_lays 27) rfl
theorem dX12_lays_29 : decode cX12_lays 29 = .ok (.aload_n 0, 1) := d_by (d_at odX12_lays ofX12_lays 29) rfl
theorem dX12_lays_30 : decode cX12_lays 30 = .ok (.iload_n 2, 1) := d_by (d_at odX12_lays ofX12_lays 30) rfl
theorem dX12_lays_31 : decode cX12_lays 31 = .ok (.invokevirtual 295, 3) := d_by (d_at odX12_lays ofX12_lays 31) rfl
theorem dX12_lays_34 : decode cX12_lays 34 = .ok (.istore 5, 2) := d_by (d_at odX12_lays ofX12_lays 34) rfl
theorem dX12_lays_36 : decode cX12_lays 36 = .ok (.aload_n 0, 1) := d_by (d_at odX12_lays ofX12_lays 36) rfl
theorem dX12_lays_37 : decode cX12_lays 37 = .ok (.iload_n 2, 1) := d_by (d_at odX12_lays ofX12_lays 37) rfl
theorem dX12_lays_38 : decode cX12_lays 38 = .ok (.iconst 2, 1) := d_by (d_at odX12_lays ofX12_lays 38) rfl
theorem dX12_lays_39 : decode cX12_lays 39 = .ok (.invokevirtual 262, 3) := d_by (d_at odX12_lays ofX12_lays 39) rfl
theorem dX12_lays_42 : decode cX12_lays 42 = .ok (.iload 4, 2) := d_by (d_at odX12_lays ofX12_lays 42) rfl
theorem dX12_lays_44 : decode cX12_lays 44 = .ok (.if_icmp .gt 20, 3) := d_by (d_at odX12_lays ofX12_lays 44) rfl
theorem dX12_lays_47 : decode cX12_lays 47 = .ok (.aload_n 0, 1) := d_by (d_at odX12_lays ofX12_lays 47) rfl
theorem dX12_lays_48 : decode cX12_lays 48 = .ok (.getfield 26, 3) := d_by (d_at odX12_lays ofX12_lays 48) rfl
theorem dX12_lays_51 : decode cX12_lays 51 = .ok (.bipush 12, 2) := d_by (d_at odX12_lays ofX12_lays 51) rfl
theorem dX12_lays_53 : decode cX12_lays 53 = .ok (.iload_n 2, 1) := d_by (d_at odX12_lays ofX12_lays 53) rfl
theorem dX12_lays_54 : decode cX12_lays 54 = .ok (.iadd, 1) := d_by (d_at odX12_lays ofX12_lays 54) rfl
theorem dX12_lays_55 : decode cX12_lays 55 = .ok (.iaload, 1) := d_by (d_at odX12_lays ofX12_lays 55) rfl
theorem dX12_lays_56 : decode cX12_lays 56 = .ok (.ifCond .gt 8, 3) := d_by (d_at odX12_lays ofX12_lays 56) rfl
theorem dX12_lays_59 : decode cX12_lays 59 = .ok (.iload 5, 2) := d_by (d_at odX12_lays ofX12_lays 59) rfl
theorem dX12_lays_61 : decode cX12_lays 61 = .ok (.ifCond .ge 5, 3) := d_by (d_at odX12_lays ofX12_lays 61) rfl
theorem dX12_lays_64 : decode cX12_lays 64 = .ok (.iconst 0, 1) := d_by (d_at odX12_lays ofX12_lays 64) rfl
theorem dX12_lays_65 : decode cX12_lays 65 = .ok (.ireturn, 1) := d_by (d_at odX12_lays ofX12_lays 65) rfl
theorem dX12_lays_66 : decode cX12_lays 66 = .ok (.aload_n 0, 1) := d_by (d_at odX12_lays ofX12_lays 66) rfl
theorem dX12_lays_67 : decode cX12_lays 67 = .ok (.iload_n 3, 1) := d_by (d_at odX12_lays ofX12_lays 67) rfl
theorem dX12_lays_68 : decode cX12_lays 68 = .ok (.aload_n 0, 1) := d_by (d_at odX12_lays ofX12_lays 68) rfl
theorem dX12_lays_69 : decode cX12_lays 69 = .ok (.getfield 26, 3) := d_by (d_at odX12_lays ofX12_lays 69) rfl
theorem dX12_lays_72 : decode cX12_lays 72 = .ok (.iconst 2, 1) := d_by (d_at odX12_lays ofX12_lays 72) rfl
theorem dX12_lays_73 : decode cX12_lays 73 = .ok (.iload_n 1, 1) := d_by (d_at odX12_lays ofX12_lays 73) rfl
theorem dX12_lays_74 : decode cX12_lays 74 = .ok (.iadd, 1) := d_by (d_at odX12_lays ofX12_lays 74) rfl
theorem dX12_lays_75 : decode cX12_lays 75 = .ok (.iaload, 1) := d_by (d_at odX12_lays ofX12_lays 75) rfl
theorem dX12_lays_76 : decode cX12_lays 76 = .ok (.aload_n 0, 1) := d_by (d_at odX12_lays ofX12_lays 76) rfl
theorem dX12_lays_77 : decode cX12_lays 77 = .ok (.iload_n 2, 1) := d_by (d_at odX12_lays ofX12_lays 77) rfl
theorem dX12_lays_78 : decode cX12_lays 78 = .ok (.iconst 0, 1) := d_by (d_at odX12_lays ofX12_lays 78) rfl
theorem dX12_lays_79 : decode cX12_lays 79 = .ok (.invokevirtual 262, 3) := d_by (d_at odX12_lays ofX12_lays 79) rfl
theorem dX12_lays_82 : decode cX12_lays 82 = .ok (.aload_n 0, 1) := d_by (d_at odX12_lays ofX12_lays 82) rfl
theorem dX12_lays_83 : decode cX12_lays 83 = .ok (.getfield 26, 3) := d_by (d_at odX12_lays ofX12_lays 83) rfl
theorem dX12_lays_86 : decode cX12_lays 86 = .ok (.bipush 7, 2) := d_by (d_at odX12_lays ofX12_lays 86) rfl
theorem dX12_lays_88 : decode cX12_lays 88 = .ok (.iload_n 1, 1) := d_by (d_at odX12_lays ofX12_lays 88) rfl
theorem dX12_lays_89 : decode cX12_lays 89 = .ok (.iadd, 1) := d_by (d_at odX12_lays ofX12_lays 89) rfl
theorem dX12_lays_90 : decode cX12_lays 90 = .ok (.iaload, 1) := d_by (d_at odX12_lays ofX12_lays 90) rfl
theorem dX12_lays_91 : decode cX12_lays 91 = .ok (.invokevirtual 352, 3) := d_by (d_at odX12_lays ofX12_lays 91) rfl
theorem dX12_lays_94 : decode cX12_lays 94 = .ok (.istore 6, 2) := d_by (d_at odX12_lays ofX12_lays 94) rfl
theorem dX12_lays_96 : decode cX12_lays 96 = .ok (.iload 6, 2) := d_by (d_at odX12_lays ofX12_lays 96) rfl
theorem dX12_lays_98 : decode cX12_lays 98 = .ok (.ifCond .ge 5, 3) := d_by (d_at odX12_lays ofX12_lays 98) rfl
theorem dX12_lays_101 : decode cX12_lays 101 = .ok (.iconst 0, 1) := d_by (d_at odX12_lays ofX12_lays 101) rfl
theorem dX12_lays_102 : decode cX12_lays 102 = .ok (.ireturn, 1) := d_by (d_at odX12_lays ofX12_lays 102) rfl
theorem dX12_lays_103 : decode cX12_lays 103 = .ok (.aload_n 0, 1) := d_by (d_at odX12_lays ofX12_lays 103) rfl
theorem dX12_lays_104 : decode cX12_lays 104 = .ok (.iload 6, 2) := d_by (d_at odX12_lays ofX12_lays 104) rfl
theorem dX12_lays_106 : decode cX12_lays 106 = .ok (.aload_n 0, 1) := d_by (d_at odX12_lays ofX12_lays 106) rfl
theorem dX12_lays_107 : decode cX12_lays 107 = .ok (.iload_n 2, 1) := d_by (d_at odX12_lays ofX12_lays 107) rfl
theorem dX12_lays_108 : decode cX12_lays 108 = .ok (.iconst 3, 1) := d_by (d_at odX12_lays ofX12_lays 108) rfl
theorem dX12_lays_109 : decode cX12_lays 109 = .ok (.invokevirtual 262, 3) := d_by (d_at odX12_lays ofX12_lays 109) rfl
theorem dX12_lays_112 : decode cX12_lays 112 = .ok (.invokestatic 355, 3) := d_by (d_at odX12_lays ofX12_lays 112) rfl
theorem dX12_lays_115 : decode cX12_lays 115 = .ok (.putfield 358, 3) := d_by (d_at odX12_lays ofX12_lays 115) rfl
theorem dX12_lays_118 : decode cX12_lays 118 = .ok (.aload_n 0, 1) := d_by (d_at odX12_lays ofX12_lays 118) rfl
theorem dX12_lays_119 : decode cX12_lays 119 = .ok (.aload_n 0, 1) := d_by (d_at odX12_lays ofX12_lays 119) rfl
theorem dX12_lays_120 : decode cX12_lays 120 = .ok (.iload_n 3, 1) := d_by (d_at odX12_lays ofX12_lays 120) rfl
theorem dX12_lays_121 : decode cX12_lays 121 = .ok (.aload_n 0, 1) := d_by (d_at odX12_lays ofX12_lays 121) rfl
theorem dX12_lays_122 : decode cX12_lays 122 = .ok (.iload_n 2, 1) := d_by (d_at odX12_lays ofX12_lays 122) rfl
theorem dX12_lays_123 : decode cX12_lays 123 = .ok (.iconst 0, 1) := d_by (d_at odX12_lays ofX12_lays 123) rfl
theorem dX12_lays_124 : decode cX12_lays 124 = .ok (.invokevirtual 262, 3) := d_by (d_at odX12_lays ofX12_lays 124) rfl
theorem dX12_lays_127 : decode cX12_lays 127 = .ok (.iload 5, 2) := d_by (d_at odX12_lays ofX12_lays 127) rfl
theorem dX12_lays_129 : decode cX12_lays 129 = .ok (.aload_n 0, 1) := d_by (d_at odX12_lays ofX12_lays 129) rfl
theorem dX12_lays_130 : decode cX12_lays 130 = .ok (.getfield 358, 3) := d_by (d_at odX12_lays ofX12_lays 130) rfl
theorem dX12_lays_133 : decode cX12_lays 133 = .ok (.invokevirtual 352, 3) := d_by (d_at odX12_lays ofX12_lays 133) rfl
theorem dX12_lays_136 : decode cX12_lays 136 = .ok (.putfield 361, 3) := d_by (d_at odX12_lays ofX12_lays 136) rfl
theorem dX12_lays_139 : decode cX12_lays 139 = .ok (.aload_n 0, 1) := d_by (d_at odX12_lays ofX12_lays 139) rfl
theorem dX12_lays_140 : decode cX12_lays 140 = .ok (.getfield 361, 3) := d_by (d_at odX12_lays ofX12_lays 140) rfl
theorem dX12_lays_143 : decode cX12_lays 143 = .ok (.ifCond .lt 7, 3) := d_by (d_at odX12_lays ofX12_lays 143) rfl
theorem dX12_lays_146 : decode cX12_lays 146 = .ok (.iconst 1, 1) := d_by (d_at odX12_lays ofX12_lays 146) rfl
theorem dX12_lays_147 : decode cX12_lays 147 = .ok (.goto 4, 3) := d_by (d_at odX12_lays ofX12_lays 147) rfl
theorem dX12_lays_150 : decode cX12_lays 150 = .ok (.iconst 0, 1) := d_by (d_at odX12_lays ofX12_lays 150) rfl
theorem dX12_lays_151 : decode cX12_lays 151 = .ok (.ireturn, 1) := d_by (d_at odX12_lays ofX12_lays 151) rfl
set_option maxRecDepth 100000 in
def bX12_bringsOf : List Nat := [42, 27, 28, 182, 1, 108, 153, 0, 17, 42, 180, 1, 105, 42, 27, 5, 182, 1, 15, 96, 167, 0, 5, 16, 254, 172]
set_option maxRecDepth 100000 in
theorem bbX12_bringsOf : cX12_bringsOf.data.toList.map UInt8.toNat = bX12_bringsOf := by decide +kernel
set_option maxRecDepth 100000 in
def tX12_bringsOf : Lean.RArray dLf := .branch 13 (.branch 3 (.branch 1 (.leaf (0, .aload_n 0, 1)) (.branch 2 (.leaf (1, .iload_n 1, 1)) (.leaf (2, .iload_n 2, 1)))) (.branch 9 (.branch 6 (.leaf (3, .invokevirtual 364, 3)) (.leaf (6, .ifCond .eq 17, 3))) (.branch 10 (.leaf (9, .aload_n 0, 1)) (.leaf (10, .getfield 361, 3))))) (.branch 19 (.branch 15 (.branch 14 (.leaf (13, .aload_n 0, 1)) (.leaf (14, .iload_n 1, 1))) (.branch 16 (.leaf (15, .iconst 2, 1)) (.leaf (16, .invokevirtual 271, 3)))) (.branch 23 (.branch 20 (.leaf (19, .iadd, 1)) (.leaf (20, .goto 5, 3))) (.branch 25 (.leaf (23, .bipush (-2), 2)) (.leaf (25, .ireturn, 1)))))
noncomputable def oX12_bringsOf : List dLf := dFl tX12_bringsOf
theorem ofX12_bringsOf : dFl tX12_bringsOf = oX12_bringsOf := rfl
set_option maxRecDepth 100000 in
theorem odX12_bringsOf : ∀ q ∈ oX12_bringsOf, decode cX12_bringsOf q.1 = .ok (q.2.1, q.2.2) := q_go qT_ok bbX12_bringsOf oX12_bringsOf 0 (by decide +kernel)
theorem dX12_bringsOf_0 : decode cX12_bringsOf 0 = .ok (.aload_n 0, 1) := d_by (d_at odX12_bringsOf ofX12_bringsOf 0) rfl
theorem dX12_bringsOf_1 : decode cX12_bringsOf 1 = .ok (.iload_n 1, 1) := d_by (d_at odX12_bringsOf ofX12_bringsOf 1) rfl
theorem dX12_bringsOf_2 : decode cX12_bringsOf 2 = .ok (.iload_n 2, 1) := d_by (d_at odX12_bringsOf ofX12_bringsOf 2) rfl
theorem dX12_bringsOf_3 : decode cX12_bringsOf 3 = .ok (.invokevirtual 364, 3) := d_by (d_at odX12_bringsOf ofX12_bringsOf 3) rfl
theorem dX12_bringsOf_6 : decode cX12_bringsOf 6 = .ok (.ifCond .eq 17, 3) := d_by (d_at odX12_bringsOf ofX12_bringsOf 6) rfl
theorem dX12_bringsOf_9 : decode cX12_bringsOf 9 = .ok (.aload_n 0, 1) := d_by (d_at odX12_bringsOf ofX12_bringsOf 9) rfl
theorem dX12_bringsOf_10 : decode cX12_bringsOf 10 = .ok (.getfield 361, 3) := d_by (d_at odX12_bringsOf ofX12_bringsOf 10) rfl
theorem dX12_bringsOf_13 : decode cX12_bringsOf 13 = .ok (.aload_n 0, 1) := d_by (d_at odX12_bringsOf ofX12_bringsOf 13) rfl
theorem dX12_bringsOf_14 : decode cX12_bringsOf 14 = .ok (.iload_n 1, 1) := d_by (d_at odX12_bringsOf ofX12_bringsOf 14) rfl
theorem dX12_bringsOf_15 : decode cX12_bringsOf 15 = .ok (.iconst 2, 1) := d_by (d_at odX12_bringsOf ofX12_bringsOf 15) rfl
theorem dX12_bringsOf_16 : decode cX12_bringsOf 16 = .ok (.invokevirtual 271, 3) := d_by (d_at odX12_bringsOf ofX12_bringsOf 16) rfl
theorem dX12_bringsOf_19 : decode cX12_bringsOf 19 = .ok (.iadd, 1) := d_by (d_at odX12_bringsOf ofX12_bringsOf 19) rfl
theorem dX12_bringsOf_20 : decode cX12_bringsOf 20 = .ok (.goto 5, 3) := d_by (d_at odX12_bringsOf ofX12_bringsOf 20) rfl
theorem dX12_bringsOf_23 : decode cX12_bringsOf 23 = .ok (.bipush (-2), 2) := d_by (d_at odX12_bringsOf ofX12_bringsOf 23) rfl
theorem dX12_bringsOf_25 : decode cX12_bringsOf 25 = .ok (.ireturn, 1) := d_by (d_at odX12_bringsOf ofX12_bringsOf 25) rfl
set_option maxRecDepth 100000 in
def bX12_brings : List Nat := [42, 182, 0, 167, 42, 27, 182, 1, 12, 153, 0, 20, 42, 28, 182, 1, 18, 153, 0, 12, 42, 27, 28, 182, 1, 111, 167, 0, 8, 42, 4, 182, 0, 170, 172]
set_option maxRecDepth 100000 in
theorem bbX12_brings : cX12_brings.data.toList.map UInt8.toNat = bX12_brings := by decide +kernel
set_option maxRecDepth 100000 in
def tX12_brings : Lean.RArray dLf := .branch 17 (.branch 6 (.branch 4 (.branch 1 (.leaf (0, .aload_n 0, 1)) (.leaf (1, .invokevirtual 167, 3))) (.branch 5 (.leaf (4, .aload_n 0, 1)) (.leaf (5, .iload_n 1, 1)))) (.branch 12 (.branch 9 (.leaf (6, .invokevirtual 268, 3)) (.leaf (9, .ifCond .eq 20, 3))) (.branch 13 (.leaf (12, .aload_n 0, 1)) (.branch 14 (.leaf (13, .iload_n 2, 1)) (.leaf (14, .invokevirtual 274, 3)))))) (.branch 26 (.branch 21 (.branch 20 (.leaf (17, .ifCond .eq 12, 3)) (.leaf (20, .aload_n 0, 1))) (.branch 22 (.leaf (21, .iload_n 1, 1)) (.branch 23 (.leaf (22, .iload_n 2, 1)) (.leaf (23, .invokevirtual 367, 3))))) (.branch 30 (.branch 29 (.leaf (26, .goto 8, 3)) (.leaf (29, .aload_n 0, 1))) (.branch 31 (.leaf (30, .iconst 1, 1)) (.branch 34 (.leaf (31, .invokevirtual 170, 3)) (.leaf (34, .ireturn, 1))))))
noncomputable def oX12_brings : List dLf := dFl tX12_brings
theorem ofX12_brings : dFl tX12_brings = oX12_brings := rfl
set_option maxRecDepth 100000 in
theorem odX12_brings : ∀ q ∈ oX12_brings, decode cX12_brings q.1 = .ok (q.2.1, q.2.2) := q_go qT_ok bbX12_brings oX12_brings 0 (by decide +kernel)
set_option maxRecDepth 100000 in
def bX12_soonest : List Nat := [42, 182, 0, 167, 42, 27, 182, 1, 18, 154, 0, 9, 42, 4, 182, 0, 170, 172, 16, 254, 61, 3, 62, 29, 42, 180, 0, 20, 16, 6, 46, 162, 0, 39, 42, 29, 27, 182, 1, 111, 155, 0, 24, 28, 155, 0, 18, 42, 29, 27, 182, 1, 111, 42, 28, 27, 182, 1, 111, 162, 0, 5, 29, 61, 132, 3, 1, 167, 255, 212, 28, 172]
set_option maxRecDepth 100000 in
theorem bbX12_soonest : cX12_soonest.data.toList.map UInt8.toNat = bX12_soonest := by decide +kernel
set_option maxRecDepth 100000 in
def tX12_soonest : Lean.RArray dLf := .branch 35 (.branch 18 (.branch 9 (.branch 4 (.branch 1 (.leaf (0, .aload_n 0, 1)) (.leaf (1, .invokevirtual 167, 3))) (.branch 5 (.leaf (4, .aload_n 0, 1)) (.branch 6 (.leaf (5, .iload_n 1, 1)) (.leaf (6, .invokevirtual 274, 3))))) (.branch 13 (.branch 12 (.leaf (9, .ifCond .ne 9, 3)) (.leaf (12, .aload_n 0, 1))) (.branch 14 (.leaf (13, .iconst 1, 1)) (.branch 17 (.leaf (14, .invokevirtual 170, 3)) (.leaf (17, .ireturn, 1)))))) (.branch 24 (.branch 21 (.branch 20 (.leaf (18, .bipush (-2), 2)) (.leaf (20, .istore_n 2, 1))) (.branch 22 (.leaf (21, .iconst 0, 1)) (.branch 23 (.leaf (22, .istore_n 3, 1)) (.leaf (23, .iload_n 3, 1))))) (.branch 30 (.branch 25 (.leaf (24, .aload_n 0, 1)) (.branch 28 (.leaf (25, .getfield 20, 3)) (.leaf (28, .bipush 6, 2)))) (.branch 31 (.leaf (30, .iaload, 1)) (.branch 34 (.leaf (31, .if_icmp .ge 39, 3)) (.leaf (34, .aload_n 0, 1))))))) (.branch 53 (.branch 44 (.branch 37 (.branch 36 (.leaf (35, .iload_n 3, 1)) (.leaf (36, .iload_n 1, 1))) (.branch 40 (.leaf (37, .invokevirtual 367, 3)) (.branch 43 (.leaf (40, .ifCond .lt 24, 3)) (.leaf (43, .iload_n 2, 1))))) (.branch 48 (.branch 47 (.leaf (44, .ifCond .lt 18, 3)) (.leaf (47, .aload_n 0, 1))) (.branch 49 (.leaf (48, .iload_n 3, 1)) (.branch 50 (.leaf (49, .iload_n 1, 1)) (.leaf (50, .invokevirtual 367, 3)))))) (.branch 62 (.branch 55 (.branch 54 (.leaf (53, .aload_n 0, 1)) (.leaf (54, .iload_n 2, 1))) (.branch 56 (.leaf (55, .iload_n 1, 1)) (.branch 59 (.leaf (56, .invokevirtual 367, 3)) (.leaf (59, .if_icmp .ge 5, 3))))) (.branch 67 (.branch 63 (.leaf (62, .iload_n 3, 1)) (.branch 64 (.leaf (63, .istore_n 2, 1)) (.leaf (64, .iinc 3 1, 3)))) (.branch 70 (.leaf (67, .goto (-44), 3)) (.branch 71 (.leaf (70, .iload_n 2, 1)) (.leaf (71, .ireturn, 1)))))))
noncomputable def oX12_soonest : List dLf := dFl tX12_soonest
theorem ofX12_soonest : dFl tX12_soonest = oX12_soonest := rfl
set_option maxRecDepth 100000 in
theorem odX12_soonest : ∀ q ∈ oX12_soonest, decode cX12_soonest q.1 = .ok (q.2.1, q.2.2) := q_go qT_ok bbX12_soonest oX12_soonest 0 (by decide +kernel)
set_option maxRecDepth 100000 in
def bX12_surestBut : List Nat := [16, 254, 62, 3, 54, 4, 21, 4, 42, 180, 0, 20, 16, 6, 46, 162, 0, 48, 21, 4, 28, 159, 0, 36, 42, 21, 4, 27, 182, 1, 111, 155, 0, 26, 29, 155, 0, 19, 42, 21, 4, 6, 182, 1, 15, 42, 29, 6, 182, 1, 15, 162, 0, 6, 21, 4, 62, 132, 4, 1, 167, 255, 202, 29, 172]
set_option maxRecDepth 100000 in
theorem bbX12_surestBut : cX12_surestBut.data.toList.map UInt8.toNat = bX12_surestBut := by decide +kernel
set_option maxRecDepth 100000 in
def tX12_surestBut : Lean.RArray dLf := .branch 31 (.branch 14 (.branch 6 (.branch 3 (.branch 2 (.leaf (0, .bipush (-2), 2)) (.leaf (2, .istore_n 3, 1))) (.branch 4 (.leaf (3, .iconst 0, 1)) (.leaf (4, .istore 4, 2)))) (.branch 9 (.branch 8 (.leaf (6, .iload 4, 2)) (.leaf (8, .aload_n 0, 1))) (.branch 12 (.leaf (9, .getfield 20, 3)) (.leaf (12, .bipush 6, 2))))) (.branch 21 (.branch 18 (.branch 15 (.leaf (14, .iaload, 1)) (.leaf (15, .if_icmp .ge 48, 3))) (.branch 20 (.leaf (18, .iload 4, 2)) (.leaf (20, .iload_n 2, 1)))) (.branch 25 (.branch 24 (.leaf (21, .if_icmp .eq 36, 3)) (.leaf (24, .aload_n 0, 1))) (.branch 27 (.leaf (25, .iload 4, 2)) (.branch 28 (.leaf (27, .iload_n 1, 1)) (.leaf (28, .invokevirtual 367, 3))))))) (.branch 47 (.branch 39 (.branch 35 (.branch 34 (.leaf (31, .ifCond .lt 26, 3)) (.leaf (34, .iload_n 3, 1))) (.branch 38 (.leaf (35, .ifCond .lt 19, 3)) (.leaf (38, .aload_n 0, 1)))) (.branch 42 (.branch 41 (.leaf (39, .iload 4, 2)) (.leaf (41, .iconst 3, 1))) (.branch 45 (.leaf (42, .invokevirtual 271, 3)) (.branch 46 (.leaf (45, .aload_n 0, 1)) (.leaf (46, .iload_n 3, 1)))))) (.branch 56 (.branch 51 (.branch 48 (.leaf (47, .iconst 3, 1)) (.leaf (48, .invokevirtual 271, 3))) (.branch 54 (.leaf (51, .if_icmp .ge 6, 3)) (.leaf (54, .iload 4, 2)))) (.branch 60 (.branch 57 (.leaf (56, .istore_n 3, 1)) (.leaf (57, .iinc 4 1, 3))) (.branch 63 (.leaf (60, .goto (-54), 3)) (.branch 64 (.leaf (63, .iload_n 3, 1)) (.leaf (64, .ireturn, 1)))))))
noncomputable def oX12_surestBut : List dLf := dFl tX12_surestBut
theorem ofX12_surestBut : dFl tX12_surestBut = oX12_surestBut := rfl
set_option maxRecDepth 100000 in
theorem odX12_surestBut : ∀ q ∈ oX12_surestBut, decode cX12_surestBut q.1 = .ok (q.2.1, q.2.2) := q_go qT_ok bbX12_surestBut oX12_surestBut 0 (by decide +kernel)
set_option maxRecDepth 100000 in
def bX12_surest : List Nat := [42, 182, 0, 167, 42, 27, 182, 1, 18, 153, 0, 12, 42, 27, 2, 182, 1, 114, 167, 0, 8, 42, 4, 182, 0, 170, 172]
set_option maxRecDepth 100000 in
theorem bbX12_surest : cX12_surest.data.toList.map UInt8.toNat = bX12_surest := by decide +kernel
set_option maxRecDepth 100000 in
def tX12_surest : Lean.RArray dLf := .branch 13 (.branch 5 (.branch 1 (.leaf (0, .aload_n 0, 1)) (.branch 4 (.leaf (1, .invokevirtual 167, 3)) (.leaf (4, .aload_n 0, 1)))) (.branch 9 (.branch 6 (.leaf (5, .iload_n 1, 1)) (.leaf (6, .invokevirtual 274, 3))) (.branch 12 (.leaf (9, .ifCond .eq 12, 3)) (.leaf (12, .aload_n 0, 1))))) (.branch 21 (.branch 15 (.branch 14 (.leaf (13, .iload_n 1, 1)) (.leaf (14, .iconst (-1), 1))) (.branch 18 (.leaf (15, .invokevirtual 370, 3)) (.leaf (18, .goto 8, 3)))) (.branch 23 (.branch 22 (.leaf (21, .aload_n 0, 1)) (.leaf (22, .iconst 1, 1))) (.branch 26 (.leaf (23, .invokevirtual 170, 3)) (.leaf (26, .ireturn, 1)))))
noncomputable def oX12_surest : List dLf := dFl tX12_surest
theorem ofX12_surest : dFl tX12_surest = oX12_surest := rfl
set_option maxRecDepth 100000 in
theorem odX12_surest : ∀ q ∈ oX12_surest, decode cX12_surest q.1 = .ok (q.2.1, q.2.2) := q_go qT_ok bbX12_surest oX12_surest 0 (by decide +kernel)
set_option maxRecDepth 100000 in
def bX12_by : List Nat := [42, 182, 0, 167, 42, 27, 182, 1, 18, 154, 0, 9, 42, 4, 182, 0, 170, 172, 28, 3, 19, 1, 84, 184, 0, 149, 154, 0, 9, 42, 5, 182, 0, 170, 172, 3, 62, 3, 54, 4, 21, 4, 42, 180, 0, 20, 16, 6, 46, 162, 0, 35, 29, 42, 21, 4, 27, 182, 1, 111, 3, 28, 184, 0, 149, 153, 0, 10, 4, 21, 4, 120, 167, 0, 4, 3, 128, 62, 132, 4, 1, 167, 255, 215, 29, 172]
set_option maxRecDepth 100000 in
theorem bbX12_by : cX12_by.data.toList.map UInt8.toNat = bX12_by := by decide +kernel
set_option maxRecDepth 100000 in
def tX12_by : Lean.RArray dLf := .branch 42 (.branch 20 (.branch 12 (.branch 5 (.branch 1 (.leaf (0, .aload_n 0, 1)) (.branch 4 (.leaf (1, .invokevirtual 167, 3)) (.leaf (4, .aload_n 0, 1)))) (.branch 6 (.leaf (5, .iload_n 1, 1)) (.branch 9 (.leaf (6, .invokevirtual 274, 3)) (.leaf (9, .ifCond .ne 9, 3))))) (.branch 17 (.branch 13 (.leaf (12, .aload_n 0, 1)) (.branch 14 (.leaf (13, .iconst 1, 1)) (.leaf (14, .invokevirtual 170, 3)))) (.branch 18 (.leaf (17, .ireturn, 1)) (.branch 19 (.leaf (18, .iload_n 2, 1)) (.leaf (19, .iconst 0, 1)))))) (.branch 34 (.branch 29 (.branch 23 (.leaf (20, .ldc_w 340, 3)) (.branch 26 (.leaf (23, .invokestatic 149, 3)) (.leaf (26, .ifCond .ne 9, 3)))) (.branch 30 (.leaf (29, .aload_n 0, 1)) (.branch 31 (.leaf (30, .iconst 2, 1)) (.leaf (31, .invokevirtual 170, 3))))) (.branch 37 (.branch 35 (.leaf (34, .ireturn, 1)) (.branch 36 (.leaf (35, .iconst 0, 1)) (.leaf (36, .istore_n 3, 1)))) (.branch 38 (.leaf (37, .iconst 0, 1)) (.branch 40 (.leaf (38, .istore 4, 2)) (.leaf (40, .iload 4, 2))))))) (.branch 62 (.branch 53 (.branch 48 (.branch 43 (.leaf (42, .aload_n 0, 1)) (.branch 46 (.leaf (43, .getfield 20, 3)) (.leaf (46, .bipush 6, 2)))) (.branch 49 (.leaf (48, .iaload, 1)) (.branch 52 (.leaf (49, .if_icmp .ge 35, 3)) (.leaf (52, .iload_n 3, 1))))) (.branch 57 (.branch 54 (.leaf (53, .aload_n 0, 1)) (.branch 56 (.leaf (54, .iload 4, 2)) (.leaf (56, .iload_n 1, 1)))) (.branch 60 (.leaf (57, .invokevirtual 367, 3)) (.branch 61 (.leaf (60, .iconst 0, 1)) (.leaf (61, .iload_n 2, 1)))))) (.branch 75 (.branch 69 (.branch 65 (.leaf (62, .invokestatic 149, 3)) (.branch 68 (.leaf (65, .ifCond .eq 10, 3)) (.leaf (68, .iconst 1, 1)))) (.branch 71 (.leaf (69, .iload 4, 2)) (.branch 72 (.leaf (71, .ishl, 1)) (.leaf (72, .goto 4, 3))))) (.branch 78 (.branch 76 (.leaf (75, .iconst 0, 1)) (.branch 77 (.leaf (76, .ior, 1)) (.leaf (77, .istore_n 3, 1)))) (.branch 84 (.branch 81 (.leaf (78, .iinc 4 1, 3)) (.leaf (81, .goto (-41), 3))) (.branch 85 (.leaf (84, .iload_n 3, 1)) (.leaf (85, .ireturn, 1)))))))
noncomputable def oX12_by : List dLf := dFl tX12_by
theorem ofX12_by : dFl tX12_by = oX12_by := rfl
set_option maxRecDepth 100000 in
theorem odX12_by : ∀ q ∈ oX12_by, decode cX12_by q.1 = .ok (q.2.1, q.2.2) := q_go qT_ok bbX12_by oX12_by 0 (by decide +kernel)
set_option maxRecDepth 100000 in
def bX12_lowest : List Nat := [32, 55, 5, 30, 55, 7, 22, 7, 9, 148, 153, 0, 21, 22, 5, 22, 7, 113, 55, 9, 22, 7, 55, 5, 22, 9, 55, 7, 167, 255, 234, 21, 4, 153, 0, 7, 32, 167, 0, 4, 30, 22, 5, 109, 173]
set_option maxRecDepth 100000 in
theorem bbX12_lowest : cX12_lowest.data.toList.map UInt8.toNat = bX12_lowest := by decide +kernel
set_option maxRecDepth 100000 in
def tX12_lowest : Lean.RArray dLf := .branch 20 (.branch 9 (.branch 4 (.branch 1 (.leaf (0, .lload_n 2, 1)) (.branch 3 (.leaf (1, .lstore 5, 2)) (.leaf (3, .lload_n 0, 1)))) (.branch 6 (.leaf (4, .lstore 7, 2)) (.branch 8 (.leaf (6, .lload 7, 2)) (.leaf (8, .lconst 0, 1))))) (.branch 15 (.branch 10 (.leaf (9, .lcmp, 1)) (.branch 13 (.leaf (10, .ifCond .eq 21, 3)) (.leaf (13, .lload 5, 2)))) (.branch 17 (.leaf (15, .lload 7, 2)) (.branch 18 (.leaf (17, .lrem, 1)) (.leaf (18, .lstore 9, 2)))))) (.branch 33 (.branch 26 (.branch 22 (.leaf (20, .lload 7, 2)) (.branch 24 (.leaf (22, .lstore 5, 2)) (.leaf (24, .lload 9, 2)))) (.branch 28 (.leaf (26, .lstore 7, 2)) (.branch 31 (.leaf (28, .goto (-22), 3)) (.leaf (31, .iload 4, 2))))) (.branch 40 (.branch 36 (.leaf (33, .ifCond .eq 7, 3)) (.branch 37 (.leaf (36, .lload_n 2, 1)) (.leaf (37, .goto 4, 3)))) (.branch 43 (.branch 41 (.leaf (40, .lload_n 0, 1)) (.leaf (41, .lload 5, 2))) (.branch 44 (.leaf (43, .ldiv, 1)) (.leaf (44, .lreturn, 1))))))
noncomputable def oX12_lowest : List dLf := dFl tX12_lowest
theorem ofX12_lowest : dFl tX12_lowest = oX12_lowest := rfl
set_option maxRecDepth 100000 in
theorem odX12_lowest : ∀ q ∈ oX12_lowest, decode cX12_lowest q.1 = .ok (q.2.1, q.2.2) := q_go qT_ok bbX12_lowest oX12_lowest 0 (by decide +kernel)
theorem dX12_lowest_0 : decode cX12_lowest 0 = .ok (.lload_n 2, 1) := d_by (d_at odX12_lowest ofX12_lowest 0) rfl
theorem dX12_lowest_1 : decode cX12_lowest 1 = .ok (.lstore 5, 2) := d_by (d_at odX12_lowest ofX12_lowest 1) rfl
theorem dX12_lowest_3 : decode cX12_lowest 3 = .ok (.lload_n 0, 1) := d_by (d_at odX12_lowest ofX12_lowest 3) rfl
theorem dX12_lowest_4 : decode cX12_lowest 4 = .ok (.lstore 7, 2) := d_by (d_at odX12_lowest ofX12_lowest 4) rfl
theorem dX12_lowest_6 : decode cX12_lowest 6 = .ok (.lload 7, 2) := d_by (d_at odX12_lowest ofX12_lowest 6) rfl
theorem dX12_lowest_8 : decode cX12_lowest 8 = .ok (.lconst 0, 1) := d_by (d_at odX12_lowest ofX12_lowest 8) rfl
theorem dX12_lowest_9 : decode cX12_lowest 9 = .ok (.lcmp, 1) := d_by (d_at odX12_lowest ofX12_lowest 9) rfl
theorem dX12_lowest_10 : decode cX12_lowest 10 = .ok (.ifCond .eq 21, 3) := d_by (d_at odX12_lowest ofX12_lowest 10) rfl
theorem dX12_lowest_13 : decode cX12_lowest 13 = .ok (.lload 5, 2) := d_by (d_at odX12_lowest ofX12_lowest 13) rfl
theorem dX12_lowest_15 : decode cX12_lowest 15 = .ok (.lload 7, 2) := d_by (d_at odX12_lowest ofX12_lowest 15) rfl
theorem dX12_lowest_17 : decode cX12_lowest 17 = .ok (.lrem, 1) := d_by (d_at odX12_lowest ofX12_lowest 17) rfl
theorem dX12_lowest_18 : decode cX12_lowest 18 = .ok (.lstore 9, 2) := d_by (d_at odX12_lowest ofX12_lowest 18) rfl
theorem dX12_lowest_20 : decode cX12_lowest 20 = .ok (.lload 7, 2) := d_by (d_at odX12_lowest ofX12_lowest 20) rfl
theorem dX12_lowest_22 : decode cX12_lowest 22 = .ok (.lstore 5, 2) := d_by (d_at odX12_lowest ofX12_lowest 22) rfl
theorem dX12_lowest_24 : decode cX12_lowest 24 = .ok (.lload 9, 2) := d_by (d_at odX12_lowest ofX12_lowest 24) rfl
theorem dX12_lowest_26 : decode cX12_lowest 26 = .ok (.lstore 7, 2) := d_by (d_at odX12_lowest ofX12_lowest 26) rfl
theorem dX12_lowest_28 : decode cX12_lowest 28 = .ok (.goto (-22), 3) := d_by (d_at odX12_lowest ofX12_lowest 28) rfl
theorem dX12_lowest_31 : decode cX12_lowest 31 = .ok (.iload 4, 2) := d_by (d_at odX12_lowest ofX12_lowest 31) rfl
theorem dX12_lowest_33 : decode cX12_lowest 33 = .ok (.ifCond .eq 7, 3) := d_by (d_at odX12_lowest ofX12_lowest 33) rfl
theorem dX12_lowest_36 : decode cX12_lowest 36 = .ok (.lload_n 2, 1) := d_by (d_at odX12_lowest ofX12_lowest 36) rfl
theorem dX12_lowest_37 : decode cX12_lowest 37 = .ok (.goto 4, 3) := d_by (d_at odX12_lowest ofX12_lowest 37) rfl
theorem dX12_lowest_40 : decode cX12_lowest 40 = .ok (.lload_n 0, 1) := d_by (d_at odX12_lowest ofX12_lowest 40) rfl
theorem dX12_lowest_41 : decode cX12_lowest 41 = .ok (.lload 5, 2) := d_by (d_at odX12_lowest ofX12_lowest 41) rfl
theorem dX12_lowest_43 : decode cX12_lowest 43 = .ok (.ldiv, 1) := d_by (d_at odX12_lowest ofX12_lowest 43) rfl
theorem dX12_lowest_44 : decode cX12_lowest 44 = .ok (.lreturn, 1) := d_by (d_at odX12_lowest ofX12_lowest 44) rfl
set_option maxRecDepth 100000 in
def bX12_registered : List Nat := [42, 182, 0, 167, 42, 27, 182, 1, 18, 154, 0, 10, 42, 4, 182, 0, 170, 133, 173, 42, 27, 2, 182, 1, 114, 62, 29, 156, 0, 11, 42, 16, 6, 182, 0, 170, 133, 173, 42, 27, 29, 182, 1, 114, 54, 4, 42, 29, 6, 182, 1, 15, 21, 4, 156, 0, 8, 16, 100, 167, 0, 10, 42, 21, 4, 6, 182, 1, 15, 104, 54, 5, 17, 39, 16, 21, 5, 100, 133, 20, 1, 117, 28, 184, 1, 119, 173]
set_option maxRecDepth 100000 in
theorem bbX12_registered : cX12_registered.data.toList.map UInt8.toNat = bX12_registered := by decide +kernel
set_option maxRecDepth 100000 in
def tX12_registered : Lean.RArray dLf := .branch 40 (.branch 20 (.branch 12 (.branch 5 (.branch 1 (.leaf (0, .aload_n 0, 1)) (.branch 4 (.leaf (1, .invokevirtual 167, 3)) (.leaf (4, .aload_n 0, 1)))) (.branch 6 (.leaf (5, .iload_n 1, 1)) (.branch 9 (.leaf (6, .invokevirtual 274, 3)) (.leaf (9, .ifCond .ne 10, 3))))) (.branch 17 (.branch 13 (.leaf (12, .aload_n 0, 1)) (.branch 14 (.leaf (13, .iconst 1, 1)) (.leaf (14, .invokevirtual 170, 3)))) (.branch 18 (.leaf (17, .i2l, 1)) (.branch 19 (.leaf (18, .lreturn, 1)) (.leaf (19, .aload_n 0, 1)))))) (.branch 30 (.branch 25 (.branch 21 (.leaf (20, .iload_n 1, 1)) (.branch 22 (.leaf (21, .iconst (-1), 1)) (.leaf (22, .invokevirtual 370, 3)))) (.branch 26 (.leaf (25, .istore_n 3, 1)) (.branch 27 (.leaf (26, .iload_n 3, 1)) (.leaf (27, .ifCond .ge 11, 3))))) (.branch 36 (.branch 31 (.leaf (30, .aload_n 0, 1)) (.branch 33 (.leaf (31, .bipush 6, 2)) (.leaf (33, .invokevirtual 170, 3)))) (.branch 38 (.branch 37 (.leaf (36, .i2l, 1)) (.leaf (37, .lreturn, 1))) (.branch 39 (.leaf (38, .aload_n 0, 1)) (.leaf (39, .iload_n 1, 1))))))) (.branch 63 (.branch 49 (.branch 46 (.branch 41 (.leaf (40, .iload_n 3, 1)) (.branch 44 (.leaf (41, .invokevirtual 370, 3)) (.leaf (44, .istore 4, 2)))) (.branch 47 (.leaf (46, .aload_n 0, 1)) (.branch 48 (.leaf (47, .iload_n 3, 1)) (.leaf (48, .iconst 3, 1))))) (.branch 57 (.branch 52 (.leaf (49, .invokevirtual 271, 3)) (.branch 54 (.leaf (52, .iload 4, 2)) (.leaf (54, .ifCond .ge 8, 3)))) (.branch 59 (.leaf (57, .bipush 100, 2)) (.branch 62 (.leaf (59, .goto 10, 3)) (.leaf (62, .aload_n 0, 1)))))) (.branch 75 (.branch 69 (.branch 65 (.leaf (63, .iload 4, 2)) (.branch 66 (.leaf (65, .iconst 3, 1)) (.leaf (66, .invokevirtual 271, 3)))) (.branch 70 (.leaf (69, .imul, 1)) (.branch 72 (.leaf (70, .istore 5, 2)) (.leaf (72, .sipush 10000, 3))))) (.branch 79 (.branch 77 (.leaf (75, .iload 5, 2)) (.branch 78 (.leaf (77, .isub, 1)) (.leaf (78, .i2l, 1)))) (.branch 83 (.branch 82 (.leaf (79, .ldc2_w 373, 3)) (.leaf (82, .iload_n 2, 1))) (.branch 86 (.leaf (83, .invokestatic 375, 3)) (.leaf (86, .lreturn, 1)))))))
noncomputable def oX12_registered : List dLf := dFl tX12_registered
theorem ofX12_registered : dFl tX12_registered = oX12_registered := rfl
set_option maxRecDepth 100000 in
theorem odX12_registered : ∀ q ∈ oX12_registered, decode cX12_registered q.1 = .ok (q.2.1, q.2.2) := q_go qT_ok bbX12_registered oX12_registered 0 (by decide +kernel)
set_option maxRecDepth 100000 in
def bX12_tryMatch : List Nat := [27, 42, 180, 0, 20, 16, 7, 46, 160, 0, 55, 29, 42, 180, 1, 123, 161, 0, 20, 29, 42, 180, 1, 123, 160, 0, 13, 21, 4, 42, 180, 1, 126, 161, 0, 4, 177, 42, 29, 181, 1, 123, 42, 21, 4, 181, 1, 126, 42, 180, 0, 44, 3, 42, 180, 0, 47, 3, 27, 184, 0, 176, 177, 3, 54, 5, 21, 5, 42, 180, 0, 20, 16, 6, 46, 162, 0, 73, 28, 21, 5, 184, 1, 42, 154, 0, 58, 42, 180, 0, 50, 8, 27, 104, 21, 5, 96, 46, 156, 0, 6, 167, 0, 41, 42, 180, 0, 44, 27, 21, 5, 79, 42, 27, 4, 96, 28, 4, 21, 5, 120, 128, 29, 4, 96, 21, 4, 42, 180, 0, 50, 8, 27, 104, 21, 5, 96, 46, 96, 182, 1, 129, 132, 5, 1, 167, 255, 177, 42, 180, 0, 44, 27, 16, 254, 79, 42, 27, 4, 96, 28, 29, 21, 4, 182, 1, 129, 177]
set_option maxRecDepth 100000 in
theorem bbX12_tryMatch : cX12_tryMatch.data.toList.map UInt8.toNat = bX12_tryMatch := by decide +kernel
set_option maxRecDepth 100000 in
def tX12_tryMatch : Lean.RArray dLf := .branch 93 (.branch 48 (.branch 21 (.branch 11 (.branch 5 (.branch 1 (.leaf (0, .iload_n 1, 1)) (.branch 2 (.leaf (1, .aload_n 0, 1)) (.leaf (2, .getfield 20, 3)))) (.branch 7 (.leaf (5, .bipush 7, 2)) (.branch 8 (.leaf (7, .iaload, 1)) (.leaf (8, .if_icmp .ne 55, 3))))) (.branch 16 (.branch 12 (.leaf (11, .iload_n 3, 1)) (.branch 13 (.leaf (12, .aload_n 0, 1)) (.leaf (13, .getfield 379, 3)))) (.branch 19 (.leaf (16, .if_icmp .lt 20, 3)) (.branch 20 (.leaf (19, .iload_n 3, 1)) (.leaf (20, .aload_n 0, 1)))))) (.branch 36 (.branch 29 (.branch 24 (.leaf (21, .getfield 379, 3)) (.branch 27 (.leaf (24, .if_icmp .ne 13, 3)) (.leaf (27, .iload 4, 2)))) (.branch 30 (.leaf (29, .aload_n 0, 1)) (.branch 33 (.leaf (30, .getfield 382, 3)) (.leaf (33, .if_icmp .lt 4, 3))))) (.branch 39 (.branch 37 (.leaf (36, .return_, 1)) (.branch 38 (.leaf (37, .aload_n 0, 1)) (.leaf (38, .iload_n 3, 1)))) (.branch 43 (.branch 42 (.leaf (39, .putfield 379, 3)) (.leaf (42, .aload_n 0, 1))) (.branch 45 (.leaf (43, .iload 4, 2)) (.leaf (45, .putfield 382, 3))))))) (.branch 68 (.branch 58 (.branch 53 (.branch 49 (.leaf (48, .aload_n 0, 1)) (.branch 52 (.leaf (49, .getfield 44, 3)) (.leaf (52, .iconst 0, 1)))) (.branch 54 (.leaf (53, .aload_n 0, 1)) (.branch 57 (.leaf (54, .getfield 47, 3)) (.leaf (57, .iconst 0, 1))))) (.branch 63 (.branch 59 (.leaf (58, .iload_n 1, 1)) (.branch 62 (.leaf (59, .invokestatic 176, 3)) (.leaf (62, .return_, 1)))) (.branch 64 (.leaf (63, .iconst 0, 1)) (.branch 66 (.leaf (64, .istore 5, 2)) (.leaf (66, .iload 5, 2)))))) (.branch 79 (.branch 74 (.branch 69 (.leaf (68, .aload_n 0, 1)) (.branch 72 (.leaf (69, .getfield 20, 3)) (.leaf (72, .bipush 6, 2)))) (.branch 75 (.leaf (74, .iaload, 1)) (.branch 78 (.leaf (75, .if_icmp .ge 73, 3)) (.leaf (78, .iload_n 2, 1))))) (.branch 87 (.branch 81 (.leaf (79, .iload 5, 2)) (.branch 84 (.leaf (81, .invokestatic 298, 3)) (.leaf (84, .ifCond .ne 58, 3)))) (.branch 91 (.branch 88 (.leaf (87, .aload_n 0, 1)) (.leaf (88, .getfield 50, 3))) (.branch 92 (.leaf (91, .iconst 5, 1)) (.leaf (92, .iload_n 1, 1)))))))) (.branch 128 (.branch 113 (.branch 104 (.branch 97 (.branch 94 (.leaf (93, .imul, 1)) (.branch 96 (.leaf (94, .iload 5, 2)) (.leaf (96, .iadd, 1)))) (.branch 98 (.leaf (97, .iaload, 1)) (.branch 101 (.leaf (98, .ifCond .ge 6, 3)) (.leaf (101, .goto 41, 3))))) (.branch 109 (.branch 105 (.leaf (104, .aload_n 0, 1)) (.branch 108 (.leaf (105, .getfield 44, 3)) (.leaf (108, .iload_n 1, 1)))) (.branch 111 (.leaf (109, .iload 5, 2)) (.branch 112 (.leaf (111, .iastore, 1)) (.leaf (112, .aload_n 0, 1)))))) (.branch 120 (.branch 116 (.branch 114 (.leaf (113, .iload_n 1, 1)) (.branch 115 (.leaf (114, .iconst 1, 1)) (.leaf (115, .iadd, 1)))) (.branch 117 (.leaf (116, .iload_n 2, 1)) (.branch 118 (.leaf (117, .iconst 1, 1)) (.leaf (118, .iload 5, 2))))) (.branch 123 (.branch 121 (.leaf (120, .ishl, 1)) (.branch 122 (.leaf (121, .ior, 1)) (.leaf (122, .iload_n 3, 1)))) (.branch 125 (.branch 124 (.leaf (123, .iconst 1, 1)) (.leaf (124, .iadd, 1))) (.branch 127 (.leaf (125, .iload 4, 2)) (.leaf (127, .aload_n 0, 1))))))) (.branch 149 (.branch 137 (.branch 133 (.branch 131 (.leaf (128, .getfield 50, 3)) (.branch 132 (.leaf (131, .iconst 5, 1)) (.leaf (132, .iload_n 1, 1)))) (.branch 134 (.leaf (133, .imul, 1)) (.branch 136 (.leaf (134, .iload 5, 2)) (.leaf (136, .iadd, 1))))) (.branch 142 (.branch 138 (.leaf (137, .iaload, 1)) (.branch 139 (.leaf (138, .iadd, 1)) (.leaf (139, .invokevirtual 385, 3)))) (.branch 145 (.leaf (142, .iinc 5 1, 3)) (.branch 148 (.leaf (145, .goto (-79), 3)) (.leaf (148, .aload_n 0, 1)))))) (.branch 158 (.branch 155 (.branch 152 (.leaf (149, .getfield 44, 3)) (.branch 153 (.leaf (152, .iload_n 1, 1)) (.leaf (153, .bipush (-2), 2)))) (.branch 156 (.leaf (155, .iastore, 1)) (.branch 157 (.leaf (156, .aload_n 0, 1)) (.leaf (157, .iload_n 1, 1))))) (.branch 161 (.branch 159 (.leaf (158, .iconst 1, 1)) (.branch 160 (.leaf (159, .iadd, 1)) (.leaf (160, .iload_n 2, 1)))) (.branch 164 (.branch 162 (.leaf (161, .iload_n 3, 1)) (.leaf (162, .iload 4, 2))) (.branch 167 (.leaf (164, .invokevirtual 385, 3)) (.leaf (167, .return_, 1))))))))
noncomputable def oX12_tryMatch : List dLf := dFl tX12_tryMatch
theorem ofX12_tryMatch : dFl tX12_tryMatch = oX12_tryMatch := rfl
set_option maxRecDepth 100000 in
theorem odX12_tryMatch : ∀ q ∈ oX12_tryMatch, decode cX12_tryMatch q.1 = .ok (q.2.1, q.2.2) := q_go qT_ok bbX12_tryMatch oX12_tryMatch 0 (by decide +kernel)
set_option maxRecDepth 100000 in
def bX12_seekMatch : List Nat := [3, 60, 27, 42, 180, 0, 20, 16, 7, 46, 162, 0, 44, 3, 61, 28, 42, 180, 0, 20, 16, 6, 46, 162, 0, 25, 42, 180, 0, 50, 8, 27, 104, 28, 96, 42, 28, 27, 182, 1, 111, 79, 132, 2, 1, 167, 255, 226, 132, 1, 1, 167, 255, 207, 42, 2, 181, 1, 123, 42, 3, 181, 1, 126, 42, 3, 3, 3, 3, 182, 1, 129, 177]
set_option maxRecDepth 100000 in
theorem bbX12_seekMatch : cX12_seekMatch.data.toList.map UInt8.toNat = bX12_seekMatch := by decide +kernel
set_option maxRecDepth 100000 in
def tX12_seekMatch : Lean.RArray dLf := .branch 34 (.branch 16 (.branch 7 (.branch 2 (.branch 1 (.leaf (0, .iconst 0, 1)) (.leaf (1, .istore_n 1, 1))) (.branch 3 (.leaf (2, .iload_n 1, 1)) (.branch 4 (.leaf (3, .aload_n 0, 1)) (.leaf (4, .getfield 20, 3))))) (.branch 13 (.branch 9 (.leaf (7, .bipush 7, 2)) (.branch 10 (.leaf (9, .iaload, 1)) (.leaf (10, .if_icmp .ge 44, 3)))) (.branch 14 (.leaf (13, .iconst 0, 1)) (.branch 15 (.leaf (14, .istore_n 2, 1)) (.leaf (15, .iload_n 2, 1)))))) (.branch 26 (.branch 20 (.branch 17 (.leaf (16, .aload_n 0, 1)) (.leaf (17, .getfield 20, 3))) (.branch 22 (.leaf (20, .bipush 6, 2)) (.branch 23 (.leaf (22, .iaload, 1)) (.leaf (23, .if_icmp .ge 25, 3))))) (.branch 31 (.branch 27 (.leaf (26, .aload_n 0, 1)) (.branch 30 (.leaf (27, .getfield 50, 3)) (.leaf (30, .iconst 5, 1)))) (.branch 32 (.leaf (31, .iload_n 1, 1)) (.branch 33 (.leaf (32, .imul, 1)) (.leaf (33, .iload_n 2, 1))))))) (.branch 55 (.branch 41 (.branch 36 (.branch 35 (.leaf (34, .iadd, 1)) (.leaf (35, .aload_n 0, 1))) (.branch 37 (.leaf (36, .iload_n 2, 1)) (.branch 38 (.leaf (37, .iload_n 1, 1)) (.leaf (38, .invokevirtual 367, 3))))) (.branch 48 (.branch 42 (.leaf (41, .iastore, 1)) (.branch 45 (.leaf (42, .iinc 2 1, 3)) (.leaf (45, .goto (-30), 3)))) (.branch 51 (.leaf (48, .iinc 1 1, 3)) (.branch 54 (.leaf (51, .goto (-49), 3)) (.leaf (54, .aload_n 0, 1)))))) (.branch 65 (.branch 60 (.branch 56 (.leaf (55, .iconst (-1), 1)) (.branch 59 (.leaf (56, .putfield 379, 3)) (.leaf (59, .aload_n 0, 1)))) (.branch 61 (.leaf (60, .iconst 0, 1)) (.branch 64 (.leaf (61, .putfield 382, 3)) (.leaf (64, .aload_n 0, 1))))) (.branch 68 (.branch 66 (.leaf (65, .iconst 0, 1)) (.branch 67 (.leaf (66, .iconst 0, 1)) (.leaf (67, .iconst 0, 1)))) (.branch 69 (.leaf (68, .iconst 0, 1)) (.branch 72 (.leaf (69, .invokevirtual 385, 3)) (.leaf (72, .return_, 1)))))))
noncomputable def oX12_seekMatch : List dLf := dFl tX12_seekMatch
theorem ofX12_seekMatch : dFl tX12_seekMatch = oX12_seekMatch := rfl
set_option maxRecDepth 100000 in
theorem odX12_seekMatch : ∀ q ∈ oX12_seekMatch, decode cX12_seekMatch q.1 = .ok (q.2.1, q.2.2) := q_go qT_ok bbX12_seekMatch oX12_seekMatch 0 (by decide +kernel)
set_option maxRecDepth 100000 in
def bX12_match : List Nat := [42, 182, 0, 167, 42, 180, 0, 180, 154, 0, 9, 42, 4, 182, 0, 170, 172, 42, 182, 1, 133, 42, 180, 1, 123, 172]
set_option maxRecDepth 100000 in
theorem bbX12_match : cX12_match.data.toList.map UInt8.toNat = bX12_match := by decide +kernel
set_option maxRecDepth 100000 in
def tX12_match : Lean.RArray dLf := .branch 13 (.branch 5 (.branch 1 (.leaf (0, .aload_n 0, 1)) (.branch 4 (.leaf (1, .invokevirtual 167, 3)) (.leaf (4, .aload_n 0, 1)))) (.branch 11 (.branch 8 (.leaf (5, .getfield 180, 3)) (.leaf (8, .ifCond .ne 9, 3))) (.branch 12 (.leaf (11, .aload_n 0, 1)) (.leaf (12, .iconst 1, 1))))) (.branch 18 (.branch 16 (.leaf (13, .invokevirtual 170, 3)) (.branch 17 (.leaf (16, .ireturn, 1)) (.leaf (17, .aload_n 0, 1)))) (.branch 22 (.branch 21 (.leaf (18, .invokevirtual 389, 3)) (.leaf (21, .aload_n 0, 1))) (.branch 25 (.leaf (22, .getfield 379, 3)) (.leaf (25, .ireturn, 1)))))
noncomputable def oX12_match : List dLf := dFl tX12_match
theorem ofX12_match : dFl tX12_match = oX12_match := rfl
set_option maxRecDepth 100000 in
theorem odX12_match : ∀ q ∈ oX12_match, decode cX12_match q.1 = .ok (q.2.1, q.2.2) := q_go qT_ok bbX12_match oX12_match 0 (by decide +kernel)
set_option maxRecDepth 100000 in
def bX12_matchDays : List Nat := [42, 182, 0, 167, 42, 180, 0, 180, 154, 0, 9, 42, 4, 182, 0, 170, 172, 42, 182, 1, 133, 42, 180, 1, 126, 172]
set_option maxRecDepth 100000 in
theorem bbX12_matchDays : cX12_matchDays.data.toList.map UInt8.toNat = bX12_matchDays := by decide +kernel
set_option maxRecDepth 100000 in
def tX12_matchDays : Lean.RArray dLf := .branch 13 (.branch 5 (.branch 1 (.leaf (0, .aload_n 0, 1)) (.branch 4 (.leaf (1, .invokevirtual 167, 3)) (.leaf (4, .aload_n 0, 1)))) (.branch 11 (.branch 8 (.leaf (5, .getfield 180, 3)) (.leaf (8, .ifCond .ne 9, 3))) (.branch 12 (.leaf (11, .aload_n 0, 1)) (.leaf (12, .iconst 1, 1))))) (.branch 18 (.branch 16 (.leaf (13, .invokevirtual 170, 3)) (.branch 17 (.leaf (16, .ireturn, 1)) (.leaf (17, .aload_n 0, 1)))) (.branch 22 (.branch 21 (.leaf (18, .invokevirtual 389, 3)) (.leaf (21, .aload_n 0, 1))) (.branch 25 (.leaf (22, .getfield 382, 3)) (.leaf (25, .ireturn, 1)))))
noncomputable def oX12_matchDays : List dLf := dFl tX12_matchDays
theorem ofX12_matchDays : dFl tX12_matchDays = oX12_matchDays := rfl
set_option maxRecDepth 100000 in
theorem odX12_matchDays : ∀ q ∈ oX12_matchDays, decode cX12_matchDays q.1 = .ok (q.2.1, q.2.2) := q_go qT_ok bbX12_matchDays oX12_matchDays 0 (by decide +kernel)
set_option maxRecDepth 100000 in
def bX12_matchOf : List Nat := [42, 182, 0, 167, 42, 27, 182, 1, 18, 154, 0, 9, 42, 4, 182, 0, 170, 172, 42, 182, 1, 133, 42, 180, 0, 47, 27, 46, 172]
set_option maxRecDepth 100000 in
theorem bbX12_matchOf : cX12_matchOf.data.toList.map UInt8.toNat = bX12_matchOf := by decide +kernel
set_option maxRecDepth 100000 in
def tX12_matchOf : Lean.RArray dLf := .branch 14 (.branch 6 (.branch 4 (.branch 1 (.leaf (0, .aload_n 0, 1)) (.leaf (1, .invokevirtual 167, 3))) (.branch 5 (.leaf (4, .aload_n 0, 1)) (.leaf (5, .iload_n 1, 1)))) (.branch 12 (.branch 9 (.leaf (6, .invokevirtual 274, 3)) (.leaf (9, .ifCond .ne 9, 3))) (.branch 13 (.leaf (12, .aload_n 0, 1)) (.leaf (13, .iconst 1, 1))))) (.branch 22 (.branch 18 (.branch 17 (.leaf (14, .invokevirtual 170, 3)) (.leaf (17, .ireturn, 1))) (.branch 19 (.leaf (18, .aload_n 0, 1)) (.leaf (19, .invokevirtual 389, 3)))) (.branch 26 (.branch 23 (.leaf (22, .aload_n 0, 1)) (.leaf (23, .getfield 47, 3))) (.branch 27 (.leaf (26, .iload_n 1, 1)) (.branch 28 (.leaf (27, .iaload, 1)) (.leaf (28, .ireturn, 1))))))
noncomputable def oX12_matchOf : List dLf := dFl tX12_matchOf
theorem ofX12_matchOf : dFl tX12_matchOf = oX12_matchOf := rfl
set_option maxRecDepth 100000 in
theorem odX12_matchOf : ∀ q ∈ oX12_matchOf, decode cX12_matchOf q.1 = .ok (q.2.1, q.2.2) := q_go qT_ok bbX12_matchOf oX12_matchOf 0 (by decide +kernel)
set_option maxRecDepth 100000 in
def bX12_meet : List Nat := [42, 182, 0, 167, 42, 27, 182, 1, 18, 153, 0, 39, 42, 29, 182, 1, 18, 153, 0, 31, 42, 28, 182, 1, 12, 153, 0, 23, 42, 21, 4, 182, 1, 12, 153, 0, 14, 27, 29, 159, 0, 9, 28, 21, 4, 160, 0, 9, 42, 4, 182, 0, 170, 172, 42, 28, 27, 182, 1, 108, 154, 0, 6, 16, 254, 172, 42, 180, 1, 102, 54, 5, 42, 180, 1, 105, 54, 6, 42, 21, 4, 29, 182, 1, 108, 153, 0, 31, 42, 27, 182, 1, 39, 42, 29, 3, 182, 1, 6, 160, 0, 17, 42, 29, 182, 1, 39, 42, 27, 3, 182, 1, 6, 159, 0, 6, 16, 254, 172, 21, 5, 42, 180, 1, 102, 184, 1, 99, 54, 7, 21, 7, 21, 6, 162, 0, 17, 21, 7, 42, 180, 1, 105, 162, 0, 8, 21, 7, 167, 0, 5, 16, 254, 172]
set_option maxRecDepth 100000 in
theorem bbX12_meet : cX12_meet.data.toList.map UInt8.toNat = bX12_meet := by decide +kernel
set_option maxRecDepth 100000 in
def tX12_meet : Lean.RArray dLf := .branch 76 (.branch 39 (.branch 20 (.branch 9 (.branch 4 (.branch 1 (.leaf (0, .aload_n 0, 1)) (.leaf (1, .invokevirtual 167, 3))) (.branch 5 (.leaf (4, .aload_n 0, 1)) (.branch 6 (.leaf (5, .iload_n 1, 1)) (.leaf (6, .invokevirtual 274, 3))))) (.branch 13 (.branch 12 (.leaf (9, .ifCond .eq 39, 3)) (.leaf (12, .aload_n 0, 1))) (.branch 14 (.leaf (13, .iload_n 3, 1)) (.branch 17 (.leaf (14, .invokevirtual 274, 3)) (.leaf (17, .ifCond .eq 31, 3)))))) (.branch 29 (.branch 22 (.branch 21 (.leaf (20, .aload_n 0, 1)) (.leaf (21, .iload_n 2, 1))) (.branch 25 (.leaf (22, .invokevirtual 268, 3)) (.branch 28 (.leaf (25, .ifCond .eq 23, 3)) (.leaf (28, .aload_n 0, 1))))) (.branch 34 (.branch 31 (.leaf (29, .iload 4, 2)) (.leaf (31, .invokevirtual 268, 3))) (.branch 37 (.leaf (34, .ifCond .eq 14, 3)) (.branch 38 (.leaf (37, .iload_n 1, 1)) (.leaf (38, .iload_n 3, 1))))))) (.branch 56 (.branch 49 (.branch 43 (.branch 42 (.leaf (39, .if_icmp .eq 9, 3)) (.leaf (42, .iload_n 2, 1))) (.branch 45 (.leaf (43, .iload 4, 2)) (.branch 48 (.leaf (45, .if_icmp .ne 9, 3)) (.leaf (48, .aload_n 0, 1))))) (.branch 53 (.branch 50 (.leaf (49, .iconst 1, 1)) (.leaf (50, .invokevirtual 170, 3))) (.branch 54 (.leaf (53, .ireturn, 1)) (.branch 55 (.leaf (54, .aload_n 0, 1)) (.leaf (55, .iload_n 2, 1)))))) (.branch 66 (.branch 60 (.branch 57 (.leaf (56, .iload_n 1, 1)) (.leaf (57, .invokevirtual 364, 3))) (.branch 63 (.leaf (60, .ifCond .ne 6, 3)) (.branch 65 (.leaf (63, .bipush (-2), 2)) (.leaf (65, .ireturn, 1))))) (.branch 70 (.branch 67 (.leaf (66, .aload_n 0, 1)) (.leaf (67, .getfield 358, 3))) (.branch 72 (.leaf (70, .istore 5, 2)) (.branch 73 (.leaf (72, .aload_n 0, 1)) (.leaf (73, .getfield 361, 3)))))))) (.branch 110 (.branch 94 (.branch 85 (.branch 79 (.branch 78 (.leaf (76, .istore 6, 2)) (.leaf (78, .aload_n 0, 1))) (.branch 81 (.leaf (79, .iload 4, 2)) (.branch 82 (.leaf (81, .iload_n 3, 1)) (.leaf (82, .invokevirtual 364, 3))))) (.branch 89 (.branch 88 (.leaf (85, .ifCond .eq 31, 3)) (.leaf (88, .aload_n 0, 1))) (.branch 90 (.leaf (89, .iload_n 1, 1)) (.branch 93 (.leaf (90, .invokevirtual 295, 3)) (.leaf (93, .aload_n 0, 1)))))) (.branch 103 (.branch 96 (.branch 95 (.leaf (94, .iload_n 3, 1)) (.leaf (95, .iconst 0, 1))) (.branch 99 (.leaf (96, .invokevirtual 262, 3)) (.branch 102 (.leaf (99, .if_icmp .ne 17, 3)) (.leaf (102, .aload_n 0, 1))))) (.branch 107 (.branch 104 (.leaf (103, .iload_n 3, 1)) (.leaf (104, .invokevirtual 295, 3))) (.branch 108 (.leaf (107, .aload_n 0, 1)) (.branch 109 (.leaf (108, .iload_n 1, 1)) (.leaf (109, .iconst 0, 1))))))) (.branch 132 (.branch 121 (.branch 116 (.branch 113 (.leaf (110, .invokevirtual 262, 3)) (.leaf (113, .if_icmp .eq 6, 3))) (.branch 118 (.leaf (116, .bipush (-2), 2)) (.branch 119 (.leaf (118, .ireturn, 1)) (.leaf (119, .iload 5, 2))))) (.branch 125 (.branch 122 (.leaf (121, .aload_n 0, 1)) (.leaf (122, .getfield 358, 3))) (.branch 128 (.leaf (125, .invokestatic 355, 3)) (.branch 130 (.leaf (128, .istore 7, 2)) (.leaf (130, .iload 7, 2)))))) (.branch 143 (.branch 137 (.branch 134 (.leaf (132, .iload 6, 2)) (.leaf (134, .if_icmp .ge 17, 3))) (.branch 139 (.leaf (137, .iload 7, 2)) (.branch 140 (.leaf (139, .aload_n 0, 1)) (.leaf (140, .getfield 361, 3))))) (.branch 148 (.branch 146 (.leaf (143, .if_icmp .ge 8, 3)) (.leaf (146, .iload 7, 2))) (.branch 151 (.leaf (148, .goto 5, 3)) (.branch 153 (.leaf (151, .bipush (-2), 2)) (.leaf (153, .ireturn, 1))))))))
noncomputable def oX12_meet : List dLf := dFl tX12_meet
theorem ofX12_meet : dFl tX12_meet = oX12_meet := rfl
set_option maxRecDepth 100000 in
theorem odX12_meet : ∀ q ∈ oX12_meet, decode cX12_meet q.1 = .ok (q.2.1, q.2.2) := q_go qT_ok bbX12_meet oX12_meet 0 (by decide +kernel)
set_option maxRecDepth 100000 in
def bX12_fitsAll : List Nat := [42, 42, 27, 4, 182, 1, 15, 181, 1, 136, 42, 3, 181, 1, 139, 4, 61, 3, 62, 29, 42, 180, 0, 20, 16, 8, 46, 162, 0, 111, 42, 180, 0, 20, 17, 0, 159, 6, 29, 104, 96, 46, 27, 159, 0, 6, 167, 0, 86, 42, 180, 0, 20, 17, 0, 159, 6, 29, 104, 96, 4, 96, 46, 54, 4, 42, 180, 0, 20, 17, 0, 159, 6, 29, 104, 96, 5, 96, 46, 54, 5, 28, 153, 0, 36, 42, 42, 27, 3, 182, 1, 15, 42, 180, 1, 136, 21, 4, 42, 180, 1, 139, 182, 1, 96, 3, 21, 5, 184, 0, 149, 153, 0, 7, 4, 167, 0, 4, 3, 61, 42, 21, 4, 181, 1, 136, 42, 21, 5, 181, 1, 139, 132, 3, 1, 167, 255, 140, 28, 172]
set_option maxRecDepth 100000 in
theorem bbX12_fitsAll : cX12_fitsAll.data.toList.map UInt8.toNat = bX12_fitsAll := by decide +kernel
set_option maxRecDepth 100000 in
def tX12_fitsAll : Lean.RArray dLf := .branch 65 (.branch 31 (.branch 16 (.branch 7 (.branch 2 (.branch 1 (.leaf (0, .aload_n 0, 1)) (.leaf (1, .aload_n 0, 1))) (.branch 3 (.leaf (2, .iload_n 1, 1)) (.branch 4 (.leaf (3, .iconst 1, 1)) (.leaf (4, .invokevirtual 271, 3))))) (.branch 11 (.branch 10 (.leaf (7, .putfield 392, 3)) (.leaf (10, .aload_n 0, 1))) (.branch 12 (.leaf (11, .iconst 0, 1)) (.branch 15 (.leaf (12, .putfield 395, 3)) (.leaf (15, .iconst 1, 1)))))) (.branch 21 (.branch 18 (.branch 17 (.leaf (16, .istore_n 2, 1)) (.leaf (17, .iconst 0, 1))) (.branch 19 (.leaf (18, .istore_n 3, 1)) (.branch 20 (.leaf (19, .iload_n 3, 1)) (.leaf (20, .aload_n 0, 1))))) (.branch 26 (.branch 24 (.leaf (21, .getfield 20, 3)) (.leaf (24, .bipush 8, 2))) (.branch 27 (.leaf (26, .iaload, 1)) (.branch 30 (.leaf (27, .if_icmp .ge 111, 3)) (.leaf (30, .aload_n 0, 1))))))) (.branch 49 (.branch 40 (.branch 37 (.branch 34 (.leaf (31, .getfield 20, 3)) (.leaf (34, .sipush 159, 3))) (.branch 38 (.leaf (37, .iconst 3, 1)) (.branch 39 (.leaf (38, .iload_n 3, 1)) (.leaf (39, .imul, 1))))) (.branch 42 (.branch 41 (.leaf (40, .iadd, 1)) (.leaf (41, .iaload, 1))) (.branch 43 (.leaf (42, .iload_n 1, 1)) (.branch 46 (.leaf (43, .if_icmp .eq 6, 3)) (.leaf (46, .goto 86, 3)))))) (.branch 58 (.branch 53 (.branch 50 (.leaf (49, .aload_n 0, 1)) (.leaf (50, .getfield 20, 3))) (.branch 56 (.leaf (53, .sipush 159, 3)) (.branch 57 (.leaf (56, .iconst 3, 1)) (.leaf (57, .iload_n 3, 1))))) (.branch 61 (.branch 59 (.leaf (58, .imul, 1)) (.branch 60 (.leaf (59, .iadd, 1)) (.leaf (60, .iconst 1, 1)))) (.branch 62 (.leaf (61, .iadd, 1)) (.branch 63 (.leaf (62, .iaload, 1)) (.leaf (63, .istore 4, 2)))))))) (.branch 98 (.branch 79 (.branch 74 (.branch 69 (.branch 66 (.leaf (65, .aload_n 0, 1)) (.leaf (66, .getfield 20, 3))) (.branch 72 (.leaf (69, .sipush 159, 3)) (.branch 73 (.leaf (72, .iconst 3, 1)) (.leaf (73, .iload_n 3, 1))))) (.branch 76 (.branch 75 (.leaf (74, .imul, 1)) (.leaf (75, .iadd, 1))) (.branch 77 (.leaf (76, .iconst 2, 1)) (.branch 78 (.leaf (77, .iadd, 1)) (.leaf (78, .iaload, 1)))))) (.branch 87 (.branch 82 (.branch 81 (.leaf (79, .istore 5, 2)) (.leaf (81, .iload_n 2, 1))) (.branch 85 (.leaf (82, .ifCond .eq 36, 3)) (.branch 86 (.leaf (85, .aload_n 0, 1)) (.leaf (86, .aload_n 0, 1))))) (.branch 92 (.branch 88 (.leaf (87, .iload_n 1, 1)) (.branch 89 (.leaf (88, .iconst 0, 1)) (.leaf (89, .invokevirtual 271, 3)))) (.branch 93 (.leaf (92, .aload_n 0, 1)) (.branch 96 (.leaf (93, .getfield 392, 3)) (.leaf (96, .iload 4, 2))))))) (.branch 119 (.branch 108 (.branch 102 (.branch 99 (.leaf (98, .aload_n 0, 1)) (.leaf (99, .getfield 395, 3))) (.branch 105 (.leaf (102, .invokevirtual 352, 3)) (.branch 106 (.leaf (105, .iconst 0, 1)) (.leaf (106, .iload 5, 2))))) (.branch 114 (.branch 111 (.leaf (108, .invokestatic 149, 3)) (.leaf (111, .ifCond .eq 7, 3))) (.branch 115 (.leaf (114, .iconst 1, 1)) (.branch 118 (.leaf (115, .goto 4, 3)) (.leaf (118, .iconst 0, 1)))))) (.branch 127 (.branch 121 (.branch 120 (.leaf (119, .istore_n 2, 1)) (.leaf (120, .aload_n 0, 1))) (.branch 123 (.leaf (121, .iload 4, 2)) (.branch 126 (.leaf (123, .putfield 392, 3)) (.leaf (126, .aload_n 0, 1))))) (.branch 135 (.branch 129 (.leaf (127, .iload 5, 2)) (.branch 132 (.leaf (129, .putfield 395, 3)) (.leaf (132, .iinc 3 1, 3)))) (.branch 138 (.leaf (135, .goto (-116), 3)) (.branch 139 (.leaf (138, .iload_n 2, 1)) (.leaf (139, .ireturn, 1))))))))
noncomputable def oX12_fitsAll : List dLf := dFl tX12_fitsAll
theorem ofX12_fitsAll : dFl tX12_fitsAll = oX12_fitsAll := rfl
set_option maxRecDepth 100000 in
theorem odX12_fitsAll : ∀ q ∈ oX12_fitsAll, decode cX12_fitsAll q.1 = .ok (q.2.1, q.2.2) := q_go qT_ok bbX12_fitsAll oX12_fitsAll 0 (by decide +kernel)
set_option maxRecDepth 100000 in
def bX12_fits : List Nat := [42, 182, 0, 167, 42, 180, 0, 180, 154, 0, 9, 42, 4, 182, 0, 170, 172, 3, 60, 3, 61, 28, 42, 180, 0, 20, 16, 6, 46, 162, 0, 27, 27, 42, 28, 182, 1, 142, 153, 0, 9, 4, 28, 120, 167, 0, 4, 3, 128, 60, 132, 2, 1, 167, 255, 224, 27, 172]
set_option maxRecDepth 100000 in
theorem bbX12_fits : cX12_fits.data.toList.map UInt8.toNat = bX12_fits := by decide +kernel
set_option maxRecDepth 100000 in
def tX12_fits : Lean.RArray dLf := .branch 28 (.branch 16 (.branch 8 (.branch 4 (.branch 1 (.leaf (0, .aload_n 0, 1)) (.leaf (1, .invokevirtual 167, 3))) (.branch 5 (.leaf (4, .aload_n 0, 1)) (.leaf (5, .getfield 180, 3)))) (.branch 12 (.branch 11 (.leaf (8, .ifCond .ne 9, 3)) (.leaf (11, .aload_n 0, 1))) (.branch 13 (.leaf (12, .iconst 1, 1)) (.leaf (13, .invokevirtual 170, 3))))) (.branch 20 (.branch 18 (.branch 17 (.leaf (16, .ireturn, 1)) (.leaf (17, .iconst 0, 1))) (.branch 19 (.leaf (18, .istore_n 1, 1)) (.leaf (19, .iconst 0, 1)))) (.branch 22 (.branch 21 (.leaf (20, .istore_n 2, 1)) (.leaf (21, .iload_n 2, 1))) (.branch 23 (.leaf (22, .aload_n 0, 1)) (.branch 26 (.leaf (23, .getfield 20, 3)) (.leaf (26, .bipush 6, 2))))))) (.branch 43 (.branch 34 (.branch 32 (.branch 29 (.leaf (28, .iaload, 1)) (.leaf (29, .if_icmp .ge 27, 3))) (.branch 33 (.leaf (32, .iload_n 1, 1)) (.leaf (33, .aload_n 0, 1)))) (.branch 38 (.branch 35 (.leaf (34, .iload_n 2, 1)) (.leaf (35, .invokevirtual 398, 3))) (.branch 41 (.leaf (38, .ifCond .eq 9, 3)) (.branch 42 (.leaf (41, .iconst 1, 1)) (.leaf (42, .iload_n 2, 1)))))) (.branch 49 (.branch 47 (.branch 44 (.leaf (43, .ishl, 1)) (.leaf (44, .goto 4, 3))) (.branch 48 (.leaf (47, .iconst 0, 1)) (.leaf (48, .ior, 1)))) (.branch 53 (.branch 50 (.leaf (49, .istore_n 1, 1)) (.leaf (50, .iinc 2 1, 3))) (.branch 56 (.leaf (53, .goto (-32), 3)) (.branch 57 (.leaf (56, .iload_n 1, 1)) (.leaf (57, .ireturn, 1)))))))
noncomputable def oX12_fits : List dLf := dFl tX12_fits
theorem ofX12_fits : dFl tX12_fits = oX12_fits := rfl
set_option maxRecDepth 100000 in
theorem odX12_fits : ∀ q ∈ oX12_fits, decode cX12_fits q.1 = .ok (q.2.1, q.2.2) := q_go qT_ok bbX12_fits oX12_fits 0 (by decide +kernel)
set_option maxRecDepth 100000 in
def bX12_reachOf : List Nat := [42, 27, 182, 1, 142, 87, 42, 42, 27, 3, 182, 1, 15, 42, 180, 1, 136, 42, 180, 1, 139, 182, 1, 93, 3, 62, 3, 54, 4, 21, 4, 42, 180, 0, 20, 7, 46, 162, 0, 31, 29, 42, 180, 0, 38, 21, 4, 46, 28, 163, 0, 10, 4, 21, 4, 120, 167, 0, 4, 3, 128, 62, 132, 4, 1, 167, 255, 220, 29, 172]
set_option maxRecDepth 100000 in
theorem bbX12_reachOf : cX12_reachOf.data.toList.map UInt8.toNat = bX12_reachOf := by decide +kernel
set_option maxRecDepth 100000 in
def tX12_reachOf : Lean.RArray dLf := .branch 35 (.branch 14 (.branch 7 (.branch 2 (.branch 1 (.leaf (0, .aload_n 0, 1)) (.leaf (1, .iload_n 1, 1))) (.branch 5 (.leaf (2, .invokevirtual 398, 3)) (.branch 6 (.leaf (5, .pop, 1)) (.leaf (6, .aload_n 0, 1))))) (.branch 9 (.branch 8 (.leaf (7, .aload_n 0, 1)) (.leaf (8, .iload_n 1, 1))) (.branch 10 (.leaf (9, .iconst 0, 1)) (.branch 13 (.leaf (10, .invokevirtual 271, 3)) (.leaf (13, .aload_n 0, 1)))))) (.branch 25 (.branch 18 (.branch 17 (.leaf (14, .getfield 392, 3)) (.leaf (17, .aload_n 0, 1))) (.branch 21 (.leaf (18, .getfield 395, 3)) (.branch 24 (.leaf (21, .invokevirtual 349, 3)) (.leaf (24, .iconst 0, 1))))) (.branch 29 (.branch 26 (.leaf (25, .istore_n 3, 1)) (.branch 27 (.leaf (26, .iconst 0, 1)) (.leaf (27, .istore 4, 2)))) (.branch 31 (.leaf (29, .iload 4, 2)) (.branch 32 (.leaf (31, .aload_n 0, 1)) (.leaf (32, .getfield 20, 3))))))) (.branch 52 (.branch 42 (.branch 37 (.branch 36 (.leaf (35, .iconst 4, 1)) (.leaf (36, .iaload, 1))) (.branch 40 (.leaf (37, .if_icmp .ge 31, 3)) (.branch 41 (.leaf (40, .iload_n 3, 1)) (.leaf (41, .aload_n 0, 1))))) (.branch 47 (.branch 45 (.leaf (42, .getfield 38, 3)) (.leaf (45, .iload 4, 2))) (.branch 48 (.leaf (47, .iaload, 1)) (.branch 49 (.leaf (48, .iload_n 2, 1)) (.leaf (49, .if_icmp .gt 10, 3)))))) (.branch 60 (.branch 55 (.branch 53 (.leaf (52, .iconst 1, 1)) (.leaf (53, .iload 4, 2))) (.branch 56 (.leaf (55, .ishl, 1)) (.branch 59 (.leaf (56, .goto 4, 3)) (.leaf (59, .iconst 0, 1))))) (.branch 65 (.branch 61 (.leaf (60, .ior, 1)) (.branch 62 (.leaf (61, .istore_n 3, 1)) (.leaf (62, .iinc 4 1, 3)))) (.branch 68 (.leaf (65, .goto (-36), 3)) (.branch 69 (.leaf (68, .iload_n 3, 1)) (.leaf (69, .ireturn, 1)))))))
noncomputable def oX12_reachOf : List dLf := dFl tX12_reachOf
theorem ofX12_reachOf : dFl tX12_reachOf = oX12_reachOf := rfl
set_option maxRecDepth 100000 in
theorem odX12_reachOf : ∀ q ∈ oX12_reachOf, decode cX12_reachOf q.1 = .ok (q.2.1, q.2.2) := q_go qT_ok bbX12_reachOf oX12_reachOf 0 (by decide +kernel)
set_option maxRecDepth 100000 in
def bX12_reach : List Nat := [42, 182, 0, 167, 42, 27, 182, 1, 12, 154, 0, 9, 42, 4, 182, 0, 170, 172, 28, 3, 19, 1, 84, 184, 0, 149, 153, 0, 12, 42, 27, 28, 182, 1, 145, 167, 0, 8, 42, 5, 182, 0, 170, 172]
set_option maxRecDepth 100000 in
theorem bbX12_reach : cX12_reach.data.toList.map UInt8.toNat = bX12_reach := by decide +kernel
set_option maxRecDepth 100000 in
def tX12_reach : Lean.RArray dLf := .branch 20 (.branch 12 (.branch 5 (.branch 1 (.leaf (0, .aload_n 0, 1)) (.branch 4 (.leaf (1, .invokevirtual 167, 3)) (.leaf (4, .aload_n 0, 1)))) (.branch 6 (.leaf (5, .iload_n 1, 1)) (.branch 9 (.leaf (6, .invokevirtual 268, 3)) (.leaf (9, .ifCond .ne 9, 3))))) (.branch 17 (.branch 13 (.leaf (12, .aload_n 0, 1)) (.branch 14 (.leaf (13, .iconst 1, 1)) (.leaf (14, .invokevirtual 170, 3)))) (.branch 18 (.leaf (17, .ireturn, 1)) (.branch 19 (.leaf (18, .iload_n 2, 1)) (.leaf (19, .iconst 0, 1)))))) (.branch 32 (.branch 29 (.branch 23 (.leaf (20, .ldc_w 340, 3)) (.branch 26 (.leaf (23, .invokestatic 149, 3)) (.leaf (26, .ifCond .eq 12, 3)))) (.branch 30 (.leaf (29, .aload_n 0, 1)) (.branch 31 (.leaf (30, .iload_n 1, 1)) (.leaf (31, .iload_n 2, 1))))) (.branch 39 (.branch 35 (.leaf (32, .invokevirtual 401, 3)) (.branch 38 (.leaf (35, .goto 8, 3)) (.leaf (38, .aload_n 0, 1)))) (.branch 40 (.leaf (39, .iconst 2, 1)) (.branch 43 (.leaf (40, .invokevirtual 170, 3)) (.leaf (43, .ireturn, 1))))))
noncomputable def oX12_reach : List dLf := dFl tX12_reach
theorem ofX12_reach : dFl tX12_reach = oX12_reach := rfl
set_option maxRecDepth 100000 in
theorem odX12_reach : ∀ q ∈ oX12_reach, decode cX12_reach q.1 = .ok (q.2.1, q.2.2) := q_go qT_ok bbX12_reach oX12_reach 0 (by decide +kernel)
set_option maxRecDepth 100000 in
def bX12_pier : List Nat := [42, 182, 0, 167, 42, 180, 0, 180, 154, 0, 9, 42, 4, 182, 0, 170, 172, 27, 3, 19, 1, 84, 184, 0, 149, 154, 0, 9, 42, 5, 182, 0, 170, 172, 2, 61, 19, 1, 85, 62, 3, 54, 4, 21, 4, 42, 180, 0, 20, 7, 46, 162, 0, 119, 3, 54, 5, 3, 54, 6, 3, 54, 7, 21, 7, 42, 180, 0, 20, 16, 6, 46, 162, 0, 49, 42, 21, 7, 182, 1, 142, 154, 0, 6, 167, 0, 31, 132, 6, 1, 21, 5, 42, 21, 7, 27, 182, 1, 145, 21, 4, 184, 1, 42, 153, 0, 7, 4, 167, 0, 4, 3, 96, 54, 5, 132, 7, 1, 167, 255, 201, 5, 21, 5, 104, 21, 6, 164, 0, 13, 5, 21, 5, 104, 21, 6, 100, 167, 0, 10, 21, 6, 5, 21, 5, 104, 100, 54, 7, 21, 7, 29, 161, 0, 6, 167, 0, 9, 21, 4, 61, 21, 7, 62, 132, 4, 1, 167, 255, 132, 28, 172]
set_option maxRecDepth 100000 in
theorem bbX12_pier : cX12_pier.data.toList.map UInt8.toNat = bX12_pier := by decide +kernel
set_option maxRecDepth 100000 in
def tX12_pier : Lean.RArray dLf := .branch 84 (.branch 41 (.branch 19 (.branch 11 (.branch 4 (.branch 1 (.leaf (0, .aload_n 0, 1)) (.leaf (1, .invokevirtual 167, 3))) (.branch 5 (.leaf (4, .aload_n 0, 1)) (.branch 8 (.leaf (5, .getfield 180, 3)) (.leaf (8, .ifCond .ne 9, 3))))) (.branch 16 (.branch 12 (.leaf (11, .aload_n 0, 1)) (.branch 13 (.leaf (12, .iconst 1, 1)) (.leaf (13, .invokevirtual 170, 3)))) (.branch 17 (.leaf (16, .ireturn, 1)) (.branch 18 (.leaf (17, .iload_n 1, 1)) (.leaf (18, .iconst 0, 1)))))) (.branch 33 (.branch 28 (.branch 22 (.leaf (19, .ldc_w 340, 3)) (.branch 25 (.leaf (22, .invokestatic 149, 3)) (.leaf (25, .ifCond .ne 9, 3)))) (.branch 29 (.leaf (28, .aload_n 0, 1)) (.branch 30 (.leaf (29, .iconst 2, 1)) (.leaf (30, .invokevirtual 170, 3))))) (.branch 36 (.branch 34 (.leaf (33, .ireturn, 1)) (.branch 35 (.leaf (34, .iconst (-1), 1)) (.leaf (35, .istore_n 2, 1)))) (.branch 39 (.leaf (36, .ldc_w 341, 3)) (.branch 40 (.leaf (39, .istore_n 3, 1)) (.leaf (40, .iconst 0, 1))))))) (.branch 60 (.branch 50 (.branch 45 (.branch 43 (.leaf (41, .istore 4, 2)) (.leaf (43, .iload 4, 2))) (.branch 46 (.leaf (45, .aload_n 0, 1)) (.branch 49 (.leaf (46, .getfield 20, 3)) (.leaf (49, .iconst 4, 1))))) (.branch 55 (.branch 51 (.leaf (50, .iaload, 1)) (.branch 54 (.leaf (51, .if_icmp .ge 119, 3)) (.leaf (54, .iconst 0, 1)))) (.branch 57 (.leaf (55, .istore 5, 2)) (.branch 58 (.leaf (57, .iconst 0, 1)) (.leaf (58, .istore 6, 2)))))) (.branch 71 (.branch 65 (.branch 61 (.leaf (60, .iconst 0, 1)) (.branch 63 (.leaf (61, .istore 7, 2)) (.leaf (63, .iload 7, 2)))) (.branch 66 (.leaf (65, .aload_n 0, 1)) (.branch 69 (.leaf (66, .getfield 20, 3)) (.leaf (69, .bipush 6, 2))))) (.branch 76 (.branch 72 (.leaf (71, .iaload, 1)) (.branch 75 (.leaf (72, .if_icmp .ge 49, 3)) (.leaf (75, .aload_n 0, 1)))) (.branch 78 (.leaf (76, .iload 7, 2)) (.branch 81 (.leaf (78, .invokevirtual 398, 3)) (.leaf (81, .ifCond .ne 6, 3)))))))) (.branch 131 (.branch 108 (.branch 95 (.branch 90 (.branch 87 (.leaf (84, .goto 31, 3)) (.leaf (87, .iinc 6 1, 3))) (.branch 92 (.leaf (90, .iload 5, 2)) (.branch 93 (.leaf (92, .aload_n 0, 1)) (.leaf (93, .iload 7, 2))))) (.branch 101 (.branch 96 (.leaf (95, .iload_n 1, 1)) (.branch 99 (.leaf (96, .invokevirtual 401, 3)) (.leaf (99, .iload 4, 2)))) (.branch 104 (.leaf (101, .invokestatic 298, 3)) (.branch 107 (.leaf (104, .ifCond .eq 7, 3)) (.leaf (107, .iconst 1, 1)))))) (.branch 121 (.branch 113 (.branch 111 (.leaf (108, .goto 4, 3)) (.branch 112 (.leaf (111, .iconst 0, 1)) (.leaf (112, .iadd, 1)))) (.branch 115 (.leaf (113, .istore 5, 2)) (.branch 118 (.leaf (115, .iinc 7 1, 3)) (.leaf (118, .goto (-55), 3))))) (.branch 125 (.branch 122 (.leaf (121, .iconst 2, 1)) (.branch 124 (.leaf (122, .iload 5, 2)) (.leaf (124, .imul, 1)))) (.branch 127 (.leaf (125, .iload 6, 2)) (.branch 130 (.leaf (127, .if_icmp .le 13, 3)) (.leaf (130, .iconst 2, 1))))))) (.branch 149 (.branch 140 (.branch 134 (.branch 133 (.leaf (131, .iload 5, 2)) (.leaf (133, .imul, 1))) (.branch 136 (.leaf (134, .iload 6, 2)) (.branch 137 (.leaf (136, .isub, 1)) (.leaf (137, .goto 10, 3))))) (.branch 145 (.branch 142 (.leaf (140, .iload 6, 2)) (.branch 143 (.leaf (142, .iconst 2, 1)) (.leaf (143, .iload 5, 2)))) (.branch 146 (.leaf (145, .imul, 1)) (.branch 147 (.leaf (146, .isub, 1)) (.leaf (147, .istore 7, 2)))))) (.branch 161 (.branch 155 (.branch 151 (.leaf (149, .iload 7, 2)) (.branch 152 (.leaf (151, .iload_n 3, 1)) (.leaf (152, .if_icmp .lt 6, 3)))) (.branch 158 (.leaf (155, .goto 9, 3)) (.branch 160 (.leaf (158, .iload 4, 2)) (.leaf (160, .istore_n 2, 1))))) (.branch 167 (.branch 163 (.leaf (161, .iload 7, 2)) (.branch 164 (.leaf (163, .istore_n 3, 1)) (.leaf (164, .iinc 4 1, 3)))) (.branch 170 (.leaf (167, .goto (-124), 3)) (.branch 171 (.leaf (170, .iload_n 2, 1)) (.leaf (171, .ireturn, 1))))))))
noncomputable def oX12_pier : List dLf := dFl tX12_pier
theorem ofX12_pier : dFl tX12_pier = oX12_pier := rfl
set_option maxRecDepth 100000 in
theorem odX12_pier : ∀ q ∈ oX12_pier, decode cX12_pier q.1 = .ok (q.2.1, q.2.2) := q_go qT_ok bbX12_pier oX12_pier 0 (by decide +kernel)
set_option maxRecDepth 100000 in
def bX12_doLead : List Nat := [4, 27, 120, 54, 4, 3, 54, 5, 21, 5, 21, 4, 159, 0, 103, 21, 4, 54, 5, 3, 54, 6, 21, 6, 42, 180, 0, 20, 8, 46, 162, 0, 82, 42, 21, 6, 182, 1, 46, 154, 0, 67, 29, 21, 6, 184, 1, 42, 153, 0, 6, 167, 0, 55, 4, 42, 180, 0, 20, 16, 59, 7, 21, 6, 104, 96, 46, 120, 4, 42, 180, 0, 20, 16, 59, 7, 21, 6, 104, 96, 4, 96, 46, 120, 128, 54, 7, 21, 4, 21, 4, 21, 7, 126, 153, 0, 8, 21, 7, 167, 0, 4, 3, 128, 54, 4, 132, 6, 1, 167, 255, 169, 167, 255, 152, 21, 4, 28, 184, 1, 42, 172]
set_option maxRecDepth 100000 in
theorem bbX12_doLead : cX12_doLead.data.toList.map UInt8.toNat = bX12_doLead := by decide +kernel
set_option maxRecDepth 100000 in
def tX12_doLead : Lean.RArray dLf := .branch 64 (.branch 29 (.branch 12 (.branch 5 (.branch 2 (.branch 1 (.leaf (0, .iconst 1, 1)) (.leaf (1, .iload_n 1, 1))) (.branch 3 (.leaf (2, .ishl, 1)) (.leaf (3, .istore 4, 2)))) (.branch 8 (.branch 6 (.leaf (5, .iconst 0, 1)) (.leaf (6, .istore 5, 2))) (.branch 10 (.leaf (8, .iload 5, 2)) (.leaf (10, .iload 4, 2))))) (.branch 20 (.branch 17 (.branch 15 (.leaf (12, .if_icmp .eq 103, 3)) (.leaf (15, .iload 4, 2))) (.branch 19 (.leaf (17, .istore 5, 2)) (.leaf (19, .iconst 0, 1)))) (.branch 24 (.branch 22 (.leaf (20, .istore 6, 2)) (.leaf (22, .iload 6, 2))) (.branch 25 (.leaf (24, .aload_n 0, 1)) (.branch 28 (.leaf (25, .getfield 20, 3)) (.leaf (28, .iconst 5, 1))))))) (.branch 45 (.branch 36 (.branch 33 (.branch 30 (.leaf (29, .iaload, 1)) (.leaf (30, .if_icmp .ge 82, 3))) (.branch 34 (.leaf (33, .aload_n 0, 1)) (.leaf (34, .iload 6, 2)))) (.branch 42 (.branch 39 (.leaf (36, .invokevirtual 302, 3)) (.leaf (39, .ifCond .ne 67, 3))) (.branch 43 (.leaf (42, .iload_n 3, 1)) (.leaf (43, .iload 6, 2))))) (.branch 55 (.branch 51 (.branch 48 (.leaf (45, .invokestatic 298, 3)) (.leaf (48, .ifCond .eq 6, 3))) (.branch 54 (.leaf (51, .goto 55, 3)) (.leaf (54, .iconst 1, 1)))) (.branch 59 (.branch 56 (.leaf (55, .aload_n 0, 1)) (.leaf (56, .getfield 20, 3))) (.branch 61 (.leaf (59, .bipush 59, 2)) (.branch 62 (.leaf (61, .iconst 4, 1)) (.leaf (62, .iload 6, 2)))))))) (.branch 85 (.branch 75 (.branch 68 (.branch 66 (.branch 65 (.leaf (64, .imul, 1)) (.leaf (65, .iadd, 1))) (.branch 67 (.leaf (66, .iaload, 1)) (.leaf (67, .ishl, 1)))) (.branch 70 (.branch 69 (.leaf (68, .iconst 1, 1)) (.leaf (69, .aload_n 0, 1))) (.branch 73 (.leaf (70, .getfield 20, 3)) (.leaf (73, .bipush 59, 2))))) (.branch 80 (.branch 78 (.branch 76 (.leaf (75, .iconst 4, 1)) (.leaf (76, .iload 6, 2))) (.branch 79 (.leaf (78, .imul, 1)) (.leaf (79, .iadd, 1)))) (.branch 82 (.branch 81 (.leaf (80, .iconst 1, 1)) (.leaf (81, .iadd, 1))) (.branch 83 (.leaf (82, .iaload, 1)) (.branch 84 (.leaf (83, .ishl, 1)) (.leaf (84, .ior, 1))))))) (.branch 103 (.branch 93 (.branch 89 (.branch 87 (.leaf (85, .istore 7, 2)) (.leaf (87, .iload 4, 2))) (.branch 91 (.leaf (89, .iload 4, 2)) (.leaf (91, .iload 7, 2)))) (.branch 97 (.branch 94 (.leaf (93, .iand, 1)) (.leaf (94, .ifCond .eq 8, 3))) (.branch 99 (.leaf (97, .iload 7, 2)) (.branch 102 (.leaf (99, .goto 4, 3)) (.leaf (102, .iconst 0, 1)))))) (.branch 112 (.branch 106 (.branch 104 (.leaf (103, .ior, 1)) (.leaf (104, .istore 4, 2))) (.branch 109 (.leaf (106, .iinc 6 1, 3)) (.leaf (109, .goto (-87), 3)))) (.branch 117 (.branch 115 (.leaf (112, .goto (-104), 3)) (.leaf (115, .iload 4, 2))) (.branch 118 (.leaf (117, .iload_n 2, 1)) (.branch 121 (.leaf (118, .invokestatic 298, 3)) (.leaf (121, .ireturn, 1))))))))
noncomputable def oX12_doLead : List dLf := dFl tX12_doLead
theorem ofX12_doLead : dFl tX12_doLead = oX12_doLead := rfl
set_option maxRecDepth 100000 in
theorem odX12_doLead : ∀ q ∈ oX12_doLead, decode cX12_doLead q.1 = .ok (q.2.1, q.2.2) := q_go qT_ok bbX12_doLead oX12_doLead 0 (by decide +kernel)
theorem dX12_doLead_0 : decode cX12_doLead 0 = .ok (.iconst 1, 1) := d_by (d_at odX12_doLead ofX12_doLead 0) rfl
theorem dX12_doLead_1 : decode cX12_doLead 1 = .ok (.iload_n 1, 1) := d_by (d_at odX12_doLead ofX12_doLead 1) rfl
theorem dX12_doLead_2 : decode cX12_doLead 2 = .ok (.ishl, 1) := d_by (d_at odX12_doLead ofX12_doLead 2) rfl
theorem dX12_doLead_3 : decode cX12_doLead 3 = .ok (.istore 4, 2) := d_by (d_at odX12_doLead ofX12_doLead 3) rfl
theorem dX12_doLead_5 : decode cX12_doLead 5 = .ok (.iconst 0, 1) := d_by (d_at odX12_doLead ofX12_doLead 5) rfl
theorem dX12_doLead_6 : decode cX12_doLead 6 = .ok (.istore 5, 2) := d_by (d_at odX12_doLead ofX12_doLead 6) rfl
theorem dX12_doLead_8 : decode cX12_doLead 8 = .ok (.iload 5, 2) := d_by (d_at odX12_doLead ofX12_doLead 8) rfl
theorem dX12_doLead_10 : decode cX12_doLead 10 = .ok (.iload 4, 2) := d_by (d_at odX12_doLead ofX12_doLead 10) rfl
theorem dX12_doLead_12 : decode cX12_doLead 12 = .ok (.if_icmp .eq 103, 3) := d_by (d_at odX12_doLead ofX12_doLead 12) rfl
theorem dX12_doLead_15 : decode cX12_doLead 15 = .ok (.iload 4, 2) := d_by (d_at odX12_doLead ofX12_doLead 15) rfl
theorem dX12_doLead_17 : decode cX12_doLead 17 = .ok (.istore 5, 2) := d_by (d_at odX12_doLead ofX12_doLead 17) rfl
theorem dX12_doLead_19 : decode cX12_doLead 19 = .ok (.iconst 0, 1) := d_by (d_at odX12_doLead ofX12_doLead 19) rfl
theorem dX12_doLead_20 : decode cX12_doLead 20 = .ok (.istore 6, 2) := d_by (d_at odX12_doLead ofX12_doLead 20) rfl
theorem dX12_doLead_22 : decode cX12_doLead 22 = .ok (.iload 6, 2) := d_by (d_at odX12_doLead ofX12_doLead 22) rfl
theorem dX12_doLead_24 : decode cX12_doLead 24 = .ok (.aload_n 0, 1) := d_by (d_at odX12_doLead ofX12_doLead 24) rfl
theorem dX12_doLead_25 : decode cX12_doLead 25 = .ok (.getfield 20, 3) := d_by (d_at odX12_doLead ofX12_doLead 25) rfl
theorem dX12_doLead_28 : decode cX12_doLead 28 = .ok (.iconst 5, 1) := d_by (d_at odX12_doLead ofX12_doLead 28) rfl
theorem dX12_doLead_29 : decode cX12_doLead 29 = .ok (.iaload, 1) := d_by (d_at odX12_doLead ofX12_doLead 29) rfl
theorem dX12_doLead_30 : decode cX12_doLead 30 = .ok (.if_icmp .ge 82, 3) := d_by (d_at odX12_doLead ofX12_doLead 30) rfl
theorem dX12_doLead_33 : decode cX12_doLead 33 = .ok (.aload_n 0, 1) := d_by (d_at odX12_doLead ofX12_doLead 33) rfl
theorem dX12_doLead_34 : decode cX12_doLead 34 = .ok (.iload 6, 2) := d_by (d_at odX12_doLead ofX12_doLead 34) rfl
theorem dX12_doLead_36 : decode cX12_doLead 36 = .ok (.invokevirtual 302, 3) := d_by (d_at odX12_doLead ofX12_doLead 36) rfl
theorem dX12_doLead_39 : decode cX12_doLead 39 = .ok (.ifCond .ne 67, 3) := d_by (d_at odX12_doLead ofX12_doLead 39) rfl
theorem dX12_doLead_42 : decode cX12_doLead 42 = .ok (.iload_n 3, 1) := d_by (d_at odX12_doLead ofX12_doLead 42) rfl
theorem dX12_doLead_43 : decode cX12_doLead 43 = .ok (.iload 6, 2) := d_by (d_at odX12_doLead ofX12_doLead 43) rfl
theorem dX12_doLead_45 : decode cX12_doLead 45 = .ok (.invokestatic 298, 3) := d_by (d_at odX12_doLead ofX12_doLead 45) rfl
theorem dX12_doLead_48 : decode cX12_doLead 48 = .ok (.ifCond .eq 6, 3) := d_by (d_at odX12_doLead ofX12_doLead 48) rfl
theorem dX12_doLead_51 : decode cX12_doLead 51 = .ok (.goto 55, 3) := d_by (d_at odX12_doLead ofX12_doLead 51) rfl
theorem dX12_doLead_54 : decode cX12_doLead 54 = .ok (.iconst 1, 1) := d_by (d_at odX12_doLead ofX12_doLead 54) rfl
theorem dX12_doLead_55 : decode cX12_doLead 55 = .ok (.aload_n 0, 1) := d_by (d_at odX12_doLead ofX12_doLead 55) rfl
theorem dX12_doLead_56 : decode cX12_doLead 56 = .ok (.getfield 20, 3) := d_by (d_at odX12_doLead ofX12_doLead 56) rfl
theorem dX12_doLead_59 : decode cX12_doLead 59 = .ok (.bipush 59, 2) := d_by (d_at odX12_doLead ofX12_doLead 59) rfl
theorem dX12_doLead_61 : decode cX12_doLead 61 = .ok (.iconst 4, 1) := d_by (d_at odX12_doLead ofX12_doLead 61) rfl
theorem dX12_doLead_62 : decode cX12_doLead 62 = .ok (.iload 6, 2) := d_by (d_at odX12_doLead ofX12_doLead 62) rfl
theorem dX12_doLead_64 : decode cX12_doLead 64 = .ok (.imul, 1) := d_by (d_at odX12_doLead ofX12_doLead 64) rfl
theorem dX12_doLead_65 : decode cX12_doLead 65 = .ok (.iadd, 1) := d_by (d_at odX12_doLead ofX12_doLead 65) rfl
theorem dX12_doLead_66 : decode cX12_doLead 66 = .ok (.iaload, 1) := d_by (d_at odX12_doLead ofX12_doLead 66) rfl
theorem dX12_doLead_67 : decode cX12_doLead 67 = .ok (.ishl, 1) := d_by (d_at odX12_doLead ofX12_doLead 67) rfl
theorem dX12_doLead_68 : decode cX12_doLead 68 = .ok (.iconst 1, 1) := d_by (d_at odX12_doLead ofX12_doLead 68) rfl
theorem dX12_doLead_69 : decode cX12_doLead 69 = .ok (.aload_n 0, 1) := d_by (d_at odX12_doLead ofX12_doLead 69) rfl
theorem dX12_doLead_70 : decode cX12_doLead 70 = .ok (.getfield 20, 3) := d_by (d_at odX12_doLead ofX12_doLead 70) rfl
theorem dX12_doLead_73 : decode cX12_doLead 73 = .ok (.bipush 59, 2) := d_by (d_at odX12_doLead ofX12_doLead 73) rfl
theorem dX12_doLead_75 : decode cX12_doLead 75 = .ok (.iconst 4, 1) := d_by (d_at odX12_doLead ofX12_doLead 75) rfl
theorem dX12_doLead_76 : decode cX12_doLead 76 = .ok (.iload 6, 2) := d_by (d_at odX12_doLead ofX12_doLead 76) rfl
theorem dX12_doLead_78 : decode cX12_doLead 78 = .ok (.imul, 1) := d_by (d_at odX12_doLead ofX12_doLead 78) rfl
theorem dX12_doLead_79 : decode cX12_doLead 79 = .ok (.iadd, 1) := d_by (d_at odX12_doLead ofX12_doLead 79) rfl
theorem dX12_doLead_80 : decode cX12_doLead 80 = .ok (.iconst 1, 1) := d_by (d_at odX12_doLead ofX12_doLead 80) rfl
theorem dX12_doLead_81 : decode cX12_doLead 81 = .ok (.iadd, 1) := d_by (d_at odX12_doLead ofX12_doLead 81) rfl
theorem dX12_doLead_82 : decode cX12_doLead 82 = .ok (.iaload, 1) := d_by (d_at odX12_doLead ofX12_doLead 82) rfl
theorem dX12_doLead_83 : decode cX12_doLead 83 = .ok (.ishl, 1) := d_by (d_at odX12_doLead ofX12_doLead 83) rfl
theorem dX12_doLead_84 : decode cX12_doLead 84 = .ok (.ior, 1) := d_by (d_at odX12_doLead ofX12_doLead 84) rfl
theorem dX12_doLead_85 : decode cX12_doLead 85 = .ok (.istore 7, 2) := d_by (d_at odX12_doLead ofX12_doLead 85) rfl
theorem dX12_doLead_87 : decode cX12_doLead 87 = .ok (.iload 4, 2) := d_by (d_at odX12_doLead ofX12_doLead 87) rfl
theorem dX12_doLead_89 : decode cX12_doLead 89 = .ok (.iload 4, 2) := d_by (d_at odX12_doLead ofX12_doLead 89) rfl
theorem dX12_doLead_91 : decode cX12_doLead 91 = .ok (.iload 7, 2) := d_by (d_at odX12_doLead ofX12_doLead 91) rfl
theorem dX12_doLead_93 : decode cX12_doLead 93 = .ok (.iand, 1) := d_by (d_at odX12_doLead ofX12_doLead 93) rfl
theorem dX12_doLead_94 : decode cX12_doLead 94 = .ok (.ifCond .eq 8, 3) := d_by (d_at odX12_doLead ofX12_doLead 94) rfl
theorem dX12_doLead_97 : decode cX12_doLead 97 = .ok (.iload 7, 2) := d_by (d_at odX12_doLead ofX12_doLead 97) rfl
theorem dX12_doLead_99 : decode cX12_doLead 99 = .ok (.goto 4, 3) := d_by (d_at odX12_doLead ofX12_doLead 99) rfl
theorem dX12_doLead_102 : decode cX12_doLead 102 = .ok (.iconst 0, 1) := d_by (d_at odX12_doLead ofX12_doLead 102) rfl
theorem dX12_doLead_103 : decode cX12_doLead 103 = .ok (.ior, 1) := d_by (d_at odX12_doLead ofX12_doLead 103) rfl
theorem dX12_doLead_104 : decode cX12_doLead 104 = .ok (.istore 4, 2) := d_by (d_at odX12_doLead ofX12_doLead 104) rfl
theorem dX12_doLead_106 : decode cX12_doLead 106 = .ok (.iinc 6 1, 3) := d_by (d_at odX12_doLead ofX12_doLead 106) rfl
theorem dX12_doLead_109 : decode cX12_doLead 109 = .ok (.goto (-87), 3) := d_by (d_at odX12_doLead ofX12_doLead 109) rfl
theorem dX12_doLead_112 : decode cX12_doLead 112 = .ok (.goto (-104), 3) := d_by (d_at odX12_doLead ofX12_doLead 112) rfl
theorem dX12_doLead_115 : decode cX12_doLead 115 = .ok (.iload 4, 2) := d_by (d_at odX12_doLead ofX12_doLead 115) rfl
theorem dX12_doLead_117 : decode cX12_doLead 117 = .ok (.iload_n 2, 1) := d_by (d_at odX12_doLead ofX12_doLead 117) rfl
theorem dX12_doLead_118 : decode cX12_doLead 118 = .ok (.invokestatic 298, 3) := d_by (d_at odX12_doLead ofX12_doLead 118) rfl
theorem dX12_doLead_121 : decode cX12_doLead 121 = .ok (.ireturn, 1) := d_by (d_at odX12_doLead ofX12_doLead 121) rfl
set_option maxRecDepth 100000 in
def bX12_watch : List Nat := [42, 182, 0, 167, 42, 27, 182, 1, 21, 153, 0, 16, 42, 28, 182, 1, 21, 153, 0, 8, 27, 28, 160, 0, 9, 42, 4, 182, 0, 170, 172, 4, 42, 180, 0, 20, 8, 46, 120, 4, 100, 62, 3, 54, 4, 21, 4, 4, 42, 180, 0, 20, 8, 46, 120, 162, 0, 35, 21, 4, 184, 1, 148, 29, 184, 1, 148, 162, 0, 17, 42, 27, 28, 21, 4, 182, 1, 151, 154, 0, 6, 21, 4, 62, 132, 4, 1, 167, 255, 214, 29, 42, 180, 0, 26, 4, 46, 2, 130, 126, 172]
set_option maxRecDepth 100000 in
theorem bbX12_watch : cX12_watch.data.toList.map UInt8.toNat = bX12_watch := by decide +kernel
set_option maxRecDepth 100000 in
def tX12_watch : Lean.RArray dLf := .branch 48 (.branch 27 (.branch 13 (.branch 5 (.branch 1 (.leaf (0, .aload_n 0, 1)) (.branch 4 (.leaf (1, .invokevirtual 167, 3)) (.leaf (4, .aload_n 0, 1)))) (.branch 9 (.branch 6 (.leaf (5, .iload_n 1, 1)) (.leaf (6, .invokevirtual 277, 3))) (.branch 12 (.leaf (9, .ifCond .eq 16, 3)) (.leaf (12, .aload_n 0, 1))))) (.branch 21 (.branch 17 (.branch 14 (.leaf (13, .iload_n 2, 1)) (.leaf (14, .invokevirtual 277, 3))) (.branch 20 (.leaf (17, .ifCond .eq 8, 3)) (.leaf (20, .iload_n 1, 1)))) (.branch 25 (.branch 22 (.leaf (21, .iload_n 2, 1)) (.leaf (22, .if_icmp .ne 9, 3))) (.branch 26 (.leaf (25, .aload_n 0, 1)) (.leaf (26, .iconst 1, 1)))))) (.branch 38 (.branch 32 (.branch 30 (.leaf (27, .invokevirtual 170, 3)) (.branch 31 (.leaf (30, .ireturn, 1)) (.leaf (31, .iconst 1, 1)))) (.branch 36 (.branch 33 (.leaf (32, .aload_n 0, 1)) (.leaf (33, .getfield 20, 3))) (.branch 37 (.leaf (36, .iconst 5, 1)) (.leaf (37, .iaload, 1))))) (.branch 42 (.branch 40 (.branch 39 (.leaf (38, .ishl, 1)) (.leaf (39, .iconst 1, 1))) (.branch 41 (.leaf (40, .isub, 1)) (.leaf (41, .istore_n 3, 1)))) (.branch 45 (.branch 43 (.leaf (42, .iconst 0, 1)) (.leaf (43, .istore 4, 2))) (.branch 47 (.leaf (45, .iload 4, 2)) (.leaf (47, .iconst 1, 1))))))) (.branch 75 (.branch 60 (.branch 53 (.branch 49 (.leaf (48, .aload_n 0, 1)) (.branch 52 (.leaf (49, .getfield 20, 3)) (.leaf (52, .iconst 5, 1)))) (.branch 55 (.branch 54 (.leaf (53, .iaload, 1)) (.leaf (54, .ishl, 1))) (.branch 58 (.leaf (55, .if_icmp .ge 35, 3)) (.leaf (58, .iload 4, 2))))) (.branch 70 (.branch 64 (.branch 63 (.leaf (60, .invokestatic 404, 3)) (.leaf (63, .iload_n 3, 1))) (.branch 67 (.leaf (64, .invokestatic 404, 3)) (.leaf (67, .if_icmp .ge 17, 3)))) (.branch 72 (.branch 71 (.leaf (70, .aload_n 0, 1)) (.leaf (71, .iload_n 1, 1))) (.branch 73 (.leaf (72, .iload_n 2, 1)) (.leaf (73, .iload 4, 2)))))) (.branch 91 (.branch 83 (.branch 78 (.leaf (75, .invokevirtual 407, 3)) (.branch 81 (.leaf (78, .ifCond .ne 6, 3)) (.leaf (81, .iload 4, 2)))) (.branch 87 (.branch 84 (.leaf (83, .istore_n 3, 1)) (.leaf (84, .iinc 4 1, 3))) (.branch 90 (.leaf (87, .goto (-42), 3)) (.leaf (90, .iload_n 3, 1))))) (.branch 97 (.branch 95 (.branch 92 (.leaf (91, .aload_n 0, 1)) (.leaf (92, .getfield 26, 3))) (.branch 96 (.leaf (95, .iconst 1, 1)) (.leaf (96, .iaload, 1)))) (.branch 99 (.branch 98 (.leaf (97, .iconst (-1), 1)) (.leaf (98, .ixor, 1))) (.branch 100 (.leaf (99, .iand, 1)) (.leaf (100, .ireturn, 1)))))))
noncomputable def oX12_watch : List dLf := dFl tX12_watch
theorem ofX12_watch : dFl tX12_watch = oX12_watch := rfl
set_option maxRecDepth 100000 in
theorem odX12_watch : ∀ q ∈ oX12_watch, decode cX12_watch q.1 = .ok (q.2.1, q.2.2) := q_go qT_ok bbX12_watch oX12_watch 0 (by decide +kernel)
set_option maxRecDepth 100000 in
def bX12_layFar : List Nat := [3, 60, 27, 16, 7, 162, 0, 102, 3, 61, 28, 16, 7, 162, 0, 88, 27, 42, 180, 0, 20, 7, 46, 162, 0, 27, 28, 42, 180, 0, 20, 7, 46, 162, 0, 17, 27, 28, 159, 0, 12, 42, 27, 28, 182, 1, 49, 167, 0, 4, 2, 62, 42, 180, 0, 53, 16, 7, 27, 104, 28, 96, 27, 28, 160, 0, 7, 3, 167, 0, 26, 29, 156, 0, 9, 19, 1, 85, 167, 0, 16, 42, 180, 0, 20, 16, 59, 7, 29, 104, 96, 5, 96, 46, 79, 132, 2, 1, 167, 255, 168, 132, 1, 1, 167, 255, 154, 3, 60, 27, 16, 7, 162, 0, 108, 3, 61, 28, 16, 7, 162, 0, 94, 3, 62, 29, 16, 7, 162, 0, 80, 42, 180, 0, 53, 16, 7, 28, 104, 27, 96, 46, 42, 180, 0, 53, 16, 7, 27, 104, 29, 96, 46, 96, 42, 180, 0, 53, 16, 7, 28, 104, 29, 96, 46, 162, 0, 37, 42, 180, 0, 53, 16, 7, 28, 104, 29, 96, 42, 180, 0, 53, 16, 7, 28, 104, 27, 96, 46, 42, 180, 0, 53, 16, 7, 27, 104, 29, 96, 46, 96, 79, 132, 3, 1, 167, 255, 176, 132, 2, 1, 167, 255, 162, 132, 1, 1, 167, 255, 148, 177]
set_option maxRecDepth 100000 in
theorem bbX12_layFar : cX12_layFar.data.toList.map UInt8.toNat = bX12_layFar := by decide +kernel
set_option maxRecDepth 100000 in
def tX12_layFar : Lean.RArray dLf := .branch 115 (.branch 56 (.branch 27 (.branch 11 (.branch 5 (.branch 2 (.branch 1 (.leaf (0, .iconst 0, 1)) (.leaf (1, .istore_n 1, 1))) (.branch 3 (.leaf (2, .iload_n 1, 1)) (.leaf (3, .bipush 7, 2)))) (.branch 9 (.branch 8 (.leaf (5, .if_icmp .ge 102, 3)) (.leaf (8, .iconst 0, 1))) (.branch 10 (.leaf (9, .istore_n 2, 1)) (.leaf (10, .iload_n 2, 1))))) (.branch 18 (.branch 16 (.branch 13 (.leaf (11, .bipush 7, 2)) (.leaf (13, .if_icmp .ge 88, 3))) (.branch 17 (.leaf (16, .iload_n 1, 1)) (.leaf (17, .aload_n 0, 1)))) (.branch 22 (.branch 21 (.leaf (18, .getfield 20, 3)) (.leaf (21, .iconst 4, 1))) (.branch 23 (.leaf (22, .iaload, 1)) (.branch 26 (.leaf (23, .if_icmp .ge 27, 3)) (.leaf (26, .iload_n 2, 1))))))) (.branch 41 (.branch 33 (.branch 31 (.branch 28 (.leaf (27, .aload_n 0, 1)) (.leaf (28, .getfield 20, 3))) (.branch 32 (.leaf (31, .iconst 4, 1)) (.leaf (32, .iaload, 1)))) (.branch 37 (.branch 36 (.leaf (33, .if_icmp .ge 17, 3)) (.leaf (36, .iload_n 1, 1))) (.branch 38 (.leaf (37, .iload_n 2, 1)) (.leaf (38, .if_icmp .eq 12, 3))))) (.branch 47 (.branch 43 (.branch 42 (.leaf (41, .aload_n 0, 1)) (.leaf (42, .iload_n 1, 1))) (.branch 44 (.leaf (43, .iload_n 2, 1)) (.leaf (44, .invokevirtual 305, 3)))) (.branch 51 (.branch 50 (.leaf (47, .goto 4, 3)) (.leaf (50, .iconst (-1), 1))) (.branch 52 (.leaf (51, .istore_n 3, 1)) (.branch 53 (.leaf (52, .aload_n 0, 1)) (.leaf (53, .getfield 53, 3)))))))) (.branch 87 (.branch 67 (.branch 61 (.branch 59 (.branch 58 (.leaf (56, .bipush 7, 2)) (.leaf (58, .iload_n 1, 1))) (.branch 60 (.leaf (59, .imul, 1)) (.leaf (60, .iload_n 2, 1)))) (.branch 63 (.branch 62 (.leaf (61, .iadd, 1)) (.leaf (62, .iload_n 1, 1))) (.branch 64 (.leaf (63, .iload_n 2, 1)) (.leaf (64, .if_icmp .ne 7, 3))))) (.branch 75 (.branch 71 (.branch 68 (.leaf (67, .iconst 0, 1)) (.leaf (68, .goto 26, 3))) (.branch 72 (.leaf (71, .iload_n 3, 1)) (.leaf (72, .ifCond .ge 9, 3)))) (.branch 81 (.branch 78 (.leaf (75, .ldc_w 341, 3)) (.leaf (78, .goto 16, 3))) (.branch 82 (.leaf (81, .aload_n 0, 1)) (.branch 85 (.leaf (82, .getfield 20, 3)) (.leaf (85, .bipush 59, 2))))))) (.branch 95 (.branch 91 (.branch 89 (.branch 88 (.leaf (87, .iconst 4, 1)) (.leaf (88, .iload_n 3, 1))) (.branch 90 (.leaf (89, .imul, 1)) (.leaf (90, .iadd, 1)))) (.branch 93 (.branch 92 (.leaf (91, .iconst 2, 1)) (.leaf (92, .iadd, 1))) (.branch 94 (.leaf (93, .iaload, 1)) (.leaf (94, .iastore, 1))))) (.branch 107 (.branch 101 (.branch 98 (.leaf (95, .iinc 2 1, 3)) (.leaf (98, .goto (-88), 3))) (.branch 104 (.leaf (101, .iinc 1 1, 3)) (.leaf (104, .goto (-102), 3)))) (.branch 109 (.branch 108 (.leaf (107, .iconst 0, 1)) (.leaf (108, .istore_n 1, 1))) (.branch 110 (.leaf (109, .iload_n 1, 1)) (.branch 112 (.leaf (110, .bipush 7, 2)) (.leaf (112, .if_icmp .ge 108, 3))))))))) (.branch 164 (.branch 141 (.branch 126 (.branch 120 (.branch 117 (.branch 116 (.leaf (115, .iconst 0, 1)) (.leaf (116, .istore_n 2, 1))) (.branch 118 (.leaf (117, .iload_n 2, 1)) (.leaf (118, .bipush 7, 2)))) (.branch 124 (.branch 123 (.leaf (120, .if_icmp .ge 94, 3)) (.leaf (123, .iconst 0, 1))) (.branch 125 (.leaf (124, .istore_n 3, 1)) (.leaf (125, .iload_n 3, 1))))) (.branch 135 (.branch 131 (.branch 128 (.leaf (126, .bipush 7, 2)) (.leaf (128, .if_icmp .ge 80, 3))) (.branch 132 (.leaf (131, .aload_n 0, 1)) (.leaf (132, .getfield 53, 3)))) (.branch 138 (.branch 137 (.leaf (135, .bipush 7, 2)) (.leaf (137, .iload_n 2, 1))) (.branch 139 (.leaf (138, .imul, 1)) (.branch 140 (.leaf (139, .iload_n 1, 1)) (.leaf (140, .iadd, 1))))))) (.branch 152 (.branch 148 (.branch 143 (.branch 142 (.leaf (141, .iaload, 1)) (.leaf (142, .aload_n 0, 1))) (.branch 146 (.leaf (143, .getfield 53, 3)) (.leaf (146, .bipush 7, 2)))) (.branch 150 (.branch 149 (.leaf (148, .iload_n 1, 1)) (.leaf (149, .imul, 1))) (.branch 151 (.leaf (150, .iload_n 3, 1)) (.leaf (151, .iadd, 1))))) (.branch 158 (.branch 154 (.branch 153 (.leaf (152, .iaload, 1)) (.leaf (153, .iadd, 1))) (.branch 155 (.leaf (154, .aload_n 0, 1)) (.leaf (155, .getfield 53, 3)))) (.branch 161 (.branch 160 (.leaf (158, .bipush 7, 2)) (.leaf (160, .iload_n 2, 1))) (.branch 162 (.leaf (161, .imul, 1)) (.branch 163 (.leaf (162, .iload_n 3, 1)) (.leaf (163, .iadd, 1)))))))) (.branch 189 (.branch 177 (.branch 172 (.branch 168 (.branch 165 (.leaf (164, .iaload, 1)) (.leaf (165, .if_icmp .ge 37, 3))) (.branch 169 (.leaf (168, .aload_n 0, 1)) (.leaf (169, .getfield 53, 3)))) (.branch 175 (.branch 174 (.leaf (172, .bipush 7, 2)) (.leaf (174, .iload_n 2, 1))) (.branch 176 (.leaf (175, .imul, 1)) (.leaf (176, .iload_n 3, 1))))) (.branch 184 (.branch 179 (.branch 178 (.leaf (177, .iadd, 1)) (.leaf (178, .aload_n 0, 1))) (.branch 182 (.leaf (179, .getfield 53, 3)) (.leaf (182, .bipush 7, 2)))) (.branch 186 (.branch 185 (.leaf (184, .iload_n 2, 1)) (.leaf (185, .imul, 1))) (.branch 187 (.leaf (186, .iload_n 1, 1)) (.branch 188 (.leaf (187, .iadd, 1)) (.leaf (188, .iaload, 1))))))) (.branch 200 (.branch 196 (.branch 193 (.branch 190 (.leaf (189, .aload_n 0, 1)) (.leaf (190, .getfield 53, 3))) (.branch 195 (.leaf (193, .bipush 7, 2)) (.leaf (195, .iload_n 1, 1)))) (.branch 198 (.branch 197 (.leaf (196, .imul, 1)) (.leaf (197, .iload_n 3, 1))) (.branch 199 (.leaf (198, .iadd, 1)) (.leaf (199, .iaload, 1))))) (.branch 208 (.branch 202 (.branch 201 (.leaf (200, .iadd, 1)) (.leaf (201, .iastore, 1))) (.branch 205 (.leaf (202, .iinc 3 1, 3)) (.leaf (205, .goto (-80), 3)))) (.branch 214 (.branch 211 (.leaf (208, .iinc 2 1, 3)) (.leaf (211, .goto (-94), 3))) (.branch 217 (.leaf (214, .iinc 1 1, 3)) (.branch 220 (.leaf (217, .goto (-108), 3)) (.leaf (220, .return_, 1)))))))))
noncomputable def oX12_layFar : List dLf := dFl tX12_layFar
theorem ofX12_layFar : dFl tX12_layFar = oX12_layFar := rfl
set_option maxRecDepth 100000 in
theorem odX12_layFar : ∀ q ∈ oX12_layFar, decode cX12_layFar q.1 = .ok (q.2.1, q.2.2) := q_go qT_ok bbX12_layFar oX12_layFar 0 (by decide +kernel)
set_option maxRecDepth 100000 in
def bX12_tryRound : List Nat := [29, 42, 180, 1, 154, 161, 0, 4, 177, 27, 42, 180, 0, 20, 7, 46, 160, 0, 23, 42, 29, 181, 1, 154, 42, 180, 0, 56, 3, 42, 180, 0, 59, 3, 27, 184, 0, 176, 177, 3, 54, 4, 21, 4, 42, 180, 0, 20, 7, 46, 162, 0, 63, 28, 21, 4, 184, 1, 42, 153, 0, 6, 167, 0, 45, 42, 180, 0, 56, 27, 21, 4, 79, 42, 27, 4, 96, 28, 4, 21, 4, 120, 128, 29, 42, 180, 0, 53, 16, 7, 42, 180, 0, 56, 27, 4, 100, 46, 104, 21, 4, 96, 46, 96, 182, 1, 157, 132, 4, 1, 167, 255, 188, 177]
set_option maxRecDepth 100000 in
theorem bbX12_tryRound : cX12_tryRound.data.toList.map UInt8.toNat = bX12_tryRound := by decide +kernel
set_option maxRecDepth 100000 in
def tX12_tryRound : Lean.RArray dLf := .branch 59 (.branch 29 (.branch 14 (.branch 8 (.branch 2 (.branch 1 (.leaf (0, .iload_n 3, 1)) (.leaf (1, .aload_n 0, 1))) (.branch 5 (.leaf (2, .getfield 410, 3)) (.leaf (5, .if_icmp .lt 4, 3)))) (.branch 10 (.branch 9 (.leaf (8, .return_, 1)) (.leaf (9, .iload_n 1, 1))) (.branch 11 (.leaf (10, .aload_n 0, 1)) (.leaf (11, .getfield 20, 3))))) (.branch 20 (.branch 16 (.branch 15 (.leaf (14, .iconst 4, 1)) (.leaf (15, .iaload, 1))) (.branch 19 (.leaf (16, .if_icmp .ne 23, 3)) (.leaf (19, .aload_n 0, 1)))) (.branch 24 (.branch 21 (.leaf (20, .iload_n 3, 1)) (.leaf (21, .putfield 410, 3))) (.branch 25 (.leaf (24, .aload_n 0, 1)) (.branch 28 (.leaf (25, .getfield 56, 3)) (.leaf (28, .iconst 0, 1))))))) (.branch 42 (.branch 35 (.branch 33 (.branch 30 (.leaf (29, .aload_n 0, 1)) (.leaf (30, .getfield 59, 3))) (.branch 34 (.leaf (33, .iconst 0, 1)) (.leaf (34, .iload_n 1, 1)))) (.branch 39 (.branch 38 (.leaf (35, .invokestatic 176, 3)) (.leaf (38, .return_, 1))) (.branch 40 (.leaf (39, .iconst 0, 1)) (.leaf (40, .istore 4, 2))))) (.branch 49 (.branch 45 (.branch 44 (.leaf (42, .iload 4, 2)) (.leaf (44, .aload_n 0, 1))) (.branch 48 (.leaf (45, .getfield 20, 3)) (.leaf (48, .iconst 4, 1)))) (.branch 53 (.branch 50 (.leaf (49, .iaload, 1)) (.leaf (50, .if_icmp .ge 63, 3))) (.branch 54 (.leaf (53, .iload_n 2, 1)) (.branch 56 (.leaf (54, .iload 4, 2)) (.leaf (56, .invokestatic 298, 3)))))))) (.branch 84 (.branch 74 (.branch 69 (.branch 65 (.branch 62 (.leaf (59, .ifCond .eq 6, 3)) (.leaf (62, .goto 45, 3))) (.branch 66 (.leaf (65, .aload_n 0, 1)) (.leaf (66, .getfield 56, 3)))) (.branch 72 (.branch 70 (.leaf (69, .iload_n 1, 1)) (.leaf (70, .iload 4, 2))) (.branch 73 (.leaf (72, .iastore, 1)) (.leaf (73, .aload_n 0, 1))))) (.branch 78 (.branch 76 (.branch 75 (.leaf (74, .iload_n 1, 1)) (.leaf (75, .iconst 1, 1))) (.branch 77 (.leaf (76, .iadd, 1)) (.leaf (77, .iload_n 2, 1)))) (.branch 81 (.branch 79 (.leaf (78, .iconst 1, 1)) (.leaf (79, .iload 4, 2))) (.branch 82 (.leaf (81, .ishl, 1)) (.branch 83 (.leaf (82, .ior, 1)) (.leaf (83, .iload_n 3, 1))))))) (.branch 98 (.branch 91 (.branch 88 (.branch 85 (.leaf (84, .aload_n 0, 1)) (.leaf (85, .getfield 53, 3))) (.branch 90 (.leaf (88, .bipush 7, 2)) (.leaf (90, .aload_n 0, 1)))) (.branch 95 (.branch 94 (.leaf (91, .getfield 56, 3)) (.leaf (94, .iload_n 1, 1))) (.branch 96 (.leaf (95, .iconst 1, 1)) (.branch 97 (.leaf (96, .isub, 1)) (.leaf (97, .iaload, 1)))))) (.branch 103 (.branch 101 (.branch 99 (.leaf (98, .imul, 1)) (.leaf (99, .iload 4, 2))) (.branch 102 (.leaf (101, .iadd, 1)) (.leaf (102, .iaload, 1)))) (.branch 107 (.branch 104 (.leaf (103, .iadd, 1)) (.leaf (104, .invokevirtual 413, 3))) (.branch 110 (.leaf (107, .iinc 4 1, 3)) (.branch 113 (.leaf (110, .goto (-68), 3)) (.leaf (113, .return_, 1))))))))
noncomputable def oX12_tryRound : List dLf := dFl tX12_tryRound
theorem ofX12_tryRound : dFl tX12_tryRound = oX12_tryRound := rfl
set_option maxRecDepth 100000 in
theorem odX12_tryRound : ∀ q ∈ oX12_tryRound, decode cX12_tryRound q.1 = .ok (q.2.1, q.2.2) := q_go qT_ok bbX12_tryRound oX12_tryRound 0 (by decide +kernel)
set_option maxRecDepth 100000 in
def bX12_seekRound : List Nat := [42, 182, 1, 160, 42, 19, 1, 85, 181, 1, 154, 42, 180, 0, 56, 3, 27, 79, 42, 4, 4, 27, 120, 3, 182, 1, 157, 42, 180, 1, 154, 19, 1, 85, 160, 0, 8, 16, 254, 167, 0, 7, 42, 180, 1, 154, 172]
set_option maxRecDepth 100000 in
theorem bbX12_seekRound : cX12_seekRound.data.toList.map UInt8.toNat = bX12_seekRound := by decide +kernel
set_option maxRecDepth 100000 in
def tX12_seekRound : Lean.RArray dLf := .branch 21 (.branch 12 (.branch 5 (.branch 1 (.leaf (0, .aload_n 0, 1)) (.branch 4 (.leaf (1, .invokevirtual 416, 3)) (.leaf (4, .aload_n 0, 1)))) (.branch 8 (.leaf (5, .ldc_w 341, 3)) (.branch 11 (.leaf (8, .putfield 410, 3)) (.leaf (11, .aload_n 0, 1))))) (.branch 17 (.branch 15 (.leaf (12, .getfield 56, 3)) (.branch 16 (.leaf (15, .iconst 0, 1)) (.leaf (16, .iload_n 1, 1)))) (.branch 19 (.branch 18 (.leaf (17, .iastore, 1)) (.leaf (18, .aload_n 0, 1))) (.branch 20 (.leaf (19, .iconst 1, 1)) (.leaf (20, .iconst 1, 1)))))) (.branch 31 (.branch 24 (.branch 22 (.leaf (21, .iload_n 1, 1)) (.branch 23 (.leaf (22, .ishl, 1)) (.leaf (23, .iconst 0, 1)))) (.branch 27 (.leaf (24, .invokevirtual 413, 3)) (.branch 28 (.leaf (27, .aload_n 0, 1)) (.leaf (28, .getfield 410, 3))))) (.branch 39 (.branch 34 (.leaf (31, .ldc_w 341, 3)) (.branch 37 (.leaf (34, .if_icmp .ne 8, 3)) (.leaf (37, .bipush (-2), 2)))) (.branch 43 (.branch 42 (.leaf (39, .goto 7, 3)) (.leaf (42, .aload_n 0, 1))) (.branch 46 (.leaf (43, .getfield 410, 3)) (.leaf (46, .ireturn, 1))))))
noncomputable def oX12_seekRound : List dLf := dFl tX12_seekRound
theorem ofX12_seekRound : dFl tX12_seekRound = oX12_seekRound := rfl
set_option maxRecDepth 100000 in
theorem odX12_seekRound : ∀ q ∈ oX12_seekRound, decode cX12_seekRound q.1 = .ok (q.2.1, q.2.2) := q_go qT_ok bbX12_seekRound oX12_seekRound 0 (by decide +kernel)
set_option maxRecDepth 100000 in
def bX12_round : List Nat := [42, 182, 0, 167, 42, 27, 182, 1, 21, 153, 0, 11, 42, 27, 182, 1, 163, 167, 0, 8, 42, 4, 182, 0, 170, 172]
set_option maxRecDepth 100000 in
theorem bbX12_round : cX12_round.data.toList.map UInt8.toNat = bX12_round := by decide +kernel
set_option maxRecDepth 100000 in
def tX12_round : Lean.RArray dLf := .branch 13 (.branch 5 (.branch 1 (.leaf (0, .aload_n 0, 1)) (.branch 4 (.leaf (1, .invokevirtual 167, 3)) (.leaf (4, .aload_n 0, 1)))) (.branch 9 (.branch 6 (.leaf (5, .iload_n 1, 1)) (.leaf (6, .invokevirtual 277, 3))) (.branch 12 (.leaf (9, .ifCond .eq 11, 3)) (.leaf (12, .aload_n 0, 1))))) (.branch 20 (.branch 14 (.leaf (13, .iload_n 1, 1)) (.branch 17 (.leaf (14, .invokevirtual 419, 3)) (.leaf (17, .goto 8, 3)))) (.branch 22 (.branch 21 (.leaf (20, .aload_n 0, 1)) (.leaf (21, .iconst 1, 1))) (.branch 25 (.leaf (22, .invokevirtual 170, 3)) (.leaf (25, .ireturn, 1)))))
noncomputable def oX12_round : List dLf := dFl tX12_round
theorem ofX12_round : dFl tX12_round = oX12_round := rfl
set_option maxRecDepth 100000 in
theorem odX12_round : ∀ q ∈ oX12_round, decode cX12_round q.1 = .ok (q.2.1, q.2.2) := q_go qT_ok bbX12_round oX12_round 0 (by decide +kernel)
set_option maxRecDepth 100000 in
def bX12_roundAt : List Nat := [42, 182, 0, 167, 42, 27, 182, 1, 21, 153, 0, 19, 28, 3, 42, 180, 0, 20, 7, 46, 4, 100, 184, 0, 149, 154, 0, 9, 42, 4, 182, 0, 170, 172, 42, 27, 182, 1, 163, 156, 0, 12, 42, 16, 6, 182, 0, 170, 167, 0, 9, 42, 180, 0, 59, 28, 46, 172]
set_option maxRecDepth 100000 in
theorem bbX12_roundAt : cX12_roundAt.data.toList.map UInt8.toNat = bX12_roundAt := by decide +kernel
set_option maxRecDepth 100000 in
def tX12_roundAt : Lean.RArray dLf := .branch 28 (.branch 14 (.branch 6 (.branch 4 (.branch 1 (.leaf (0, .aload_n 0, 1)) (.leaf (1, .invokevirtual 167, 3))) (.branch 5 (.leaf (4, .aload_n 0, 1)) (.leaf (5, .iload_n 1, 1)))) (.branch 12 (.branch 9 (.leaf (6, .invokevirtual 277, 3)) (.leaf (9, .ifCond .eq 19, 3))) (.branch 13 (.leaf (12, .iload_n 2, 1)) (.leaf (13, .iconst 0, 1))))) (.branch 20 (.branch 18 (.branch 15 (.leaf (14, .aload_n 0, 1)) (.leaf (15, .getfield 20, 3))) (.branch 19 (.leaf (18, .iconst 4, 1)) (.leaf (19, .iaload, 1)))) (.branch 22 (.branch 21 (.leaf (20, .iconst 1, 1)) (.leaf (21, .isub, 1))) (.branch 25 (.leaf (22, .invokestatic 149, 3)) (.leaf (25, .ifCond .ne 9, 3)))))) (.branch 42 (.branch 34 (.branch 30 (.branch 29 (.leaf (28, .aload_n 0, 1)) (.leaf (29, .iconst 1, 1))) (.branch 33 (.leaf (30, .invokevirtual 170, 3)) (.leaf (33, .ireturn, 1)))) (.branch 36 (.branch 35 (.leaf (34, .aload_n 0, 1)) (.leaf (35, .iload_n 1, 1))) (.branch 39 (.leaf (36, .invokevirtual 419, 3)) (.leaf (39, .ifCond .ge 12, 3))))) (.branch 51 (.branch 45 (.branch 43 (.leaf (42, .aload_n 0, 1)) (.leaf (43, .bipush 6, 2))) (.branch 48 (.leaf (45, .invokevirtual 170, 3)) (.leaf (48, .goto 9, 3)))) (.branch 55 (.branch 52 (.leaf (51, .aload_n 0, 1)) (.leaf (52, .getfield 59, 3))) (.branch 56 (.leaf (55, .iload_n 2, 1)) (.branch 57 (.leaf (56, .iaload, 1)) (.leaf (57, .ireturn, 1)))))))
noncomputable def oX12_roundAt : List dLf := dFl tX12_roundAt
theorem ofX12_roundAt : dFl tX12_roundAt = oX12_roundAt := rfl
set_option maxRecDepth 100000 in
theorem odX12_roundAt : ∀ q ∈ oX12_roundAt, decode cX12_roundAt q.1 = .ok (q.2.1, q.2.2) := q_go qT_ok bbX12_roundAt oX12_roundAt 0 (by decide +kernel)
set_option maxRecDepth 100000 in
def bX12_decade : List Nat := [42, 182, 0, 167, 42, 180, 0, 180, 154, 0, 9, 42, 4, 182, 0, 170, 172, 27, 3, 19, 1, 166, 184, 0, 149, 153, 0, 13, 28, 3, 16, 50, 184, 0, 149, 154, 0, 9, 42, 5, 182, 0, 170, 172, 27, 62, 3, 54, 4, 3, 54, 5, 21, 5, 28, 162, 0, 144, 3, 54, 6, 21, 6, 42, 180, 0, 20, 16, 7, 46, 162, 0, 123, 2, 54, 7, 3, 54, 8, 16, 75, 29, 104, 16, 74, 96, 19, 1, 167, 112, 62, 29, 16, 100, 112, 42, 180, 0, 20, 6, 46, 162, 0, 47, 16, 75, 29, 104, 16, 74, 96, 19, 1, 167, 112, 62, 29, 42, 21, 6, 182, 1, 28, 112, 54, 7, 16, 75, 29, 104, 16, 74, 96, 19, 1, 167, 112, 62, 29, 42, 180, 0, 20, 3, 46, 112, 54, 8, 21, 4, 42, 21, 6, 42, 180, 0, 26, 3, 46, 21, 5, 96, 21, 7, 21, 8, 182, 1, 35, 42, 21, 6, 4, 182, 1, 6, 160, 0, 7, 4, 167, 0, 4, 3, 96, 54, 4, 132, 6, 1, 167, 255, 127, 132, 5, 1, 167, 255, 112, 21, 4, 172]
set_option maxRecDepth 100000 in
theorem bbX12_decade : cX12_decade.data.toList.map UInt8.toNat = bX12_decade := by decide +kernel
set_option maxRecDepth 100000 in
def tX12_decade : Lean.RArray dLf := .branch 100 (.branch 52 (.branch 28 (.branch 13 (.branch 5 (.branch 1 (.leaf (0, .aload_n 0, 1)) (.branch 4 (.leaf (1, .invokevirtual 167, 3)) (.leaf (4, .aload_n 0, 1)))) (.branch 11 (.branch 8 (.leaf (5, .getfield 180, 3)) (.leaf (8, .ifCond .ne 9, 3))) (.branch 12 (.leaf (11, .aload_n 0, 1)) (.leaf (12, .iconst 1, 1))))) (.branch 18 (.branch 16 (.leaf (13, .invokevirtual 170, 3)) (.branch 17 (.leaf (16, .ireturn, 1)) (.leaf (17, .iload_n 1, 1)))) (.branch 22 (.branch 19 (.leaf (18, .iconst 0, 1)) (.leaf (19, .ldc_w 422, 3))) (.branch 25 (.leaf (22, .invokestatic 149, 3)) (.leaf (25, .ifCond .eq 13, 3)))))) (.branch 40 (.branch 32 (.branch 29 (.leaf (28, .iload_n 2, 1)) (.branch 30 (.leaf (29, .iconst 0, 1)) (.leaf (30, .bipush 50, 2)))) (.branch 38 (.branch 35 (.leaf (32, .invokestatic 149, 3)) (.leaf (35, .ifCond .ne 9, 3))) (.branch 39 (.leaf (38, .aload_n 0, 1)) (.leaf (39, .iconst 2, 1))))) (.branch 46 (.branch 44 (.branch 43 (.leaf (40, .invokevirtual 170, 3)) (.leaf (43, .ireturn, 1))) (.branch 45 (.leaf (44, .iload_n 1, 1)) (.leaf (45, .istore_n 3, 1)))) (.branch 49 (.branch 47 (.leaf (46, .iconst 0, 1)) (.leaf (47, .istore 4, 2))) (.branch 50 (.leaf (49, .iconst 0, 1)) (.leaf (50, .istore 5, 2))))))) (.branch 77 (.branch 64 (.branch 58 (.branch 54 (.leaf (52, .iload 5, 2)) (.branch 55 (.leaf (54, .iload_n 2, 1)) (.leaf (55, .if_icmp .ge 144, 3)))) (.branch 61 (.branch 59 (.leaf (58, .iconst 0, 1)) (.leaf (59, .istore 6, 2))) (.branch 63 (.leaf (61, .iload 6, 2)) (.leaf (63, .aload_n 0, 1))))) (.branch 70 (.branch 67 (.leaf (64, .getfield 20, 3)) (.branch 69 (.leaf (67, .bipush 7, 2)) (.leaf (69, .iaload, 1)))) (.branch 74 (.branch 73 (.leaf (70, .if_icmp .ge 123, 3)) (.leaf (73, .iconst (-1), 1))) (.branch 76 (.leaf (74, .istore 7, 2)) (.leaf (76, .iconst 0, 1)))))) (.branch 89 (.branch 82 (.branch 79 (.leaf (77, .istore 8, 2)) (.branch 81 (.leaf (79, .bipush 75, 2)) (.leaf (81, .iload_n 3, 1)))) (.branch 85 (.branch 83 (.leaf (82, .imul, 1)) (.leaf (83, .bipush 74, 2))) (.branch 86 (.leaf (85, .iadd, 1)) (.leaf (86, .ldc_w 423, 3))))) (.branch 94 (.branch 91 (.branch 90 (.leaf (89, .irem, 1)) (.leaf (90, .istore_n 3, 1))) (.branch 92 (.leaf (91, .iload_n 3, 1)) (.leaf (92, .bipush 100, 2)))) (.branch 96 (.branch 95 (.leaf (94, .irem, 1)) (.leaf (95, .aload_n 0, 1))) (.branch 99 (.leaf (96, .getfield 20, 3)) (.leaf (99, .iconst 3, 1)))))))) (.branch 145 (.branch 123 (.branch 111 (.branch 106 (.branch 101 (.leaf (100, .iaload, 1)) (.branch 104 (.leaf (101, .if_icmp .ge 47, 3)) (.leaf (104, .bipush 75, 2)))) (.branch 108 (.branch 107 (.leaf (106, .iload_n 3, 1)) (.leaf (107, .imul, 1))) (.branch 110 (.leaf (108, .bipush 74, 2)) (.leaf (110, .iadd, 1))))) (.branch 116 (.branch 114 (.leaf (111, .ldc_w 423, 3)) (.branch 115 (.leaf (114, .irem, 1)) (.leaf (115, .istore_n 3, 1)))) (.branch 118 (.branch 117 (.leaf (116, .iload_n 3, 1)) (.leaf (117, .aload_n 0, 1))) (.branch 120 (.leaf (118, .iload 6, 2)) (.leaf (120, .invokevirtual 284, 3)))))) (.branch 133 (.branch 128 (.branch 124 (.leaf (123, .irem, 1)) (.branch 126 (.leaf (124, .istore 7, 2)) (.leaf (126, .bipush 75, 2)))) (.branch 130 (.branch 129 (.leaf (128, .iload_n 3, 1)) (.leaf (129, .imul, 1))) (.branch 132 (.leaf (130, .bipush 74, 2)) (.leaf (132, .iadd, 1))))) (.branch 139 (.branch 137 (.branch 136 (.leaf (133, .ldc_w 423, 3)) (.leaf (136, .irem, 1))) (.branch 138 (.leaf (137, .istore_n 3, 1)) (.leaf (138, .iload_n 3, 1)))) (.branch 143 (.branch 140 (.leaf (139, .aload_n 0, 1)) (.leaf (140, .getfield 20, 3))) (.branch 144 (.leaf (143, .iconst 0, 1)) (.leaf (144, .iaload, 1))))))) (.branch 170 (.branch 157 (.branch 150 (.branch 146 (.leaf (145, .irem, 1)) (.branch 148 (.leaf (146, .istore 8, 2)) (.leaf (148, .iload 4, 2)))) (.branch 153 (.branch 151 (.leaf (150, .aload_n 0, 1)) (.leaf (151, .iload 6, 2))) (.branch 154 (.leaf (153, .aload_n 0, 1)) (.leaf (154, .getfield 26, 3))))) (.branch 162 (.branch 159 (.branch 158 (.leaf (157, .iconst 0, 1)) (.leaf (158, .iaload, 1))) (.branch 161 (.leaf (159, .iload 5, 2)) (.leaf (161, .iadd, 1)))) (.branch 166 (.branch 164 (.leaf (162, .iload 7, 2)) (.leaf (164, .iload 8, 2))) (.branch 169 (.leaf (166, .invokevirtual 291, 3)) (.leaf (169, .aload_n 0, 1)))))) (.branch 184 (.branch 176 (.branch 172 (.leaf (170, .iload 6, 2)) (.branch 173 (.leaf (172, .iconst 1, 1)) (.leaf (173, .invokevirtual 262, 3)))) (.branch 180 (.branch 179 (.leaf (176, .if_icmp .ne 7, 3)) (.leaf (179, .iconst 1, 1))) (.branch 183 (.leaf (180, .goto 4, 3)) (.leaf (183, .iconst 0, 1))))) (.branch 193 (.branch 187 (.branch 185 (.leaf (184, .iadd, 1)) (.leaf (185, .istore 4, 2))) (.branch 190 (.leaf (187, .iinc 6 1, 3)) (.leaf (190, .goto (-129), 3)))) (.branch 199 (.branch 196 (.leaf (193, .iinc 5 1, 3)) (.leaf (196, .goto (-144), 3))) (.branch 201 (.leaf (199, .iload 4, 2)) (.leaf (201, .ireturn, 1))))))))
noncomputable def oX12_decade : List dLf := dFl tX12_decade
theorem ofX12_decade : dFl tX12_decade = oX12_decade := rfl
set_option maxRecDepth 100000 in
theorem odX12_decade : ∀ q ∈ oX12_decade, decode cX12_decade q.1 = .ok (q.2.1, q.2.2) := q_go qT_ok bbX12_decade oX12_decade 0 (by decide +kernel)
set_option maxRecDepth 100000 in
def bX12_note1 : List Nat := [42, 180, 0, 183, 16, 12, 160, 0, 43, 3, 60, 27, 17, 3, 68, 162, 0, 24, 42, 180, 0, 29, 27, 42, 180, 0, 29, 27, 16, 76, 96, 46, 79, 132, 1, 1, 167, 255, 231, 42, 89, 180, 0, 183, 4, 100, 181, 0, 183, 42, 180, 0, 26, 3, 42, 180, 0, 29, 16, 76, 42, 180, 0, 183, 104, 16, 76, 184, 0, 176, 42, 89, 180, 0, 183, 4, 96, 181, 0, 183, 177]
set_option maxRecDepth 100000 in
theorem bbX12_note1 : cX12_note1.data.toList.map UInt8.toNat = bX12_note1 := by decide +kernel
set_option maxRecDepth 100000 in
def tX12_note1 : Lean.RArray dLf := .branch 40 (.branch 22 (.branch 10 (.branch 4 (.branch 1 (.leaf (0, .aload_n 0, 1)) (.leaf (1, .getfield 183, 3))) (.branch 6 (.leaf (4, .bipush 12, 2)) (.branch 9 (.leaf (6, .if_icmp .ne 43, 3)) (.leaf (9, .iconst 0, 1))))) (.branch 15 (.branch 11 (.leaf (10, .istore_n 1, 1)) (.branch 12 (.leaf (11, .iload_n 1, 1)) (.leaf (12, .sipush 836, 3)))) (.branch 18 (.leaf (15, .if_icmp .ge 24, 3)) (.branch 19 (.leaf (18, .aload_n 0, 1)) (.leaf (19, .getfield 29, 3)))))) (.branch 30 (.branch 24 (.branch 23 (.leaf (22, .iload_n 1, 1)) (.leaf (23, .aload_n 0, 1))) (.branch 27 (.leaf (24, .getfield 29, 3)) (.branch 28 (.leaf (27, .iload_n 1, 1)) (.leaf (28, .bipush 76, 2))))) (.branch 33 (.branch 31 (.leaf (30, .iadd, 1)) (.branch 32 (.leaf (31, .iaload, 1)) (.leaf (32, .iastore, 1)))) (.branch 36 (.leaf (33, .iinc 1 1, 3)) (.branch 39 (.leaf (36, .goto (-25), 3)) (.leaf (39, .aload_n 0, 1))))))) (.branch 60 (.branch 49 (.branch 44 (.branch 41 (.leaf (40, .dup, 1)) (.leaf (41, .getfield 183, 3))) (.branch 45 (.leaf (44, .iconst 1, 1)) (.branch 46 (.leaf (45, .isub, 1)) (.leaf (46, .putfield 183, 3))))) (.branch 54 (.branch 50 (.leaf (49, .aload_n 0, 1)) (.branch 53 (.leaf (50, .getfield 26, 3)) (.leaf (53, .iconst 0, 1)))) (.branch 55 (.leaf (54, .aload_n 0, 1)) (.branch 58 (.leaf (55, .getfield 29, 3)) (.leaf (58, .bipush 76, 2)))))) (.branch 71 (.branch 65 (.branch 61 (.leaf (60, .aload_n 0, 1)) (.branch 64 (.leaf (61, .getfield 183, 3)) (.leaf (64, .imul, 1)))) (.branch 67 (.leaf (65, .bipush 76, 2)) (.branch 70 (.leaf (67, .invokestatic 176, 3)) (.leaf (70, .aload_n 0, 1))))) (.branch 76 (.branch 72 (.leaf (71, .dup, 1)) (.branch 75 (.leaf (72, .getfield 183, 3)) (.leaf (75, .iconst 1, 1)))) (.branch 77 (.leaf (76, .iadd, 1)) (.branch 80 (.leaf (77, .putfield 183, 3)) (.leaf (80, .return_, 1)))))))
noncomputable def oX12_note1 : List dLf := dFl tX12_note1
theorem ofX12_note1 : dFl tX12_note1 = oX12_note1 := rfl
set_option maxRecDepth 100000 in
theorem odX12_note1 : ∀ q ∈ oX12_note1, decode cX12_note1 q.1 = .ok (q.2.1, q.2.2) := q_go qT_ok bbX12_note1 oX12_note1 0 (by decide +kernel)
theorem dX12_note1_0 : decode cX12_note1 0 = .ok (.aload_n 0, 1) := d_by (d_at odX12_note1 ofX12_note1 0) rfl
theorem dX12_note1_1 : decode cX12_note1 1 = .ok (.getfield 183, 3) := d_by (d_at odX12_note1 ofX12_note1 1) rfl
theorem dX12_note1_4 : decode cX12_note1 4 = .ok (.bipush 12, 2) := d_by (d_at odX12_note1 ofX12_note1 4) rfl
theorem dX12_note1_6 : decode cX12_note1 6 = .ok (.if_icmp .ne 43, 3) := d_by (d_at odX12_note1 ofX12_note1 6) rfl
theorem dX12_note1_9 : decode cX12_note1 9 = .ok (.iconst 0, 1) := d_by (d_at odX12_note1 ofX12_note1 9) rfl
theorem dX12_note1_10 : decode cX12_note1 10 = .ok (.istore_n 1, 1) := d_by (d_at odX12_note1 ofX12_note1 10) rfl
theorem dX12_note1_11 : decode cX12_note1 11 = .ok (.iload_n 1, 1) := d_by (d_at odX12_note1 ofX12_note1 11) rfl
theorem dX12_note1_12 : decode cX12_note1 12 = .ok (.sipush 836, 3) := d_by (d_at odX12_note1 ofX12_note1 12) rfl
theorem dX12_note1_15 : decode cX12_note1 15 = .ok (.if_icmp .ge 24, 3) := d_by (d_at odX12_note1 ofX12_note1 15) rfl
theorem dX12_note1_18 : decode cX12_note1 18 = .ok (.aload_n 0, 1) := d_by (d_at odX12_note1 ofX12_note1 18) rfl
theorem dX12_note1_19 : decode cX12_note1 19 = .ok (.getfield 29, 3) := d_by (d_at odX12_note1 ofX12_note1 19) rfl
theorem dX12_note1_22 : decode cX12_note1 22 = .ok (.iload_n 1, 1) := d_by (d_at odX12_note1 ofX12_note1 22) rfl
theorem dX12_note1_23 : decode cX12_note1 23 = .ok (.aload_n 0, 1) := d_by (d_at odX12_note1 ofX12_note1 23) rfl
theorem dX12_note1_24 : decode cX12_note1 24 = .ok (.getfield 29, 3) := d_by (d_at odX12_note1 ofX12_note1 24) rfl
theorem dX12_note1_27 : decode cX12_note1 27 = .ok (.iload_n 1, 1) := d_by (d_at odX12_note1 ofX12_note1 27) rfl
theorem dX12_note1_28 : decode cX12_note1 28 = .ok (.bipush 76, 2) := d_by (d_at odX12_note1 ofX12_note1 28) rfl
theorem dX12_note1_30 : decode cX12_note1 30 = .ok (.iadd, 1) := d_by (d_at odX12_note1 ofX12_note1 30) rfl
theorem dX12_note1_31 : decode cX12_note1 31 = .ok (.iaload, 1) := d_by (d_at odX12_note1 ofX12_note1 31) rfl
theorem dX12_note1_32 : decode cX12_note1 32 = .ok (.iastore, 1) := d_by (d_at odX12_note1 ofX12_note1 32) rfl
theorem dX12_note1_33 : decode cX12_note1 33 = .ok (.iinc 1 1, 3) := d_by (d_at odX12_note1 ofX12_note1 33) rfl
theorem dX12_note1_36 : decode cX12_note1 36 = .ok (.goto (-25), 3) := d_by (d_at odX12_note1 ofX12_note1 36) rfl
theorem dX12_note1_39 : decode cX12_note1 39 = .ok (.aload_n 0, 1) := d_by (d_at odX12_note1 ofX12_note1 39) rfl
theorem dX12_note1_40 : decode cX12_note1 40 = .ok (.dup, 1) := d_by (d_at odX12_note1 ofX12_note1 40) rfl
theorem dX12_note1_41 : decode cX12_note1 41 = .ok (.getfield 183, 3) := d_by (d_at odX12_note1 ofX12_note1 41) rfl
theorem dX12_note1_44 : decode cX12_note1 44 = .ok (.iconst 1, 1) := d_by (d_at odX12_note1 ofX12_note1 44) rfl
theorem dX12_note1_45 : decode cX12_note1 45 = .ok (.isub, 1) := d_by (d_at odX12_note1 ofX12_note1 45) rfl
theorem dX12_note1_46 : decode cX12_note1 46 = .ok (.putfield 183, 3) := d_by (d_at odX12_note1 ofX12_note1 46) rfl
theorem dX12_note1_49 : decode cX12_note1 49 = .ok (.aload_n 0, 1) := d_by (d_at odX12_note1 ofX12_note1 49) rfl
theorem dX12_note1_50 : decode cX12_note1 50 = .ok (.getfield 26, 3) := d_by (d_at odX12_note1 ofX12_note1 50) rfl
theorem dX12_note1_53 : decode cX12_note1 53 = .ok (.iconst 0, 1) := d_by (d_at odX12_note1 ofX12_note1 53) rfl
theorem dX12_note1_54 : decode cX12_note1 54 = .ok (.aload_n 0, 1) := d_by (d_at odX12_note1 ofX12_note1 54) rfl
theorem dX12_note1_55 : decode cX12_note1 55 = .ok (.getfield 29, 3) := d_by (d_at odX12_note1 ofX12_note1 55) rfl
theorem dX12_note1_58 : decode cX12_note1 58 = .ok (.bipush 76, 2) := d_by (d_at odX12_note1 ofX12_note1 58) rfl
theorem dX12_note1_60 : decode cX12_note1 60 = .ok (.aload_n 0, 1) := d_by (d_at odX12_note1 ofX12_note1 60) rfl
theorem dX12_note1_61 : decode cX12_note1 61 = .ok (.getfield 183, 3) := d_by (d_at odX12_note1 ofX12_note1 61) rfl
theorem dX12_note1_64 : decode cX12_note1 64 = .ok (.imul, 1) := d_by (d_at odX12_note1 ofX12_note1 64) rfl
theorem dX12_note1_65 : decode cX12_note1 65 = .ok (.bipush 76, 2) := d_by (d_at odX12_note1 ofX12_note1 65) rfl
theorem dX12_note1_67 : decode cX12_note1 67 = .ok (.invokestatic 176, 3) := d_by (d_at odX12_note1 ofX12_note1 67) rfl
theorem dX12_note1_70 : decode cX12_note1 70 = .ok (.aload_n 0, 1) := d_by (d_at odX12_note1 ofX12_note1 70) rfl
theorem dX12_note1_71 : decode cX12_note1 71 = .ok (.dup, 1) := d_by (d_at odX12_note1 ofX12_note1 71) rfl
theorem dX12_note1_72 : decode cX12_note1 72 = .ok (.getfield 183, 3) := d_by (d_at odX12_note1 ofX12_note1 72) rfl
theorem dX12_note1_75 : decode cX12_note1 75 = .ok (.iconst 1, 1) := d_by (d_at odX12_note1 ofX12_note1 75) rfl
theorem dX12_note1_76 : decode cX12_note1 76 = .ok (.iadd, 1) := d_by (d_at odX12_note1 ofX12_note1 76) rfl
theorem dX12_note1_77 : decode cX12_note1 77 = .ok (.putfield 183, 3) := d_by (d_at odX12_note1 ofX12_note1 77) rfl
theorem dX12_note1_80 : decode cX12_note1 80 = .ok (.return_, 1) := d_by (d_at odX12_note1 ofX12_note1 80) rfl
set_option maxRecDepth 100000 in
def bX12_send : List Nat := [42, 182, 0, 167, 42, 27, 182, 1, 12, 153, 0, 11, 42, 28, 182, 1, 18, 154, 0, 9, 42, 4, 182, 0, 170, 172, 42, 27, 28, 182, 1, 111, 62, 29, 156, 0, 9, 42, 8, 182, 0, 170, 172, 42, 28, 182, 1, 39, 54, 4, 42, 182, 1, 168, 42, 180, 0, 26, 5, 27, 96, 21, 4, 79, 42, 180, 0, 26, 16, 7, 27, 96, 29, 79, 42, 180, 0, 26, 16, 12, 28, 96, 29, 4, 96, 79, 42, 180, 0, 26, 16, 20, 28, 96, 21, 4, 4, 96, 79, 29, 172]
set_option maxRecDepth 100000 in
theorem bbX12_send : cX12_send.data.toList.map UInt8.toNat = bX12_send := by decide +kernel
set_option maxRecDepth 100000 in
def tX12_send : Lean.RArray dLf := .branch 55 (.branch 28 (.branch 14 (.branch 6 (.branch 4 (.branch 1 (.leaf (0, .aload_n 0, 1)) (.leaf (1, .invokevirtual 167, 3))) (.branch 5 (.leaf (4, .aload_n 0, 1)) (.leaf (5, .iload_n 1, 1)))) (.branch 12 (.branch 9 (.leaf (6, .invokevirtual 268, 3)) (.leaf (9, .ifCond .eq 11, 3))) (.branch 13 (.leaf (12, .aload_n 0, 1)) (.leaf (13, .iload_n 2, 1))))) (.branch 22 (.branch 20 (.branch 17 (.leaf (14, .invokevirtual 274, 3)) (.leaf (17, .ifCond .ne 9, 3))) (.branch 21 (.leaf (20, .aload_n 0, 1)) (.leaf (21, .iconst 1, 1)))) (.branch 26 (.branch 25 (.leaf (22, .invokevirtual 170, 3)) (.leaf (25, .ireturn, 1))) (.branch 27 (.leaf (26, .aload_n 0, 1)) (.leaf (27, .iload_n 1, 1)))))) (.branch 42 (.branch 34 (.branch 32 (.branch 29 (.leaf (28, .iload_n 2, 1)) (.leaf (29, .invokevirtual 367, 3))) (.branch 33 (.leaf (32, .istore_n 3, 1)) (.leaf (33, .iload_n 3, 1)))) (.branch 38 (.branch 37 (.leaf (34, .ifCond .ge 9, 3)) (.leaf (37, .aload_n 0, 1))) (.branch 39 (.leaf (38, .iconst 5, 1)) (.leaf (39, .invokevirtual 170, 3))))) (.branch 48 (.branch 44 (.branch 43 (.leaf (42, .ireturn, 1)) (.leaf (43, .aload_n 0, 1))) (.branch 45 (.leaf (44, .iload_n 2, 1)) (.leaf (45, .invokevirtual 295, 3)))) (.branch 51 (.branch 50 (.leaf (48, .istore 4, 2)) (.leaf (50, .aload_n 0, 1))) (.branch 54 (.leaf (51, .invokevirtual 424, 3)) (.leaf (54, .aload_n 0, 1))))))) (.branch 80 (.branch 68 (.branch 61 (.branch 59 (.branch 58 (.leaf (55, .getfield 26, 3)) (.leaf (58, .iconst 2, 1))) (.branch 60 (.leaf (59, .iload_n 1, 1)) (.leaf (60, .iadd, 1)))) (.branch 64 (.branch 63 (.leaf (61, .iload 4, 2)) (.leaf (63, .iastore, 1))) (.branch 65 (.leaf (64, .aload_n 0, 1)) (.leaf (65, .getfield 26, 3))))) (.branch 73 (.branch 71 (.branch 70 (.leaf (68, .bipush 7, 2)) (.leaf (70, .iload_n 1, 1))) (.branch 72 (.leaf (71, .iadd, 1)) (.leaf (72, .iload_n 3, 1)))) (.branch 75 (.branch 74 (.leaf (73, .iastore, 1)) (.leaf (74, .aload_n 0, 1))) (.branch 78 (.leaf (75, .getfield 26, 3)) (.leaf (78, .bipush 12, 2)))))) (.branch 90 (.branch 84 (.branch 82 (.branch 81 (.leaf (80, .iload_n 2, 1)) (.leaf (81, .iadd, 1))) (.branch 83 (.leaf (82, .iload_n 3, 1)) (.leaf (83, .iconst 1, 1)))) (.branch 86 (.branch 85 (.leaf (84, .iadd, 1)) (.leaf (85, .iastore, 1))) (.branch 87 (.leaf (86, .aload_n 0, 1)) (.leaf (87, .getfield 26, 3))))) (.branch 96 (.branch 93 (.branch 92 (.leaf (90, .bipush 20, 2)) (.leaf (92, .iload_n 2, 1))) (.branch 94 (.leaf (93, .iadd, 1)) (.leaf (94, .iload 4, 2)))) (.branch 98 (.branch 97 (.leaf (96, .iconst 1, 1)) (.leaf (97, .iadd, 1))) (.branch 99 (.leaf (98, .iastore, 1)) (.branch 100 (.leaf (99, .iload_n 3, 1)) (.leaf (100, .ireturn, 1))))))))
noncomputable def oX12_send : List dLf := dFl tX12_send
theorem ofX12_send : dFl tX12_send = oX12_send := rfl
set_option maxRecDepth 100000 in
theorem odX12_send : ∀ q ∈ oX12_send, decode cX12_send q.1 = .ok (q.2.1, q.2.2) := q_go qT_ok bbX12_send oX12_send 0 (by decide +kernel)
theorem dX12_send_0 : decode cX12_send 0 = .ok (.aload_n 0, 1) := d_by (d_at odX12_send ofX12_send 0) rfl
theorem dX12_send_1 : decode cX12_send 1 = .ok (.invokevirtual 167, 3) := d_by (d_at odX12_send ofX12_send 1) rfl
theorem dX12_send_4 : decode cX12_send 4 = .ok (.aload_n 0, 1) := d_by (d_at odX12_send ofX12_send 4) rfl
theorem dX12_send_5 : decode cX12_send 5 = .ok (.iload_n 1, 1) := d_by (d_at odX12_send ofX12_send 5) rfl
theorem dX12_send_6 : decode cX12_send 6 = .ok (.invokevirtual 268, 3) := d_by (d_at odX12_send ofX12_send 6) rfl
theorem dX12_send_9 : decode cX12_send 9 = .ok (.ifCond .eq 11, 3) := d_by (d_at odX12_send ofX12_send 9) rfl
theorem dX12_send_12 : decode cX12_send 12 = .ok (.aload_n 0, 1) := d_by (d_at odX12_send ofX12_send 12) rfl
theorem dX12_send_13 : decode cX12_send 13 = .ok (.iload_n 2, 1) := d_by (d_at odX12_send ofX12_send 13) rfl
theorem dX12_send_14 : decode cX12_send 14 = .ok (.invokevirtual 274, 3) := d_by (d_at odX12_send ofX12_send 14) rfl
theorem dX12_send_17 : decode cX12_send 17 = .ok (.ifCond .ne 9, 3) := d_by (d_at odX12_send ofX12_send 17) rfl
theorem dX12_send_20 : decode cX12_send 20 = .ok (.aload_n 0, 1) := d_by (d_at odX12_send ofX12_send 20) rfl
theorem dX12_send_21 : decode cX12_send 21 = .ok (.iconst 1, 1) := d_by (d_at odX12_send ofX12_send 21) rfl
theorem dX12_send_22 : decode cX12_send 22 = .ok (.invokevirtual 170, 3) := d_by (d_at odX12_send ofX12_send 22) rfl
theorem dX12_send_25 : decode cX12_send 25 = .ok (.ireturn, 1) := d_by (d_at odX12_send ofX12_send 25) rfl
theorem dX12_send_26 : decode cX12_send 26 = .ok (.aload_n 0, 1) := d_by (d_at odX12_send ofX12_send 26) rfl
theorem dX12_send_27 : decode cX12_send 27 = .ok (.iload_n 1, 1) := d_by (d_at odX12_send ofX12_send 27) rfl
theorem dX12_send_28 : decode cX12_send 28 = .ok (.iload_n 2, 1) := d_by (d_at odX12_send ofX12_send 28) rfl
theorem dX12_send_29 : decode cX12_send 29 = .ok (.invokevirtual 367, 3) := d_by (d_at odX12_send ofX12_send 29) rfl
theorem dX12_send_32 : decode cX12_send 32 = .ok (.istore_n 3, 1) := d_by (d_at odX12_send ofX12_send 32) rfl
theorem dX12_send_33 : decode cX12_send 33 = .ok (.iload_n 3, 1) := d_by (d_at odX12_send ofX12_send 33) rfl
theorem dX12_send_34 : decode cX12_send 34 = .ok (.ifCond .ge 9, 3) := d_by (d_at odX12_send ofX12_send 34) rfl
theorem dX12_send_37 : decode cX12_send 37 = .ok (.aload_n 0, 1) := d_by (d_at odX12_send ofX12_send 37) rfl
theorem dX12_send_38 : decode cX12_send 38 = .ok (.iconst 5, 1) := d_by (d_at odX12_send ofX12_send 38) rfl
theorem dX12_send_39 : decode cX12_send 39 = .ok (.invokevirtual 170, 3) := d_by (d_at odX12_send ofX12_send 39) rfl
theorem dX12_send_42 : decode cX12_send 42 = .ok (.ireturn, 1) := d_by (d_at odX12_send ofX12_send 42) rfl
theorem dX12_send_43 : decode cX12_send 43 = .ok (.aload_n 0, 1) := d_by (d_at odX12_send ofX12_send 43) rfl
theorem dX12_send_44 : decode cX12_send 44 = .ok (.iload_n 2, 1) := d_by (d_at odX12_send ofX12_send 44) rfl
theorem dX12_send_45 : decode cX12_send 45 = .ok (.invokevirtual 295, 3) := d_by (d_at odX12_send ofX12_send 45) rfl
theorem dX12_send_48 : decode cX12_send 48 = .ok (.istore 4, 2) := d_by (d_at odX12_send ofX12_send 48) rfl
theorem dX12_send_50 : decode cX12_send 50 = .ok (.aload_n 0, 1) := d_by (d_at odX12_send ofX12_send 50) rfl
theorem dX12_send_51 : decode cX12_send 51 = .ok (.invokevirtual 424, 3) := d_by (d_at odX12_send ofX12_send 51) rfl
theorem dX12_send_54 : decode cX12_send 54 = .ok (.aload_n 0, 1) := d_by (d_at odX12_send ofX12_send 54) rfl
theorem dX12_send_55 : decode cX12_send 55 = .ok (.getfield 26, 3) := d_by (d_at odX12_send ofX12_send 55) rfl
theorem dX12_send_58 : decode cX12_send 58 = .ok (.iconst 2, 1) := d_by (d_at odX12_send ofX12_send 58) rfl
theorem dX12_send_59 : decode cX12_send 59 = .ok (.iload_n 1, 1) := d_by (d_at odX12_send ofX12_send 59) rfl
theorem dX12_send_60 : decode cX12_send 60 = .ok (.iadd, 1) := d_by (d_at odX12_send ofX12_send 60) rfl
theorem dX12_send_61 : decode cX12_send 61 = .ok (.iload 4, 2) := d_by (d_at odX12_send ofX12_send 61) rfl
theorem dX12_send_63 : decode cX12_send 63 = .ok (.iastore, 1) := d_by (d_at odX12_send ofX12_send 63) rfl
theorem dX12_send_64 : decode cX12_send 64 = .ok (.aload_n 0, 1) := d_by (d_at odX12_send ofX12_send 64) rfl
theorem dX12_send_65 : decode cX12_send 65 = .ok (.getfield 26, 3) := d_by (d_at odX12_send ofX12_send 65) rfl
theorem dX12_send_68 : decode cX12_send 68 = .ok (.bipush 7, 2) := d_by (d_at odX12_send ofX12_send 68) rfl
theorem dX12_send_70 : decode cX12_send 70 = .ok (.iload_n 1, 1) := d_by (d_at odX12_send ofX12_send 70) rfl
theorem dX12_send_71 : decode cX12_send 71 = .ok (.iadd, 1) := d_by (d_at odX12_send ofX12_send 71) rfl
theorem dX12_send_72 : decode cX12_send 72 = .ok (.iload_n 3, 1) := d_by (d_at odX12_send ofX12_send 72) rfl
theorem dX12_send_73 : decode cX12_send 73 = .ok (.iastore, 1) := d_by (d_at odX12_send ofX12_send 73) rfl
theorem dX12_send_74 : decode cX12_send 74 = .ok (.aload_n 0, 1) := d_by (d_at odX12_send ofX12_send 74) rfl
theorem dX12_send_75 : decode cX12_send 75 = .ok (.getfield 26, 3) := d_by (d_at odX12_send ofX12_send 75) rfl
theorem dX12_send_78 : decode cX12_send 78 = .ok (.bipush 12, 2) := d_by (d_at odX12_send ofX12_send 78) rfl
theorem dX12_send_80 : decode cX12_send 80 = .ok (.iload_n 2, 1) := d_by (d_at odX12_send ofX12_send 80) rfl
theorem dX12_send_81 : decode cX12_send 81 = .ok (.iadd, 1) := d_by (d_at odX12_send ofX12_send 81) rfl
theorem dX12_send_82 : decode cX12_send 82 = .ok (.iload_n 3, 1) := d_by (d_at odX12_send ofX12_send 82) rfl
theorem dX12_send_83 : decode cX12_send 83 = .ok (.iconst 1, 1) := d_by (d_at odX12_send ofX12_send 83) rfl
theorem dX12_send_84 : decode cX12_send 84 = .ok (.iadd, 1) := d_by (d_at odX12_send ofX12_send 84) rfl
theorem dX12_send_85 : decode cX12_send 85 = .ok (.iastore, 1) := d_by (d_at odX12_send ofX12_send 85) rfl
theorem dX12_send_86 : decode cX12_send 86 = .ok (.aload_n 0, 1) := d_by (d_at odX12_send ofX12_send 86) rfl
theorem dX12_send_87 : decode cX12_send 87 = .ok (.getfield 26, 3) := d_by (d_at odX12_send ofX12_send 87) rfl
theorem dX12_send_90 : decode cX12_send 90 = .ok (.bipush 20, 2) := d_by (d_at odX12_send ofX12_send 90) rfl
theorem dX12_send_92 : decode cX12_send 92 = .ok (.iload_n 2, 1) := d_by (d_at odX12_send ofX12_send 92) rfl
theorem dX12_send_93 : decode cX12_send 93 = .ok (.iadd, 1) := d_by (d_at odX12_send ofX12_send 93) rfl
theorem dX12_send_94 : decode cX12_send 94 = .ok (.iload 4, 2) := d_by (d_at odX12_send ofX12_send 94) rfl
theorem dX12_send_96 : decode cX12_send 96 = .ok (.iconst 1, 1) := d_by (d_at odX12_send ofX12_send 96) rfl
theorem dX12_send_97 : decode cX12_send 97 = .ok (.iadd, 1) := d_by (d_at odX12_send ofX12_send 97) rfl
theorem dX12_send_98 : decode cX12_send 98 = .ok (.iastore, 1) := d_by (d_at odX12_send ofX12_send 98) rfl
theorem dX12_send_99 : decode cX12_send 99 = .ok (.iload_n 3, 1) := d_by (d_at odX12_send ofX12_send 99) rfl
theorem dX12_send_100 : decode cX12_send 100 = .ok (.ireturn, 1) := d_by (d_at odX12_send ofX12_send 100) rfl
set_option maxRecDepth 100000 in
def bX12_tune : List Nat := [42, 182, 0, 167, 42, 27, 182, 1, 18, 153, 0, 18, 28, 3, 42, 27, 182, 1, 28, 4, 100, 184, 0, 149, 154, 0, 9, 42, 4, 182, 1, 171, 172, 29, 3, 42, 180, 0, 20, 3, 46, 4, 100, 184, 0, 149, 154, 0, 9, 42, 5, 182, 1, 171, 172, 42, 180, 0, 26, 16, 28, 16, 6, 27, 104, 96, 28, 96, 46, 29, 159, 0, 15, 42, 180, 0, 26, 16, 12, 27, 96, 46, 158, 0, 9, 42, 8, 182, 1, 171, 172, 42, 182, 1, 168, 42, 180, 0, 26, 16, 28, 16, 6, 27, 104, 96, 28, 96, 29, 79, 4, 172]
set_option maxRecDepth 100000 in
theorem bbX12_tune : cX12_tune.data.toList.map UInt8.toNat = bX12_tune := by decide +kernel
set_option maxRecDepth 100000 in
def tX12_tune : Lean.RArray dLf := .branch 59 (.branch 29 (.branch 14 (.branch 6 (.branch 4 (.branch 1 (.leaf (0, .aload_n 0, 1)) (.leaf (1, .invokevirtual 167, 3))) (.branch 5 (.leaf (4, .aload_n 0, 1)) (.leaf (5, .iload_n 1, 1)))) (.branch 12 (.branch 9 (.leaf (6, .invokevirtual 274, 3)) (.leaf (9, .ifCond .eq 18, 3))) (.branch 13 (.leaf (12, .iload_n 2, 1)) (.leaf (13, .iconst 0, 1))))) (.branch 20 (.branch 16 (.branch 15 (.leaf (14, .aload_n 0, 1)) (.leaf (15, .iload_n 1, 1))) (.branch 19 (.leaf (16, .invokevirtual 284, 3)) (.leaf (19, .iconst 1, 1)))) (.branch 24 (.branch 21 (.leaf (20, .isub, 1)) (.leaf (21, .invokestatic 149, 3))) (.branch 27 (.leaf (24, .ifCond .ne 9, 3)) (.branch 28 (.leaf (27, .aload_n 0, 1)) (.leaf (28, .iconst 1, 1))))))) (.branch 42 (.branch 35 (.branch 33 (.branch 32 (.leaf (29, .invokevirtual 427, 3)) (.leaf (32, .ireturn, 1))) (.branch 34 (.leaf (33, .iload_n 3, 1)) (.leaf (34, .iconst 0, 1)))) (.branch 39 (.branch 36 (.leaf (35, .aload_n 0, 1)) (.leaf (36, .getfield 20, 3))) (.branch 40 (.leaf (39, .iconst 0, 1)) (.branch 41 (.leaf (40, .iaload, 1)) (.leaf (41, .iconst 1, 1)))))) (.branch 50 (.branch 46 (.branch 43 (.leaf (42, .isub, 1)) (.leaf (43, .invokestatic 149, 3))) (.branch 49 (.leaf (46, .ifCond .ne 9, 3)) (.leaf (49, .aload_n 0, 1)))) (.branch 54 (.branch 51 (.leaf (50, .iconst 2, 1)) (.leaf (51, .invokevirtual 427, 3))) (.branch 55 (.leaf (54, .ireturn, 1)) (.branch 56 (.leaf (55, .aload_n 0, 1)) (.leaf (56, .getfield 26, 3)))))))) (.branch 86 (.branch 70 (.branch 65 (.branch 63 (.branch 61 (.leaf (59, .bipush 28, 2)) (.leaf (61, .bipush 6, 2))) (.branch 64 (.leaf (63, .iload_n 1, 1)) (.leaf (64, .imul, 1)))) (.branch 67 (.branch 66 (.leaf (65, .iadd, 1)) (.leaf (66, .iload_n 2, 1))) (.branch 68 (.leaf (67, .iadd, 1)) (.branch 69 (.leaf (68, .iaload, 1)) (.leaf (69, .iload_n 3, 1)))))) (.branch 79 (.branch 74 (.branch 73 (.leaf (70, .if_icmp .eq 15, 3)) (.leaf (73, .aload_n 0, 1))) (.branch 77 (.leaf (74, .getfield 26, 3)) (.leaf (77, .bipush 12, 2)))) (.branch 81 (.branch 80 (.leaf (79, .iload_n 1, 1)) (.leaf (80, .iadd, 1))) (.branch 82 (.leaf (81, .iaload, 1)) (.branch 85 (.leaf (82, .ifCond .le 9, 3)) (.leaf (85, .aload_n 0, 1))))))) (.branch 103 (.branch 92 (.branch 90 (.branch 87 (.leaf (86, .iconst 5, 1)) (.leaf (87, .invokevirtual 427, 3))) (.branch 91 (.leaf (90, .ireturn, 1)) (.leaf (91, .aload_n 0, 1)))) (.branch 96 (.branch 95 (.leaf (92, .invokevirtual 424, 3)) (.leaf (95, .aload_n 0, 1))) (.branch 99 (.leaf (96, .getfield 26, 3)) (.branch 101 (.leaf (99, .bipush 28, 2)) (.leaf (101, .bipush 6, 2)))))) (.branch 107 (.branch 105 (.branch 104 (.leaf (103, .iload_n 1, 1)) (.leaf (104, .imul, 1))) (.branch 106 (.leaf (105, .iadd, 1)) (.leaf (106, .iload_n 2, 1)))) (.branch 109 (.branch 108 (.leaf (107, .iadd, 1)) (.leaf (108, .iload_n 3, 1))) (.branch 110 (.leaf (109, .iastore, 1)) (.branch 111 (.leaf (110, .iconst 1, 1)) (.leaf (111, .ireturn, 1))))))))
noncomputable def oX12_tune : List dLf := dFl tX12_tune
theorem ofX12_tune : dFl tX12_tune = oX12_tune := rfl
set_option maxRecDepth 100000 in
theorem odX12_tune : ∀ q ∈ oX12_tune, decode cX12_tune q.1 = .ok (q.2.1, q.2.2) := q_go qT_ok bbX12_tune oX12_tune 0 (by decide +kernel)
theorem dX12_tune_0 : decode cX12_tune 0 = .ok (.aload_n 0, 1) := d_by (d_at odX12_tune ofX12_tune 0) rfl
theorem dX12_tune_1 : decode cX12_tune 1 = .ok (.invokevirtual 167, 3) := d_by (d_at odX12_tune ofX12_tune 1) rfl
theorem dX12_tune_4 : decode cX12_tune 4 = .ok (.aload_n 0, 1) := d_by (d_at odX12_tune ofX12_tune 4) rfl
theorem dX12_tune_5 : decode cX12_tune 5 = .ok (.iload_n 1, 1) := d_by (d_at odX12_tune ofX12_tune 5) rfl
theorem dX12_tune_6 : decode cX12_tune 6 = .ok (.invokevirtual 274, 3) := d_by (d_at odX12_tune ofX12_tune 6) rfl
theorem dX12_tune_9 : decode cX12_tune 9 = .ok (.ifCond .eq 18, 3) := d_by (d_at odX12_tune ofX12_tune 9) rfl
theorem dX12_tune_12 : decode cX12_tune 12 = .ok (.iload_n 2, 1) := d_by (d_at odX12_tune ofX12_tune 12) rfl
theorem dX12_tune_13 : decode cX12_tune 13 = .ok (.iconst 0, 1) := d_by (d_at odX12_tune ofX12_tune 13) rfl
theorem dX12_tune_14 : decode cX12_tune 14 = .ok (.aload_n 0, 1) := d_by (d_at odX12_tune ofX12_tune 14) rfl
theorem dX12_tune_15 : decode cX12_tune 15 = .ok (.iload_n 1, 1) := d_by (d_at odX12_tune ofX12_tune 15) rfl
theorem dX12_tune_16 : decode cX12_tune 16 = .ok (.invokevirtual 284, 3) := d_by (d_at odX12_tune ofX12_tune 16) rfl
theorem dX12_tune_19 : decode cX12_tune 19 = .ok (.iconst 1, 1) := d_by (d_at odX12_tune ofX12_tune 19) rfl
theorem dX12_tune_20 : decode cX12_tune 20 = .ok (.isub, 1) := d_by (d_at odX12_tune ofX12_tune 20) rfl
theorem dX12_tune_21 : decode cX12_tune 21 = .ok (.invokestatic 149, 3) := d_by (d_at odX12_tune ofX12_tune 21) rfl
theorem dX12_tune_24 : decode cX12_tune 24 = .ok (.ifCond .ne 9, 3) := d_by (d_at odX12_tune ofX12_tune 24) rfl
theorem dX12_tune_27 : decode cX12_tune 27 = .ok (.aload_n 0, 1) := d_by (d_at odX12_tune ofX12_tune 27) rfl
theorem dX12_tune_28 : decode cX12_tune 28 = .ok (.iconst 1, 1) := d_by (d_at odX12_tune ofX12_tune 28) rfl
theorem dX12_tune_29 : decode cX12_tune 29 = .ok (.invokevirtual 427, 3) := d_by (d_at odX12_tune ofX12_tune 29) rfl
theorem dX12_tune_32 : decode cX12_tune 32 = .ok (.ireturn, 1) := d_by (d_at odX12_tune ofX12_tune 32) rfl
theorem dX12_tune_33 : decode cX12_tune 33 = .ok (.iload_n 3, 1) := d_by (d_at odX12_tune ofX12_tune 33) rfl
theorem dX12_tune_34 : decode cX12_tune 34 = .ok (.iconst 0, 1) := d_by (d_at odX12_tune ofX12_tune 34) rfl
theorem dX12_tune_35 : decode cX12_tune 35 = .ok (.aload_n 0, 1) := d_by (d_at odX12_tune ofX12_tune 35) rfl
theorem dX12_tune_36 : decode cX12_tune 36 = .ok (.getfield 20, 3) := d_by (d_at odX12_tune ofX12_tune 36) rfl
theorem dX12_tune_39 : decode cX12_tune 39 = .ok (.iconst 0, 1) := d_by (d_at odX12_tune ofX12_tune 39) rfl
theorem dX12_tune_40 : decode cX12_tune 40 = .ok (.iaload, 1) := d_by (d_at odX12_tune ofX12_tune 40) rfl
theorem dX12_tune_41 : decode cX12_tune 41 = .ok (.iconst 1, 1) := d_by (d_at odX12_tune ofX12_tune 41) rfl
theorem dX12_tune_42 : decode cX12_tune 42 = .ok (.isub, 1) := d_by (d_at odX12_tune ofX12_tune 42) rfl
theorem dX12_tune_43 : decode cX12_tune 43 = .ok (.invokestatic 149, 3) := d_by (d_at odX12_tune ofX12_tune 43) rfl
theorem dX12_tune_46 : decode cX12_tune 46 = .ok (.ifCond .ne 9, 3) := d_by (d_at odX12_tune ofX12_tune 46) rfl
theorem dX12_tune_49 : decode cX12_tune 49 = .ok (.aload_n 0, 1) := d_by (d_at odX12_tune ofX12_tune 49) rfl
theorem dX12_tune_50 : decode cX12_tune 50 = .ok (.iconst 2, 1) := d_by (d_at odX12_tune ofX12_tune 50) rfl
theorem dX12_tune_51 : decode cX12_tune 51 = .ok (.invokevirtual 427, 3) := d_by (d_at odX12_tune ofX12_tune 51) rfl
theorem dX12_tune_54 : decode cX12_tune 54 = .ok (.ireturn, 1) := d_by (d_at odX12_tune ofX12_tune 54) rfl
theorem dX12_tune_55 : decode cX12_tune 55 = .ok (.aload_n 0, 1) := d_by (d_at odX12_tune ofX12_tune 55) rfl
theorem dX12_tune_56 : decode cX12_tune 56 = .ok (.getfield 26, 3) := d_by (d_at odX12_tune ofX12_tune 56) rfl
theorem dX12_tune_59 : decode cX12_tune 59 = .ok (.bipush 28, 2) := d_by (d_at odX12_tune ofX12_tune 59) rfl
theorem dX12_tune_61 : decode cX12_tune 61 = .ok (.bipush 6, 2) := d_by (d_at odX12_tune ofX12_tune 61) rfl
theorem dX12_tune_63 : decode cX12_tune 63 = .ok (.iload_n 1, 1) := d_by (d_at odX12_tune ofX12_tune 63) rfl
theorem dX12_tune_64 : decode cX12_tune 64 = .ok (.imul, 1) := d_by (d_at odX12_tune ofX12_tune 64) rfl
theorem dX12_tune_65 : decode cX12_tune 65 = .ok (.iadd, 1) := d_by (d_at odX12_tune ofX12_tune 65) rfl
theorem dX12_tune_66 : decode cX12_tune 66 = .ok (.iload_n 2, 1) := d_by (d_at odX12_tune ofX12_tune 66) rfl
theorem dX12_tune_67 : decode cX12_tune 67 = .ok (.iadd, 1) := d_by (d_at odX12_tune ofX12_tune 67) rfl
theorem dX12_tune_68 : decode cX12_tune 68 = .ok (.iaload, 1) := d_by (d_at odX12_tune ofX12_tune 68) rfl
theorem dX12_tune_69 : decode cX12_tune 69 = .ok (.iload_n 3, 1) := d_by (d_at odX12_tune ofX12_tune 69) rfl
theorem dX12_tune_70 : decode cX12_tune 70 = .ok (.if_icmp .eq 15, 3) := d_by (d_at odX12_tune ofX12_tune 70) rfl
theorem dX12_tune_73 : decode cX12_tune 73 = .ok (.aload_n 0, 1) := d_by (d_at odX12_tune ofX12_tune 73) rfl
theorem dX12_tune_74 : decode cX12_tune 74 = .ok (.getfield 26, 3) := d_by (d_at odX12_tune ofX12_tune 74) rfl
theorem dX12_tune_77 : decode cX12_tune 77 = .ok (.bipush 12, 2) := d_by (d_at odX12_tune ofX12_tune 77) rfl
theorem dX12_tune_79 : decode cX12_tune 79 = .ok (.iload_n 1, 1) := d_by (d_at odX12_tune ofX12_tune 79) rfl
theorem dX12_tune_80 : decode cX12_tune 80 = .ok (.iadd, 1) := d_by (d_at odX12_tune ofX12_tune 80) rfl
theorem dX12_tune_81 : decode cX12_tune 81 = .ok (.iaload, 1) := d_by (d_at odX12_tune ofX12_tune 81) rfl
theorem dX12_tune_82 : decode cX12_tune 82 = .ok (.ifCond .le 9, 3) := d_by (d_at odX12_tune ofX12_tune 82) rfl
theorem dX12_tune_85 : decode cX12_tune 85 = .ok (.aload_n 0, 1) := d_by (d_at odX12_tune ofX12_tune 85) rfl
theorem dX12_tune_86 : decode cX12_tune 86 = .ok (.iconst 5, 1) := d_by (d_at odX12_tune ofX12_tune 86) rfl
theorem dX12_tune_87 : decode cX12_tune 87 = .ok (.invokevirtual 427, 3) := d_by (d_at odX12_tune ofX12_tune 87) rfl
theorem dX12_tune_90 : decode cX12_tune 90 = .ok (.ireturn, 1) := d_by (d_at odX12_tune ofX12_tune 90) rfl
theorem dX12_tune_91 : decode cX12_tune 91 = .ok (.aload_n 0, 1) := d_by (d_at odX12_tune ofX12_tune 91) rfl
theorem dX12_tune_92 : decode cX12_tune 92 = .ok (.invokevirtual 424, 3) := d_by (d_at odX12_tune ofX12_tune 92) rfl
theorem dX12_tune_95 : decode cX12_tune 95 = .ok (.aload_n 0, 1) := d_by (d_at odX12_tune ofX12_tune 95) rfl
theorem dX12_tune_96 : decode cX12_tune 96 = .ok (.getfield 26, 3) := d_by (d_at odX12_tune ofX12_tune 96) rfl
theorem dX12_tune_99 : decode cX12_tune 99 = .ok (.bipush 28, 2) := d_by (d_at odX12_tune ofX12_tune 99) rfl
theorem dX12_tune_101 : decode cX12_tune 101 = .ok (.bipush 6, 2) := d_by (d_at odX12_tune ofX12_tune 101) rfl
theorem dX12_tune_103 : decode cX12_tune 103 = .ok (.iload_n 1, 1) := d_by (d_at odX12_tune ofX12_tune 103) rfl
theorem dX12_tune_104 : decode cX12_tune 104 = .ok (.imul, 1) := d_by (d_at odX12_tune ofX12_tune 104) rfl
theorem dX12_tune_105 : decode cX12_tune 105 = .ok (.iadd, 1) := d_by (d_at odX12_tune ofX12_tune 105) rfl
theorem dX12_tune_106 : decode cX12_tune 106 = .ok (.iload_n 2, 1) := d_by (d_at odX12_tune ofX12_tune 106) rfl
theorem dX12_tune_107 : decode cX12_tune 107 = .ok (.iadd, 1) := d_by (d_at odX12_tune ofX12_tune 107) rfl
theorem dX12_tune_108 : decode cX12_tune 108 = .ok (.iload_n 3, 1) := d_by (d_at odX12_tune ofX12_tune 108) rfl
theorem dX12_tune_109 : decode cX12_tune 109 = .ok (.iastore, 1) := d_by (d_at odX12_tune ofX12_tune 109) rfl
theorem dX12_tune_110 : decode cX12_tune 110 = .ok (.iconst 1, 1) := d_by (d_at odX12_tune ofX12_tune 110) rfl
theorem dX12_tune_111 : decode cX12_tune 111 = .ok (.ireturn, 1) := d_by (d_at odX12_tune ofX12_tune 111) rfl
set_option maxRecDepth 100000 in
def bX12_years : List Nat := [42, 182, 0, 167, 42, 180, 0, 180, 154, 0, 9, 42, 4, 182, 0, 170, 172, 27, 4, 16, 99, 184, 0, 149, 154, 0, 9, 42, 5, 182, 0, 170, 172, 42, 180, 0, 26, 3, 46, 27, 96, 17, 39, 15, 164, 0, 9, 42, 6, 182, 0, 170, 172, 42, 182, 1, 168, 42, 180, 0, 26, 3, 92, 46, 27, 96, 79, 42, 180, 0, 26, 3, 46, 172]
set_option maxRecDepth 100000 in
theorem bbX12_years : cX12_years.data.toList.map UInt8.toNat = bX12_years := by decide +kernel
set_option maxRecDepth 100000 in
def tX12_years : Lean.RArray dLf := .branch 39 (.branch 19 (.branch 11 (.branch 4 (.branch 1 (.leaf (0, .aload_n 0, 1)) (.leaf (1, .invokevirtual 167, 3))) (.branch 5 (.leaf (4, .aload_n 0, 1)) (.branch 8 (.leaf (5, .getfield 180, 3)) (.leaf (8, .ifCond .ne 9, 3))))) (.branch 16 (.branch 12 (.leaf (11, .aload_n 0, 1)) (.branch 13 (.leaf (12, .iconst 1, 1)) (.leaf (13, .invokevirtual 170, 3)))) (.branch 17 (.leaf (16, .ireturn, 1)) (.branch 18 (.leaf (17, .iload_n 1, 1)) (.leaf (18, .iconst 1, 1)))))) (.branch 29 (.branch 24 (.branch 21 (.leaf (19, .bipush 99, 2)) (.leaf (21, .invokestatic 149, 3))) (.branch 27 (.leaf (24, .ifCond .ne 9, 3)) (.branch 28 (.leaf (27, .aload_n 0, 1)) (.leaf (28, .iconst 2, 1))))) (.branch 34 (.branch 32 (.leaf (29, .invokevirtual 170, 3)) (.branch 33 (.leaf (32, .ireturn, 1)) (.leaf (33, .aload_n 0, 1)))) (.branch 37 (.leaf (34, .getfield 26, 3)) (.branch 38 (.leaf (37, .iconst 0, 1)) (.leaf (38, .iaload, 1))))))) (.branch 58 (.branch 48 (.branch 41 (.branch 40 (.leaf (39, .iload_n 1, 1)) (.leaf (40, .iadd, 1))) (.branch 44 (.leaf (41, .sipush 9999, 3)) (.branch 47 (.leaf (44, .if_icmp .le 9, 3)) (.leaf (47, .aload_n 0, 1))))) (.branch 53 (.branch 49 (.leaf (48, .iconst 3, 1)) (.branch 52 (.leaf (49, .invokevirtual 170, 3)) (.leaf (52, .ireturn, 1)))) (.branch 54 (.leaf (53, .aload_n 0, 1)) (.branch 57 (.leaf (54, .invokevirtual 424, 3)) (.leaf (57, .aload_n 0, 1)))))) (.branch 66 (.branch 63 (.branch 61 (.leaf (58, .getfield 26, 3)) (.branch 62 (.leaf (61, .iconst 0, 1)) (.leaf (62, .dup2, 1)))) (.branch 64 (.leaf (63, .iaload, 1)) (.branch 65 (.leaf (64, .iload_n 1, 1)) (.leaf (65, .iadd, 1))))) (.branch 71 (.branch 67 (.leaf (66, .iastore, 1)) (.branch 68 (.leaf (67, .aload_n 0, 1)) (.leaf (68, .getfield 26, 3)))) (.branch 72 (.leaf (71, .iconst 0, 1)) (.branch 73 (.leaf (72, .iaload, 1)) (.leaf (73, .ireturn, 1)))))))
noncomputable def oX12_years : List dLf := dFl tX12_years
theorem ofX12_years : dFl tX12_years = oX12_years := rfl
set_option maxRecDepth 100000 in
theorem odX12_years : ∀ q ∈ oX12_years, decode cX12_years q.1 = .ok (q.2.1, q.2.2) := q_go qT_ok bbX12_years oX12_years 0 (by decide +kernel)
theorem dX12_years_0 : decode cX12_years 0 = .ok (.aload_n 0, 1) := d_by (d_at odX12_years ofX12_years 0) rfl
theorem dX12_years_1 : decode cX12_years 1 = .ok (.invokevirtual 167, 3) := d_by (d_at odX12_years ofX12_years 1) rfl
theorem dX12_years_4 : decode cX12_years 4 = .ok (.aload_n 0, 1) := d_by (d_at odX12_years ofX12_years 4) rfl
theorem dX12_years_5 : decode cX12_years 5 = .ok (.getfield 180, 3) := d_by (d_at odX12_years ofX12_years 5) rfl
theorem dX12_years_8 : decode cX12_years 8 = .ok (.ifCond .ne 9, 3) := d_by (d_at odX12_years ofX12_years 8) rfl
theorem dX12_years_11 : decode cX12_years 11 = .ok (.aload_n 0, 1) := d_by (d_at odX12_years ofX12_years 11) rfl
theorem dX12_years_12 : decode cX12_years 12 = .ok (.iconst 1, 1) := d_by (d_at odX12_years ofX12_years 12) rfl
theorem dX12_years_13 : decode cX12_years 13 = .ok (.invokevirtual 170, 3) := d_by (d_at odX12_years ofX12_years 13) rfl
theorem dX12_years_16 : decode cX12_years 16 = .ok (.ireturn, 1) := d_by (d_at odX12_years ofX12_years 16) rfl
theorem dX12_years_17 : decode cX12_years 17 = .ok (.iload_n 1, 1) := d_by (d_at odX12_years ofX12_years 17) rfl
theorem dX12_years_18 : decode cX12_years 18 = .ok (.iconst 1, 1) := d_by (d_at odX12_years ofX12_years 18) rfl
theorem dX12_years_19 : decode cX12_years 19 = .ok (.bipush 99, 2) := d_by (d_at odX12_years ofX12_years 19) rfl
theorem dX12_years_21 : decode cX12_years 21 = .ok (.invokestatic 149, 3) := d_by (d_at odX12_years ofX12_years 21) rfl
theorem dX12_years_24 : decode cX12_years 24 = .ok (.ifCond .ne 9, 3) := d_by (d_at odX12_years ofX12_years 24) rfl
theorem dX12_years_27 : decode cX12_years 27 = .ok (.aload_n 0, 1) := d_by (d_at odX12_years ofX12_years 27) rfl
theorem dX12_years_28 : decode cX12_years 28 = .ok (.iconst 2, 1) := d_by (d_at odX12_years ofX12_years 28) rfl
theorem dX12_years_29 : decode cX12_years 29 = .ok (.invokevirtual 170, 3) := d_by (d_at odX12_years ofX12_years 29) rfl
theorem dX12_years_32 : decode cX12_years 32 = .ok (.ireturn, 1) := d_by (d_at odX12_years ofX12_years 32) rfl
theorem dX12_years_33 : decode cX12_years 33 = .ok (.aload_n 0, 1) := d_by (d_at odX12_years ofX12_years 33) rfl
theorem dX12_years_34 : decode cX12_years 34 = .ok (.getfield 26, 3) := d_by (d_at odX12_years ofX12_years 34) rfl
theorem dX12_years_37 : decode cX12_years 37 = .ok (.iconst 0, 1) := d_by (d_at odX12_years ofX12_years 37) rfl
theorem dX12_years_38 : decode cX12_years 38 = .ok (.iaload, 1) := d_by (d_at odX12_years ofX12_years 38) rfl
theorem dX12_years_39 : decode cX12_years 39 = .ok (.iload_n 1, 1) := d_by (d_at odX12_years ofX12_years 39) rfl
theorem dX12_years_40 : decode cX12_years 40 = .ok (.iadd, 1) := d_by (d_at odX12_years ofX12_years 40) rfl
theorem dX12_years_41 : decode cX12_years 41 = .ok (.sipush 9999, 3) := d_by (d_at odX12_years ofX12_years 41) rfl
theorem dX12_years_44 : decode cX12_years 44 = .ok (.if_icmp .le 9, 3) := d_by (d_at odX12_years ofX12_years 44) rfl
theorem dX12_years_47 : decode cX12_years 47 = .ok (.aload_n 0, 1) := d_by (d_at odX12_years ofX12_years 47) rfl
theorem dX12_years_48 : decode cX12_years 48 = .ok (.iconst 3, 1) := d_by (d_at odX12_years ofX12_years 48) rfl
theorem dX12_years_49 : decode cX12_years 49 = .ok (.invokevirtual 170, 3) := d_by (d_at odX12_years ofX12_years 49) rfl
theorem dX12_years_52 : decode cX12_years 52 = .ok (.ireturn, 1) := d_by (d_at odX12_years ofX12_years 52) rfl
theorem dX12_years_53 : decode cX12_years 53 = .ok (.aload_n 0, 1) := d_by (d_at odX12_years ofX12_years 53) rfl
theorem dX12_years_54 : decode cX12_years 54 = .ok (.invokevirtual 424, 3) := d_by (d_at odX12_years ofX12_years 54) rfl
theorem dX12_years_57 : decode cX12_years 57 = .ok (.aload_n 0, 1) := d_by (d_at odX12_years ofX12_years 57) rfl
theorem dX12_years_58 : decode cX12_years 58 = .ok (.getfield 26, 3) := d_by (d_at odX12_years ofX12_years 58) rfl
theorem dX12_years_61 : decode cX12_years 61 = .ok (.iconst 0, 1) := d_by (d_at odX12_years ofX12_years 61) rfl
theorem dX12_years_62 : decode cX12_years 62 = .ok (.dup2, 1) := d_by (d_at odX12_years ofX12_years 62) rfl
theorem dX12_years_63 : decode cX12_years 63 = .ok (.iaload, 1) := d_by (d_at odX12_years ofX12_years 63) rfl
theorem dX12_years_64 : decode cX12_years 64 = .ok (.iload_n 1, 1) := d_by (d_at odX12_years ofX12_years 64) rfl
theorem dX12_years_65 : decode cX12_years 65 = .ok (.iadd, 1) := d_by (d_at odX12_years ofX12_years 65) rfl
theorem dX12_years_66 : decode cX12_years 66 = .ok (.iastore, 1) := d_by (d_at odX12_years ofX12_years 66) rfl
theorem dX12_years_67 : decode cX12_years 67 = .ok (.aload_n 0, 1) := d_by (d_at odX12_years ofX12_years 67) rfl
theorem dX12_years_68 : decode cX12_years 68 = .ok (.getfield 26, 3) := d_by (d_at odX12_years ofX12_years 68) rfl
theorem dX12_years_71 : decode cX12_years 71 = .ok (.iconst 0, 1) := d_by (d_at odX12_years ofX12_years 71) rfl
theorem dX12_years_72 : decode cX12_years 72 = .ok (.iaload, 1) := d_by (d_at odX12_years ofX12_years 72) rfl
theorem dX12_years_73 : decode cX12_years 73 = .ok (.ireturn, 1) := d_by (d_at odX12_years ofX12_years 73) rfl
set_option maxRecDepth 100000 in
def bX12_close : List Nat := [42, 182, 0, 167, 42, 180, 0, 180, 153, 0, 19, 27, 3, 42, 180, 0, 20, 8, 46, 4, 100, 184, 0, 149, 154, 0, 9, 42, 4, 182, 1, 171, 172, 42, 27, 182, 1, 46, 28, 160, 0, 9, 42, 8, 182, 1, 171, 172, 42, 182, 1, 168, 42, 180, 0, 26, 4, 92, 46, 4, 27, 120, 130, 79, 4, 172]
set_option maxRecDepth 100000 in
theorem bbX12_close : cX12_close.data.toList.map UInt8.toNat = bX12_close := by decide +kernel
set_option maxRecDepth 100000 in
def tX12_close : Lean.RArray dLf := .branch 35 (.branch 18 (.branch 11 (.branch 4 (.branch 1 (.leaf (0, .aload_n 0, 1)) (.leaf (1, .invokevirtual 167, 3))) (.branch 5 (.leaf (4, .aload_n 0, 1)) (.branch 8 (.leaf (5, .getfield 180, 3)) (.leaf (8, .ifCond .eq 19, 3))))) (.branch 13 (.branch 12 (.leaf (11, .iload_n 1, 1)) (.leaf (12, .iconst 0, 1))) (.branch 14 (.leaf (13, .aload_n 0, 1)) (.branch 17 (.leaf (14, .getfield 20, 3)) (.leaf (17, .iconst 5, 1)))))) (.branch 27 (.branch 20 (.branch 19 (.leaf (18, .iaload, 1)) (.leaf (19, .iconst 1, 1))) (.branch 21 (.leaf (20, .isub, 1)) (.branch 24 (.leaf (21, .invokestatic 149, 3)) (.leaf (24, .ifCond .ne 9, 3))))) (.branch 32 (.branch 28 (.leaf (27, .aload_n 0, 1)) (.branch 29 (.leaf (28, .iconst 1, 1)) (.leaf (29, .invokevirtual 427, 3)))) (.branch 33 (.leaf (32, .ireturn, 1)) (.branch 34 (.leaf (33, .aload_n 0, 1)) (.leaf (34, .iload_n 1, 1))))))) (.branch 53 (.branch 44 (.branch 39 (.branch 38 (.leaf (35, .invokevirtual 302, 3)) (.leaf (38, .iload_n 2, 1))) (.branch 42 (.leaf (39, .if_icmp .ne 9, 3)) (.branch 43 (.leaf (42, .aload_n 0, 1)) (.leaf (43, .iconst 5, 1))))) (.branch 48 (.branch 47 (.leaf (44, .invokevirtual 427, 3)) (.leaf (47, .ireturn, 1))) (.branch 49 (.leaf (48, .aload_n 0, 1)) (.branch 52 (.leaf (49, .invokevirtual 424, 3)) (.leaf (52, .aload_n 0, 1)))))) (.branch 60 (.branch 57 (.branch 56 (.leaf (53, .getfield 26, 3)) (.leaf (56, .iconst 1, 1))) (.branch 58 (.leaf (57, .dup2, 1)) (.branch 59 (.leaf (58, .iaload, 1)) (.leaf (59, .iconst 1, 1))))) (.branch 63 (.branch 61 (.leaf (60, .iload_n 1, 1)) (.branch 62 (.leaf (61, .ishl, 1)) (.leaf (62, .ixor, 1)))) (.branch 64 (.leaf (63, .iastore, 1)) (.branch 65 (.leaf (64, .iconst 1, 1)) (.leaf (65, .ireturn, 1)))))))
noncomputable def oX12_close : List dLf := dFl tX12_close
theorem ofX12_close : dFl tX12_close = oX12_close := rfl
set_option maxRecDepth 100000 in
theorem odX12_close : ∀ q ∈ oX12_close, decode cX12_close q.1 = .ok (q.2.1, q.2.2) := q_go qT_ok bbX12_close oX12_close 0 (by decide +kernel)
theorem dX12_close_0 : decode cX12_close 0 = .ok (.aload_n 0, 1) := d_by (d_at odX12_close ofX12_close 0) rfl
theorem dX12_close_1 : decode cX12_close 1 = .ok (.invokevirtual 167, 3) := d_by (d_at odX12_close ofX12_close 1) rfl
theorem dX12_close_4 : decode cX12_close 4 = .ok (.aload_n 0, 1) := d_by (d_at odX12_close ofX12_close 4) rfl
theorem dX12_close_5 : decode cX12_close 5 = .ok (.getfield 180, 3) := d_by (d_at odX12_close ofX12_close 5) rfl
theorem dX12_close_8 : decode cX12_close 8 = .ok (.ifCond .eq 19, 3) := d_by (d_at odX12_close ofX12_close 8) rfl
theorem dX12_close_11 : decode cX12_close 11 = .ok (.iload_n 1, 1) := d_by (d_at odX12_close ofX12_close 11) rfl
theorem dX12_close_12 : decode cX12_close 12 = .ok (.iconst 0, 1) := d_by (d_at odX12_close ofX12_close 12) rfl
theorem dX12_close_13 : decode cX12_close 13 = .ok (.aload_n 0, 1) := d_by (d_at odX12_close ofX12_close 13) rfl
theorem dX12_close_14 : decode cX12_close 14 = .ok (.getfield 20, 3) := d_by (d_at odX12_close ofX12_close 14) rfl
theorem dX12_close_17 : decode cX12_close 17 = .ok (.iconst 5, 1) := d_by (d_at odX12_close ofX12_close 17) rfl
theorem dX12_close_18 : decode cX12_close 18 = .ok (.iaload, 1) := d_by (d_at odX12_close ofX12_close 18) rfl
theorem dX12_close_19 : decode cX12_close 19 = .ok (.iconst 1, 1) := d_by (d_at odX12_close ofX12_close 19) rfl
theorem dX12_close_20 : decode cX12_close 20 = .ok (.isub, 1) := d_by (d_at odX12_close ofX12_close 20) rfl
theorem dX12_close_21 : decode cX12_close 21 = .ok (.invokestatic 149, 3) := d_by (d_at odX12_close ofX12_close 21) rfl
theorem dX12_close_24 : decode cX12_close 24 = .ok (.ifCond .ne 9, 3) := d_by (d_at odX12_close ofX12_close 24) rfl
theorem dX12_close_27 : decode cX12_close 27 = .ok (.aload_n 0, 1) := d_by (d_at odX12_close ofX12_close 27) rfl
theorem dX12_close_28 : decode cX12_close 28 = .ok (.iconst 1, 1) := d_by (d_at odX12_close ofX12_close 28) rfl
theorem dX12_close_29 : decode cX12_close 29 = .ok (.invokevirtual 427, 3) := d_by (d_at odX12_close ofX12_close 29) rfl
theorem dX12_close_32 : decode cX12_close 32 = .ok (.ireturn, 1) := d_by (d_at odX12_close ofX12_close 32) rfl
theorem dX12_close_33 : decode cX12_close 33 = .ok (.aload_n 0, 1) := d_by (d_at odX12_close ofX12_close 33) rfl
theorem dX12_close_34 : decode cX12_close 34 = .ok (.iload_n 1, 1) := d_by (d_at odX12_close ofX12_close 34) rfl
theorem dX12_close_35 : decode cX12_close 35 = .ok (.invokevirtual 302, 3) := d_by (d_at odX12_close ofX12_close 35) rfl
theorem dX12_close_38 : decode cX12_close 38 = .ok (.iload_n 2, 1) := d_by (d_at odX12_close ofX12_close 38) rfl
theorem dX12_close_39 : decode cX12_close 39 = .ok (.if_icmp .ne 9, 3) := d_by (d_at odX12_close ofX12_close 39) rfl
theorem dX12_close_42 : decode cX12_close 42 = .ok (.aload_n 0, 1) := d_by (d_at odX12_close ofX12_close 42) rfl
theorem dX12_close_43 : decode cX12_close 43 = .ok (.iconst 5, 1) := d_by (d_at odX12_close ofX12_close 43) rfl
theorem dX12_close_44 : decode cX12_close 44 = .ok (.invokevirtual 427, 3) := d_by (d_at odX12_close ofX12_close 44) rfl
theorem dX12_close_47 : decode cX12_close 47 = .ok (.ireturn, 1) := d_by (d_at odX12_close ofX12_close 47) rfl
theorem dX12_close_48 : decode cX12_close 48 = .ok (.aload_n 0, 1) := d_by (d_at odX12_close ofX12_close 48) rfl
theorem dX12_close_49 : decode cX12_close 49 = .ok (.invokevirtual 424, 3) := d_by (d_at odX12_close ofX12_close 49) rfl
theorem dX12_close_52 : decode cX12_close 52 = .ok (.aload_n 0, 1) := d_by (d_at odX12_close ofX12_close 52) rfl
theorem dX12_close_53 : decode cX12_close 53 = .ok (.getfield 26, 3) := d_by (d_at odX12_close ofX12_close 53) rfl
theorem dX12_close_56 : decode cX12_close 56 = .ok (.iconst 1, 1) := d_by (d_at odX12_close ofX12_close 56) rfl
theorem dX12_close_57 : decode cX12_close 57 = .ok (.dup2, 1) := d_by (d_at odX12_close ofX12_close 57) rfl
theorem dX12_close_58 : decode cX12_close 58 = .ok (.iaload, 1) := d_by (d_at odX12_close ofX12_close 58) rfl
theorem dX12_close_59 : decode cX12_close 59 = .ok (.iconst 1, 1) := d_by (d_at odX12_close ofX12_close 59) rfl
theorem dX12_close_60 : decode cX12_close 60 = .ok (.iload_n 1, 1) := d_by (d_at odX12_close ofX12_close 60) rfl
theorem dX12_close_61 : decode cX12_close 61 = .ok (.ishl, 1) := d_by (d_at odX12_close ofX12_close 61) rfl
theorem dX12_close_62 : decode cX12_close 62 = .ok (.ixor, 1) := d_by (d_at odX12_close ofX12_close 62) rfl
theorem dX12_close_63 : decode cX12_close 63 = .ok (.iastore, 1) := d_by (d_at odX12_close ofX12_close 63) rfl
theorem dX12_close_64 : decode cX12_close 64 = .ok (.iconst 1, 1) := d_by (d_at odX12_close ofX12_close 64) rfl
theorem dX12_close_65 : decode cX12_close 65 = .ok (.ireturn, 1) := d_by (d_at odX12_close ofX12_close 65) rfl
set_option maxRecDepth 100000 in
def bX12_undo : List Nat := [42, 182, 0, 167, 42, 180, 0, 183, 154, 0, 10, 42, 16, 6, 182, 1, 171, 172, 42, 89, 180, 0, 183, 4, 100, 181, 0, 183, 42, 180, 0, 29, 16, 76, 42, 180, 0, 183, 104, 42, 180, 0, 26, 3, 16, 76, 184, 0, 176, 4, 172]
set_option maxRecDepth 100000 in
theorem bbX12_undo : cX12_undo.data.toList.map UInt8.toNat = bX12_undo := by decide +kernel
set_option maxRecDepth 100000 in
def tX12_undo : Lean.RArray dLf := .branch 25 (.branch 14 (.branch 5 (.branch 1 (.leaf (0, .aload_n 0, 1)) (.branch 4 (.leaf (1, .invokevirtual 167, 3)) (.leaf (4, .aload_n 0, 1)))) (.branch 11 (.branch 8 (.leaf (5, .getfield 183, 3)) (.leaf (8, .ifCond .ne 10, 3))) (.branch 12 (.leaf (11, .aload_n 0, 1)) (.leaf (12, .bipush 6, 2))))) (.branch 19 (.branch 17 (.leaf (14, .invokevirtual 427, 3)) (.branch 18 (.leaf (17, .ireturn, 1)) (.leaf (18, .aload_n 0, 1)))) (.branch 23 (.branch 20 (.leaf (19, .dup, 1)) (.leaf (20, .getfield 183, 3))) (.branch 24 (.leaf (23, .iconst 1, 1)) (.leaf (24, .isub, 1)))))) (.branch 39 (.branch 32 (.branch 28 (.leaf (25, .putfield 183, 3)) (.branch 29 (.leaf (28, .aload_n 0, 1)) (.leaf (29, .getfield 29, 3)))) (.branch 35 (.branch 34 (.leaf (32, .bipush 76, 2)) (.leaf (34, .aload_n 0, 1))) (.branch 38 (.leaf (35, .getfield 183, 3)) (.leaf (38, .imul, 1))))) (.branch 44 (.branch 40 (.leaf (39, .aload_n 0, 1)) (.branch 43 (.leaf (40, .getfield 26, 3)) (.leaf (43, .iconst 0, 1)))) (.branch 49 (.branch 46 (.leaf (44, .bipush 76, 2)) (.leaf (46, .invokestatic 176, 3))) (.branch 50 (.leaf (49, .iconst 1, 1)) (.leaf (50, .ireturn, 1))))))
noncomputable def oX12_undo : List dLf := dFl tX12_undo
theorem ofX12_undo : dFl tX12_undo = oX12_undo := rfl
set_option maxRecDepth 100000 in
theorem odX12_undo : ∀ q ∈ oX12_undo, decode cX12_undo q.1 = .ok (q.2.1, q.2.2) := q_go qT_ok bbX12_undo oX12_undo 0 (by decide +kernel)
theorem dX12_undo_0 : decode cX12_undo 0 = .ok (.aload_n 0, 1) := d_by (d_at odX12_undo ofX12_undo 0) rfl
theorem dX12_undo_1 : decode cX12_undo 1 = .ok (.invokevirtual 167, 3) := d_by (d_at odX12_undo ofX12_undo 1) rfl
theorem dX12_undo_4 : decode cX12_undo 4 = .ok (.aload_n 0, 1) := d_by (d_at odX12_undo ofX12_undo 4) rfl
theorem dX12_undo_5 : decode cX12_undo 5 = .ok (.getfield 183, 3) := d_by (d_at odX12_undo ofX12_undo 5) rfl
theorem dX12_undo_8 : decode cX12_undo 8 = .ok (.ifCond .ne 10, 3) := d_by (d_at odX12_undo ofX12_undo 8) rfl
theorem dX12_undo_11 : decode cX12_undo 11 = .ok (.aload_n 0, 1) := d_by (d_at odX12_undo ofX12_undo 11) rfl
theorem dX12_undo_12 : decode cX12_undo 12 = .ok (.bipush 6, 2) := d_by (d_at odX12_undo ofX12_undo 12) rfl
theorem dX12_undo_14 : decode cX12_undo 14 = .ok (.invokevirtual 427, 3) := d_by (d_at odX12_undo ofX12_undo 14) rfl
theorem dX12_undo_17 : decode cX12_undo 17 = .ok (.ireturn, 1) := d_by (d_at odX12_undo ofX12_undo 17) rfl
theorem dX12_undo_18 : decode cX12_undo 18 = .ok (.aload_n 0, 1) := d_by (d_at odX12_undo ofX12_undo 18) rfl
theorem dX12_undo_19 : decode cX12_undo 19 = .ok (.dup, 1) := d_by (d_at odX12_undo ofX12_undo 19) rfl
theorem dX12_undo_20 : decode cX12_undo 20 = .ok (.getfield 183, 3) := d_by (d_at odX12_undo ofX12_undo 20) rfl
theorem dX12_undo_23 : decode cX12_undo 23 = .ok (.iconst 1, 1) := d_by (d_at odX12_undo ofX12_undo 23) rfl
theorem dX12_undo_24 : decode cX12_undo 24 = .ok (.isub, 1) := d_by (d_at odX12_undo ofX12_undo 24) rfl
theorem dX12_undo_25 : decode cX12_undo 25 = .ok (.putfield 183, 3) := d_by (d_at odX12_undo ofX12_undo 25) rfl
theorem dX12_undo_28 : decode cX12_undo 28 = .ok (.aload_n 0, 1) := d_by (d_at odX12_undo ofX12_undo 28) rfl
theorem dX12_undo_29 : decode cX12_undo 29 = .ok (.getfield 29, 3) := d_by (d_at odX12_undo ofX12_undo 29) rfl
theorem dX12_undo_32 : decode cX12_undo 32 = .ok (.bipush 76, 2) := d_by (d_at odX12_undo ofX12_undo 32) rfl
theorem dX12_undo_34 : decode cX12_undo 34 = .ok (.aload_n 0, 1) := d_by (d_at odX12_undo ofX12_undo 34) rfl
theorem dX12_undo_35 : decode cX12_undo 35 = .ok (.getfield 183, 3) := d_by (d_at odX12_undo ofX12_undo 35) rfl
theorem dX12_undo_38 : decode cX12_undo 38 = .ok (.imul, 1) := d_by (d_at odX12_undo ofX12_undo 38) rfl
theorem dX12_undo_39 : decode cX12_undo 39 = .ok (.aload_n 0, 1) := d_by (d_at odX12_undo ofX12_undo 39) rfl
theorem dX12_undo_40 : decode cX12_undo 40 = .ok (.getfield 26, 3) := d_by (d_at odX12_undo ofX12_undo 40) rfl
theorem dX12_undo_43 : decode cX12_undo 43 = .ok (.iconst 0, 1) := d_by (d_at odX12_undo ofX12_undo 43) rfl
theorem dX12_undo_44 : decode cX12_undo 44 = .ok (.bipush 76, 2) := d_by (d_at odX12_undo ofX12_undo 44) rfl
theorem dX12_undo_46 : decode cX12_undo 46 = .ok (.invokestatic 176, 3) := d_by (d_at odX12_undo ofX12_undo 46) rfl
theorem dX12_undo_49 : decode cX12_undo 49 = .ok (.iconst 1, 1) := d_by (d_at odX12_undo ofX12_undo 49) rfl
theorem dX12_undo_50 : decode cX12_undo 50 = .ok (.ireturn, 1) := d_by (d_at odX12_undo ofX12_undo 50) rfl
set_option maxRecDepth 100000 in
def bX12_image : List Nat := [42, 182, 0, 167, 42, 180, 0, 180, 154, 0, 9, 42, 4, 182, 0, 170, 172, 42, 180, 0, 186, 6, 160, 0, 9, 42, 6, 182, 0, 170, 172, 42, 180, 0, 26, 3, 42, 180, 0, 32, 16, 76, 42, 180, 0, 186, 104, 16, 76, 184, 0, 176, 42, 89, 180, 0, 186, 4, 96, 181, 0, 186, 42, 180, 0, 186, 4, 100, 172]
set_option maxRecDepth 100000 in
theorem bbX12_image : cX12_image.data.toList.map UInt8.toNat = bX12_image := by decide +kernel
set_option maxRecDepth 100000 in
def tX12_image : Lean.RArray dLf := .branch 35 (.branch 17 (.branch 8 (.branch 4 (.branch 1 (.leaf (0, .aload_n 0, 1)) (.leaf (1, .invokevirtual 167, 3))) (.branch 5 (.leaf (4, .aload_n 0, 1)) (.leaf (5, .getfield 180, 3)))) (.branch 12 (.branch 11 (.leaf (8, .ifCond .ne 9, 3)) (.leaf (11, .aload_n 0, 1))) (.branch 13 (.leaf (12, .iconst 1, 1)) (.branch 16 (.leaf (13, .invokevirtual 170, 3)) (.leaf (16, .ireturn, 1)))))) (.branch 26 (.branch 21 (.branch 18 (.leaf (17, .aload_n 0, 1)) (.leaf (18, .getfield 186, 3))) (.branch 22 (.leaf (21, .iconst 3, 1)) (.branch 25 (.leaf (22, .if_icmp .ne 9, 3)) (.leaf (25, .aload_n 0, 1))))) (.branch 30 (.branch 27 (.leaf (26, .iconst 3, 1)) (.leaf (27, .invokevirtual 170, 3))) (.branch 31 (.leaf (30, .ireturn, 1)) (.branch 32 (.leaf (31, .aload_n 0, 1)) (.leaf (32, .getfield 26, 3))))))) (.branch 53 (.branch 43 (.branch 37 (.branch 36 (.leaf (35, .iconst 0, 1)) (.leaf (36, .aload_n 0, 1))) (.branch 40 (.leaf (37, .getfield 32, 3)) (.branch 42 (.leaf (40, .bipush 76, 2)) (.leaf (42, .aload_n 0, 1))))) (.branch 47 (.branch 46 (.leaf (43, .getfield 186, 3)) (.leaf (46, .imul, 1))) (.branch 49 (.leaf (47, .bipush 76, 2)) (.branch 52 (.leaf (49, .invokestatic 176, 3)) (.leaf (52, .aload_n 0, 1)))))) (.branch 62 (.branch 57 (.branch 54 (.leaf (53, .dup, 1)) (.leaf (54, .getfield 186, 3))) (.branch 58 (.leaf (57, .iconst 1, 1)) (.branch 59 (.leaf (58, .iadd, 1)) (.leaf (59, .putfield 186, 3))))) (.branch 66 (.branch 63 (.leaf (62, .aload_n 0, 1)) (.leaf (63, .getfield 186, 3))) (.branch 67 (.leaf (66, .iconst 1, 1)) (.branch 68 (.leaf (67, .isub, 1)) (.leaf (68, .ireturn, 1)))))))
noncomputable def oX12_image : List dLf := dFl tX12_image
theorem ofX12_image : dFl tX12_image = oX12_image := rfl
set_option maxRecDepth 100000 in
theorem odX12_image : ∀ q ∈ oX12_image, decode cX12_image q.1 = .ok (q.2.1, q.2.2) := q_go qT_ok bbX12_image oX12_image 0 (by decide +kernel)
theorem dX12_image_0 : decode cX12_image 0 = .ok (.aload_n 0, 1) := d_by (d_at odX12_image ofX12_image 0) rfl
theorem dX12_image_1 : decode cX12_image 1 = .ok (.invokevirtual 167, 3) := d_by (d_at odX12_image ofX12_image 1) rfl
theorem dX12_image_4 : decode cX12_image 4 = .ok (.aload_n 0, 1) := d_by (d_at odX12_image ofX12_image 4) rfl
theorem dX12_image_5 : decode cX12_image 5 = .ok (.getfield 180, 3) := d_by (d_at odX12_image ofX12_image 5) rfl
theorem dX12_image_8 : decode cX12_image 8 = .ok (.ifCond .ne 9, 3) := d_by (d_at odX12_image ofX12_image 8) rfl
theorem dX12_image_11 : decode cX12_image 11 = .ok (.aload_n 0, 1) := d_by (d_at odX12_image ofX12_image 11) rfl
theorem dX12_image_12 : decode cX12_image 12 = .ok (.iconst 1, 1) := d_by (d_at odX12_image ofX12_image 12) rfl
theorem dX12_image_13 : decode cX12_image 13 = .ok (.invokevirtual 170, 3) := d_by (d_at odX12_image ofX12_image 13) rfl
theorem dX12_image_16 : decode cX12_image 16 = .ok (.ireturn, 1) := d_by (d_at odX12_image ofX12_image 16) rfl
theorem dX12_image_17 : decode cX12_image 17 = .ok (.aload_n 0, 1) := d_by (d_at odX12_image ofX12_image 17) rfl
theorem dX12_image_18 : decode cX12_image 18 = .ok (.getfield 186, 3) := d_by (d_at odX12_image ofX12_image 18) rfl
theorem dX12_image_21 : decode cX12_image 21 = .ok (.iconst 3, 1) := d_by (d_at odX12_image ofX12_image 21) rfl
theorem dX12_image_22 : decode cX12_image 22 = .ok (.if_icmp .ne 9, 3) := d_by (d_at odX12_image ofX12_image 22) rfl
theorem dX12_image_25 : decode cX12_image 25 = .ok (.aload_n 0, 1) := d_by (d_at odX12_image ofX12_image 25) rfl
theorem dX12_image_26 : decode cX12_image 26 = .ok (.iconst 3, 1) := d_by (d_at odX12_image ofX12_image 26) rfl
theorem dX12_image_27 : decode cX12_image 27 = .ok (.invokevirtual 170, 3) := d_by (d_at odX12_image ofX12_image 27) rfl
theorem dX12_image_30 : decode cX12_image 30 = .ok (.ireturn, 1) := d_by (d_at odX12_image ofX12_image 30) rfl
theorem dX12_image_31 : decode cX12_image 31 = .ok (.aload_n 0, 1) := d_by (d_at odX12_image ofX12_image 31) rfl
theorem dX12_image_32 : decode cX12_image 32 = .ok (.getfield 26, 3) := d_by (d_at odX12_image ofX12_image 32) rfl
theorem dX12_image_35 : decode cX12_image 35 = .ok (.iconst 0, 1) := d_by (d_at odX12_image ofX12_image 35) rfl
theorem dX12_image_36 : decode cX12_image 36 = .ok (.aload_n 0, 1) := d_by (d_at odX12_image ofX12_image 36) rfl
theorem dX12_image_37 : decode cX12_image 37 = .ok (.getfield 32, 3) := d_by (d_at odX12_image ofX12_image 37) rfl
theorem dX12_image_40 : decode cX12_image 40 = .ok (.bipush 76, 2) := d_by (d_at odX12_image ofX12_image 40) rfl
theorem dX12_image_42 : decode cX12_image 42 = .ok (.aload_n 0, 1) := d_by (d_at odX12_image ofX12_image 42) rfl
theorem dX12_image_43 : decode cX12_image 43 = .ok (.getfield 186, 3) := d_by (d_at odX12_image ofX12_image 43) rfl
theorem dX12_image_46 : decode cX12_image 46 = .ok (.imul, 1) := d_by (d_at odX12_image ofX12_image 46) rfl
theorem dX12_image_47 : decode cX12_image 47 = .ok (.bipush 76, 2) := d_by (d_at odX12_image ofX12_image 47) rfl
theorem dX12_image_49 : decode cX12_image 49 = .ok (.invokestatic 176, 3) := d_by (d_at odX12_image ofX12_image 49) rfl
theorem dX12_image_52 : decode cX12_image 52 = .ok (.aload_n 0, 1) := d_by (d_at odX12_image ofX12_image 52) rfl
theorem dX12_image_53 : decode cX12_image 53 = .ok (.dup, 1) := d_by (d_at odX12_image ofX12_image 53) rfl
theorem dX12_image_54 : decode cX12_image 54 = .ok (.getfield 186, 3) := d_by (d_at odX12_image ofX12_image 54) rfl
theorem dX12_image_57 : decode cX12_image 57 = .ok (.iconst 1, 1) := d_by (d_at odX12_image ofX12_image 57) rfl
theorem dX12_image_58 : decode cX12_image 58 = .ok (.iadd, 1) := d_by (d_at odX12_image ofX12_image 58) rfl
theorem dX12_image_59 : decode cX12_image 59 = .ok (.putfield 186, 3) := d_by (d_at odX12_image ofX12_image 59) rfl
theorem dX12_image_62 : decode cX12_image 62 = .ok (.aload_n 0, 1) := d_by (d_at odX12_image ofX12_image 62) rfl
theorem dX12_image_63 : decode cX12_image 63 = .ok (.getfield 186, 3) := d_by (d_at odX12_image ofX12_image 63) rfl
theorem dX12_image_66 : decode cX12_image 66 = .ok (.iconst 1, 1) := d_by (d_at odX12_image ofX12_image 66) rfl
theorem dX12_image_67 : decode cX12_image 67 = .ok (.isub, 1) := d_by (d_at odX12_image ofX12_image 67) rfl
theorem dX12_image_68 : decode cX12_image 68 = .ok (.ireturn, 1) := d_by (d_at odX12_image ofX12_image 68) rfl
set_option maxRecDepth 100000 in
def bX12_back : List Nat := [42, 182, 0, 167, 27, 3, 42, 180, 0, 186, 4, 100, 184, 0, 149, 154, 0, 9, 42, 4, 182, 1, 171, 172, 42, 180, 0, 32, 16, 76, 27, 104, 42, 180, 0, 26, 3, 16, 76, 184, 0, 176, 42, 3, 181, 0, 183, 4, 172]
set_option maxRecDepth 100000 in
theorem bbX12_back : cX12_back.data.toList.map UInt8.toNat = bX12_back := by decide +kernel
set_option maxRecDepth 100000 in
def tX12_back : Lean.RArray dLf := .branch 24 (.branch 11 (.branch 5 (.branch 1 (.leaf (0, .aload_n 0, 1)) (.branch 4 (.leaf (1, .invokevirtual 167, 3)) (.leaf (4, .iload_n 1, 1)))) (.branch 7 (.branch 6 (.leaf (5, .iconst 0, 1)) (.leaf (6, .aload_n 0, 1))) (.branch 10 (.leaf (7, .getfield 186, 3)) (.leaf (10, .iconst 1, 1))))) (.branch 18 (.branch 12 (.leaf (11, .isub, 1)) (.branch 15 (.leaf (12, .invokestatic 149, 3)) (.leaf (15, .ifCond .ne 9, 3)))) (.branch 20 (.branch 19 (.leaf (18, .aload_n 0, 1)) (.leaf (19, .iconst 1, 1))) (.branch 23 (.leaf (20, .invokevirtual 427, 3)) (.leaf (23, .ireturn, 1)))))) (.branch 36 (.branch 30 (.branch 25 (.leaf (24, .aload_n 0, 1)) (.branch 28 (.leaf (25, .getfield 32, 3)) (.leaf (28, .bipush 76, 2)))) (.branch 32 (.branch 31 (.leaf (30, .iload_n 1, 1)) (.leaf (31, .imul, 1))) (.branch 33 (.leaf (32, .aload_n 0, 1)) (.leaf (33, .getfield 26, 3))))) (.branch 43 (.branch 39 (.branch 37 (.leaf (36, .iconst 0, 1)) (.leaf (37, .bipush 76, 2))) (.branch 42 (.leaf (39, .invokestatic 176, 3)) (.leaf (42, .aload_n 0, 1)))) (.branch 47 (.branch 44 (.leaf (43, .iconst 0, 1)) (.leaf (44, .putfield 183, 3))) (.branch 48 (.leaf (47, .iconst 1, 1)) (.leaf (48, .ireturn, 1))))))
noncomputable def oX12_back : List dLf := dFl tX12_back
theorem ofX12_back : dFl tX12_back = oX12_back := rfl
set_option maxRecDepth 100000 in
theorem odX12_back : ∀ q ∈ oX12_back, decode cX12_back q.1 = .ok (q.2.1, q.2.2) := q_go qT_ok bbX12_back oX12_back 0 (by decide +kernel)
theorem dX12_back_0 : decode cX12_back 0 = .ok (.aload_n 0, 1) := d_by (d_at odX12_back ofX12_back 0) rfl
theorem dX12_back_1 : decode cX12_back 1 = .ok (.invokevirtual 167, 3) := d_by (d_at odX12_back ofX12_back 1) rfl
theorem dX12_back_4 : decode cX12_back 4 = .ok (.iload_n 1, 1) := d_by (d_at odX12_back ofX12_back 4) rfl
theorem dX12_back_5 : decode cX12_back 5 = .ok (.iconst 0, 1) := d_by (d_at odX12_back ofX12_back 5) rfl
theorem dX12_back_6 : decode cX12_back 6 = .ok (.aload_n 0, 1) := d_by (d_at odX12_back ofX12_back 6) rfl
theorem dX12_back_7 : decode cX12_back 7 = .ok (.getfield 186, 3) := d_by (d_at odX12_back ofX12_back 7) rfl
theorem dX12_back_10 : decode cX12_back 10 = .ok (.iconst 1, 1) := d_by (d_at odX12_back ofX12_back 10) rfl
theorem dX12_back_11 : decode cX12_back 11 = .ok (.isub, 1) := d_by (d_at odX12_back ofX12_back 11) rfl
theorem dX12_back_12 : decode cX12_back 12 = .ok (.invokestatic 149, 3) := d_by (d_at odX12_back ofX12_back 12) rfl
theorem dX12_back_15 : decode cX12_back 15 = .ok (.ifCond .ne 9, 3) := d_by (d_at odX12_back ofX12_back 15) rfl
theorem dX12_back_18 : decode cX12_back 18 = .ok (.aload_n 0, 1) := d_by (d_at odX12_back ofX12_back 18) rfl
theorem dX12_back_19 : decode cX12_back 19 = .ok (.iconst 1, 1) := d_by (d_at odX12_back ofX12_back 19) rfl
theorem dX12_back_20 : decode cX12_back 20 = .ok (.invokevirtual 427, 3) := d_by (d_at odX12_back ofX12_back 20) rfl
theorem dX12_back_23 : decode cX12_back 23 = .ok (.ireturn, 1) := d_by (d_at odX12_back ofX12_back 23) rfl
theorem dX12_back_24 : decode cX12_back 24 = .ok (.aload_n 0, 1) := d_by (d_at odX12_back ofX12_back 24) rfl
theorem dX12_back_25 : decode cX12_back 25 = .ok (.getfield 32, 3) := d_by (d_at odX12_back ofX12_back 25) rfl
theorem dX12_back_28 : decode cX12_back 28 = .ok (.bipush 76, 2) := d_by (d_at odX12_back ofX12_back 28) rfl
theorem dX12_back_30 : decode cX12_back 30 = .ok (.iload_n 1, 1) := d_by (d_at odX12_back ofX12_back 30) rfl
theorem dX12_back_31 : decode cX12_back 31 = .ok (.imul, 1) := d_by (d_at odX12_back ofX12_back 31) rfl
theorem dX12_back_32 : decode cX12_back 32 = .ok (.aload_n 0, 1) := d_by (d_at odX12_back ofX12_back 32) rfl
theorem dX12_back_33 : decode cX12_back 33 = .ok (.getfield 26, 3) := d_by (d_at odX12_back ofX12_back 33) rfl
theorem dX12_back_36 : decode cX12_back 36 = .ok (.iconst 0, 1) := d_by (d_at odX12_back ofX12_back 36) rfl
theorem dX12_back_37 : decode cX12_back 37 = .ok (.bipush 76, 2) := d_by (d_at odX12_back ofX12_back 37) rfl
theorem dX12_back_39 : decode cX12_back 39 = .ok (.invokestatic 176, 3) := d_by (d_at odX12_back ofX12_back 39) rfl
theorem dX12_back_42 : decode cX12_back 42 = .ok (.aload_n 0, 1) := d_by (d_at odX12_back ofX12_back 42) rfl
theorem dX12_back_43 : decode cX12_back 43 = .ok (.iconst 0, 1) := d_by (d_at odX12_back ofX12_back 43) rfl
theorem dX12_back_44 : decode cX12_back 44 = .ok (.putfield 183, 3) := d_by (d_at odX12_back ofX12_back 44) rfl
theorem dX12_back_47 : decode cX12_back 47 = .ok (.iconst 1, 1) := d_by (d_at odX12_back ofX12_back 47) rfl
theorem dX12_back_48 : decode cX12_back 48 = .ok (.ireturn, 1) := d_by (d_at odX12_back ofX12_back 48) rfl
set_option maxRecDepth 100000 in
def bX12_led : List Nat := [3, 61, 3, 62, 42, 180, 0, 180, 153, 0, 50, 29, 42, 180, 0, 20, 16, 7, 46, 162, 0, 39, 42, 180, 0, 26, 16, 12, 29, 96, 46, 158, 0, 6, 167, 0, 18, 28, 27, 160, 0, 10, 42, 3, 181, 0, 62, 29, 172, 132, 2, 1, 132, 3, 1, 167, 255, 205, 42, 4, 181, 0, 62, 3, 172]
set_option maxRecDepth 100000 in
theorem bbX12_led : cX12_led.data.toList.map UInt8.toNat = bX12_led := by decide +kernel
set_option maxRecDepth 100000 in
def tX12_led : Lean.RArray dLf := .branch 30 (.branch 13 (.branch 4 (.branch 2 (.branch 1 (.leaf (0, .iconst 0, 1)) (.leaf (1, .istore_n 2, 1))) (.branch 3 (.leaf (2, .iconst 0, 1)) (.leaf (3, .istore_n 3, 1)))) (.branch 8 (.branch 5 (.leaf (4, .aload_n 0, 1)) (.leaf (5, .getfield 180, 3))) (.branch 11 (.leaf (8, .ifCond .eq 50, 3)) (.branch 12 (.leaf (11, .iload_n 3, 1)) (.leaf (12, .aload_n 0, 1)))))) (.branch 22 (.branch 18 (.branch 16 (.leaf (13, .getfield 20, 3)) (.leaf (16, .bipush 7, 2))) (.branch 19 (.leaf (18, .iaload, 1)) (.leaf (19, .if_icmp .ge 39, 3)))) (.branch 26 (.branch 23 (.leaf (22, .aload_n 0, 1)) (.leaf (23, .getfield 26, 3))) (.branch 28 (.leaf (26, .bipush 12, 2)) (.branch 29 (.leaf (28, .iload_n 3, 1)) (.leaf (29, .iadd, 1))))))) (.branch 47 (.branch 38 (.branch 34 (.branch 31 (.leaf (30, .iaload, 1)) (.leaf (31, .ifCond .le 6, 3))) (.branch 37 (.leaf (34, .goto 18, 3)) (.leaf (37, .iload_n 2, 1)))) (.branch 42 (.branch 39 (.leaf (38, .iload_n 1, 1)) (.leaf (39, .if_icmp .ne 10, 3))) (.branch 43 (.leaf (42, .aload_n 0, 1)) (.branch 44 (.leaf (43, .iconst 0, 1)) (.leaf (44, .putfield 62, 3)))))) (.branch 58 (.branch 49 (.branch 48 (.leaf (47, .iload_n 3, 1)) (.leaf (48, .ireturn, 1))) (.branch 52 (.leaf (49, .iinc 2 1, 3)) (.branch 55 (.leaf (52, .iinc 3 1, 3)) (.leaf (55, .goto (-51), 3))))) (.branch 60 (.branch 59 (.leaf (58, .aload_n 0, 1)) (.leaf (59, .iconst 1, 1))) (.branch 63 (.leaf (60, .putfield 62, 3)) (.branch 64 (.leaf (63, .iconst 0, 1)) (.leaf (64, .ireturn, 1)))))))
noncomputable def oX12_led : List dLf := dFl tX12_led
theorem ofX12_led : dFl tX12_led = oX12_led := rfl
set_option maxRecDepth 100000 in
theorem odX12_led : ∀ q ∈ oX12_led, decode cX12_led q.1 = .ok (q.2.1, q.2.2) := q_go qT_ok bbX12_led oX12_led 0 (by decide +kernel)
set_option maxRecDepth 100000 in
def bX12_size : List Nat := [42, 3, 181, 0, 62, 27, 16, 12, 160, 0, 8, 42, 180, 0, 68, 172, 42, 180, 0, 180, 154, 0, 19, 27, 3, 16, 11, 184, 0, 149, 153, 0, 7, 3, 167, 0, 4, 2, 172, 27, 3, 16, 8, 184, 0, 149, 153, 0, 10, 42, 180, 0, 20, 27, 46, 172, 27, 16, 9, 160, 0, 12, 42, 180, 0, 26, 3, 46, 167, 0, 30, 27, 16, 10, 160, 0, 10, 42, 180, 0, 183, 167, 0, 17, 27, 16, 11, 160, 0, 10, 42, 180, 0, 186, 167, 0, 4, 2, 172]
set_option maxRecDepth 100000 in
theorem bbX12_size : cX12_size.data.toList.map UInt8.toNat = bX12_size := by decide +kernel
set_option maxRecDepth 100000 in
def tX12_size : Lean.RArray dLf := .branch 49 (.branch 24 (.branch 11 (.branch 5 (.branch 1 (.leaf (0, .aload_n 0, 1)) (.branch 2 (.leaf (1, .iconst 0, 1)) (.leaf (2, .putfield 62, 3)))) (.branch 6 (.leaf (5, .iload_n 1, 1)) (.branch 8 (.leaf (6, .bipush 12, 2)) (.leaf (8, .if_icmp .ne 8, 3))))) (.branch 16 (.branch 12 (.leaf (11, .aload_n 0, 1)) (.branch 15 (.leaf (12, .getfield 68, 3)) (.leaf (15, .ireturn, 1)))) (.branch 20 (.branch 17 (.leaf (16, .aload_n 0, 1)) (.leaf (17, .getfield 180, 3))) (.branch 23 (.leaf (20, .ifCond .ne 19, 3)) (.leaf (23, .iload_n 1, 1)))))) (.branch 37 (.branch 30 (.branch 25 (.leaf (24, .iconst 0, 1)) (.branch 27 (.leaf (25, .bipush 11, 2)) (.leaf (27, .invokestatic 149, 3)))) (.branch 33 (.leaf (30, .ifCond .eq 7, 3)) (.branch 34 (.leaf (33, .iconst 0, 1)) (.leaf (34, .goto 4, 3))))) (.branch 40 (.branch 38 (.leaf (37, .iconst (-1), 1)) (.branch 39 (.leaf (38, .ireturn, 1)) (.leaf (39, .iload_n 1, 1)))) (.branch 43 (.branch 41 (.leaf (40, .iconst 0, 1)) (.leaf (41, .bipush 8, 2))) (.branch 46 (.leaf (43, .invokestatic 149, 3)) (.leaf (46, .ifCond .eq 10, 3))))))) (.branch 71 (.branch 57 (.branch 54 (.branch 50 (.leaf (49, .aload_n 0, 1)) (.branch 53 (.leaf (50, .getfield 20, 3)) (.leaf (53, .iload_n 1, 1)))) (.branch 55 (.leaf (54, .iaload, 1)) (.branch 56 (.leaf (55, .ireturn, 1)) (.leaf (56, .iload_n 1, 1))))) (.branch 63 (.branch 59 (.leaf (57, .bipush 9, 2)) (.branch 62 (.leaf (59, .if_icmp .ne 12, 3)) (.leaf (62, .aload_n 0, 1)))) (.branch 67 (.branch 66 (.leaf (63, .getfield 26, 3)) (.leaf (66, .iconst 0, 1))) (.branch 68 (.leaf (67, .iaload, 1)) (.leaf (68, .goto 30, 3)))))) (.branch 85 (.branch 77 (.branch 72 (.leaf (71, .iload_n 1, 1)) (.branch 74 (.leaf (72, .bipush 10, 2)) (.leaf (74, .if_icmp .ne 10, 3)))) (.branch 81 (.branch 78 (.leaf (77, .aload_n 0, 1)) (.leaf (78, .getfield 183, 3))) (.branch 84 (.leaf (81, .goto 17, 3)) (.leaf (84, .iload_n 1, 1))))) (.branch 91 (.branch 87 (.leaf (85, .bipush 11, 2)) (.branch 90 (.leaf (87, .if_icmp .ne 10, 3)) (.leaf (90, .aload_n 0, 1)))) (.branch 97 (.branch 94 (.leaf (91, .getfield 186, 3)) (.leaf (94, .goto 4, 3))) (.branch 98 (.leaf (97, .iconst (-1), 1)) (.leaf (98, .ireturn, 1)))))))
noncomputable def oX12_size : List dLf := dFl tX12_size
theorem ofX12_size : dFl tX12_size = oX12_size := rfl
set_option maxRecDepth 100000 in
theorem odX12_size : ∀ q ∈ oX12_size, decode cX12_size q.1 = .ok (q.2.1, q.2.2) := q_go qT_ok bbX12_size oX12_size 0 (by decide +kernel)
set_option maxRecDepth 100000 in
def bX12_trouble : List Nat := [42, 3, 181, 0, 62, 42, 180, 0, 65, 172]
set_option maxRecDepth 100000 in
theorem bbX12_trouble : cX12_trouble.data.toList.map UInt8.toNat = bX12_trouble := by decide +kernel
set_option maxRecDepth 100000 in
def tX12_trouble : Lean.RArray dLf := .branch 5 (.branch 1 (.leaf (0, .aload_n 0, 1)) (.branch 2 (.leaf (1, .iconst 0, 1)) (.leaf (2, .putfield 62, 3)))) (.branch 6 (.leaf (5, .aload_n 0, 1)) (.branch 9 (.leaf (6, .getfield 65, 3)) (.leaf (9, .ireturn, 1))))
noncomputable def oX12_trouble : List dLf := dFl tX12_trouble
theorem ofX12_trouble : dFl tX12_trouble = oX12_trouble := rfl
set_option maxRecDepth 100000 in
theorem odX12_trouble : ∀ q ∈ oX12_trouble, decode cX12_trouble q.1 = .ok (q.2.1, q.2.2) := q_go qT_ok bbX12_trouble oX12_trouble 0 (by decide +kernel)
set_option maxRecDepth 100000 in
def bJ0_length_8abf5 : List Nat := [42, 180, 0, 9, 190, 42, 182, 1, 79, 122, 172]
set_option maxRecDepth 100000 in
theorem bbJ0_length_8abf5 : cJ0_length_8abf5.data.toList.map UInt8.toNat = bJ0_length_8abf5 := by decide +kernel
set_option maxRecDepth 100000 in
def tJ0_length_8abf5 : Lean.RArray dLf := .branch 5 (.branch 1 (.leaf (0, .aload_n 0, 1)) (.branch 4 (.leaf (1, .getfield 9, 3)) (.leaf (4, .arraylength, 1)))) (.branch 9 (.branch 6 (.leaf (5, .aload_n 0, 1)) (.leaf (6, .invokevirtual 335, 3))) (.branch 10 (.leaf (9, .ishr, 1)) (.leaf (10, .ireturn, 1))))
noncomputable def oJ0_length_8abf5 : List dLf := dFl tJ0_length_8abf5
theorem ofJ0_length_8abf5 : dFl tJ0_length_8abf5 = oJ0_length_8abf5 := rfl
set_option maxRecDepth 100000 in
theorem odJ0_length_8abf5 : ∀ q ∈ oJ0_length_8abf5, decode cJ0_length_8abf5 q.1 = .ok (q.2.1, q.2.2) := q_go qT_ok bbJ0_length_8abf5 oJ0_length_8abf5 0 (by decide +kernel)
set_option maxRecDepth 100000 in
def bJ0_charAt_5068e : List Nat := [42, 182, 1, 236, 153, 0, 12, 42, 180, 0, 9, 27, 184, 1, 239, 172, 42, 180, 0, 9, 27, 184, 1, 242, 172]
set_option maxRecDepth 100000 in
theorem bbJ0_charAt_5068e : cJ0_charAt_5068e.data.toList.map UInt8.toNat = bJ0_charAt_5068e := by decide +kernel
set_option maxRecDepth 100000 in
def tJ0_charAt_5068e : Lean.RArray dLf := .branch 12 (.branch 7 (.branch 1 (.leaf (0, .aload_n 0, 1)) (.branch 4 (.leaf (1, .invokevirtual 492, 3)) (.leaf (4, .ifCond .eq 12, 3)))) (.branch 8 (.leaf (7, .aload_n 0, 1)) (.branch 11 (.leaf (8, .getfield 9, 3)) (.leaf (11, .iload_n 1, 1))))) (.branch 17 (.branch 15 (.leaf (12, .invokestatic 495, 3)) (.branch 16 (.leaf (15, .ireturn, 1)) (.leaf (16, .aload_n 0, 1)))) (.branch 21 (.branch 20 (.leaf (17, .getfield 9, 3)) (.leaf (20, .iload_n 1, 1))) (.branch 24 (.leaf (21, .invokestatic 498, 3)) (.leaf (24, .ireturn, 1)))))
noncomputable def oJ0_charAt_5068e : List dLf := dFl tJ0_charAt_5068e
theorem ofJ0_charAt_5068e : dFl tJ0_charAt_5068e = oJ0_charAt_5068e := rfl
set_option maxRecDepth 100000 in
theorem odJ0_charAt_5068e : ∀ q ∈ oJ0_charAt_5068e, decode cJ0_charAt_5068e q.1 = .ok (q.2.1, q.2.2) := q_go qT_ok bbJ0_charAt_5068e oJ0_charAt_5068e 0 (by decide +kernel)
set_option maxRecDepth 100000 in
def bJ0_coder_7d493 : List Nat := [178, 0, 38, 153, 0, 10, 42, 180, 0, 15, 167, 0, 4, 4, 172]
set_option maxRecDepth 100000 in
theorem bbJ0_coder_7d493 : cJ0_coder_7d493.data.toList.map UInt8.toNat = bJ0_coder_7d493 := by decide +kernel
set_option maxRecDepth 100000 in
def tJ0_coder_7d493 : Lean.RArray dLf := .branch 7 (.branch 3 (.leaf (0, .getstatic 38, 3)) (.branch 6 (.leaf (3, .ifCond .eq 10, 3)) (.leaf (6, .aload_n 0, 1)))) (.branch 13 (.branch 10 (.leaf (7, .getfield 15, 3)) (.leaf (10, .goto 4, 3))) (.branch 14 (.leaf (13, .iconst 1, 1)) (.leaf (14, .ireturn, 1))))
noncomputable def oJ0_coder_7d493 : List dLf := dFl tJ0_coder_7d493
theorem ofJ0_coder_7d493 : dFl tJ0_coder_7d493 = oJ0_coder_7d493 := rfl
set_option maxRecDepth 100000 in
theorem odJ0_coder_7d493 : ∀ q ∈ oJ0_coder_7d493, decode cJ0_coder_7d493 q.1 = .ok (q.2.1, q.2.2) := q_go qT_ok bbJ0_coder_7d493 oJ0_coder_7d493 0 (by decide +kernel)
set_option maxRecDepth 100000 in
def bJ0_isLatin1_aae02 : List Nat := [178, 0, 38, 153, 0, 14, 42, 180, 0, 15, 154, 0, 7, 4, 167, 0, 4, 3, 172]
set_option maxRecDepth 100000 in
theorem bbJ0_isLatin1_aae02 : cJ0_isLatin1_aae02.data.toList.map UInt8.toNat = bJ0_isLatin1_aae02 := by decide +kernel
set_option maxRecDepth 100000 in
def tJ0_isLatin1_aae02 : Lean.RArray dLf := .branch 10 (.branch 6 (.branch 3 (.leaf (0, .getstatic 38, 3)) (.leaf (3, .ifCond .eq 14, 3))) (.branch 7 (.leaf (6, .aload_n 0, 1)) (.leaf (7, .getfield 15, 3)))) (.branch 14 (.branch 13 (.leaf (10, .ifCond .ne 7, 3)) (.leaf (13, .iconst 1, 1))) (.branch 17 (.leaf (14, .goto 4, 3)) (.branch 18 (.leaf (17, .iconst 0, 1)) (.leaf (18, .ireturn, 1)))))
noncomputable def oJ0_isLatin1_aae02 : List dLf := dFl tJ0_isLatin1_aae02
theorem ofJ0_isLatin1_aae02 : dFl tJ0_isLatin1_aae02 = oJ0_isLatin1_aae02 := rfl
set_option maxRecDepth 100000 in
theorem odJ0_isLatin1_aae02 : ∀ q ∈ oJ0_isLatin1_aae02, decode cJ0_isLatin1_aae02 q.1 = .ok (q.2.1, q.2.2) := q_go qT_ok bbJ0_isLatin1_aae02 oJ0_isLatin1_aae02 0 (by decide +kernel)
set_option maxRecDepth 100000 in
def bJ0_checkIndex_df160 : List Nat := [26, 27, 178, 4, 29, 184, 4, 35, 87, 177]
set_option maxRecDepth 100000 in
theorem bbJ0_checkIndex_df160 : cJ0_checkIndex_df160.data.toList.map UInt8.toNat = bJ0_checkIndex_df160 := by decide +kernel
set_option maxRecDepth 100000 in
def tJ0_checkIndex_df160 : Lean.RArray dLf := .branch 5 (.branch 1 (.leaf (0, .iload_n 0, 1)) (.branch 2 (.leaf (1, .iload_n 1, 1)) (.leaf (2, .getstatic 1053, 3)))) (.branch 8 (.leaf (5, .invokestatic 1059, 3)) (.branch 9 (.leaf (8, .pop, 1)) (.leaf (9, .return_, 1))))
noncomputable def oJ0_checkIndex_df160 : List dLf := dFl tJ0_checkIndex_df160
theorem ofJ0_checkIndex_df160 : dFl tJ0_checkIndex_df160 = oJ0_checkIndex_df160 := rfl
set_option maxRecDepth 100000 in
theorem odJ0_checkIndex_df160 : ∀ q ∈ oJ0_checkIndex_df160, decode cJ0_checkIndex_df160 q.1 = .ok (q.2.1, q.2.2) := q_go qT_ok bbJ0_checkIndex_df160 oJ0_checkIndex_df160 0 (by decide +kernel)
set_option maxRecDepth 100000 in
def bJ1_charAt_3b067 : List Nat := [27, 42, 190, 184, 0, 9, 42, 27, 51, 17, 0, 255, 126, 146, 172]
set_option maxRecDepth 100000 in
theorem bbJ1_charAt_3b067 : cJ1_charAt_3b067.data.toList.map UInt8.toNat = bJ1_charAt_3b067 := by decide +kernel
set_option maxRecDepth 100000 in
def tJ1_charAt_3b067 : Lean.RArray dLf := .branch 7 (.branch 2 (.branch 1 (.leaf (0, .iload_n 1, 1)) (.leaf (1, .aload_n 0, 1))) (.branch 3 (.leaf (2, .arraylength, 1)) (.branch 6 (.leaf (3, .invokestatic 9, 3)) (.leaf (6, .aload_n 0, 1))))) (.branch 12 (.branch 8 (.leaf (7, .iload_n 1, 1)) (.branch 9 (.leaf (8, .baload, 1)) (.leaf (9, .sipush 255, 3)))) (.branch 13 (.leaf (12, .iand, 1)) (.branch 14 (.leaf (13, .i2c, 1)) (.leaf (14, .ireturn, 1)))))
noncomputable def oJ1_charAt_3b067 : List dLf := dFl tJ1_charAt_3b067
theorem ofJ1_charAt_3b067 : dFl tJ1_charAt_3b067 = oJ1_charAt_3b067 := rfl
set_option maxRecDepth 100000 in
theorem odJ1_charAt_3b067 : ∀ q ∈ oJ1_charAt_3b067, decode cJ1_charAt_3b067 q.1 = .ok (q.2.1, q.2.2) := q_go qT_ok bbJ1_charAt_3b067 oJ1_charAt_3b067 0 (by decide +kernel)
