section Pk0
set_option maxRecDepth 100000 in
def bX12_newSongs : List Nat := [42, 3, 181, 1, 59, 3, 54, 4, 21, 4, 42, 180, 0, 20, 7, 46, 162, 0, 87, 42, 21, 4, 182, 1, 9, 27, 159, 0, 6, 167, 0, 68, 3, 54, 5, 3, 54, 6, 21, 6, 27, 162, 0, 35, 21, 5, 42, 180, 0, 20, 3, 46, 104, 42, 21, 4, 21, 6, 42, 180, 0, 26, 3, 46, 182, 1, 24, 96, 54, 5, 132, 6, 1, 167, 255, 221, 42, 180, 0, 35, 42, 180, 1, 59, 21, 5, 79, 42, 89, 180, 1, 59, 4, 96, 181, 1, 59, 132, 4, 1, 167, 255, 164, 3, 54, 4, 3, 54, 5, 21, 5, 42, 27, 182, 1, 62, 162, 0, 104, 4, 54, 6, 3, 54, 7, 21, 7, 42, 180, 1, 59, 162, 0, 39, 21, 6, 153, 0, 34, 42, 21, 5, 42, 180, 0, 35, 21, 7, 46, 27, 182, 1, 65, 28, 161, 0, 7, 4, 167, 0, 4, 3, 54, 6, 132, 7, 1, 167, 255, 214, 21, 6, 154, 0, 6, 167, 0, 39, 29, 154, 0, 6, 21, 5, 172, 132, 4, 1, 28, 4, 164, 0, 24, 42, 180, 0, 35, 42, 180, 1, 59, 21, 5, 79, 42, 89, 180, 1, 59, 4, 96, 181, 1, 59, 132, 5, 1, 167, 255, 148, 29, 153, 0, 8, 21, 4, 167, 0, 5, 16, 254, 172]
set_option maxRecDepth 100000 in
theorem bbX12_newSongs : cX12_newSongs.data.toList.map UInt8.toNat = bX12_newSongs := by decide +kernel
set_option maxRecDepth 100000 in
def tX12_newSongs : Lean.RArray dLf := .branch 111 (.branch 53 (.branch 26 (.branch 11 (.branch 5 (.branch 1 (.leaf (0, .aload_n 0, 1)) (.branch 2 (.leaf (1, .iconst 0, 1)) (.leaf (2, .putfield 315, 3)))) (.branch 8 (.branch 6 (.leaf (5, .iconst 0, 1)) (.leaf (6, .istore 4, 2))) (.branch 10 (.leaf (8, .iload 4, 2)) (.leaf (10, .aload_n 0, 1))))) (.branch 19 (.branch 15 (.branch 14 (.leaf (11, .getfield 20, 3)) (.leaf (14, .iconst 4, 1))) (.branch 16 (.leaf (15, .iaload, 1)) (.leaf (16, .if_icmp .ge 87, 3)))) (.branch 22 (.branch 20 (.leaf (19, .aload_n 0, 1)) (.leaf (20, .iload 4, 2))) (.branch 25 (.leaf (22, .invokevirtual 265, 3)) (.leaf (25, .iload_n 1, 1)))))) (.branch 40 (.branch 33 (.branch 29 (.leaf (26, .if_icmp .eq 6, 3)) (.branch 32 (.leaf (29, .goto 68, 3)) (.leaf (32, .iconst 0, 1)))) (.branch 36 (.branch 35 (.leaf (33, .istore 5, 2)) (.leaf (35, .iconst 0, 1))) (.branch 38 (.leaf (36, .istore 6, 2)) (.leaf (38, .iload 6, 2))))) (.branch 47 (.branch 44 (.branch 41 (.leaf (40, .iload_n 1, 1)) (.leaf (41, .if_icmp .ge 35, 3))) (.branch 46 (.leaf (44, .iload 5, 2)) (.leaf (46, .aload_n 0, 1)))) (.branch 51 (.branch 50 (.leaf (47, .getfield 20, 3)) (.leaf (50, .iconst 0, 1))) (.branch 52 (.leaf (51, .iaload, 1)) (.leaf (52, .imul, 1))))))) (.branch 81 (.branch 64 (.branch 58 (.branch 54 (.leaf (53, .aload_n 0, 1)) (.branch 56 (.leaf (54, .iload 4, 2)) (.leaf (56, .iload 6, 2)))) (.branch 62 (.branch 59 (.leaf (58, .aload_n 0, 1)) (.leaf (59, .getfield 26, 3))) (.branch 63 (.leaf (62, .iconst 0, 1)) (.leaf (63, .iaload, 1))))) (.branch 73 (.branch 68 (.branch 67 (.leaf (64, .invokevirtual 280, 3)) (.leaf (67, .iadd, 1))) (.branch 70 (.leaf (68, .istore 5, 2)) (.leaf (70, .iinc 6 1, 3)))) (.branch 77 (.branch 76 (.leaf (73, .goto (-35), 3)) (.leaf (76, .aload_n 0, 1))) (.branch 80 (.leaf (77, .getfield 35, 3)) (.leaf (80, .aload_n 0, 1)))))) (.branch 94 (.branch 88 (.branch 86 (.branch 84 (.leaf (81, .getfield 315, 3)) (.leaf (84, .iload 5, 2))) (.branch 87 (.leaf (86, .iastore, 1)) (.leaf (87, .aload_n 0, 1)))) (.branch 92 (.branch 89 (.leaf (88, .dup, 1)) (.leaf (89, .getfield 315, 3))) (.branch 93 (.leaf (92, .iconst 1, 1)) (.leaf (93, .iadd, 1))))) (.branch 104 (.branch 100 (.branch 97 (.leaf (94, .putfield 315, 3)) (.leaf (97, .iinc 4 1, 3))) (.branch 103 (.leaf (100, .goto (-92), 3)) (.leaf (103, .iconst 0, 1)))) (.branch 107 (.branch 106 (.leaf (104, .istore 4, 2)) (.leaf (106, .iconst 0, 1))) (.branch 109 (.leaf (107, .istore 5, 2)) (.leaf (109, .iload 5, 2)))))))) (.branch 170 (.branch 140 (.branch 123 (.branch 116 (.branch 112 (.leaf (111, .aload_n 0, 1)) (.branch 113 (.leaf (112, .iload_n 1, 1)) (.leaf (113, .invokevirtual 318, 3)))) (.branch 120 (.branch 119 (.leaf (116, .if_icmp .ge 104, 3)) (.leaf (119, .iconst 1, 1))) (.branch 122 (.leaf (120, .istore 6, 2)) (.leaf (122, .iconst 0, 1))))) (.branch 131 (.branch 127 (.branch 125 (.leaf (123, .istore 7, 2)) (.leaf (125, .iload 7, 2))) (.branch 128 (.leaf (127, .aload_n 0, 1)) (.leaf (128, .getfield 315, 3)))) (.branch 136 (.branch 134 (.leaf (131, .if_icmp .ge 39, 3)) (.leaf (134, .iload 6, 2))) (.branch 139 (.leaf (136, .ifCond .eq 34, 3)) (.leaf (139, .aload_n 0, 1)))))) (.branch 153 (.branch 146 (.branch 142 (.leaf (140, .iload 5, 2)) (.branch 143 (.leaf (142, .aload_n 0, 1)) (.leaf (143, .getfield 35, 3)))) (.branch 149 (.branch 148 (.leaf (146, .iload 7, 2)) (.leaf (148, .iaload, 1))) (.branch 150 (.leaf (149, .iload_n 1, 1)) (.leaf (150, .invokevirtual 321, 3))))) (.branch 161 (.branch 157 (.branch 154 (.leaf (153, .iload_n 2, 1)) (.leaf (154, .if_icmp .lt 7, 3))) (.branch 158 (.leaf (157, .iconst 1, 1)) (.leaf (158, .goto 4, 3)))) (.branch 164 (.branch 162 (.leaf (161, .iconst 0, 1)) (.leaf (162, .istore 6, 2))) (.branch 167 (.leaf (164, .iinc 7 1, 3)) (.leaf (167, .goto (-42), 3))))))) (.branch 201 (.branch 185 (.branch 178 (.branch 172 (.leaf (170, .iload 6, 2)) (.branch 175 (.leaf (172, .ifCond .ne 6, 3)) (.leaf (175, .goto 39, 3)))) (.branch 182 (.branch 179 (.leaf (178, .iload_n 3, 1)) (.leaf (179, .ifCond .ne 6, 3))) (.branch 184 (.leaf (182, .iload 5, 2)) (.leaf (184, .ireturn, 1))))) (.branch 193 (.branch 189 (.branch 188 (.leaf (185, .iinc 4 1, 3)) (.leaf (188, .iload_n 2, 1))) (.branch 190 (.leaf (189, .iconst 1, 1)) (.leaf (190, .if_icmp .le 24, 3)))) (.branch 197 (.branch 194 (.leaf (193, .aload_n 0, 1)) (.leaf (194, .getfield 35, 3))) (.branch 198 (.leaf (197, .aload_n 0, 1)) (.leaf (198, .getfield 315, 3)))))) (.branch 214 (.branch 206 (.branch 204 (.branch 203 (.leaf (201, .iload 5, 2)) (.leaf (203, .iastore, 1))) (.branch 205 (.leaf (204, .aload_n 0, 1)) (.leaf (205, .dup, 1)))) (.branch 210 (.branch 209 (.leaf (206, .getfield 315, 3)) (.leaf (209, .iconst 1, 1))) (.branch 211 (.leaf (210, .iadd, 1)) (.leaf (211, .putfield 315, 3))))) (.branch 224 (.branch 220 (.branch 217 (.leaf (214, .iinc 5 1, 3)) (.leaf (217, .goto (-108), 3))) (.branch 221 (.leaf (220, .iload_n 3, 1)) (.leaf (221, .ifCond .eq 8, 3)))) (.branch 229 (.branch 226 (.leaf (224, .iload 4, 2)) (.leaf (226, .goto 5, 3))) (.branch 231 (.leaf (229, .bipush (-2), 2)) (.leaf (231, .ireturn, 1))))))))
noncomputable def oX12_newSongs : List dLf := dFl tX12_newSongs
theorem ofX12_newSongs : dFl tX12_newSongs = oX12_newSongs := rfl
set_option maxRecDepth 100000 in
theorem odX12_newSongs : ∀ q ∈ oX12_newSongs, decode cX12_newSongs q.1 = .ok (q.2.1, q.2.2) := q_go qT_ok bbX12_newSongs oX12_newSongs 0 (by decide +kernel)
set_option maxRecDepth 100000 in
def bX12_songWhy : List Nat := [42, 180, 0, 180, 154, 0, 7, 4, 167, 0, 26, 27, 5, 8, 184, 0, 149, 153, 0, 16, 28, 4, 8, 184, 0, 149, 153, 0, 7, 3, 167, 0, 4, 5, 172]
set_option maxRecDepth 100000 in
theorem bbX12_songWhy : cX12_songWhy.data.toList.map UInt8.toNat = bX12_songWhy := by decide +kernel
set_option maxRecDepth 100000 in
def tX12_songWhy : Lean.RArray dLf := .branch 17 (.branch 8 (.branch 4 (.branch 1 (.leaf (0, .aload_n 0, 1)) (.leaf (1, .getfield 180, 3))) (.branch 7 (.leaf (4, .ifCond .ne 7, 3)) (.leaf (7, .iconst 1, 1)))) (.branch 12 (.branch 11 (.leaf (8, .goto 26, 3)) (.leaf (11, .iload_n 1, 1))) (.branch 13 (.leaf (12, .iconst 2, 1)) (.branch 14 (.leaf (13, .iconst 5, 1)) (.leaf (14, .invokestatic 149, 3)))))) (.branch 26 (.branch 21 (.branch 20 (.leaf (17, .ifCond .eq 16, 3)) (.leaf (20, .iload_n 2, 1))) (.branch 22 (.leaf (21, .iconst 1, 1)) (.branch 23 (.leaf (22, .iconst 5, 1)) (.leaf (23, .invokestatic 149, 3))))) (.branch 30 (.branch 29 (.leaf (26, .ifCond .eq 7, 3)) (.leaf (29, .iconst 0, 1))) (.branch 33 (.leaf (30, .goto 4, 3)) (.branch 34 (.leaf (33, .iconst 2, 1)) (.leaf (34, .ireturn, 1))))))
noncomputable def oX12_songWhy : List dLf := dFl tX12_songWhy
theorem ofX12_songWhy : dFl tX12_songWhy = oX12_songWhy := rfl
set_option maxRecDepth 100000 in
theorem odX12_songWhy : ∀ q ∈ oX12_songWhy, decode cX12_songWhy q.1 = .ok (q.2.1, q.2.2) := q_go qT_ok bbX12_songWhy oX12_songWhy 0 (by decide +kernel)
set_option maxRecDepth 100000 in
def bX12_fresh : List Nat := [42, 182, 0, 167, 42, 27, 28, 182, 1, 68, 62, 29, 153, 0, 11, 42, 29, 182, 0, 170, 167, 0, 10, 42, 27, 28, 3, 182, 1, 71, 172]
set_option maxRecDepth 100000 in
theorem bbX12_fresh : cX12_fresh.data.toList.map UInt8.toNat = bX12_fresh := by decide +kernel
set_option maxRecDepth 100000 in
def tX12_fresh : Lean.RArray dLf := .branch 15 (.branch 6 (.branch 4 (.branch 1 (.leaf (0, .aload_n 0, 1)) (.leaf (1, .invokevirtual 167, 3))) (.branch 5 (.leaf (4, .aload_n 0, 1)) (.leaf (5, .iload_n 1, 1)))) (.branch 10 (.branch 7 (.leaf (6, .iload_n 2, 1)) (.leaf (7, .invokevirtual 324, 3))) (.branch 11 (.leaf (10, .istore_n 3, 1)) (.branch 12 (.leaf (11, .iload_n 3, 1)) (.leaf (12, .ifCond .eq 11, 3)))))) (.branch 24 (.branch 17 (.branch 16 (.leaf (15, .aload_n 0, 1)) (.leaf (16, .iload_n 3, 1))) (.branch 20 (.leaf (17, .invokevirtual 170, 3)) (.branch 23 (.leaf (20, .goto 10, 3)) (.leaf (23, .aload_n 0, 1))))) (.branch 26 (.branch 25 (.leaf (24, .iload_n 1, 1)) (.leaf (25, .iload_n 2, 1))) (.branch 27 (.leaf (26, .iconst 0, 1)) (.branch 30 (.leaf (27, .invokevirtual 327, 3)) (.leaf (30, .ireturn, 1))))))
noncomputable def oX12_fresh : List dLf := dFl tX12_fresh
theorem ofX12_fresh : dFl tX12_fresh = oX12_fresh := rfl
set_option maxRecDepth 100000 in
theorem odX12_fresh : ∀ q ∈ oX12_fresh, decode cX12_fresh q.1 = .ok (q.2.1, q.2.2) := q_go qT_ok bbX12_fresh oX12_fresh 0 (by decide +kernel)
set_option maxRecDepth 100000 in
def bX12_byTurns : List Nat := [42, 182, 0, 167, 42, 27, 28, 182, 1, 68, 62, 29, 153, 0, 11, 42, 29, 182, 0, 170, 167, 0, 10, 42, 27, 28, 4, 182, 1, 71, 172]
set_option maxRecDepth 100000 in
theorem bbX12_byTurns : cX12_byTurns.data.toList.map UInt8.toNat = bX12_byTurns := by decide +kernel
set_option maxRecDepth 100000 in
def tX12_byTurns : Lean.RArray dLf := .branch 15 (.branch 6 (.branch 4 (.branch 1 (.leaf (0, .aload_n 0, 1)) (.leaf (1, .invokevirtual 167, 3))) (.branch 5 (.leaf (4, .aload_n 0, 1)) (.leaf (5, .iload_n 1, 1)))) (.branch 10 (.branch 7 (.leaf (6, .iload_n 2, 1)) (.leaf (7, .invokevirtual 324, 3))) (.branch 11 (.leaf (10, .istore_n 3, 1)) (.branch 12 (.leaf (11, .iload_n 3, 1)) (.leaf (12, .ifCond .eq 11, 3)))))) (.branch 24 (.branch 17 (.branch 16 (.leaf (15, .aload_n 0, 1)) (.leaf (16, .iload_n 3, 1))) (.branch 20 (.leaf (17, .invokevirtual 170, 3)) (.branch 23 (.leaf (20, .goto 10, 3)) (.leaf (23, .aload_n 0, 1))))) (.branch 26 (.branch 25 (.leaf (24, .iload_n 1, 1)) (.leaf (25, .iload_n 2, 1))) (.branch 27 (.leaf (26, .iconst 1, 1)) (.branch 30 (.leaf (27, .invokevirtual 327, 3)) (.leaf (30, .ireturn, 1))))))
noncomputable def oX12_byTurns : List dLf := dFl tX12_byTurns
theorem ofX12_byTurns : dFl tX12_byTurns = oX12_byTurns := rfl
set_option maxRecDepth 100000 in
theorem odX12_byTurns : ∀ q ∈ oX12_byTurns, decode cX12_byTurns q.1 = .ok (q.2.1, q.2.2) := q_go qT_ok bbX12_byTurns oX12_byTurns 0 (by decide +kernel)
set_option maxRecDepth 100000 in
def bX12_heardIn : List Nat := [42, 182, 0, 167, 42, 27, 182, 1, 18, 154, 0, 9, 42, 4, 182, 0, 170, 172, 28, 3, 16, 99, 184, 0, 149, 153, 0, 21, 42, 27, 42, 180, 0, 26, 3, 46, 28, 96, 2, 3, 182, 1, 35, 167, 0, 8, 42, 5, 182, 0, 170, 172]
set_option maxRecDepth 100000 in
theorem bbX12_heardIn : cX12_heardIn.data.toList.map UInt8.toNat = bX12_heardIn := by decide +kernel
set_option maxRecDepth 100000 in
def tX12_heardIn : Lean.RArray dLf := .branch 28 (.branch 13 (.branch 5 (.branch 1 (.leaf (0, .aload_n 0, 1)) (.branch 4 (.leaf (1, .invokevirtual 167, 3)) (.leaf (4, .aload_n 0, 1)))) (.branch 9 (.branch 6 (.leaf (5, .iload_n 1, 1)) (.leaf (6, .invokevirtual 274, 3))) (.branch 12 (.leaf (9, .ifCond .ne 9, 3)) (.leaf (12, .aload_n 0, 1))))) (.branch 19 (.branch 17 (.branch 14 (.leaf (13, .iconst 1, 1)) (.leaf (14, .invokevirtual 170, 3))) (.branch 18 (.leaf (17, .ireturn, 1)) (.leaf (18, .iload_n 2, 1)))) (.branch 22 (.branch 20 (.leaf (19, .iconst 0, 1)) (.leaf (20, .bipush 99, 2))) (.branch 25 (.leaf (22, .invokestatic 149, 3)) (.leaf (25, .ifCond .eq 21, 3)))))) (.branch 38 (.branch 34 (.branch 30 (.branch 29 (.leaf (28, .aload_n 0, 1)) (.leaf (29, .iload_n 1, 1))) (.branch 31 (.leaf (30, .aload_n 0, 1)) (.leaf (31, .getfield 26, 3)))) (.branch 36 (.branch 35 (.leaf (34, .iconst 0, 1)) (.leaf (35, .iaload, 1))) (.branch 37 (.leaf (36, .iload_n 2, 1)) (.leaf (37, .iadd, 1))))) (.branch 46 (.branch 40 (.branch 39 (.leaf (38, .iconst (-1), 1)) (.leaf (39, .iconst 0, 1))) (.branch 43 (.leaf (40, .invokevirtual 291, 3)) (.leaf (43, .goto 8, 3)))) (.branch 48 (.branch 47 (.leaf (46, .aload_n 0, 1)) (.leaf (47, .iconst 2, 1))) (.branch 51 (.leaf (48, .invokevirtual 170, 3)) (.leaf (51, .ireturn, 1))))))
noncomputable def oX12_heardIn : List dLf := dFl tX12_heardIn
theorem ofX12_heardIn : dFl tX12_heardIn = oX12_heardIn := rfl
set_option maxRecDepth 100000 in
theorem odX12_heardIn : ∀ q ∈ oX12_heardIn, decode cX12_heardIn q.1 = .ok (q.2.1, q.2.2) := q_go qT_ok bbX12_heardIn oX12_heardIn 0 (by decide +kernel)
set_option maxRecDepth 100000 in
def bX12_hearsItself : List Nat := [3, 62, 3, 54, 4, 21, 4, 42, 27, 182, 1, 9, 162, 0, 45, 29, 42, 27, 21, 4, 28, 182, 1, 24, 42, 180, 0, 20, 16, 10, 16, 7, 27, 104, 96, 4, 96, 21, 4, 96, 46, 160, 0, 7, 3, 167, 0, 4, 4, 96, 62, 132, 4, 1, 167, 255, 207, 29, 42, 180, 0, 20, 4, 46, 163, 0, 7, 4, 167, 0, 4, 3, 54, 4, 3, 54, 5, 21, 5, 42, 180, 0, 20, 7, 46, 162, 0, 111, 21, 5, 27, 159, 0, 99, 42, 21, 5, 182, 1, 9, 42, 27, 182, 1, 9, 159, 0, 6, 167, 0, 82, 3, 54, 6, 3, 54, 7, 21, 7, 42, 27, 182, 1, 9, 162, 0, 48, 21, 6, 42, 21, 5, 21, 7, 28, 182, 1, 24, 42, 180, 0, 20, 16, 10, 16, 7, 27, 104, 96, 4, 96, 21, 7, 96, 46, 160, 0, 7, 3, 167, 0, 4, 4, 96, 54, 6, 132, 7, 1, 167, 255, 204, 21, 4, 153, 0, 13, 29, 21, 6, 162, 0, 7, 4, 167, 0, 4, 3, 54, 4, 132, 5, 1, 167, 255, 140, 21, 4, 172]
set_option maxRecDepth 100000 in
theorem bbX12_hearsItself : cX12_hearsItself.data.toList.map UInt8.toNat = bX12_hearsItself := by decide +kernel
set_option maxRecDepth 100000 in
def tX12_hearsItself : Lean.RArray dLf := .branch 94 (.branch 44 (.branch 21 (.branch 9 (.branch 3 (.branch 1 (.leaf (0, .iconst 0, 1)) (.branch 2 (.leaf (1, .istore_n 3, 1)) (.leaf (2, .iconst 0, 1)))) (.branch 7 (.branch 5 (.leaf (3, .istore 4, 2)) (.leaf (5, .iload 4, 2))) (.branch 8 (.leaf (7, .aload_n 0, 1)) (.leaf (8, .iload_n 1, 1))))) (.branch 16 (.branch 12 (.leaf (9, .invokevirtual 265, 3)) (.branch 15 (.leaf (12, .if_icmp .ge 45, 3)) (.leaf (15, .iload_n 3, 1)))) (.branch 18 (.branch 17 (.leaf (16, .aload_n 0, 1)) (.leaf (17, .iload_n 1, 1))) (.branch 20 (.leaf (18, .iload 4, 2)) (.leaf (20, .iload_n 2, 1)))))) (.branch 34 (.branch 28 (.branch 24 (.leaf (21, .invokevirtual 280, 3)) (.branch 25 (.leaf (24, .aload_n 0, 1)) (.leaf (25, .getfield 20, 3)))) (.branch 32 (.branch 30 (.leaf (28, .bipush 10, 2)) (.leaf (30, .bipush 7, 2))) (.branch 33 (.leaf (32, .iload_n 1, 1)) (.leaf (33, .imul, 1))))) (.branch 37 (.branch 35 (.leaf (34, .iadd, 1)) (.branch 36 (.leaf (35, .iconst 1, 1)) (.leaf (36, .iadd, 1)))) (.branch 40 (.branch 39 (.leaf (37, .iload 4, 2)) (.leaf (39, .iadd, 1))) (.branch 41 (.leaf (40, .iaload, 1)) (.leaf (41, .if_icmp .ne 7, 3))))))) (.branch 68 (.branch 57 (.branch 49 (.branch 45 (.leaf (44, .iconst 0, 1)) (.branch 48 (.leaf (45, .goto 4, 3)) (.leaf (48, .iconst 1, 1)))) (.branch 51 (.branch 50 (.leaf (49, .iadd, 1)) (.leaf (50, .istore_n 3, 1))) (.branch 54 (.leaf (51, .iinc 4 1, 3)) (.leaf (54, .goto (-49), 3))))) (.branch 62 (.branch 58 (.leaf (57, .iload_n 3, 1)) (.branch 59 (.leaf (58, .aload_n 0, 1)) (.leaf (59, .getfield 20, 3)))) (.branch 64 (.branch 63 (.leaf (62, .iconst 1, 1)) (.leaf (63, .iaload, 1))) (.branch 67 (.leaf (64, .if_icmp .gt 7, 3)) (.leaf (67, .iconst 1, 1)))))) (.branch 80 (.branch 74 (.branch 71 (.leaf (68, .goto 4, 3)) (.branch 72 (.leaf (71, .iconst 0, 1)) (.leaf (72, .istore 4, 2)))) (.branch 77 (.branch 75 (.leaf (74, .iconst 0, 1)) (.leaf (75, .istore 5, 2))) (.branch 79 (.leaf (77, .iload 5, 2)) (.leaf (79, .aload_n 0, 1))))) (.branch 85 (.branch 83 (.leaf (80, .getfield 20, 3)) (.branch 84 (.leaf (83, .iconst 4, 1)) (.leaf (84, .iaload, 1)))) (.branch 90 (.branch 88 (.leaf (85, .if_icmp .ge 111, 3)) (.leaf (88, .iload 5, 2))) (.branch 91 (.leaf (90, .iload_n 1, 1)) (.leaf (91, .if_icmp .eq 99, 3)))))))) (.branch 147 (.branch 120 (.branch 108 (.branch 100 (.branch 95 (.leaf (94, .aload_n 0, 1)) (.branch 97 (.leaf (95, .iload 5, 2)) (.leaf (97, .invokevirtual 265, 3)))) (.branch 102 (.branch 101 (.leaf (100, .aload_n 0, 1)) (.leaf (101, .iload_n 1, 1))) (.branch 105 (.leaf (102, .invokevirtual 265, 3)) (.leaf (105, .if_icmp .eq 6, 3))))) (.branch 114 (.branch 111 (.leaf (108, .goto 82, 3)) (.branch 112 (.leaf (111, .iconst 0, 1)) (.leaf (112, .istore 6, 2)))) (.branch 117 (.branch 115 (.leaf (114, .iconst 0, 1)) (.leaf (115, .istore 7, 2))) (.branch 119 (.leaf (117, .iload 7, 2)) (.leaf (119, .aload_n 0, 1)))))) (.branch 134 (.branch 127 (.branch 121 (.leaf (120, .iload_n 1, 1)) (.branch 124 (.leaf (121, .invokevirtual 265, 3)) (.leaf (124, .if_icmp .ge 48, 3)))) (.branch 130 (.branch 129 (.leaf (127, .iload 6, 2)) (.leaf (129, .aload_n 0, 1))) (.branch 132 (.leaf (130, .iload 5, 2)) (.leaf (132, .iload 7, 2))))) (.branch 139 (.branch 135 (.leaf (134, .iload_n 2, 1)) (.branch 138 (.leaf (135, .invokevirtual 280, 3)) (.leaf (138, .aload_n 0, 1)))) (.branch 144 (.branch 142 (.leaf (139, .getfield 20, 3)) (.leaf (142, .bipush 10, 2))) (.branch 146 (.leaf (144, .bipush 7, 2)) (.leaf (146, .iload_n 1, 1))))))) (.branch 169 (.branch 155 (.branch 150 (.branch 148 (.leaf (147, .imul, 1)) (.branch 149 (.leaf (148, .iadd, 1)) (.leaf (149, .iconst 1, 1)))) (.branch 153 (.branch 151 (.leaf (150, .iadd, 1)) (.leaf (151, .iload 7, 2))) (.branch 154 (.leaf (153, .iadd, 1)) (.leaf (154, .iaload, 1))))) (.branch 162 (.branch 158 (.leaf (155, .if_icmp .ne 7, 3)) (.branch 159 (.leaf (158, .iconst 0, 1)) (.leaf (159, .goto 4, 3)))) (.branch 164 (.branch 163 (.leaf (162, .iconst 1, 1)) (.leaf (163, .iadd, 1))) (.branch 166 (.leaf (164, .istore 6, 2)) (.leaf (166, .iinc 7 1, 3)))))) (.branch 184 (.branch 177 (.branch 172 (.leaf (169, .goto (-52), 3)) (.branch 174 (.leaf (172, .iload 4, 2)) (.leaf (174, .ifCond .eq 13, 3)))) (.branch 180 (.branch 178 (.leaf (177, .iload_n 3, 1)) (.leaf (178, .iload 6, 2))) (.branch 183 (.leaf (180, .if_icmp .ge 7, 3)) (.leaf (183, .iconst 1, 1))))) (.branch 190 (.branch 187 (.leaf (184, .goto 4, 3)) (.branch 188 (.leaf (187, .iconst 0, 1)) (.leaf (188, .istore 4, 2)))) (.branch 196 (.branch 193 (.leaf (190, .iinc 5 1, 3)) (.leaf (193, .goto (-116), 3))) (.branch 198 (.leaf (196, .iload 4, 2)) (.leaf (198, .ireturn, 1))))))))
noncomputable def oX12_hearsItself : List dLf := dFl tX12_hearsItself
theorem ofX12_hearsItself : dFl tX12_hearsItself = oX12_hearsItself := rfl
set_option maxRecDepth 100000 in
theorem odX12_hearsItself : ∀ q ∈ oX12_hearsItself, decode cX12_hearsItself q.1 = .ok (q.2.1, q.2.2) := q_go qT_ok bbX12_hearsItself oX12_hearsItself 0 (by decide +kernel)
set_option maxRecDepth 100000 in
def bX12_strange : List Nat := [42, 182, 0, 167, 42, 27, 182, 1, 21, 154, 0, 9, 42, 4, 182, 0, 170, 172, 3, 61, 28, 16, 100, 162, 0, 27, 42, 27, 42, 180, 0, 26, 3, 46, 28, 96, 182, 1, 75, 154, 0, 5, 28, 172, 132, 2, 1, 167, 255, 229, 16, 254, 172]
set_option maxRecDepth 100000 in
theorem bbX12_strange : cX12_strange.data.toList.map UInt8.toNat = bX12_strange := by decide +kernel
set_option maxRecDepth 100000 in
def tX12_strange : Lean.RArray dLf := .branch 26 (.branch 13 (.branch 5 (.branch 1 (.leaf (0, .aload_n 0, 1)) (.branch 4 (.leaf (1, .invokevirtual 167, 3)) (.leaf (4, .aload_n 0, 1)))) (.branch 9 (.branch 6 (.leaf (5, .iload_n 1, 1)) (.leaf (6, .invokevirtual 277, 3))) (.branch 12 (.leaf (9, .ifCond .ne 9, 3)) (.leaf (12, .aload_n 0, 1))))) (.branch 19 (.branch 17 (.branch 14 (.leaf (13, .iconst 1, 1)) (.leaf (14, .invokevirtual 170, 3))) (.branch 18 (.leaf (17, .ireturn, 1)) (.leaf (18, .iconst 0, 1)))) (.branch 21 (.branch 20 (.leaf (19, .istore_n 2, 1)) (.leaf (20, .iload_n 2, 1))) (.branch 23 (.leaf (21, .bipush 100, 2)) (.leaf (23, .if_icmp .ge 27, 3)))))) (.branch 36 (.branch 32 (.branch 28 (.branch 27 (.leaf (26, .aload_n 0, 1)) (.leaf (27, .iload_n 1, 1))) (.branch 29 (.leaf (28, .aload_n 0, 1)) (.leaf (29, .getfield 26, 3)))) (.branch 34 (.branch 33 (.leaf (32, .iconst 0, 1)) (.leaf (33, .iaload, 1))) (.branch 35 (.leaf (34, .iload_n 2, 1)) (.leaf (35, .iadd, 1))))) (.branch 44 (.branch 42 (.branch 39 (.leaf (36, .invokevirtual 331, 3)) (.leaf (39, .ifCond .ne 5, 3))) (.branch 43 (.leaf (42, .iload_n 2, 1)) (.leaf (43, .ireturn, 1)))) (.branch 50 (.branch 47 (.leaf (44, .iinc 2 1, 3)) (.leaf (47, .goto (-27), 3))) (.branch 52 (.leaf (50, .bipush (-2), 2)) (.leaf (52, .ireturn, 1))))))
noncomputable def oX12_strange : List dLf := dFl tX12_strange
theorem ofX12_strange : dFl tX12_strange = oX12_strange := rfl
set_option maxRecDepth 100000 in
theorem odX12_strange : ∀ q ∈ oX12_strange, decode cX12_strange q.1 = .ok (q.2.1, q.2.2) := q_go qT_ok bbX12_strange oX12_strange 0 (by decide +kernel)
set_option maxRecDepth 100000 in
def bX12_dayBy : List Nat := [42, 27, 28, 29, 182, 1, 78, 28, 5, 160, 0, 7, 5, 167, 0, 4, 4, 42, 180, 0, 20, 16, 59, 7, 27, 104, 96, 5, 96, 46, 104, 96, 172]
set_option maxRecDepth 100000 in
theorem bbX12_dayBy : cX12_dayBy.data.toList.map UInt8.toNat = bX12_dayBy := by decide +kernel
set_option maxRecDepth 100000 in
def tX12_dayBy : Lean.RArray dLf := .branch 18 (.branch 8 (.branch 3 (.branch 1 (.leaf (0, .aload_n 0, 1)) (.branch 2 (.leaf (1, .iload_n 1, 1)) (.leaf (2, .iload_n 2, 1)))) (.branch 4 (.leaf (3, .iload_n 3, 1)) (.branch 7 (.leaf (4, .invokevirtual 334, 3)) (.leaf (7, .iload_n 2, 1))))) (.branch 13 (.branch 9 (.leaf (8, .iconst 2, 1)) (.branch 12 (.leaf (9, .if_icmp .ne 7, 3)) (.leaf (12, .iconst 2, 1)))) (.branch 16 (.leaf (13, .goto 4, 3)) (.branch 17 (.leaf (16, .iconst 1, 1)) (.leaf (17, .aload_n 0, 1)))))) (.branch 27 (.branch 24 (.branch 21 (.leaf (18, .getfield 20, 3)) (.branch 23 (.leaf (21, .bipush 59, 2)) (.leaf (23, .iconst 4, 1)))) (.branch 25 (.leaf (24, .iload_n 1, 1)) (.branch 26 (.leaf (25, .imul, 1)) (.leaf (26, .iadd, 1))))) (.branch 30 (.branch 28 (.leaf (27, .iconst 2, 1)) (.branch 29 (.leaf (28, .iadd, 1)) (.leaf (29, .iaload, 1)))) (.branch 31 (.leaf (30, .imul, 1)) (.branch 32 (.leaf (31, .iadd, 1)) (.leaf (32, .ireturn, 1))))))
noncomputable def oX12_dayBy : List dLf := dFl tX12_dayBy
theorem ofX12_dayBy : dFl tX12_dayBy = oX12_dayBy := rfl
set_option maxRecDepth 100000 in
theorem odX12_dayBy : ∀ q ∈ oX12_dayBy, decode cX12_dayBy q.1 = .ok (q.2.1, q.2.2) := q_go qT_ok bbX12_dayBy oX12_dayBy 0 (by decide +kernel)
theorem dX12_dayBy_0 : decode cX12_dayBy 0 = .ok (.aload_n 0, 1) := d_by (d_at odX12_dayBy ofX12_dayBy 0) rfl
theorem dX12_dayBy_1 : decode cX12_dayBy 1 = .ok (.iload_n 1, 1) := d_by (d_at odX12_dayBy ofX12_dayBy 1) rfl
theorem dX12_dayBy_2 : decode cX12_dayBy 2 = .ok (.iload_n 2, 1) := d_by (d_at odX12_dayBy ofX12_dayBy 2) rfl
theorem dX12_dayBy_3 : decode cX12_dayBy 3 = .ok (.iload_n 3, 1) := d_by (d_at odX12_dayBy ofX12_dayBy 3) rfl
theorem dX12_dayBy_4 : decode cX12_dayBy 4 = .ok (.invokevirtual 334, 3) := d_by (d_at odX12_dayBy ofX12_dayBy 4) rfl
theorem dX12_dayBy_7 : decode cX12_dayBy 7 = .ok (.iload_n 2, 1) := d_by (d_at odX12_dayBy ofX12_dayBy 7) rfl
theorem dX12_dayBy_8 : decode cX12_dayBy 8 = .ok (.iconst 2, 1) := d_by (d_at odX12_dayBy ofX12_dayBy 8) rfl
theorem dX12_dayBy_9 : decode cX12_dayBy 9 = .ok (.if_icmp .ne 7, 3) := d_by (d_at odX12_dayBy ofX12_dayBy 9) rfl
theorem dX12_dayBy_12 : decode cX12_dayBy 12 = .ok (.iconst 2, 1) := d_by (d_at odX12_dayBy ofX12_dayBy 12) rfl
theorem dX12_dayBy_13 : decode cX12_dayBy 13 = .ok (.goto 4, 3) := d_by (d_at odX12_dayBy ofX12_dayBy 13) rfl
theorem dX12_dayBy_16 : decode cX12_dayBy 16 = .ok (.iconst 1, 1) := d_by (d_at odX12_dayBy ofX12_dayBy 16) rfl
theorem dX12_dayBy_17 : decode cX12_dayBy 17 = .ok (.aload_n 0, 1) := d_by (d_at odX12_dayBy ofX12_dayBy 17) rfl
theorem dX12_dayBy_18 : decode cX12_dayBy 18 = .ok (.getfield 20, 3) := d_by (d_at odX12_dayBy ofX12_dayBy 18) rfl
theorem dX12_dayBy_21 : decode cX12_dayBy 21 = .ok (.bipush 59, 2) := d_by (d_at odX12_dayBy ofX12_dayBy 21) rfl
theorem dX12_dayBy_23 : decode cX12_dayBy 23 = .ok (.iconst 4, 1) := d_by (d_at odX12_dayBy ofX12_dayBy 23) rfl
theorem dX12_dayBy_24 : decode cX12_dayBy 24 = .ok (.iload_n 1, 1) := d_by (d_at odX12_dayBy ofX12_dayBy 24) rfl
theorem dX12_dayBy_25 : decode cX12_dayBy 25 = .ok (.imul, 1) := d_by (d_at odX12_dayBy ofX12_dayBy 25) rfl
theorem dX12_dayBy_26 : decode cX12_dayBy 26 = .ok (.iadd, 1) := d_by (d_at odX12_dayBy ofX12_dayBy 26) rfl
theorem dX12_dayBy_27 : decode cX12_dayBy 27 = .ok (.iconst 2, 1) := d_by (d_at odX12_dayBy ofX12_dayBy 27) rfl
theorem dX12_dayBy_28 : decode cX12_dayBy 28 = .ok (.iadd, 1) := d_by (d_at odX12_dayBy ofX12_dayBy 28) rfl
theorem dX12_dayBy_29 : decode cX12_dayBy 29 = .ok (.iaload, 1) := d_by (d_at odX12_dayBy ofX12_dayBy 29) rfl
theorem dX12_dayBy_30 : decode cX12_dayBy 30 = .ok (.imul, 1) := d_by (d_at odX12_dayBy ofX12_dayBy 30) rfl
theorem dX12_dayBy_31 : decode cX12_dayBy 31 = .ok (.iadd, 1) := d_by (d_at odX12_dayBy ofX12_dayBy 31) rfl
theorem dX12_dayBy_32 : decode cX12_dayBy 32 = .ok (.ireturn, 1) := d_by (d_at odX12_dayBy ofX12_dayBy 32) rfl
set_option maxRecDepth 100000 in
def bX12_setsOut : List Nat := [29, 54, 4, 28, 6, 159, 0, 42, 42, 180, 0, 20, 16, 59, 7, 27, 104, 96, 6, 96, 46, 21, 4, 184, 1, 81, 184, 1, 42, 154, 0, 18, 16, 90, 21, 4, 16, 90, 108, 4, 96, 104, 54, 4, 167, 255, 220, 21, 4, 172]
set_option maxRecDepth 100000 in
theorem bbX12_setsOut : cX12_setsOut.data.toList.map UInt8.toNat = bX12_setsOut := by decide +kernel
set_option maxRecDepth 100000 in
def tX12_setsOut : Lean.RArray dLf := .branch 21 (.branch 12 (.branch 4 (.branch 1 (.leaf (0, .iload_n 3, 1)) (.branch 3 (.leaf (1, .istore 4, 2)) (.leaf (3, .iload_n 2, 1)))) (.branch 8 (.branch 5 (.leaf (4, .iconst 3, 1)) (.leaf (5, .if_icmp .eq 42, 3))) (.branch 9 (.leaf (8, .aload_n 0, 1)) (.leaf (9, .getfield 20, 3))))) (.branch 17 (.branch 15 (.branch 14 (.leaf (12, .bipush 59, 2)) (.leaf (14, .iconst 4, 1))) (.branch 16 (.leaf (15, .iload_n 1, 1)) (.leaf (16, .imul, 1)))) (.branch 19 (.branch 18 (.leaf (17, .iadd, 1)) (.leaf (18, .iconst 3, 1))) (.branch 20 (.leaf (19, .iadd, 1)) (.leaf (20, .iaload, 1)))))) (.branch 38 (.branch 29 (.branch 23 (.leaf (21, .iload 4, 2)) (.branch 26 (.leaf (23, .invokestatic 337, 3)) (.leaf (26, .invokestatic 298, 3)))) (.branch 34 (.branch 32 (.leaf (29, .ifCond .ne 18, 3)) (.leaf (32, .bipush 90, 2))) (.branch 36 (.leaf (34, .iload 4, 2)) (.leaf (36, .bipush 90, 2))))) (.branch 42 (.branch 40 (.branch 39 (.leaf (38, .idiv, 1)) (.leaf (39, .iconst 1, 1))) (.branch 41 (.leaf (40, .iadd, 1)) (.leaf (41, .imul, 1)))) (.branch 47 (.branch 44 (.leaf (42, .istore 4, 2)) (.leaf (44, .goto (-36), 3))) (.branch 49 (.leaf (47, .iload 4, 2)) (.leaf (49, .ireturn, 1))))))
noncomputable def oX12_setsOut : List dLf := dFl tX12_setsOut
theorem ofX12_setsOut : dFl tX12_setsOut = oX12_setsOut := rfl
set_option maxRecDepth 100000 in
theorem odX12_setsOut : ∀ q ∈ oX12_setsOut, decode cX12_setsOut q.1 = .ok (q.2.1, q.2.2) := q_go qT_ok bbX12_setsOut oX12_setsOut 0 (by decide +kernel)
theorem dX12_setsOut_0 : decode cX12_setsOut 0 = .ok (.iload_n 3, 1) := d_by (d_at odX12_setsOut ofX12_setsOut 0) rfl
theorem dX12_setsOut_1 : decode cX12_setsOut 1 = .ok (.istore 4, 2) := d_by (d_at odX12_setsOut ofX12_setsOut 1) rfl
theorem dX12_setsOut_3 : decode cX12_setsOut 3 = .ok (.iload_n 2, 1) := d_by (d_at odX12_setsOut ofX12_setsOut 3) rfl
theorem dX12_setsOut_4 : decode cX12_setsOut 4 = .ok (.iconst 3, 1) := d_by (d_at odX12_setsOut ofX12_setsOut 4) rfl
theorem dX12_setsOut_5 : decode cX12_setsOut 5 = .ok (.if_icmp .eq 42, 3) := d_by (d_at odX12_setsOut ofX12_setsOut 5) rfl
theorem dX12_setsOut_8 : decode cX12_setsOut 8 = .ok (.aload_n 0, 1) := d_by (d_at odX12_setsOut ofX12_setsOut 8) rfl
theorem dX12_setsOut_9 : decode cX12_setsOut 9 = .ok (.getfield 20, 3) := d_by (d_at odX12_setsOut ofX12_setsOut 9) rfl
theorem dX12_setsOut_12 : decode cX12_setsOut 12 = .ok (.bipush 59, 2) := d_by (d_at odX12_setsOut ofX12_setsOut 12) rfl
theorem dX12_setsOut_14 : decode cX12_setsOut 14 = .ok (.iconst 4, 1) := d_by (d_at odX12_setsOut ofX12_setsOut 14) rfl
theorem dX12_setsOut_15 : decode cX12_setsOut 15 = .ok (.iload_n 1, 1) := d_by (d_at odX12_setsOut ofX12_setsOut 15) rfl
theorem dX12_setsOut_16 : decode cX12_setsOut 16 = .ok (.imul, 1) := d_by (d_at odX12_setsOut ofX12_setsOut 16) rfl
theorem dX12_setsOut_17 : decode cX12_setsOut 17 = .ok (.iadd, 1) := d_by (d_at odX12_setsOut ofX12_setsOut 17) rfl
theorem dX12_setsOut_18 : decode cX12_setsOut 18 = .ok (.iconst 3, 1) := d_by (d_at odX12_setsOut ofX12_setsOut 18) rfl
theorem dX12_setsOut_19 : decode cX12_setsOut 19 = .ok (.iadd, 1) := d_by (d_at odX12_setsOut ofX12_setsOut 19) rfl
theorem dX12_setsOut_20 : decode cX12_setsOut 20 = .ok (.iaload, 1) := d_by (d_at odX12_setsOut ofX12_setsOut 20) rfl
theorem dX12_setsOut_21 : decode cX12_setsOut 21 = .ok (.iload 4, 2) := d_by (d_at odX12_setsOut ofX12_setsOut 21) rfl
theorem dX12_setsOut_23 : decode cX12_setsOut 23 = .ok (.invokestatic 337, 3) := d_by (d_at odX12_setsOut ofX12_setsOut 23) rfl
theorem dX12_setsOut_26 : decode cX12_setsOut 26 = .ok (.invokestatic 298, 3) := d_by (d_at odX12_setsOut ofX12_setsOut 26) rfl
theorem dX12_setsOut_29 : decode cX12_setsOut 29 = .ok (.ifCond .ne 18, 3) := d_by (d_at odX12_setsOut ofX12_setsOut 29) rfl
theorem dX12_setsOut_32 : decode cX12_setsOut 32 = .ok (.bipush 90, 2) := d_by (d_at odX12_setsOut ofX12_setsOut 32) rfl
theorem dX12_setsOut_34 : decode cX12_setsOut 34 = .ok (.iload 4, 2) := d_by (d_at odX12_setsOut ofX12_setsOut 34) rfl
theorem dX12_setsOut_36 : decode cX12_setsOut 36 = .ok (.bipush 90, 2) := d_by (d_at odX12_setsOut ofX12_setsOut 36) rfl
theorem dX12_setsOut_38 : decode cX12_setsOut 38 = .ok (.idiv, 1) := d_by (d_at odX12_setsOut ofX12_setsOut 38) rfl
theorem dX12_setsOut_39 : decode cX12_setsOut 39 = .ok (.iconst 1, 1) := d_by (d_at odX12_setsOut ofX12_setsOut 39) rfl
theorem dX12_setsOut_40 : decode cX12_setsOut 40 = .ok (.iadd, 1) := d_by (d_at odX12_setsOut ofX12_setsOut 40) rfl
theorem dX12_setsOut_41 : decode cX12_setsOut 41 = .ok (.imul, 1) := d_by (d_at odX12_setsOut ofX12_setsOut 41) rfl
theorem dX12_setsOut_42 : decode cX12_setsOut 42 = .ok (.istore 4, 2) := d_by (d_at odX12_setsOut ofX12_setsOut 42) rfl
theorem dX12_setsOut_44 : decode cX12_setsOut 44 = .ok (.goto (-36), 3) := d_by (d_at odX12_setsOut ofX12_setsOut 44) rfl
theorem dX12_setsOut_47 : decode cX12_setsOut 47 = .ok (.iload 4, 2) := d_by (d_at odX12_setsOut ofX12_setsOut 47) rfl
theorem dX12_setsOut_49 : decode cX12_setsOut 49 = .ok (.ireturn, 1) := d_by (d_at odX12_setsOut ofX12_setsOut 49) rfl
set_option maxRecDepth 100000 in
def bX12_seasonOf : List Nat := [26, 16, 90, 108, 7, 112, 172]
set_option maxRecDepth 100000 in
theorem bbX12_seasonOf : cX12_seasonOf.data.toList.map UInt8.toNat = bX12_seasonOf := by decide +kernel
set_option maxRecDepth 100000 in
def tX12_seasonOf : Lean.RArray dLf := .branch 4 (.branch 1 (.leaf (0, .iload_n 0, 1)) (.branch 3 (.leaf (1, .bipush 90, 2)) (.leaf (3, .idiv, 1)))) (.branch 5 (.leaf (4, .iconst 4, 1)) (.branch 6 (.leaf (5, .irem, 1)) (.leaf (6, .ireturn, 1))))
noncomputable def oX12_seasonOf : List dLf := dFl tX12_seasonOf
theorem ofX12_seasonOf : dFl tX12_seasonOf = oX12_seasonOf := rfl
set_option maxRecDepth 100000 in
theorem odX12_seasonOf : ∀ q ∈ oX12_seasonOf, decode cX12_seasonOf q.1 = .ok (q.2.1, q.2.2) := q_go qT_ok bbX12_seasonOf oX12_seasonOf 0 (by decide +kernel)
theorem dX12_seasonOf_0 : decode cX12_seasonOf 0 = .ok (.iload_n 0, 1) := d_by (d_at odX12_seasonOf ofX12_seasonOf 0) rfl
theorem dX12_seasonOf_1 : decode cX12_seasonOf 1 = .ok (.bipush 90, 2) := d_by (d_at odX12_seasonOf ofX12_seasonOf 1) rfl
theorem dX12_seasonOf_3 : decode cX12_seasonOf 3 = .ok (.idiv, 1) := d_by (d_at odX12_seasonOf ofX12_seasonOf 3) rfl
theorem dX12_seasonOf_4 : decode cX12_seasonOf 4 = .ok (.iconst 4, 1) := d_by (d_at odX12_seasonOf ofX12_seasonOf 4) rfl
theorem dX12_seasonOf_5 : decode cX12_seasonOf 5 = .ok (.irem, 1) := d_by (d_at odX12_seasonOf ofX12_seasonOf 5) rfl
theorem dX12_seasonOf_6 : decode cX12_seasonOf 6 = .ok (.ireturn, 1) := d_by (d_at odX12_seasonOf ofX12_seasonOf 6) rfl
set_option maxRecDepth 100000 in
def bX12_season : List Nat := [42, 182, 0, 167, 42, 180, 0, 180, 154, 0, 9, 42, 4, 182, 0, 170, 172, 27, 3, 19, 1, 84, 184, 0, 149, 153, 0, 10, 27, 184, 1, 81, 167, 0, 8, 42, 5, 182, 0, 170, 172]
set_option maxRecDepth 100000 in
theorem bbX12_season : cX12_season.data.toList.map UInt8.toNat = bX12_season := by decide +kernel
set_option maxRecDepth 100000 in
def tX12_season : Lean.RArray dLf := .branch 18 (.branch 11 (.branch 4 (.branch 1 (.leaf (0, .aload_n 0, 1)) (.leaf (1, .invokevirtual 167, 3))) (.branch 5 (.leaf (4, .aload_n 0, 1)) (.branch 8 (.leaf (5, .getfield 180, 3)) (.leaf (8, .ifCond .ne 9, 3))))) (.branch 13 (.branch 12 (.leaf (11, .aload_n 0, 1)) (.leaf (12, .iconst 1, 1))) (.branch 16 (.leaf (13, .invokevirtual 170, 3)) (.branch 17 (.leaf (16, .ireturn, 1)) (.leaf (17, .iload_n 1, 1)))))) (.branch 29 (.branch 22 (.branch 19 (.leaf (18, .iconst 0, 1)) (.leaf (19, .ldc_w 340, 3))) (.branch 25 (.leaf (22, .invokestatic 149, 3)) (.branch 28 (.leaf (25, .ifCond .eq 10, 3)) (.leaf (28, .iload_n 1, 1))))) (.branch 36 (.branch 32 (.leaf (29, .invokestatic 337, 3)) (.branch 35 (.leaf (32, .goto 8, 3)) (.leaf (35, .aload_n 0, 1)))) (.branch 37 (.leaf (36, .iconst 2, 1)) (.branch 40 (.leaf (37, .invokevirtual 170, 3)) (.leaf (40, .ireturn, 1))))))
noncomputable def oX12_season : List dLf := dFl tX12_season
theorem ofX12_season : dFl tX12_season = oX12_season := rfl
set_option maxRecDepth 100000 in
theorem odX12_season : ∀ q ∈ oX12_season, decode cX12_season q.1 = .ok (q.2.1, q.2.2) := q_go qT_ok bbX12_season oX12_season 0 (by decide +kernel)
theorem dX12_season_0 : decode cX12_season 0 = .ok (.aload_n 0, 1) := d_by (d_at odX12_season ofX12_season 0) rfl
theorem dX12_season_1 : decode cX12_season 1 = .ok (.invokevirtual 167, 3) := d_by (d_at odX12_season ofX12_season 1) rfl
theorem dX12_season_4 : decode cX12_season 4 = .ok (.aload_n 0, 1) := d_by (d_at odX12_season ofX12_season 4) rfl
theorem dX12_season_5 : decode cX12_season 5 = .ok (.getfield 180, 3) := d_by (d_at odX12_season ofX12_season 5) rfl
theorem dX12_season_8 : decode cX12_season 8 = .ok (.ifCond .ne 9, 3) := d_by (d_at odX12_season ofX12_season 8) rfl
theorem dX12_season_11 : decode cX12_season 11 = .ok (.aload_n 0, 1) := d_by (d_at odX12_season ofX12_season 11) rfl
theorem dX12_season_12 : decode cX12_season 12 = .ok (.iconst 1, 1) := d_by (d_at odX12_season ofX12_season 12) rfl
theorem dX12_season_13 : decode cX12_season 13 = .ok (.invokevirtual 170, 3) := d_by (d_at odX12_season ofX12_season 13) rfl
theorem dX12_season_16 : decode cX12_season 16 = .ok (.ireturn, 1) := d_by (d_at odX12_season ofX12_season 16) rfl
theorem dX12_season_17 : decode cX12_season 17 = .ok (.iload_n 1, 1) := d_by (d_at odX12_season ofX12_season 17) rfl
theorem dX12_season_18 : decode cX12_season 18 = .ok (.iconst 0, 1) := d_by (d_at odX12_season ofX12_season 18) rfl
theorem dX12_season_19 : decode cX12_season 19 = .ok (.ldc_w 340, 3) := d_by (d_at odX12_season ofX12_season 19) rfl
theorem dX12_season_22 : decode cX12_season 22 = .ok (.invokestatic 149, 3) := d_by (d_at odX12_season ofX12_season 22) rfl
theorem dX12_season_25 : decode cX12_season 25 = .ok (.ifCond .eq 10, 3) := d_by (d_at odX12_season ofX12_season 25) rfl
theorem dX12_season_28 : decode cX12_season 28 = .ok (.iload_n 1, 1) := d_by (d_at odX12_season ofX12_season 28) rfl
theorem dX12_season_29 : decode cX12_season 29 = .ok (.invokestatic 337, 3) := d_by (d_at odX12_season ofX12_season 29) rfl
theorem dX12_season_32 : decode cX12_season 32 = .ok (.goto 8, 3) := d_by (d_at odX12_season ofX12_season 32) rfl
theorem dX12_season_35 : decode cX12_season 35 = .ok (.aload_n 0, 1) := d_by (d_at odX12_season ofX12_season 35) rfl
theorem dX12_season_36 : decode cX12_season 36 = .ok (.iconst 2, 1) := d_by (d_at odX12_season ofX12_season 36) rfl
theorem dX12_season_37 : decode cX12_season 37 = .ok (.invokevirtual 170, 3) := d_by (d_at odX12_season ofX12_season 37) rfl
theorem dX12_season_40 : decode cX12_season 40 = .ok (.ireturn, 1) := d_by (d_at odX12_season ofX12_season 40) rfl
set_option maxRecDepth 100000 in
def bX12_sets : List Nat := [42, 182, 0, 167, 42, 27, 182, 1, 12, 153, 0, 19, 28, 3, 42, 180, 0, 20, 8, 46, 4, 100, 184, 0, 149, 154, 0, 9, 42, 4, 182, 0, 170, 172, 29, 3, 17, 39, 15, 184, 0, 149, 154, 0, 9, 42, 5, 182, 0, 170, 172, 42, 28, 182, 1, 46, 153, 0, 8, 16, 254, 167, 0, 15, 42, 28, 42, 27, 3, 182, 1, 15, 29, 182, 1, 78, 172]
set_option maxRecDepth 100000 in
theorem bbX12_sets : cX12_sets.data.toList.map UInt8.toNat = bX12_sets := by decide +kernel
set_option maxRecDepth 100000 in
def tX12_sets : Lean.RArray dLf := .branch 36 (.branch 19 (.branch 9 (.branch 4 (.branch 1 (.leaf (0, .aload_n 0, 1)) (.leaf (1, .invokevirtual 167, 3))) (.branch 5 (.leaf (4, .aload_n 0, 1)) (.branch 6 (.leaf (5, .iload_n 1, 1)) (.leaf (6, .invokevirtual 268, 3))))) (.branch 14 (.branch 12 (.leaf (9, .ifCond .eq 19, 3)) (.branch 13 (.leaf (12, .iload_n 2, 1)) (.leaf (13, .iconst 0, 1)))) (.branch 15 (.leaf (14, .aload_n 0, 1)) (.branch 18 (.leaf (15, .getfield 20, 3)) (.leaf (18, .iconst 5, 1)))))) (.branch 28 (.branch 21 (.branch 20 (.leaf (19, .iaload, 1)) (.leaf (20, .iconst 1, 1))) (.branch 22 (.leaf (21, .isub, 1)) (.branch 25 (.leaf (22, .invokestatic 149, 3)) (.leaf (25, .ifCond .ne 9, 3))))) (.branch 33 (.branch 29 (.leaf (28, .aload_n 0, 1)) (.branch 30 (.leaf (29, .iconst 1, 1)) (.leaf (30, .invokevirtual 170, 3)))) (.branch 34 (.leaf (33, .ireturn, 1)) (.branch 35 (.leaf (34, .iload_n 3, 1)) (.leaf (35, .iconst 0, 1))))))) (.branch 59 (.branch 47 (.branch 42 (.branch 39 (.leaf (36, .sipush 9999, 3)) (.leaf (39, .invokestatic 149, 3))) (.branch 45 (.leaf (42, .ifCond .ne 9, 3)) (.branch 46 (.leaf (45, .aload_n 0, 1)) (.leaf (46, .iconst 2, 1))))) (.branch 52 (.branch 50 (.leaf (47, .invokevirtual 170, 3)) (.branch 51 (.leaf (50, .ireturn, 1)) (.leaf (51, .aload_n 0, 1)))) (.branch 53 (.leaf (52, .iload_n 2, 1)) (.branch 56 (.leaf (53, .invokevirtual 302, 3)) (.leaf (56, .ifCond .eq 8, 3)))))) (.branch 67 (.branch 64 (.branch 61 (.leaf (59, .bipush (-2), 2)) (.leaf (61, .goto 15, 3))) (.branch 65 (.leaf (64, .aload_n 0, 1)) (.branch 66 (.leaf (65, .iload_n 2, 1)) (.leaf (66, .aload_n 0, 1))))) (.branch 72 (.branch 68 (.leaf (67, .iload_n 1, 1)) (.branch 69 (.leaf (68, .iconst 0, 1)) (.leaf (69, .invokevirtual 271, 3)))) (.branch 73 (.leaf (72, .iload_n 3, 1)) (.branch 76 (.leaf (73, .invokevirtual 334, 3)) (.leaf (76, .ireturn, 1)))))))
noncomputable def oX12_sets : List dLf := dFl tX12_sets
theorem ofX12_sets : dFl tX12_sets = oX12_sets := rfl
set_option maxRecDepth 100000 in
theorem odX12_sets : ∀ q ∈ oX12_sets, decode cX12_sets q.1 = .ok (q.2.1, q.2.2) := q_go qT_ok bbX12_sets oX12_sets 0 (by decide +kernel)
set_option maxRecDepth 100000 in
def bX12_layDays : List Nat := [3, 54, 4, 21, 4, 16, 7, 162, 0, 27, 42, 180, 0, 38, 21, 4, 19, 1, 85, 79, 42, 180, 0, 41, 21, 4, 3, 79, 132, 4, 1, 167, 255, 228, 42, 180, 0, 38, 28, 29, 79, 3, 54, 4, 21, 4, 42, 180, 0, 20, 7, 46, 162, 0, 143, 2, 54, 5, 3, 54, 6, 21, 6, 42, 180, 0, 20, 7, 46, 162, 0, 58, 42, 180, 0, 41, 21, 6, 46, 154, 0, 42, 42, 180, 0, 38, 21, 6, 46, 19, 1, 85, 162, 0, 29, 21, 5, 155, 0, 20, 42, 180, 0, 38, 21, 6, 46, 42, 180, 0, 38, 21, 5, 46, 162, 0, 7, 21, 6, 54, 5, 132, 6, 1, 167, 255, 193, 21, 5, 156, 0, 4, 177, 42, 180, 0, 41, 21, 5, 4, 79, 3, 54, 6, 21, 6, 42, 180, 0, 20, 8, 46, 162, 0, 37, 27, 154, 0, 9, 21, 5, 28, 160, 0, 27, 42, 21, 6, 182, 1, 46, 154, 0, 12, 42, 21, 6, 27, 21, 5, 182, 1, 86, 132, 6, 1, 167, 255, 214, 132, 4, 1, 167, 255, 108, 177]
set_option maxRecDepth 100000 in
theorem bbX12_layDays : cX12_layDays.data.toList.map UInt8.toNat = bX12_layDays := by decide +kernel
set_option maxRecDepth 100000 in
def tX12_layDays : Lean.RArray dLf := .branch 92 (.branch 46 (.branch 24 (.branch 11 (.branch 5 (.branch 1 (.leaf (0, .iconst 0, 1)) (.branch 3 (.leaf (1, .istore 4, 2)) (.leaf (3, .iload 4, 2)))) (.branch 7 (.leaf (5, .bipush 7, 2)) (.branch 10 (.leaf (7, .if_icmp .ge 27, 3)) (.leaf (10, .aload_n 0, 1))))) (.branch 19 (.branch 14 (.leaf (11, .getfield 38, 3)) (.branch 16 (.leaf (14, .iload 4, 2)) (.leaf (16, .ldc_w 341, 3)))) (.branch 20 (.leaf (19, .iastore, 1)) (.branch 21 (.leaf (20, .aload_n 0, 1)) (.leaf (21, .getfield 41, 3)))))) (.branch 35 (.branch 28 (.branch 26 (.leaf (24, .iload 4, 2)) (.branch 27 (.leaf (26, .iconst 0, 1)) (.leaf (27, .iastore, 1)))) (.branch 31 (.leaf (28, .iinc 4 1, 3)) (.branch 34 (.leaf (31, .goto (-28), 3)) (.leaf (34, .aload_n 0, 1))))) (.branch 40 (.branch 38 (.leaf (35, .getfield 38, 3)) (.branch 39 (.leaf (38, .iload_n 2, 1)) (.leaf (39, .iload_n 3, 1)))) (.branch 42 (.branch 41 (.leaf (40, .iastore, 1)) (.leaf (41, .iconst 0, 1))) (.branch 44 (.leaf (42, .istore 4, 2)) (.leaf (44, .iload 4, 2))))))) (.branch 67 (.branch 56 (.branch 51 (.branch 47 (.leaf (46, .aload_n 0, 1)) (.branch 50 (.leaf (47, .getfield 20, 3)) (.leaf (50, .iconst 4, 1)))) (.branch 52 (.leaf (51, .iaload, 1)) (.branch 55 (.leaf (52, .if_icmp .ge 143, 3)) (.leaf (55, .iconst (-1), 1))))) (.branch 61 (.branch 58 (.leaf (56, .istore 5, 2)) (.branch 59 (.leaf (58, .iconst 0, 1)) (.leaf (59, .istore 6, 2)))) (.branch 63 (.leaf (61, .iload 6, 2)) (.branch 64 (.leaf (63, .aload_n 0, 1)) (.leaf (64, .getfield 20, 3)))))) (.branch 78 (.branch 72 (.branch 68 (.leaf (67, .iconst 4, 1)) (.branch 69 (.leaf (68, .iaload, 1)) (.leaf (69, .if_icmp .ge 58, 3)))) (.branch 73 (.leaf (72, .aload_n 0, 1)) (.branch 76 (.leaf (73, .getfield 41, 3)) (.leaf (76, .iload 6, 2))))) (.branch 83 (.branch 79 (.leaf (78, .iaload, 1)) (.branch 82 (.leaf (79, .ifCond .ne 42, 3)) (.leaf (82, .aload_n 0, 1)))) (.branch 88 (.branch 86 (.leaf (83, .getfield 38, 3)) (.leaf (86, .iload 6, 2))) (.branch 89 (.leaf (88, .iaload, 1)) (.leaf (89, .ldc_w 341, 3)))))))) (.branch 142 (.branch 117 (.branch 106 (.branch 100 (.branch 95 (.leaf (92, .if_icmp .ge 29, 3)) (.branch 97 (.leaf (95, .iload 5, 2)) (.leaf (97, .ifCond .lt 20, 3)))) (.branch 101 (.leaf (100, .aload_n 0, 1)) (.branch 104 (.leaf (101, .getfield 38, 3)) (.leaf (104, .iload 6, 2))))) (.branch 111 (.branch 107 (.leaf (106, .iaload, 1)) (.branch 108 (.leaf (107, .aload_n 0, 1)) (.leaf (108, .getfield 38, 3)))) (.branch 113 (.leaf (111, .iload 5, 2)) (.branch 114 (.leaf (113, .iaload, 1)) (.leaf (114, .if_icmp .ge 7, 3)))))) (.branch 132 (.branch 124 (.branch 119 (.leaf (117, .iload 6, 2)) (.branch 121 (.leaf (119, .istore 5, 2)) (.leaf (121, .iinc 6 1, 3)))) (.branch 127 (.leaf (124, .goto (-63), 3)) (.branch 129 (.leaf (127, .iload 5, 2)) (.leaf (129, .ifCond .ge 4, 3))))) (.branch 137 (.branch 133 (.leaf (132, .return_, 1)) (.branch 134 (.leaf (133, .aload_n 0, 1)) (.leaf (134, .getfield 41, 3)))) (.branch 140 (.branch 139 (.leaf (137, .iload 5, 2)) (.leaf (139, .iconst 1, 1))) (.branch 141 (.leaf (140, .iastore, 1)) (.leaf (141, .iconst 0, 1))))))) (.branch 166 (.branch 152 (.branch 147 (.branch 144 (.leaf (142, .istore 6, 2)) (.branch 146 (.leaf (144, .iload 6, 2)) (.leaf (146, .aload_n 0, 1)))) (.branch 150 (.leaf (147, .getfield 20, 3)) (.branch 151 (.leaf (150, .iconst 5, 1)) (.leaf (151, .iaload, 1))))) (.branch 159 (.branch 155 (.leaf (152, .if_icmp .ge 37, 3)) (.branch 156 (.leaf (155, .iload_n 1, 1)) (.leaf (156, .ifCond .ne 9, 3)))) (.branch 162 (.branch 161 (.leaf (159, .iload 5, 2)) (.leaf (161, .iload_n 2, 1))) (.branch 165 (.leaf (162, .if_icmp .ne 27, 3)) (.leaf (165, .aload_n 0, 1)))))) (.branch 178 (.branch 174 (.branch 168 (.leaf (166, .iload 6, 2)) (.branch 171 (.leaf (168, .invokevirtual 302, 3)) (.leaf (171, .ifCond .ne 12, 3)))) (.branch 175 (.leaf (174, .aload_n 0, 1)) (.branch 177 (.leaf (175, .iload 6, 2)) (.leaf (177, .iload_n 1, 1))))) (.branch 186 (.branch 180 (.leaf (178, .iload 5, 2)) (.branch 183 (.leaf (180, .invokevirtual 342, 3)) (.leaf (183, .iinc 6 1, 3)))) (.branch 192 (.branch 189 (.leaf (186, .goto (-42), 3)) (.leaf (189, .iinc 4 1, 3))) (.branch 195 (.leaf (192, .goto (-148), 3)) (.leaf (195, .return_, 1))))))))
noncomputable def oX12_layDays : List dLf := dFl tX12_layDays
theorem ofX12_layDays : dFl tX12_layDays = oX12_layDays := rfl
set_option maxRecDepth 100000 in
theorem odX12_layDays : ∀ q ∈ oX12_layDays, decode cX12_layDays q.1 = .ok (q.2.1, q.2.2) := q_go qT_ok bbX12_layDays oX12_layDays 0 (by decide +kernel)
theorem dX12_layDays_0 : decode cX12_layDays 0 = .ok (.iconst 0, 1) := d_by (d_at odX12_layDays ofX12_layDays 0) rfl
theorem dX12_layDays_1 : decode cX12_layDays 1 = .ok (.istore 4, 2) := d_by (d_at odX12_layDays ofX12_layDays 1) rfl
theorem dX12_layDays_3 : decode cX12_layDays 3 = .ok (.iload 4, 2) := d_by (d_at odX12_layDays ofX12_layDays 3) rfl
theorem dX12_layDays_5 : decode cX12_layDays 5 = .ok (.bipush 7, 2) := d_by (d_at odX12_layDays ofX12_layDays 5) rfl
theorem dX12_layDays_7 : decode cX12_layDays 7 = .ok (.if_icmp .ge 27, 3) := d_by (d_at odX12_layDays ofX12_layDays 7) rfl
theorem dX12_layDays_10 : decode cX12_layDays 10 = .ok (.aload_n 0, 1) := d_by (d_at odX12_layDays ofX12_layDays 10) rfl
theorem dX12_layDays_11 : decode cX12_layDays 11 = .ok (.getfield 38, 3) := d_by (d_at odX12_layDays ofX12_layDays 11) rfl
theorem dX12_layDays_14 : decode cX12_layDays 14 = .ok (.iload 4, 2) := d_by (d_at odX12_layDays ofX12_layDays 14) rfl
theorem dX12_layDays_16 : decode cX12_layDays 16 = .ok (.ldc_w 341, 3) := d_by (d_at odX12_layDays ofX12_layDays 16) rfl
theorem dX12_layDays_19 : decode cX12_layDays 19 = .ok (.iastore, 1) := d_by (d_at odX12_layDays ofX12_layDays 19) rfl
theorem dX12_layDays_20 : decode cX12_layDays 20 = .ok (.aload_n 0, 1) := d_by (d_at odX12_layDays ofX12_layDays 20) rfl
theorem dX12_layDays_21 : decode cX12_layDays 21 = .ok (.getfield 41, 3) := d_by (d_at odX12_layDays ofX12_layDays 21) rfl
theorem dX12_layDays_24 : decode cX12_layDays 24 = .ok (.iload 4, 2) := d_by (d_at odX12_layDays ofX12_layDays 24) rfl
theorem dX12_layDays_26 : decode cX12_layDays 26 = .ok (.iconst 0, 1) := d_by (d_at odX12_layDays ofX12_layDays 26) rfl
theorem dX12_layDays_27 : decode cX12_layDays 27 = .ok (.iastore, 1) := d_by (d_at odX12_layDays ofX12_layDays 27) rfl
theorem dX12_layDays_28 : decode cX12_layDays 28 = .ok (.iinc 4 1, 3) := d_by (d_at odX12_layDays ofX12_layDays 28) rfl
theorem dX12_layDays_31 : decode cX12_layDays 31 = .ok (.goto (-28), 3) := d_by (d_at odX12_layDays ofX12_layDays 31) rfl
theorem dX12_layDays_34 : decode cX12_layDays 34 = .ok (.aload_n 0, 1) := d_by (d_at odX12_layDays ofX12_layDays 34) rfl
theorem dX12_layDays_35 : decode cX12_layDays 35 = .ok (.getfield 38, 3) := d_by (d_at odX12_layDays ofX12_layDays 35) rfl
theorem dX12_layDays_38 : decode cX12_layDays 38 = .ok (.iload_n 2, 1) := d_by (d_at odX12_layDays ofX12_layDays 38) rfl
theorem dX12_layDays_39 : decode cX12_layDays 39 = .ok (.iload_n 3, 1) := d_by (d_at odX12_layDays ofX12_layDays 39) rfl
theorem dX12_layDays_40 : decode cX12_layDays 40 = .ok (.iastore, 1) := d_by (d_at odX12_layDays ofX12_layDays 40) rfl
theorem dX12_layDays_41 : decode cX12_layDays 41 = .ok (.iconst 0, 1) := d_by (d_at odX12_layDays ofX12_layDays 41) rfl
theorem dX12_layDays_42 : decode cX12_layDays 42 = .ok (.istore 4, 2) := d_by (d_at odX12_layDays ofX12_layDays 42) rfl
theorem dX12_layDays_44 : decode cX12_layDays 44 = .ok (.iload 4, 2) := d_by (d_at odX12_layDays ofX12_layDays 44) rfl
theorem dX12_layDays_46 : decode cX12_layDays 46 = .ok (.aload_n 0, 1) := d_by (d_at odX12_layDays ofX12_layDays 46) rfl
theorem dX12_layDays_47 : decode cX12_layDays 47 = .ok (.getfield 20, 3) := d_by (d_at odX12_layDays ofX12_layDays 47) rfl
theorem dX12_layDays_50 : decode cX12_layDays 50 = .ok (.iconst 4, 1) := d_by (d_at odX12_layDays ofX12_layDays 50) rfl
theorem dX12_layDays_51 : decode cX12_layDays 51 = .ok (.iaload, 1) := d_by (d_at odX12_layDays ofX12_layDays 51) rfl
theorem dX12_layDays_52 : decode cX12_layDays 52 = .ok (.if_icmp .ge 143, 3) := d_by (d_at odX12_layDays ofX12_layDays 52) rfl
theorem dX12_layDays_55 : decode cX12_layDays 55 = .ok (.iconst (-1), 1) := d_by (d_at odX12_layDays ofX12_layDays 55) rfl
theorem dX12_layDays_56 : decode cX12_layDays 56 = .ok (.istore 5, 2) := d_by (d_at odX12_layDays ofX12_layDays 56) rfl
theorem dX12_layDays_58 : decode cX12_layDays 58 = .ok (.iconst 0, 1) := d_by (d_at odX12_layDays ofX12_layDays 58) rfl
theorem dX12_layDays_59 : decode cX12_layDays 59 = .ok (.istore 6, 2) := d_by (d_at odX12_layDays ofX12_layDays 59) rfl
theorem dX12_layDays_61 : decode cX12_layDays 61 = .ok (.iload 6, 2) := d_by (d_at odX12_layDays ofX12_layDays 61) rfl
theorem dX12_layDays_63 : decode cX12_layDays 63 = .ok (.aload_n 0, 1) := d_by (d_at odX12_layDays ofX12_layDays 63) rfl
theorem dX12_layDays_64 : decode cX12_layDays 64 = .ok (.getfield 20, 3) := d_by (d_at odX12_layDays ofX12_layDays 64) rfl
theorem dX12_layDays_67 : decode cX12_layDays 67 = .ok (.iconst 4, 1) := d_by (d_at odX12_layDays ofX12_layDays 67) rfl
theorem dX12_layDays_68 : decode cX12_layDays 68 = .ok (.iaload, 1) := d_by (d_at odX12_layDays ofX12_layDays 68) rfl
theorem dX12_layDays_69 : decode cX12_layDays 69 = .ok (.if_icmp .ge 58, 3) := d_by (d_at odX12_layDays ofX12_layDays 69) rfl
theorem dX12_layDays_72 : decode cX12_layDays 72 = .ok (.aload_n 0, 1) := d_by (d_at odX12_layDays ofX12_layDays 72) rfl
theorem dX12_layDays_73 : decode cX12_layDays 73 = .ok (.getfield 41, 3) := d_by (d_at odX12_layDays ofX12_layDays 73) rfl
theorem dX12_layDays_76 : decode cX12_layDays 76 = .ok (.iload 6, 2) := d_by (d_at odX12_layDays ofX12_layDays 76) rfl
theorem dX12_layDays_78 : decode cX12_layDays 78 = .ok (.iaload, 1) := d_by (d_at odX12_layDays ofX12_layDays 78) rfl
theorem dX12_layDays_79 : decode cX12_layDays 79 = .ok (.ifCond .ne 42, 3) := d_by (d_at odX12_layDays ofX12_layDays 79) rfl
theorem dX12_layDays_82 : decode cX12_layDays 82 = .ok (.aload_n 0, 1) := d_by (d_at odX12_layDays ofX12_layDays 82) rfl
theorem dX12_layDays_83 : decode cX12_layDays 83 = .ok (.getfield 38, 3) := d_by (d_at odX12_layDays ofX12_layDays 83) rfl
theorem dX12_layDays_86 : decode cX12_layDays 86 = .ok (.iload 6, 2) := d_by (d_at odX12_layDays ofX12_layDays 86) rfl
theorem dX12_layDays_88 : decode cX12_layDays 88 = .ok (.iaload, 1) := d_by (d_at odX12_layDays ofX12_layDays 88) rfl
theorem dX12_layDays_89 : decode cX12_layDays 89 = .ok (.ldc_w 341, 3) := d_by (d_at odX12_layDays ofX12_layDays 89) rfl
theorem dX12_layDays_92 : decode cX12_layDays 92 = .ok (.if_icmp .ge 29, 3) := d_by (d_at odX12_layDays ofX12_layDays 92) rfl
theorem dX12_layDays_95 : decode cX12_layDays 95 = .ok (.iload 5, 2) := d_by (d_at odX12_layDays ofX12_layDays 95) rfl
theorem dX12_layDays_97 : decode cX12_layDays 97 = .ok (.ifCond .lt 20, 3) := d_by (d_at odX12_layDays ofX12_layDays 97) rfl
theorem dX12_layDays_100 : decode cX12_layDays 100 = .ok (.aload_n 0, 1) := d_by (d_at odX12_layDays ofX12_layDays 100) rfl
theorem dX12_layDays_101 : decode cX12_layDays 101 = .ok (.getfield 38, 3) := d_by (d_at odX12_layDays ofX12_layDays 101) rfl
theorem dX12_layDays_104 : decode cX12_layDays 104 = .ok (.iload 6, 2) := d_by (d_at odX12_layDays ofX12_layDays 104) rfl
theorem dX12_layDays_106 : decode cX12_layDays 106 = .ok (.iaload, 1) := d_by (d_at odX12_layDays ofX12_layDays 106) rfl
theorem dX12_layDays_107 : decode cX12_layDays 107 = .ok (.aload_n 0, 1) := d_by (d_at odX12_layDays ofX12_layDays 107) rfl
theorem dX12_layDays_108 : decode cX12_layDays 108 = .ok (.getfield 38, 3) := d_by (d_at odX12_layDays ofX12_layDays 108) rfl
theorem dX12_layDays_111 : decode cX12_layDays 111 = .ok (.iload 5, 2) := d_by (d_at odX12_layDays ofX12_layDays 111) rfl
theorem dX12_layDays_113 : decode cX12_layDays 113 = .ok (.iaload, 1) := d_by (d_at odX12_layDays ofX12_layDays 113) rfl
theorem dX12_layDays_114 : decode cX12_layDays 114 = .ok (.if_icmp .ge 7, 3) := d_by (d_at odX12_layDays ofX12_layDays 114) rfl
theorem dX12_layDays_117 : decode cX12_layDays 117 = .ok (.iload 6, 2) := d_by (d_at odX12_layDays ofX12_layDays 117) rfl
theorem dX12_layDays_119 : decode cX12_layDays 119 = .ok (.istore 5, 2) := d_by (d_at odX12_layDays ofX12_layDays 119) rfl
theorem dX12_layDays_121 : decode cX12_layDays 121 = .ok (.iinc 6 1, 3) := d_by (d_at odX12_layDays ofX12_layDays 121) rfl
theorem dX12_layDays_124 : decode cX12_layDays 124 = .ok (.goto (-63), 3) := d_by (d_at odX12_layDays ofX12_layDays 124) rfl
theorem dX12_layDays_127 : decode cX12_layDays 127 = .ok (.iload 5, 2) := d_by (d_at odX12_layDays ofX12_layDays 127) rfl
theorem dX12_layDays_129 : decode cX12_layDays 129 = .ok (.ifCond .ge 4, 3) := d_by (d_at odX12_layDays ofX12_layDays 129) rfl
theorem dX12_layDays_132 : decode cX12_layDays 132 = .ok (.return_, 1) := d_by (d_at odX12_layDays ofX12_layDays 132) rfl
theorem dX12_layDays_133 : decode cX12_layDays 133 = .ok (.aload_n 0, 1) := d_by (d_at odX12_layDays ofX12_layDays 133) rfl
theorem dX12_layDays_134 : decode cX12_layDays 134 = .ok (.getfield 41, 3) := d_by (d_at odX12_layDays ofX12_layDays 134) rfl
theorem dX12_layDays_137 : decode cX12_layDays 137 = .ok (.iload 5, 2) := d_by (d_at odX12_layDays ofX12_layDays 137) rfl
theorem dX12_layDays_139 : decode cX12_layDays 139 = .ok (.iconst 1, 1) := d_by (d_at odX12_layDays ofX12_layDays 139) rfl
theorem dX12_layDays_140 : decode cX12_layDays 140 = .ok (.iastore, 1) := d_by (d_at odX12_layDays ofX12_layDays 140) rfl
theorem dX12_layDays_141 : decode cX12_layDays 141 = .ok (.iconst 0, 1) := d_by (d_at odX12_layDays ofX12_layDays 141) rfl
theorem dX12_layDays_142 : decode cX12_layDays 142 = .ok (.istore 6, 2) := d_by (d_at odX12_layDays ofX12_layDays 142) rfl
theorem dX12_layDays_144 : decode cX12_layDays 144 = .ok (.iload 6, 2) := d_by (d_at odX12_layDays ofX12_layDays 144) rfl
theorem dX12_layDays_146 : decode cX12_layDays 146 = .ok (.aload_n 0, 1) := d_by (d_at odX12_layDays ofX12_layDays 146) rfl
theorem dX12_layDays_147 : decode cX12_layDays 147 = .ok (.getfield 20, 3) := d_by (d_at odX12_layDays ofX12_layDays 147) rfl
theorem dX12_layDays_150 : decode cX12_layDays 150 = .ok (.iconst 5, 1) := d_by (d_at odX12_layDays ofX12_layDays 150) rfl
theorem dX12_layDays_151 : decode cX12_layDays 151 = .ok (.iaload, 1) := d_by (d_at odX12_layDays ofX12_layDays 151) rfl
theorem dX12_layDays_152 : decode cX12_layDays 152 = .ok (.if_icmp .ge 37, 3) := d_by (d_at odX12_layDays ofX12_layDays 152) rfl
theorem dX12_layDays_155 : decode cX12_layDays 155 = .ok (.iload_n 1, 1) := d_by (d_at odX12_layDays ofX12_layDays 155) rfl
theorem dX12_layDays_156 : decode cX12_layDays 156 = .ok (.ifCond .ne 9, 3) := d_by (d_at odX12_layDays ofX12_layDays 156) rfl
theorem dX12_layDays_159 : decode cX12_layDays 159 = .ok (.iload 5, 2) := d_by (d_at odX12_layDays ofX12_layDays 159) rfl
theorem dX12_layDays_161 : decode cX12_layDays 161 = .ok (.iload_n 2, 1) := d_by (d_at odX12_layDays ofX12_layDays 161) rfl
theorem dX12_layDays_162 : decode cX12_layDays 162 = .ok (.if_icmp .ne 27, 3) := d_by (d_at odX12_layDays ofX12_layDays 162) rfl
theorem dX12_layDays_165 : decode cX12_layDays 165 = .ok (.aload_n 0, 1) := d_by (d_at odX12_layDays ofX12_layDays 165) rfl
theorem dX12_layDays_166 : decode cX12_layDays 166 = .ok (.iload 6, 2) := d_by (d_at odX12_layDays ofX12_layDays 166) rfl
theorem dX12_layDays_168 : decode cX12_layDays 168 = .ok (.invokevirtual 302, 3) := d_by (d_at odX12_layDays ofX12_layDays 168) rfl
theorem dX12_layDays_171 : decode cX12_layDays 171 = .ok (.ifCond .ne 12, 3) := d_by (d_at odX12_layDays ofX12_layDays 171) rfl
theorem dX12_layDays_174 : decode cX12_layDays 174 = .ok (.aload_n 0, 1) := d_by (d_at odX12_layDays ofX12_layDays 174) rfl
theorem dX12_layDays_175 : decode cX12_layDays 175 = .ok (.iload 6, 2) := d_by (d_at odX12_layDays ofX12_layDays 175) rfl
theorem dX12_layDays_177 : decode cX12_layDays 177 = .ok (.iload_n 1, 1) := d_by (d_at odX12_layDays ofX12_layDays 177) rfl
theorem dX12_layDays_178 : decode cX12_layDays 178 = .ok (.iload 5, 2) := d_by (d_at odX12_layDays ofX12_layDays 178) rfl
theorem dX12_layDays_180 : decode cX12_layDays 180 = .ok (.invokevirtual 342, 3) := d_by (d_at odX12_layDays ofX12_layDays 180) rfl
theorem dX12_layDays_183 : decode cX12_layDays 183 = .ok (.iinc 6 1, 3) := d_by (d_at odX12_layDays ofX12_layDays 183) rfl
theorem dX12_layDays_186 : decode cX12_layDays 186 = .ok (.goto (-42), 3) := d_by (d_at odX12_layDays ofX12_layDays 186) rfl
theorem dX12_layDays_189 : decode cX12_layDays 189 = .ok (.iinc 4 1, 3) := d_by (d_at odX12_layDays ofX12_layDays 189) rfl
theorem dX12_layDays_192 : decode cX12_layDays 192 = .ok (.goto (-148), 3) := d_by (d_at odX12_layDays ofX12_layDays 192) rfl
theorem dX12_layDays_195 : decode cX12_layDays 195 = .ok (.return_, 1) := d_by (d_at odX12_layDays ofX12_layDays 195) rfl
set_option maxRecDepth 100000 in
def bX12_goesBy : List Nat := [42, 180, 0, 20, 16, 59, 7, 27, 104, 96, 46, 54, 4, 42, 180, 0, 20, 16, 59, 7, 27, 104, 96, 4, 96, 46, 54, 5, 21, 4, 29, 159, 0, 10, 21, 5, 29, 159, 0, 4, 177, 21, 4, 29, 160, 0, 8, 21, 5, 167, 0, 5, 21, 4, 54, 6, 42, 27, 28, 42, 180, 0, 38, 29, 46, 182, 1, 90, 54, 7, 21, 7, 42, 180, 0, 38, 21, 6, 46, 162, 0, 12, 42, 180, 0, 38, 21, 6, 21, 7, 79, 177]
set_option maxRecDepth 100000 in
theorem bbX12_goesBy : cX12_goesBy.data.toList.map UInt8.toNat = bX12_goesBy := by decide +kernel
set_option maxRecDepth 100000 in
def tX12_goesBy : Lean.RArray dLf := .branch 41 (.branch 20 (.branch 9 (.branch 6 (.branch 1 (.leaf (0, .aload_n 0, 1)) (.branch 4 (.leaf (1, .getfield 20, 3)) (.leaf (4, .bipush 59, 2)))) (.branch 7 (.leaf (6, .iconst 4, 1)) (.branch 8 (.leaf (7, .iload_n 1, 1)) (.leaf (8, .imul, 1))))) (.branch 13 (.branch 10 (.leaf (9, .iadd, 1)) (.branch 11 (.leaf (10, .iaload, 1)) (.leaf (11, .istore 4, 2)))) (.branch 17 (.branch 14 (.leaf (13, .aload_n 0, 1)) (.leaf (14, .getfield 20, 3))) (.branch 19 (.leaf (17, .bipush 59, 2)) (.leaf (19, .iconst 4, 1)))))) (.branch 28 (.branch 23 (.branch 21 (.leaf (20, .iload_n 1, 1)) (.branch 22 (.leaf (21, .imul, 1)) (.leaf (22, .iadd, 1)))) (.branch 25 (.branch 24 (.leaf (23, .iconst 1, 1)) (.leaf (24, .iadd, 1))) (.branch 26 (.leaf (25, .iaload, 1)) (.leaf (26, .istore 5, 2))))) (.branch 34 (.branch 30 (.leaf (28, .iload 4, 2)) (.branch 31 (.leaf (30, .iload_n 3, 1)) (.leaf (31, .if_icmp .eq 10, 3)))) (.branch 37 (.branch 36 (.leaf (34, .iload 5, 2)) (.leaf (36, .iload_n 3, 1))) (.branch 40 (.leaf (37, .if_icmp .eq 4, 3)) (.leaf (40, .return_, 1))))))) (.branch 65 (.branch 56 (.branch 47 (.branch 43 (.leaf (41, .iload 4, 2)) (.branch 44 (.leaf (43, .iload_n 3, 1)) (.leaf (44, .if_icmp .ne 8, 3)))) (.branch 52 (.branch 49 (.leaf (47, .iload 5, 2)) (.leaf (49, .goto 5, 3))) (.branch 54 (.leaf (52, .iload 4, 2)) (.leaf (54, .istore 6, 2))))) (.branch 59 (.branch 57 (.leaf (56, .aload_n 0, 1)) (.branch 58 (.leaf (57, .iload_n 1, 1)) (.leaf (58, .iload_n 2, 1)))) (.branch 63 (.branch 60 (.leaf (59, .aload_n 0, 1)) (.leaf (60, .getfield 38, 3))) (.branch 64 (.leaf (63, .iload_n 3, 1)) (.leaf (64, .iaload, 1)))))) (.branch 79 (.branch 72 (.branch 68 (.leaf (65, .invokevirtual 346, 3)) (.branch 70 (.leaf (68, .istore 7, 2)) (.leaf (70, .iload 7, 2)))) (.branch 76 (.branch 73 (.leaf (72, .aload_n 0, 1)) (.leaf (73, .getfield 38, 3))) (.branch 78 (.leaf (76, .iload 6, 2)) (.leaf (78, .iaload, 1))))) (.branch 86 (.branch 82 (.leaf (79, .if_icmp .ge 12, 3)) (.branch 83 (.leaf (82, .aload_n 0, 1)) (.leaf (83, .getfield 38, 3)))) (.branch 90 (.branch 88 (.leaf (86, .iload 6, 2)) (.leaf (88, .iload 7, 2))) (.branch 91 (.leaf (90, .iastore, 1)) (.leaf (91, .return_, 1)))))))
noncomputable def oX12_goesBy : List dLf := dFl tX12_goesBy
theorem ofX12_goesBy : dFl tX12_goesBy = oX12_goesBy := rfl
set_option maxRecDepth 100000 in
theorem odX12_goesBy : ∀ q ∈ oX12_goesBy, decode cX12_goesBy q.1 = .ok (q.2.1, q.2.2) := q_go qT_ok bbX12_goesBy oX12_goesBy 0 (by decide +kernel)
theorem dX12_goesBy_0 : decode cX12_goesBy 0 = .ok (.aload_n 0, 1) := d_by (d_at odX12_goesBy ofX12_goesBy 0) rfl
theorem dX12_goesBy_1 : decode cX12_goesBy 1 = .ok (.getfield 20, 3) := d_by (d_at odX12_goesBy ofX12_goesBy 1) rfl
theorem dX12_goesBy_4 : decode cX12_goesBy 4 = .ok (.bipush 59, 2) := d_by (d_at odX12_goesBy ofX12_goesBy 4) rfl
theorem dX12_goesBy_6 : decode cX12_goesBy 6 = .ok (.iconst 4, 1) := d_by (d_at odX12_goesBy ofX12_goesBy 6) rfl
theorem dX12_goesBy_7 : decode cX12_goesBy 7 = .ok (.iload_n 1, 1) := d_by (d_at odX12_goesBy ofX12_goesBy 7) rfl
theorem dX12_goesBy_8 : decode cX12_goesBy 8 = .ok (.imul, 1) := d_by (d_at odX12_goesBy ofX12_goesBy 8) rfl
theorem dX12_goesBy_9 : decode cX12_goesBy 9 = .ok (.iadd, 1) := d_by (d_at odX12_goesBy ofX12_goesBy 9) rfl
theorem dX12_goesBy_10 : decode cX12_goesBy 10 = .ok (.iaload, 1) := d_by (d_at odX12_goesBy ofX12_goesBy 10) rfl
theorem dX12_goesBy_11 : decode cX12_goesBy 11 = .ok (.istore 4, 2) := d_by (d_at odX12_goesBy ofX12_goesBy 11) rfl
theorem dX12_goesBy_13 : decode cX12_goesBy 13 = .ok (.aload_n 0, 1) := d_by (d_at odX12_goesBy ofX12_goesBy 13) rfl
theorem dX12_goesBy_14 : decode cX12_goesBy 14 = .ok (.getfield 20, 3) := d_by (d_at odX12_goesBy ofX12_goesBy 14) rfl
theorem dX12_goesBy_17 : decode cX12_goesBy 17 = .ok (.bipush 59, 2) := d_by (d_at odX12_goesBy ofX12_goesBy 17) rfl
theorem dX12_goesBy_19 : decode cX12_goesBy 19 = .ok (.iconst 4, 1) := d_by (d_at odX12_goesBy ofX12_goesBy 19) rfl
theorem dX12_goesBy_20 : decode cX12_goesBy 20 = .ok (.iload_n 1, 1) := d_by (d_at odX12_goesBy ofX12_goesBy 20) rfl
theorem dX12_goesBy_21 : decode cX12_goesBy 21 = .ok (.imul, 1) := d_by (d_at odX12_goesBy ofX12_goesBy 21) rfl
theorem dX12_goesBy_22 : decode cX12_goesBy 22 = .ok (.iadd, 1) := d_by (d_at odX12_goesBy ofX12_goesBy 22) rfl
theorem dX12_goesBy_23 : decode cX12_goesBy 23 = .ok (.iconst 1, 1) := d_by (d_at odX12_goesBy ofX12_goesBy 23) rfl
theorem dX12_goesBy_24 : decode cX12_goesBy 24 = .ok (.iadd, 1) := d_by (d_at odX12_goesBy ofX12_goesBy 24) rfl
theorem dX12_goesBy_25 : decode cX12_goesBy 25 = .ok (.iaload, 1) := d_by (d_at odX12_goesBy ofX12_goesBy 25) rfl
theorem dX12_goesBy_26 : decode cX12_goesBy 26 = .ok (.istore 5, 2) := d_by (d_at odX12_goesBy ofX12_goesBy 26) rfl
theorem dX12_goesBy_28 : decode cX12_goesBy 28 = .ok (.iload 4, 2) := d_by (d_at odX12_goesBy ofX12_goesBy 28) rfl
theorem dX12_goesBy_30 : decode cX12_goesBy 30 = .ok (.iload_n 3, 1) := d_by (d_at odX12_goesBy ofX12_goesBy 30) rfl
theorem dX12_goesBy_31 : decode cX12_goesBy 31 = .ok (.if_icmp .eq 10, 3) := d_by (d_at odX12_goesBy ofX12_goesBy 31) rfl
theorem dX12_goesBy_34 : decode cX12_goesBy 34 = .ok (.iload 5, 2) := d_by (d_at odX12_goesBy ofX12_goesBy 34) rfl
theorem dX12_goesBy_36 : decode cX12_goesBy 36 = .ok (.iload_n 3, 1) := d_by (d_at odX12_goesBy ofX12_goesBy 36) rfl
theorem dX12_goesBy_37 : decode cX12_goesBy 37 = .ok (.if_icmp .eq 4, 3) := d_by (d_at odX12_goesBy ofX12_goesBy 37) rfl
theorem dX12_goesBy_40 : decode cX12_goesBy 40 = .ok (.return_, 1) := d_by (d_at odX12_goesBy ofX12_goesBy 40) rfl
theorem dX12_goesBy_41 : decode cX12_goesBy 41 = .ok (.iload 4, 2) := d_by (d_at odX12_goesBy ofX12_goesBy 41) rfl
theorem dX12_goesBy_43 : decode cX12_goesBy 43 = .ok (.iload_n 3, 1) := d_by (d_at odX12_goesBy ofX12_goesBy 43) rfl
theorem dX12_goesBy_44 : decode cX12_goesBy 44 = .ok (.if_icmp .ne 8, 3) := d_by (d_at odX12_goesBy ofX12_goesBy 44) rfl
theorem dX12_goesBy_47 : decode cX12_goesBy 47 = .ok (.iload 5, 2) := d_by (d_at odX12_goesBy ofX12_goesBy 47) rfl
theorem dX12_goesBy_49 : decode cX12_goesBy 49 = .ok (.goto 5, 3) := d_by (d_at odX12_goesBy ofX12_goesBy 49) rfl
theorem dX12_goesBy_52 : decode cX12_goesBy 52 = .ok (.iload 4, 2) := d_by (d_at odX12_goesBy ofX12_goesBy 52) rfl
theorem dX12_goesBy_54 : decode cX12_goesBy 54 = .ok (.istore 6, 2) := d_by (d_at odX12_goesBy ofX12_goesBy 54) rfl
theorem dX12_goesBy_56 : decode cX12_goesBy 56 = .ok (.aload_n 0, 1) := d_by (d_at odX12_goesBy ofX12_goesBy 56) rfl
theorem dX12_goesBy_57 : decode cX12_goesBy 57 = .ok (.iload_n 1, 1) := d_by (d_at odX12_goesBy ofX12_goesBy 57) rfl
theorem dX12_goesBy_58 : decode cX12_goesBy 58 = .ok (.iload_n 2, 1) := d_by (d_at odX12_goesBy ofX12_goesBy 58) rfl
theorem dX12_goesBy_59 : decode cX12_goesBy 59 = .ok (.aload_n 0, 1) := d_by (d_at odX12_goesBy ofX12_goesBy 59) rfl
theorem dX12_goesBy_60 : decode cX12_goesBy 60 = .ok (.getfield 38, 3) := d_by (d_at odX12_goesBy ofX12_goesBy 60) rfl
theorem dX12_goesBy_63 : decode cX12_goesBy 63 = .ok (.iload_n 3, 1) := d_by (d_at odX12_goesBy ofX12_goesBy 63) rfl
theorem dX12_goesBy_64 : decode cX12_goesBy 64 = .ok (.iaload, 1) := d_by (d_at odX12_goesBy ofX12_goesBy 64) rfl
theorem dX12_goesBy_65 : decode cX12_goesBy 65 = .ok (.invokevirtual 346, 3) := d_by (d_at odX12_goesBy ofX12_goesBy 65) rfl
theorem dX12_goesBy_68 : decode cX12_goesBy 68 = .ok (.istore 7, 2) := d_by (d_at odX12_goesBy ofX12_goesBy 68) rfl
theorem dX12_goesBy_70 : decode cX12_goesBy 70 = .ok (.iload 7, 2) := d_by (d_at odX12_goesBy ofX12_goesBy 70) rfl
theorem dX12_goesBy_72 : decode cX12_goesBy 72 = .ok (.aload_n 0, 1) := d_by (d_at odX12_goesBy ofX12_goesBy 72) rfl
theorem dX12_goesBy_73 : decode cX12_goesBy 73 = .ok (.getfield 38, 3) := d_by (d_at odX12_goesBy ofX12_goesBy 73) rfl
theorem dX12_goesBy_76 : decode cX12_goesBy 76 = .ok (.iload 6, 2) := d_by (d_at odX12_goesBy ofX12_goesBy 76) rfl
theorem dX12_goesBy_78 : decode cX12_goesBy 78 = .ok (.iaload, 1) := d_by (d_at odX12_goesBy ofX12_goesBy 78) rfl
theorem dX12_goesBy_79 : decode cX12_goesBy 79 = .ok (.if_icmp .ge 12, 3) := d_by (d_at odX12_goesBy ofX12_goesBy 79) rfl
theorem dX12_goesBy_82 : decode cX12_goesBy 82 = .ok (.aload_n 0, 1) := d_by (d_at odX12_goesBy ofX12_goesBy 82) rfl
theorem dX12_goesBy_83 : decode cX12_goesBy 83 = .ok (.getfield 38, 3) := d_by (d_at odX12_goesBy ofX12_goesBy 83) rfl
theorem dX12_goesBy_86 : decode cX12_goesBy 86 = .ok (.iload 6, 2) := d_by (d_at odX12_goesBy ofX12_goesBy 86) rfl
theorem dX12_goesBy_88 : decode cX12_goesBy 88 = .ok (.iload 7, 2) := d_by (d_at odX12_goesBy ofX12_goesBy 88) rfl
theorem dX12_goesBy_90 : decode cX12_goesBy 90 = .ok (.iastore, 1) := d_by (d_at odX12_goesBy ofX12_goesBy 90) rfl
theorem dX12_goesBy_91 : decode cX12_goesBy 91 = .ok (.return_, 1) := d_by (d_at odX12_goesBy ofX12_goesBy 91) rfl
set_option maxRecDepth 100000 in
def bX12_arrivalOf : List Nat := [42, 27, 28, 21, 4, 182, 1, 93, 42, 180, 0, 38, 29, 46, 19, 1, 85, 160, 0, 8, 16, 254, 167, 0, 9, 42, 180, 0, 38, 29, 46, 172]
set_option maxRecDepth 100000 in
theorem bbX12_arrivalOf : cX12_arrivalOf.data.toList.map UInt8.toNat = bX12_arrivalOf := by decide +kernel
set_option maxRecDepth 100000 in
def tX12_arrivalOf : Lean.RArray dLf := .branch 14 (.branch 5 (.branch 2 (.branch 1 (.leaf (0, .aload_n 0, 1)) (.leaf (1, .iload_n 1, 1))) (.branch 3 (.leaf (2, .iload_n 2, 1)) (.leaf (3, .iload 4, 2)))) (.branch 9 (.branch 8 (.leaf (5, .invokevirtual 349, 3)) (.leaf (8, .aload_n 0, 1))) (.branch 12 (.leaf (9, .getfield 38, 3)) (.branch 13 (.leaf (12, .iload_n 3, 1)) (.leaf (13, .iaload, 1)))))) (.branch 25 (.branch 20 (.branch 17 (.leaf (14, .ldc_w 341, 3)) (.leaf (17, .if_icmp .ne 8, 3))) (.branch 22 (.leaf (20, .bipush (-2), 2)) (.leaf (22, .goto 9, 3)))) (.branch 29 (.branch 26 (.leaf (25, .aload_n 0, 1)) (.leaf (26, .getfield 38, 3))) (.branch 30 (.leaf (29, .iload_n 3, 1)) (.branch 31 (.leaf (30, .iaload, 1)) (.leaf (31, .ireturn, 1))))))
noncomputable def oX12_arrivalOf : List dLf := dFl tX12_arrivalOf
theorem ofX12_arrivalOf : dFl tX12_arrivalOf = oX12_arrivalOf := rfl
set_option maxRecDepth 100000 in
theorem odX12_arrivalOf : ∀ q ∈ oX12_arrivalOf, decode cX12_arrivalOf q.1 = .ok (q.2.1, q.2.2) := q_go qT_ok bbX12_arrivalOf oX12_arrivalOf 0 (by decide +kernel)
theorem dX12_arrivalOf_0 : decode cX12_arrivalOf 0 = .ok (.aload_n 0, 1) := d_by (d_at odX12_arrivalOf ofX12_arrivalOf 0) rfl
theorem dX12_arrivalOf_1 : decode cX12_arrivalOf 1 = .ok (.iload_n 1, 1) := d_by (d_at odX12_arrivalOf ofX12_arrivalOf 1) rfl
theorem dX12_arrivalOf_2 : decode cX12_arrivalOf 2 = .ok (.iload_n 2, 1) := d_by (d_at odX12_arrivalOf ofX12_arrivalOf 2) rfl
theorem dX12_arrivalOf_3 : decode cX12_arrivalOf 3 = .ok (.iload 4, 2) := d_by (d_at odX12_arrivalOf ofX12_arrivalOf 3) rfl
theorem dX12_arrivalOf_5 : decode cX12_arrivalOf 5 = .ok (.invokevirtual 349, 3) := d_by (d_at odX12_arrivalOf ofX12_arrivalOf 5) rfl
theorem dX12_arrivalOf_8 : decode cX12_arrivalOf 8 = .ok (.aload_n 0, 1) := d_by (d_at odX12_arrivalOf ofX12_arrivalOf 8) rfl
theorem dX12_arrivalOf_9 : decode cX12_arrivalOf 9 = .ok (.getfield 38, 3) := d_by (d_at odX12_arrivalOf ofX12_arrivalOf 9) rfl
theorem dX12_arrivalOf_12 : decode cX12_arrivalOf 12 = .ok (.iload_n 3, 1) := d_by (d_at odX12_arrivalOf ofX12_arrivalOf 12) rfl
theorem dX12_arrivalOf_13 : decode cX12_arrivalOf 13 = .ok (.iaload, 1) := d_by (d_at odX12_arrivalOf ofX12_arrivalOf 13) rfl
theorem dX12_arrivalOf_14 : decode cX12_arrivalOf 14 = .ok (.ldc_w 341, 3) := d_by (d_at odX12_arrivalOf ofX12_arrivalOf 14) rfl
theorem dX12_arrivalOf_17 : decode cX12_arrivalOf 17 = .ok (.if_icmp .ne 8, 3) := d_by (d_at odX12_arrivalOf ofX12_arrivalOf 17) rfl
theorem dX12_arrivalOf_20 : decode cX12_arrivalOf 20 = .ok (.bipush (-2), 2) := d_by (d_at odX12_arrivalOf ofX12_arrivalOf 20) rfl
theorem dX12_arrivalOf_22 : decode cX12_arrivalOf 22 = .ok (.goto 9, 3) := d_by (d_at odX12_arrivalOf ofX12_arrivalOf 22) rfl
theorem dX12_arrivalOf_25 : decode cX12_arrivalOf 25 = .ok (.aload_n 0, 1) := d_by (d_at odX12_arrivalOf ofX12_arrivalOf 25) rfl
theorem dX12_arrivalOf_26 : decode cX12_arrivalOf 26 = .ok (.getfield 38, 3) := d_by (d_at odX12_arrivalOf ofX12_arrivalOf 26) rfl
theorem dX12_arrivalOf_29 : decode cX12_arrivalOf 29 = .ok (.iload_n 3, 1) := d_by (d_at odX12_arrivalOf ofX12_arrivalOf 29) rfl
theorem dX12_arrivalOf_30 : decode cX12_arrivalOf 30 = .ok (.iaload, 1) := d_by (d_at odX12_arrivalOf ofX12_arrivalOf 30) rfl
theorem dX12_arrivalOf_31 : decode cX12_arrivalOf 31 = .ok (.ireturn, 1) := d_by (d_at odX12_arrivalOf ofX12_arrivalOf 31) rfl
set_option maxRecDepth 100000 in
def bX12_arrival : List Nat := [42, 182, 0, 167, 42, 27, 182, 1, 12, 153, 0, 19, 42, 28, 182, 1, 21, 153, 0, 11, 42, 29, 182, 1, 21, 154, 0, 9, 42, 4, 182, 0, 170, 172, 21, 4, 3, 17, 39, 15, 184, 0, 149, 153, 0, 20, 42, 42, 27, 3, 182, 1, 15, 28, 29, 21, 4, 182, 1, 96, 167, 0, 8, 42, 5, 182, 0, 170, 172]
set_option maxRecDepth 100000 in
theorem bbX12_arrival : cX12_arrival.data.toList.map UInt8.toNat = bX12_arrival := by decide +kernel
set_option maxRecDepth 100000 in
def tX12_arrival : Lean.RArray dLf := .branch 34 (.branch 17 (.branch 6 (.branch 4 (.branch 1 (.leaf (0, .aload_n 0, 1)) (.leaf (1, .invokevirtual 167, 3))) (.branch 5 (.leaf (4, .aload_n 0, 1)) (.leaf (5, .iload_n 1, 1)))) (.branch 12 (.branch 9 (.leaf (6, .invokevirtual 268, 3)) (.leaf (9, .ifCond .eq 19, 3))) (.branch 13 (.leaf (12, .aload_n 0, 1)) (.branch 14 (.leaf (13, .iload_n 2, 1)) (.leaf (14, .invokevirtual 277, 3)))))) (.branch 25 (.branch 21 (.branch 20 (.leaf (17, .ifCond .eq 11, 3)) (.leaf (20, .aload_n 0, 1))) (.branch 22 (.leaf (21, .iload_n 3, 1)) (.leaf (22, .invokevirtual 277, 3)))) (.branch 29 (.branch 28 (.leaf (25, .ifCond .ne 9, 3)) (.leaf (28, .aload_n 0, 1))) (.branch 30 (.leaf (29, .iconst 1, 1)) (.branch 33 (.leaf (30, .invokevirtual 170, 3)) (.leaf (33, .ireturn, 1))))))) (.branch 50 (.branch 43 (.branch 37 (.branch 36 (.leaf (34, .iload 4, 2)) (.leaf (36, .iconst 0, 1))) (.branch 40 (.leaf (37, .sipush 9999, 3)) (.leaf (40, .invokestatic 149, 3)))) (.branch 47 (.branch 46 (.leaf (43, .ifCond .eq 20, 3)) (.leaf (46, .aload_n 0, 1))) (.branch 48 (.leaf (47, .aload_n 0, 1)) (.branch 49 (.leaf (48, .iload_n 1, 1)) (.leaf (49, .iconst 0, 1)))))) (.branch 60 (.branch 54 (.branch 53 (.leaf (50, .invokevirtual 271, 3)) (.leaf (53, .iload_n 2, 1))) (.branch 55 (.leaf (54, .iload_n 3, 1)) (.branch 57 (.leaf (55, .iload 4, 2)) (.leaf (57, .invokevirtual 352, 3))))) (.branch 64 (.branch 63 (.leaf (60, .goto 8, 3)) (.leaf (63, .aload_n 0, 1))) (.branch 65 (.leaf (64, .iconst 2, 1)) (.branch 68 (.leaf (65, .invokevirtual 170, 3)) (.leaf (68, .ireturn, 1)))))))
noncomputable def oX12_arrival : List dLf := dFl tX12_arrival
theorem ofX12_arrival : dFl tX12_arrival = oX12_arrival := rfl
set_option maxRecDepth 100000 in
theorem odX12_arrival : ∀ q ∈ oX12_arrival, decode cX12_arrival q.1 = .ok (q.2.1, q.2.2) := q_go qT_ok bbX12_arrival oX12_arrival 0 (by decide +kernel)
set_option maxRecDepth 100000 in
def bX12_lays : List Nat := [42, 27, 3, 182, 1, 15, 62, 29, 154, 0, 7, 6, 167, 0, 15, 29, 5, 160, 0, 8, 16, 99, 167, 0, 5, 16, 9, 54, 4, 42, 28, 182, 1, 39, 54, 5, 42, 28, 5, 182, 1, 6, 21, 4, 163, 0, 20, 42, 180, 0, 26, 16, 12, 28, 96, 46, 157, 0, 8, 21, 5, 156, 0, 5, 3, 172, 42, 29, 42, 180, 0, 26, 5, 27, 96, 46, 42, 28, 3, 182, 1, 6, 42, 180, 0, 26, 16, 7, 27, 96, 46, 182, 1, 96, 54, 6, 21, 6, 156, 0, 5, 3, 172, 42, 21, 6, 42, 28, 6, 182, 1, 6, 184, 1, 99, 181, 1, 102, 42, 42, 29, 42, 28, 3, 182, 1, 6, 21, 5, 42, 180, 1, 102, 182, 1, 96, 181, 1, 105, 42, 180, 1, 105, 155, 0, 7, 4, 167, 0, 4, 3, 172]
set_option maxRecDepth 100000 in
theorem bbX12_lays : cX12_lays.data.toList.map UInt8.toNat = bX12_lays := by decide +kernel
set_option maxRecDepth 100000 in
def tX12_lays : Lean.RArray dLf := .branch 75 (.branch 38 (.branch 17 (.branch 7 (.branch 2 (.branch 1 (.leaf (0, .aload_n 0, 1)) (.leaf (1, .iload_n 1, 1))) (.branch 3 (.leaf (2, .iconst 0, 1)) (.branch 6 (.leaf (3, .invokevirtual 271, 3)) (.leaf (6, .istore_n 3, 1))))) (.branch 12 (.branch 8 (.leaf (7, .iload_n 3, 1)) (.branch 11 (.leaf (8, .ifCond .ne 7, 3)) (.leaf (11, .iconst 3, 1)))) (.branch 15 (.leaf (12, .goto 15, 3)) (.branch 16 (.leaf (15, .iload_n 3, 1)) (.leaf (16, .iconst 2, 1)))))) (.branch 29 (.branch 22 (.branch 20 (.leaf (17, .if_icmp .ne 8, 3)) (.leaf (20, .bipush 99, 2))) (.branch 25 (.leaf (22, .goto 5, 3)) (.branch 27 (.leaf (25, .bipush 9, 2)) (.leaf (27, .istore 4, 2))))) (.branch 34 (.branch 30 (.leaf (29, .aload_n 0, 1)) (.branch 31 (.leaf (30, .iload_n 2, 1)) (.leaf (31, .invokevirtual 295, 3)))) (.branch 36 (.leaf (34, .istore 5, 2)) (.branch 37 (.leaf (36, .aload_n 0, 1)) (.leaf (37, .iload_n 2, 1))))))) (.branch 59 (.branch 48 (.branch 42 (.branch 39 (.leaf (38, .iconst 2, 1)) (.leaf (39, .invokevirtual 262, 3))) (.branch 44 (.leaf (42, .iload 4, 2)) (.branch 47 (.leaf (44, .if_icmp .gt 20, 3)) (.leaf (47, .aload_n 0, 1))))) (.branch 54 (.branch 51 (.leaf (48, .getfield 26, 3)) (.branch 53 (.leaf (51, .bipush 12, 2)) (.leaf (53, .iload_n 2, 1)))) (.branch 55 (.leaf (54, .iadd, 1)) (.branch 56 (.leaf (55, .iaload, 1)) (.leaf (56, .ifCond .gt 8, 3)))))) (.branch 67 (.branch 64 (.branch 61 (.leaf (59, .iload 5, 2)) (.leaf (61, .ifCond .ge 5, 3))) (.branch 65 (.leaf (64, .iconst 0, 1)) (.branch 66 (.leaf (65, .ireturn, 1)) (.leaf (66, .aload_n 0, 1))))) (.branch 72 (.branch 68 (.leaf (67, .iload_n 3, 1)) (.branch 69 (.leaf (68, .aload_n 0, 1)) (.leaf (69, .getfield 26, 3)))) (.branch 73 (.leaf (72, .iconst 2, 1)) (.branch 74 (.leaf (73, .iload_n 1, 1)) (.leaf (74, .iadd, 1)))))))) (.branch 109 (.branch 91 (.branch 82 (.branch 77 (.branch 76 (.leaf (75, .iaload, 1)) (.leaf (76, .aload_n 0, 1))) (.branch 78 (.leaf (77, .iload_n 2, 1)) (.branch 79 (.leaf (78, .iconst 0, 1)) (.leaf (79, .invokevirtual 262, 3))))) (.branch 88 (.branch 83 (.leaf (82, .aload_n 0, 1)) (.branch 86 (.leaf (83, .getfield 26, 3)) (.leaf (86, .bipush 7, 2)))) (.branch 89 (.leaf (88, .iload_n 1, 1)) (.branch 90 (.leaf (89, .iadd, 1)) (.leaf (90, .iaload, 1)))))) (.branch 102 (.branch 96 (.branch 94 (.leaf (91, .invokevirtual 352, 3)) (.leaf (94, .istore 6, 2))) (.branch 98 (.leaf (96, .iload 6, 2)) (.branch 101 (.leaf (98, .ifCond .ge 5, 3)) (.leaf (101, .iconst 0, 1))))) (.branch 106 (.branch 103 (.leaf (102, .ireturn, 1)) (.branch 104 (.leaf (103, .aload_n 0, 1)) (.leaf (104, .iload 6, 2)))) (.branch 107 (.leaf (106, .aload_n 0, 1)) (.branch 108 (.leaf (107, .iload_n 2, 1)) (.leaf (108, .iconst 3, 1))))))) (.branch 129 (.branch 120 (.branch 115 (.branch 112 (.leaf (109, .invokevirtual 262, 3)) (.leaf (112, .invokestatic 355, 3))) (.branch 118 (.leaf (115, .putfield 358, 3)) (.branch 119 (.leaf (118, .aload_n 0, 1)) (.leaf (119, .aload_n 0, 1))))) (.branch 123 (.branch 121 (.leaf (120, .iload_n 3, 1)) (.branch 122 (.leaf (121, .aload_n 0, 1)) (.leaf (122, .iload_n 2, 1)))) (.branch 124 (.leaf (123, .iconst 0, 1)) (.branch 127 (.leaf (124, .invokevirtual 262, 3)) (.leaf (127, .iload 5, 2)))))) (.branch 140 (.branch 133 (.branch 130 (.leaf (129, .aload_n 0, 1)) (.leaf (130, .getfield 358, 3))) (.branch 136 (.leaf (133, .invokevirtual 352, 3)) (.branch 139 (.leaf (136, .putfield 361, 3)) (.leaf (139, .aload_n 0, 1))))) (.branch 147 (.branch 143 (.leaf (140, .getfield 361, 3)) (.branch 146 (.leaf (143, .ifCond .lt 7, 3)) (.leaf (146, .iconst 1, 1)))) (.branch 150 (.leaf (147, .goto 4, 3)) (.branch 151 (.leaf (150, .iconst 0, 1)) (.leaf (151, .ireturn, 1))))))))
noncomputable def oX12_lays : List dLf := dFl tX12_lays
theorem ofX12_lays : dFl tX12_lays = oX12_lays := rfl
set_option maxRecDepth 100000 in
theorem odX12_lays : ∀ q ∈ oX12_lays, decode cX12_lays q.1 = .ok (q.2.1, q.2.2) := q_go qT_ok bbX12_lays oX12_lays 0 (by decide +kernel)
theorem dX12_lays_0 : decode cX12_lays 0 = .ok (.aload_n 0, 1) := d_by (d_at odX12_lays ofX12_lays 0) rfl
theorem dX12_lays_1 : decode cX12_lays 1 = .ok (.iload_n 1, 1) := d_by (d_at odX12_lays ofX12_lays 1) rfl
theorem dX12_lays_2 : decode cX12_lays 2 = .ok (.iconst 0, 1) := d_by (d_at odX12_lays ofX12_lays 2) rfl
theorem dX12_lays_3 : decode cX12_lays 3 = .ok (.invokevirtual 271, 3) := d_by (d_at odX12_lays ofX12_lays 3) rfl
theorem dX12_lays_6 : decode cX12_lays 6 = .ok (.istore_n 3, 1) := d_by (d_at odX12_lays ofX12_lays 6) rfl
theorem dX12_lays_7 : decode cX12_lays 7 = .ok (.iload_n 3, 1) := d_by (d_at odX12_lays ofX12_lays 7) rfl
theorem dX12_lays_8 : decode cX12_lays 8 = .ok (.ifCond .ne 7, 3) := d_by (d_at odX12_lays ofX12_lays 8) rfl
theorem dX12_lays_11 : decode cX12_lays 11 = .ok (.iconst 3, 1) := d_by (d_at odX12_lays ofX12_lays 11) rfl
theorem dX12_lays_12 : decode cX12_lays 12 = .ok (.goto 15, 3) := d_by (d_at odX12_lays ofX12_lays 12) rfl
theorem dX12_lays_15 : decode cX12_lays 15 = .ok (.iload_n 3, 1) := d_by (d_at odX12_lays ofX12_lays 15) rfl
theorem dX12_lays_16 : decode cX12_lays 16 = .ok (.iconst 2, 1) := d_by (d_at odX12_lays ofX12_lays 16) rfl
theorem dX12_lays_17 : decode cX12_lays 17 = .ok (.if_icmp .ne 8, 3) := d_by (d_at odX12_lays ofX12_lays 17) rfl
theorem dX12_lays_20 : decode cX12_lays 20 = .ok (.bipush 99, 2) := d_by (d_at odX12_lays ofX12_lays 20) rfl
theorem dX12_lays_22 : decode cX12_lays 22 = .ok (.goto 5, 3) := d_by (d_at odX12_lays ofX12_lays 22) rfl
theorem dX12_lays_25 : decode cX12_lays 25 = .ok (.bipush 9, 2) := d_by (d_at odX12_lays ofX12_lays 25) rfl
theorem dX12_lays_27 : decode cX12_lays 27 = .ok (.istore 4, 2) := d_by (d_at odX12_lays ofX12_lays 27) rfl
theorem dX12_lays_29 : decode cX12_lays 29 = .ok (.aload_n 0, 1) := d_by (d_at odX12_lays ofX12_lays 29) rfl
theorem dX12_lays_30 : decode cX12_lays 30 = .ok (.iload_n 2, 1) := d_by (d_at odX12_lays ofX12_lays 30) rfl
theorem dX12_lays_31 : decode cX12_lays 31 = .ok (.invokevirtual 295, 3) := d_by (d_at odX12_lays ofX12_lays 31) rfl
theorem dX12_lays_34 : decode cX12_lays 34 = .ok (.istore 5, 2) := d_by (d_at odX12_lays ofX12_lays 34) rfl
theorem dX12_lays_36 : decode cX12_lays 36 = .ok (.aload_n 0, 1) := d_by (d_at odX12_lays ofX12_lays 36) rfl
theorem dX12_lays_37 : decode cX12_lays 37 = .ok (.iload_n 2, 1) := d_by (d_at odX12_lays ofX12_lays 37) rfl
theorem dX12_lays_38 : decode cX12_lays 38 = .ok (.iconst 2, 1) := d_by (d_at odX12_lays ofX12_lays 38) rfl
theorem dX12_lays_39 : decode cX12_lays 39 = .ok (.invokevirtual 262, 3) := d_by (d_at odX12_lays ofX12_lays 39) rfl
theorem dX12_lays_42 : decode cX12_lays 42 = .ok (.iload 4, 2) := d_by (d_at odX12_lays ofX12_lays 42) rfl
theorem dX12_lays_44 : decode cX12_lays 44 = .ok (.if_icmp .gt 20, 3) := d_by (d_at odX12_lays ofX12_lays 44) rfl
theorem dX12_lays_47 : decode cX12_lays 47 = .ok (.aload_n 0, 1) := d_by (d_at odX12_lays ofX12_lays 47) rfl
theorem dX12_lays_48 : decode cX12_lays 48 = .ok (.getfield 26, 3) := d_by (d_at odX12_lays ofX12_lays 48) rfl
theorem dX12_lays_51 : decode cX12_lays 51 = .ok (.bipush 12, 2) := d_by (d_at odX12_lays ofX12_lays 51) rfl
theorem dX12_lays_53 : decode cX12_lays 53 = .ok (.iload_n 2, 1) := d_by (d_at odX12_lays ofX12_lays 53) rfl
theorem dX12_lays_54 : decode cX12_lays 54 = .ok (.iadd, 1) := d_by (d_at odX12_lays ofX12_lays 54) rfl
theorem dX12_lays_55 : decode cX12_lays 55 = .ok (.iaload, 1) := d_by (d_at odX12_lays ofX12_lays 55) rfl
theorem dX12_lays_56 : decode cX12_lays 56 = .ok (.ifCond .gt 8, 3) := d_by (d_at odX12_lays ofX12_lays 56) rfl
theorem dX12_lays_59 : decode cX12_lays 59 = .ok (.iload 5, 2) := d_by (d_at odX12_lays ofX12_lays 59) rfl
theorem dX12_lays_61 : decode cX12_lays 61 = .ok (.ifCond .ge 5, 3) := d_by (d_at odX12_lays ofX12_lays 61) rfl
theorem dX12_lays_64 : decode cX12_lays 64 = .ok (.iconst 0, 1) := d_by (d_at odX12_lays ofX12_lays 64) rfl
theorem dX12_lays_65 : decode cX12_lays 65 = .ok (.ireturn, 1) := d_by (d_at odX12_lays ofX12_lays 65) rfl
theorem dX12_lays_66 : decode cX12_lays 66 = .ok (.aload_n 0, 1) := d_by (d_at odX12_lays ofX12_lays 66) rfl
theorem dX12_lays_67 : decode cX12_lays 67 = .ok (.iload_n 3, 1) := d_by (d_at odX12_lays ofX12_lays 67) rfl
theorem dX12_lays_68 : decode cX12_lays 68 = .ok (.aload_n 0, 1) := d_by (d_at odX12_lays ofX12_lays 68) rfl
theorem dX12_lays_69 : decode cX12_lays 69 = .ok (.getfield 26, 3) := d_by (d_at odX12_lays ofX12_lays 69) rfl
theorem dX12_lays_72 : decode cX12_lays 72 = .ok (.iconst 2, 1) := d_by (d_at odX12_lays ofX12_lays 72) rfl
theorem dX12_lays_73 : decode cX12_lays 73 = .ok (.iload_n 1, 1) := d_by (d_at odX12_lays ofX12_lays 73) rfl
theorem dX12_lays_74 : decode cX12_lays 74 = .ok (.iadd, 1) := d_by (d_at odX12_lays ofX12_lays 74) rfl
theorem dX12_lays_75 : decode cX12_lays 75 = .ok (.iaload, 1) := d_by (d_at odX12_lays ofX12_lays 75) rfl
theorem dX12_lays_76 : decode cX12_lays 76 = .ok (.aload_n 0, 1) := d_by (d_at odX12_lays ofX12_lays 76) rfl
theorem dX12_lays_77 : decode cX12_lays 77 = .ok (.iload_n 2, 1) := d_by (d_at odX12_lays ofX12_lays 77) rfl
theorem dX12_lays_78 : decode cX12_lays 78 = .ok (.iconst 0, 1) := d_by (d_at odX12_lays ofX12_lays 78) rfl
theorem dX12_lays_79 : decode cX12_lays 79 = .ok (.invokevirtual 262, 3) := d_by (d_at odX12_lays ofX12_lays 79) rfl
theorem dX12_lays_82 : decode cX12_lays 82 = .ok (.aload_n 0, 1) := d_by (d_at odX12_lays ofX12_lays 82) rfl
theorem dX12_lays_83 : decode cX12_lays 83 = .ok (.getfield 26, 3) := d_by (d_at odX12_lays ofX12_lays 83) rfl
theorem dX12_lays_86 : decode cX12_lays 86 = .ok (.bipush 7, 2) := d_by (d_at odX12_lays ofX12_lays 86) rfl
theorem dX12_lays_88 : decode cX12_lays 88 = .ok (.iload_n 1, 1) := d_by (d_at odX12_lays ofX12_lays 88) rfl
theorem dX12_lays_89 : decode cX12_lays 89 = .ok (.iadd, 1) := d_by (d_at odX12_lays ofX12_lays 89) rfl
theorem dX12_lays_90 : decode cX12_lays 90 = .ok (.iaload, 1) := d_by (d_at odX12_lays ofX12_lays 90) rfl
theorem dX12_lays_91 : decode cX12_lays 91 = .ok (.invokevirtual 352, 3) := d_by (d_at odX12_lays ofX12_lays 91) rfl
theorem dX12_lays_94 : decode cX12_lays 94 = .ok (.istore 6, 2) := d_by (d_at odX12_lays ofX12_lays 94) rfl
theorem dX12_lays_96 : decode cX12_lays 96 = .ok (.iload 6, 2) := d_by (d_at odX12_lays ofX12_lays 96) rfl
theorem dX12_lays_98 : decode cX12_lays 98 = .ok (.ifCond .ge 5, 3) := d_by (d_at odX12_lays ofX12_lays 98) rfl
theorem dX12_lays_101 : decode cX12_lays 101 = .ok (.iconst 0, 1) := d_by (d_at odX12_lays ofX12_lays 101) rfl
theorem dX12_lays_102 : decode cX12_lays 102 = .ok (.ireturn, 1) := d_by (d_at odX12_lays ofX12_lays 102) rfl
theorem dX12_lays_103 : decode cX12_lays 103 = .ok (.aload_n 0, 1) := d_by (d_at odX12_lays ofX12_lays 103) rfl
theorem dX12_lays_104 : decode cX12_lays 104 = .ok (.iload 6, 2) := d_by (d_at odX12_lays ofX12_lays 104) rfl
theorem dX12_lays_106 : decode cX12_lays 106 = .ok (.aload_n 0, 1) := d_by (d_at odX12_lays ofX12_lays 106) rfl
theorem dX12_lays_107 : decode cX12_lays 107 = .ok (.iload_n 2, 1) := d_by (d_at odX12_lays ofX12_lays 107) rfl
theorem dX12_lays_108 : decode cX12_lays 108 = .ok (.iconst 3, 1) := d_by (d_at odX12_lays ofX12_lays 108) rfl
theorem dX12_lays_109 : decode cX12_lays 109 = .ok (.invokevirtual 262, 3) := d_by (d_at odX12_lays ofX12_lays 109) rfl
theorem dX12_lays_112 : decode cX12_lays 112 = .ok (.invokestatic 355, 3) := d_by (d_at odX12_lays ofX12_lays 112) rfl
theorem dX12_lays_115 : decode cX12_lays 115 = .ok (.putfield 358, 3) := d_by (d_at odX12_lays ofX12_lays 115) rfl
theorem dX12_lays_118 : decode cX12_lays 118 = .ok (.aload_n 0, 1) := d_by (d_at odX12_lays ofX12_lays 118) rfl
theorem dX12_lays_119 : decode cX12_lays 119 = .ok (.aload_n 0, 1) := d_by (d_at odX12_lays ofX12_lays 119) rfl
theorem dX12_lays_120 : decode cX12_lays 120 = .ok (.iload_n 3, 1) := d_by (d_at odX12_lays ofX12_lays 120) rfl
theorem dX12_lays_121 : decode cX12_lays 121 = .ok (.aload_n 0, 1) := d_by (d_at odX12_lays ofX12_lays 121) rfl
theorem dX12_lays_122 : decode cX12_lays 122 = .ok (.iload_n 2, 1) := d_by (d_at odX12_lays ofX12_lays 122) rfl
theorem dX12_lays_123 : decode cX12_lays 123 = .ok (.iconst 0, 1) := d_by (d_at odX12_lays ofX12_lays 123) rfl
theorem dX12_lays_124 : decode cX12_lays 124 = .ok (.invokevirtual 262, 3) := d_by (d_at odX12_lays ofX12_lays 124) rfl
theorem dX12_lays_127 : decode cX12_lays 127 = .ok (.iload 5, 2) := d_by (d_at odX12_lays ofX12_lays 127) rfl
theorem dX12_lays_129 : decode cX12_lays 129 = .ok (.aload_n 0, 1) := d_by (d_at odX12_lays ofX12_lays 129) rfl
theorem dX12_lays_130 : decode cX12_lays 130 = .ok (.getfield 358, 3) := d_by (d_at odX12_lays ofX12_lays 130) rfl
theorem dX12_lays_133 : decode cX12_lays 133 = .ok (.invokevirtual 352, 3) := d_by (d_at odX12_lays ofX12_lays 133) rfl
theorem dX12_lays_136 : decode cX12_lays 136 = .ok (.putfield 361, 3) := d_by (d_at odX12_lays ofX12_lays 136) rfl
theorem dX12_lays_139 : decode cX12_lays 139 = .ok (.aload_n 0, 1) := d_by (d_at odX12_lays ofX12_lays 139) rfl
theorem dX12_lays_140 : decode cX12_lays 140 = .ok (.getfield 361, 3) := d_by (d_at odX12_lays ofX12_lays 140) rfl
theorem dX12_lays_143 : decode cX12_lays 143 = .ok (.ifCond .lt 7, 3) := d_by (d_at odX12_lays ofX12_lays 143) rfl
theorem dX12_lays_146 : decode cX12_lays 146 = .ok (.iconst 1, 1) := d_by (d_at odX12_lays ofX12_lays 146) rfl
theorem dX12_lays_147 : decode cX12_lays 147 = .ok (.goto 4, 3) := d_by (d_at odX12_lays ofX12_lays 147) rfl
theorem dX12_lays_150 : decode cX12_lays 150 = .ok (.iconst 0, 1) := d_by (d_at odX12_lays ofX12_lays 150) rfl
theorem dX12_lays_151 : decode cX12_lays 151 = .ok (.ireturn, 1) := d_by (d_at odX12_lays ofX12_lays 151) rfl
set_option maxRecDepth 100000 in
def bX12_bringsOf : List Nat := [42, 27, 28, 182, 1, 108, 153, 0, 17, 42, 180, 1, 105, 42, 27, 5, 182, 1, 15, 96, 167, 0, 5, 16, 254, 172]
set_option maxRecDepth 100000 in
theorem bbX12_bringsOf : cX12_bringsOf.data.toList.map UInt8.toNat = bX12_bringsOf := by decide +kernel
set_option maxRecDepth 100000 in
def tX12_bringsOf : Lean.RArray dLf := .branch 13 (.branch 3 (.branch 1 (.leaf (0, .aload_n 0, 1)) (.branch 2 (.leaf (1, .iload_n 1, 1)) (.leaf (2, .iload_n 2, 1)))) (.branch 9 (.branch 6 (.leaf (3, .invokevirtual 364, 3)) (.leaf (6, .ifCond .eq 17, 3))) (.branch 10 (.leaf (9, .aload_n 0, 1)) (.leaf (10, .getfield 361, 3))))) (.branch 19 (.branch 15 (.branch 14 (.leaf (13, .aload_n 0, 1)) (.leaf (14, .iload_n 1, 1))) (.branch 16 (.leaf (15, .iconst 2, 1)) (.leaf (16, .invokevirtual 271, 3)))) (.branch 23 (.branch 20 (.leaf (19, .iadd, 1)) (.leaf (20, .goto 5, 3))) (.branch 25 (.leaf (23, .bipush (-2), 2)) (.leaf (25, .ireturn, 1)))))
noncomputable def oX12_bringsOf : List dLf := dFl tX12_bringsOf
theorem ofX12_bringsOf : dFl tX12_bringsOf = oX12_bringsOf := rfl
set_option maxRecDepth 100000 in
theorem odX12_bringsOf : ∀ q ∈ oX12_bringsOf, decode cX12_bringsOf q.1 = .ok (q.2.1, q.2.2) := q_go qT_ok bbX12_bringsOf oX12_bringsOf 0 (by decide +kernel)
theorem dX12_bringsOf_0 : decode cX12_bringsOf 0 = .ok (.aload_n 0, 1) := d_by (d_at odX12_bringsOf ofX12_bringsOf 0) rfl
theorem dX12_bringsOf_1 : decode cX12_bringsOf 1 = .ok (.iload_n 1, 1) := d_by (d_at odX12_bringsOf ofX12_bringsOf 1) rfl
theorem dX12_bringsOf_2 : decode cX12_bringsOf 2 = .ok (.iload_n 2, 1) := d_by (d_at odX12_bringsOf ofX12_bringsOf 2) rfl
theorem dX12_bringsOf_3 : decode cX12_bringsOf 3 = .ok (.invokevirtual 364, 3) := d_by (d_at odX12_bringsOf ofX12_bringsOf 3) rfl
theorem dX12_bringsOf_6 : decode cX12_bringsOf 6 = .ok (.ifCond .eq 17, 3) := d_by (d_at odX12_bringsOf ofX12_bringsOf 6) rfl
theorem dX12_bringsOf_9 : decode cX12_bringsOf 9 = .ok (.aload_n 0, 1) := d_by (d_at odX12_bringsOf ofX12_bringsOf 9) rfl
theorem dX12_bringsOf_10 : decode cX12_bringsOf 10 = .ok (.getfield 361, 3) := d_by (d_at odX12_bringsOf ofX12_bringsOf 10) rfl
theorem dX12_bringsOf_13 : decode cX12_bringsOf 13 = .ok (.aload_n 0, 1) := d_by (d_at odX12_bringsOf ofX12_bringsOf 13) rfl
theorem dX12_bringsOf_14 : decode cX12_bringsOf 14 = .ok (.iload_n 1, 1) := d_by (d_at odX12_bringsOf ofX12_bringsOf 14) rfl
theorem dX12_bringsOf_15 : decode cX12_bringsOf 15 = .ok (.iconst 2, 1) := d_by (d_at odX12_bringsOf ofX12_bringsOf 15) rfl
theorem dX12_bringsOf_16 : decode cX12_bringsOf 16 = .ok (.invokevirtual 271, 3) := d_by (d_at odX12_bringsOf ofX12_bringsOf 16) rfl
theorem dX12_bringsOf_19 : decode cX12_bringsOf 19 = .ok (.iadd, 1) := d_by (d_at odX12_bringsOf ofX12_bringsOf 19) rfl
theorem dX12_bringsOf_20 : decode cX12_bringsOf 20 = .ok (.goto 5, 3) := d_by (d_at odX12_bringsOf ofX12_bringsOf 20) rfl
theorem dX12_bringsOf_23 : decode cX12_bringsOf 23 = .ok (.bipush (-2), 2) := d_by (d_at odX12_bringsOf ofX12_bringsOf 23) rfl
theorem dX12_bringsOf_25 : decode cX12_bringsOf 25 = .ok (.ireturn, 1) := d_by (d_at odX12_bringsOf ofX12_bringsOf 25) rfl
set_option maxRecDepth 100000 in
def bX12_brings : List Nat := [42, 182, 0, 167, 42, 27, 182, 1, 12, 153, 0, 20, 42, 28, 182, 1, 18, 153, 0, 12, 42, 27, 28, 182, 1, 111, 167, 0, 8, 42, 4, 182, 0, 170, 172]
set_option maxRecDepth 100000 in
theorem bbX12_brings : cX12_brings.data.toList.map UInt8.toNat = bX12_brings := by decide +kernel
set_option maxRecDepth 100000 in
def tX12_brings : Lean.RArray dLf := .branch 17 (.branch 6 (.branch 4 (.branch 1 (.leaf (0, .aload_n 0, 1)) (.leaf (1, .invokevirtual 167, 3))) (.branch 5 (.leaf (4, .aload_n 0, 1)) (.leaf (5, .iload_n 1, 1)))) (.branch 12 (.branch 9 (.leaf (6, .invokevirtual 268, 3)) (.leaf (9, .ifCond .eq 20, 3))) (.branch 13 (.leaf (12, .aload_n 0, 1)) (.branch 14 (.leaf (13, .iload_n 2, 1)) (.leaf (14, .invokevirtual 274, 3)))))) (.branch 26 (.branch 21 (.branch 20 (.leaf (17, .ifCond .eq 12, 3)) (.leaf (20, .aload_n 0, 1))) (.branch 22 (.leaf (21, .iload_n 1, 1)) (.branch 23 (.leaf (22, .iload_n 2, 1)) (.leaf (23, .invokevirtual 367, 3))))) (.branch 30 (.branch 29 (.leaf (26, .goto 8, 3)) (.leaf (29, .aload_n 0, 1))) (.branch 31 (.leaf (30, .iconst 1, 1)) (.branch 34 (.leaf (31, .invokevirtual 170, 3)) (.leaf (34, .ireturn, 1))))))
noncomputable def oX12_brings : List dLf := dFl tX12_brings
theorem ofX12_brings : dFl tX12_brings = oX12_brings := rfl
set_option maxRecDepth 100000 in
theorem odX12_brings : ∀ q ∈ oX12_brings, decode cX12_brings q.1 = .ok (q.2.1, q.2.2) := q_go qT_ok bbX12_brings oX12_brings 0 (by decide +kernel)
set_option maxRecDepth 100000 in
def bX12_soonest : List Nat := [42, 182, 0, 167, 42, 27, 182, 1, 18, 154, 0, 9, 42, 4, 182, 0, 170, 172, 16, 254, 61, 3, 62, 29, 42, 180, 0, 20, 16, 6, 46, 162, 0, 39, 42, 29, 27, 182, 1, 111, 155, 0, 24, 28, 155, 0, 18, 42, 29, 27, 182, 1, 111, 42, 28, 27, 182, 1, 111, 162, 0, 5, 29, 61, 132, 3, 1, 167, 255, 212, 28, 172]
set_option maxRecDepth 100000 in
theorem bbX12_soonest : cX12_soonest.data.toList.map UInt8.toNat = bX12_soonest := by decide +kernel
set_option maxRecDepth 100000 in
def tX12_soonest : Lean.RArray dLf := .branch 35 (.branch 18 (.branch 9 (.branch 4 (.branch 1 (.leaf (0, .aload_n 0, 1)) (.leaf (1, .invokevirtual 167, 3))) (.branch 5 (.leaf (4, .aload_n 0, 1)) (.branch 6 (.leaf (5, .iload_n 1, 1)) (.leaf (6, .invokevirtual 274, 3))))) (.branch 13 (.branch 12 (.leaf (9, .ifCond .ne 9, 3)) (.leaf (12, .aload_n 0, 1))) (.branch 14 (.leaf (13, .iconst 1, 1)) (.branch 17 (.leaf (14, .invokevirtual 170, 3)) (.leaf (17, .ireturn, 1)))))) (.branch 24 (.branch 21 (.branch 20 (.leaf (18, .bipush (-2), 2)) (.leaf (20, .istore_n 2, 1))) (.branch 22 (.leaf (21, .iconst 0, 1)) (.branch 23 (.leaf (22, .istore_n 3, 1)) (.leaf (23, .iload_n 3, 1))))) (.branch 30 (.branch 25 (.leaf (24, .aload_n 0, 1)) (.branch 28 (.leaf (25, .getfield 20, 3)) (.leaf (28, .bipush 6, 2)))) (.branch 31 (.leaf (30, .iaload, 1)) (.branch 34 (.leaf (31, .if_icmp .ge 39, 3)) (.leaf (34, .aload_n 0, 1))))))) (.branch 53 (.branch 44 (.branch 37 (.branch 36 (.leaf (35, .iload_n 3, 1)) (.leaf (36, .iload_n 1, 1))) (.branch 40 (.leaf (37, .invokevirtual 367, 3)) (.branch 43 (.leaf (40, .ifCond .lt 24, 3)) (.leaf (43, .iload_n 2, 1))))) (.branch 48 (.branch 47 (.leaf (44, .ifCond .lt 18, 3)) (.leaf (47, .aload_n 0, 1))) (.branch 49 (.leaf (48, .iload_n 3, 1)) (.branch 50 (.leaf (49, .iload_n 1, 1)) (.leaf (50, .invokevirtual 367, 3)))))) (.branch 62 (.branch 55 (.branch 54 (.leaf (53, .aload_n 0, 1)) (.leaf (54, .iload_n 2, 1))) (.branch 56 (.leaf (55, .iload_n 1, 1)) (.branch 59 (.leaf (56, .invokevirtual 367, 3)) (.leaf (59, .if_icmp .ge 5, 3))))) (.branch 67 (.branch 63 (.leaf (62, .iload_n 3, 1)) (.branch 64 (.leaf (63, .istore_n 2, 1)) (.leaf (64, .iinc 3 1, 3)))) (.branch 70 (.leaf (67, .goto (-44), 3)) (.branch 71 (.leaf (70, .iload_n 2, 1)) (.leaf (71, .ireturn, 1)))))))
noncomputable def oX12_soonest : List dLf := dFl tX12_soonest
theorem ofX12_soonest : dFl tX12_soonest = oX12_soonest := rfl
set_option maxRecDepth 100000 in
theorem odX12_soonest : ∀ q ∈ oX12_soonest, decode cX12_soonest q.1 = .ok (q.2.1, q.2.2) := q_go qT_ok bbX12_soonest oX12_soonest 0 (by decide +kernel)
set_option maxRecDepth 100000 in
def bX12_surestBut : List Nat := [16, 254, 62, 3, 54, 4, 21, 4, 42, 180, 0, 20, 16, 6, 46, 162, 0, 48, 21, 4, 28, 159, 0, 36, 42, 21, 4, 27, 182, 1, 111, 155, 0, 26, 29, 155, 0, 19, 42, 21, 4, 6, 182, 1, 15, 42, 29, 6, 182, 1, 15, 162, 0, 6, 21, 4, 62, 132, 4, 1, 167, 255, 202, 29, 172]
set_option maxRecDepth 100000 in
theorem bbX12_surestBut : cX12_surestBut.data.toList.map UInt8.toNat = bX12_surestBut := by decide +kernel
set_option maxRecDepth 100000 in
def tX12_surestBut : Lean.RArray dLf := .branch 31 (.branch 14 (.branch 6 (.branch 3 (.branch 2 (.leaf (0, .bipush (-2), 2)) (.leaf (2, .istore_n 3, 1))) (.branch 4 (.leaf (3, .iconst 0, 1)) (.leaf (4, .istore 4, 2)))) (.branch 9 (.branch 8 (.leaf (6, .iload 4, 2)) (.leaf (8, .aload_n 0, 1))) (.branch 12 (.leaf (9, .getfield 20, 3)) (.leaf (12, .bipush 6, 2))))) (.branch 21 (.branch 18 (.branch 15 (.leaf (14, .iaload, 1)) (.leaf (15, .if_icmp .ge 48, 3))) (.branch 20 (.leaf (18, .iload 4, 2)) (.leaf (20, .iload_n 2, 1)))) (.branch 25 (.branch 24 (.leaf (21, .if_icmp .eq 36, 3)) (.leaf (24, .aload_n 0, 1))) (.branch 27 (.leaf (25, .iload 4, 2)) (.branch 28 (.leaf (27, .iload_n 1, 1)) (.leaf (28, .invokevirtual 367, 3))))))) (.branch 47 (.branch 39 (.branch 35 (.branch 34 (.leaf (31, .ifCond .lt 26, 3)) (.leaf (34, .iload_n 3, 1))) (.branch 38 (.leaf (35, .ifCond .lt 19, 3)) (.leaf (38, .aload_n 0, 1)))) (.branch 42 (.branch 41 (.leaf (39, .iload 4, 2)) (.leaf (41, .iconst 3, 1))) (.branch 45 (.leaf (42, .invokevirtual 271, 3)) (.branch 46 (.leaf (45, .aload_n 0, 1)) (.leaf (46, .iload_n 3, 1)))))) (.branch 56 (.branch 51 (.branch 48 (.leaf (47, .iconst 3, 1)) (.leaf (48, .invokevirtual 271, 3))) (.branch 54 (.leaf (51, .if_icmp .ge 6, 3)) (.leaf (54, .iload 4, 2)))) (.branch 60 (.branch 57 (.leaf (56, .istore_n 3, 1)) (.leaf (57, .iinc 4 1, 3))) (.branch 63 (.leaf (60, .goto (-54), 3)) (.branch 64 (.leaf (63, .iload_n 3, 1)) (.leaf (64, .ireturn, 1)))))))
noncomputable def oX12_surestBut : List dLf := dFl tX12_surestBut
theorem ofX12_surestBut : dFl tX12_surestBut = oX12_surestBut := rfl
set_option maxRecDepth 100000 in
theorem odX12_surestBut : ∀ q ∈ oX12_surestBut, decode cX12_surestBut q.1 = .ok (q.2.1, q.2.2) := q_go qT_ok bbX12_surestBut oX12_surestBut 0 (by decide +kernel)
set_option maxRecDepth 100000 in
def bX12_surest : List Nat := [42, 182, 0, 167, 42, 27, 182, 1, 18, 153, 0, 12, 42, 27, 2, 182, 1, 114, 167, 0, 8, 42, 4, 182, 0, 170, 172]
set_option maxRecDepth 100000 in
theorem bbX12_surest : cX12_surest.data.toList.map UInt8.toNat = bX12_surest := by decide +kernel
set_option maxRecDepth 100000 in
def tX12_surest : Lean.RArray dLf := .branch 13 (.branch 5 (.branch 1 (.leaf (0, .aload_n 0, 1)) (.branch 4 (.leaf (1, .invokevirtual 167, 3)) (.leaf (4, .aload_n 0, 1)))) (.branch 9 (.branch 6 (.leaf (5, .iload_n 1, 1)) (.leaf (6, .invokevirtual 274, 3))) (.branch 12 (.leaf (9, .ifCond .eq 12, 3)) (.leaf (12, .aload_n 0, 1))))) (.branch 21 (.branch 15 (.branch 14 (.leaf (13, .iload_n 1, 1)) (.leaf (14, .iconst (-1), 1))) (.branch 18 (.leaf (15, .invokevirtual 370, 3)) (.leaf (18, .goto 8, 3)))) (.branch 23 (.branch 22 (.leaf (21, .aload_n 0, 1)) (.leaf (22, .iconst 1, 1))) (.branch 26 (.leaf (23, .invokevirtual 170, 3)) (.leaf (26, .ireturn, 1)))))
noncomputable def oX12_surest : List dLf := dFl tX12_surest
theorem ofX12_surest : dFl tX12_surest = oX12_surest := rfl
set_option maxRecDepth 100000 in
theorem odX12_surest : ∀ q ∈ oX12_surest, decode cX12_surest q.1 = .ok (q.2.1, q.2.2) := q_go qT_ok bbX12_surest oX12_surest 0 (by decide +kernel)
set_option maxRecDepth 100000 in
def bX12_by : List Nat := [42, 182, 0, 167, 42, 27, 182, 1, 18, 154, 0, 9, 42, 4, 182, 0, 170, 172, 28, 3, 19, 1, 84, 184, 0, 149, 154, 0, 9, 42, 5, 182, 0, 170, 172, 3, 62, 3, 54, 4, 21, 4, 42, 180, 0, 20, 16, 6, 46, 162, 0, 35, 29, 42, 21, 4, 27, 182, 1, 111, 3, 28, 184, 0, 149, 153, 0, 10, 4, 21, 4, 120, 167, 0, 4, 3, 128, 62, 132, 4, 1, 167, 255, 215, 29, 172]
set_option maxRecDepth 100000 in
theorem bbX12_by : cX12_by.data.toList.map UInt8.toNat = bX12_by := by decide +kernel
set_option maxRecDepth 100000 in
def tX12_by : Lean.RArray dLf := .branch 42 (.branch 20 (.branch 12 (.branch 5 (.branch 1 (.leaf (0, .aload_n 0, 1)) (.branch 4 (.leaf (1, .invokevirtual 167, 3)) (.leaf (4, .aload_n 0, 1)))) (.branch 6 (.leaf (5, .iload_n 1, 1)) (.branch 9 (.leaf (6, .invokevirtual 274, 3)) (.leaf (9, .ifCond .ne 9, 3))))) (.branch 17 (.branch 13 (.leaf (12, .aload_n 0, 1)) (.branch 14 (.leaf (13, .iconst 1, 1)) (.leaf (14, .invokevirtual 170, 3)))) (.branch 18 (.leaf (17, .ireturn, 1)) (.branch 19 (.leaf (18, .iload_n 2, 1)) (.leaf (19, .iconst 0, 1)))))) (.branch 34 (.branch 29 (.branch 23 (.leaf (20, .ldc_w 340, 3)) (.branch 26 (.leaf (23, .invokestatic 149, 3)) (.leaf (26, .ifCond .ne 9, 3)))) (.branch 30 (.leaf (29, .aload_n 0, 1)) (.branch 31 (.leaf (30, .iconst 2, 1)) (.leaf (31, .invokevirtual 170, 3))))) (.branch 37 (.branch 35 (.leaf (34, .ireturn, 1)) (.branch 36 (.leaf (35, .iconst 0, 1)) (.leaf (36, .istore_n 3, 1)))) (.branch 38 (.leaf (37, .iconst 0, 1)) (.branch 40 (.leaf (38, .istore 4, 2)) (.leaf (40, .iload 4, 2))))))) (.branch 62 (.branch 53 (.branch 48 (.branch 43 (.leaf (42, .aload_n 0, 1)) (.branch 46 (.leaf (43, .getfield 20, 3)) (.leaf (46, .bipush 6, 2)))) (.branch 49 (.leaf (48, .iaload, 1)) (.branch 52 (.leaf (49, .if_icmp .ge 35, 3)) (.leaf (52, .iload_n 3, 1))))) (.branch 57 (.branch 54 (.leaf (53, .aload_n 0, 1)) (.branch 56 (.leaf (54, .iload 4, 2)) (.leaf (56, .iload_n 1, 1)))) (.branch 60 (.leaf (57, .invokevirtual 367, 3)) (.branch 61 (.leaf (60, .iconst 0, 1)) (.leaf (61, .iload_n 2, 1)))))) (.branch 75 (.branch 69 (.branch 65 (.leaf (62, .invokestatic 149, 3)) (.branch 68 (.leaf (65, .ifCond .eq 10, 3)) (.leaf (68, .iconst 1, 1)))) (.branch 71 (.leaf (69, .iload 4, 2)) (.branch 72 (.leaf (71, .ishl, 1)) (.leaf (72, .goto 4, 3))))) (.branch 78 (.branch 76 (.leaf (75, .iconst 0, 1)) (.branch 77 (.leaf (76, .ior, 1)) (.leaf (77, .istore_n 3, 1)))) (.branch 84 (.branch 81 (.leaf (78, .iinc 4 1, 3)) (.leaf (81, .goto (-41), 3))) (.branch 85 (.leaf (84, .iload_n 3, 1)) (.leaf (85, .ireturn, 1)))))))
noncomputable def oX12_by : List dLf := dFl tX12_by
theorem ofX12_by : dFl tX12_by = oX12_by := rfl
set_option maxRecDepth 100000 in
theorem odX12_by : ∀ q ∈ oX12_by, decode cX12_by q.1 = .ok (q.2.1, q.2.2) := q_go qT_ok bbX12_by oX12_by 0 (by decide +kernel)
set_option maxRecDepth 100000 in
def bX12_lowest : List Nat := [32, 55, 5, 30, 55, 7, 22, 7, 9, 148, 153, 0, 21, 22, 5, 22, 7, 113, 55, 9, 22, 7, 55, 5, 22, 9, 55, 7, 167, 255, 234, 21, 4, 153, 0, 7, 32, 167, 0, 4, 30, 22, 5, 109, 173]
set_option maxRecDepth 100000 in
theorem bbX12_lowest : cX12_lowest.data.toList.map UInt8.toNat = bX12_lowest := by decide +kernel
set_option maxRecDepth 100000 in
def tX12_lowest : Lean.RArray dLf := .branch 20 (.branch 9 (.branch 4 (.branch 1 (.leaf (0, .lload_n 2, 1)) (.branch 3 (.leaf (1, .lstore 5, 2)) (.leaf (3, .lload_n 0, 1)))) (.branch 6 (.leaf (4, .lstore 7, 2)) (.branch 8 (.leaf (6, .lload 7, 2)) (.leaf (8, .lconst 0, 1))))) (.branch 15 (.branch 10 (.leaf (9, .lcmp, 1)) (.branch 13 (.leaf (10, .ifCond .eq 21, 3)) (.leaf (13, .lload 5, 2)))) (.branch 17 (.leaf (15, .lload 7, 2)) (.branch 18 (.leaf (17, .lrem, 1)) (.leaf (18, .lstore 9, 2)))))) (.branch 33 (.branch 26 (.branch 22 (.leaf (20, .lload 7, 2)) (.branch 24 (.leaf (22, .lstore 5, 2)) (.leaf (24, .lload 9, 2)))) (.branch 28 (.leaf (26, .lstore 7, 2)) (.branch 31 (.leaf (28, .goto (-22), 3)) (.leaf (31, .iload 4, 2))))) (.branch 40 (.branch 36 (.leaf (33, .ifCond .eq 7, 3)) (.branch 37 (.leaf (36, .lload_n 2, 1)) (.leaf (37, .goto 4, 3)))) (.branch 43 (.branch 41 (.leaf (40, .lload_n 0, 1)) (.leaf (41, .lload 5, 2))) (.branch 44 (.leaf (43, .ldiv, 1)) (.leaf (44, .lreturn, 1))))))
noncomputable def oX12_lowest : List dLf := dFl tX12_lowest
theorem ofX12_lowest : dFl tX12_lowest = oX12_lowest := rfl
set_option maxRecDepth 100000 in
theorem odX12_lowest : ∀ q ∈ oX12_lowest, decode cX12_lowest q.1 = .ok (q.2.1, q.2.2) := q_go qT_ok bbX12_lowest oX12_lowest 0 (by decide +kernel)
theorem dX12_lowest_0 : decode cX12_lowest 0 = .ok (.lload_n 2, 1) := d_by (d_at odX12_lowest ofX12_lowest 0) rfl
theorem dX12_lowest_1 : decode cX12_lowest 1 = .ok (.lstore 5, 2) := d_by (d_at odX12_lowest ofX12_lowest 1) rfl
theorem dX12_lowest_3 : decode cX12_lowest 3 = .ok (.lload_n 0, 1) := d_by (d_at odX12_lowest ofX12_lowest 3) rfl
theorem dX12_lowest_4 : decode cX12_lowest 4 = .ok (.lstore 7, 2) := d_by (d_at odX12_lowest ofX12_lowest 4) rfl
theorem dX12_lowest_6 : decode cX12_lowest 6 = .ok (.lload 7, 2) := d_by (d_at odX12_lowest ofX12_lowest 6) rfl
theorem dX12_lowest_8 : decode cX12_lowest 8 = .ok (.lconst 0, 1) := d_by (d_at odX12_lowest ofX12_lowest 8) rfl
theorem dX12_lowest_9 : decode cX12_lowest 9 = .ok (.lcmp, 1) := d_by (d_at odX12_lowest ofX12_lowest 9) rfl
theorem dX12_lowest_10 : decode cX12_lowest 10 = .ok (.ifCond .eq 21, 3) := d_by (d_at odX12_lowest ofX12_lowest 10) rfl
theorem dX12_lowest_13 : decode cX12_lowest 13 = .ok (.lload 5, 2) := d_by (d_at odX12_lowest ofX12_lowest 13) rfl
theorem dX12_lowest_15 : decode cX12_lowest 15 = .ok (.lload 7, 2) := d_by (d_at odX12_lowest ofX12_lowest 15) rfl
theorem dX12_lowest_17 : decode cX12_lowest 17 = .ok (.lrem, 1) := d_by (d_at odX12_lowest ofX12_lowest 17) rfl
theorem dX12_lowest_18 : decode cX12_lowest 18 = .ok (.lstore 9, 2) := d_by (d_at odX12_lowest ofX12_lowest 18) rfl
theorem dX12_lowest_20 : decode cX12_lowest 20 = .ok (.lload 7, 2) := d_by (d_at odX12_lowest ofX12_lowest 20) rfl
theorem dX12_lowest_22 : decode cX12_lowest 22 = .ok (.lstore 5, 2) := d_by (d_at odX12_lowest ofX12_lowest 22) rfl
theorem dX12_lowest_24 : decode cX12_lowest 24 = .ok (.lload 9, 2) := d_by (d_at odX12_lowest ofX12_lowest 24) rfl
theorem dX12_lowest_26 : decode cX12_lowest 26 = .ok (.lstore 7, 2) := d_by (d_at odX12_lowest ofX12_lowest 26) rfl
theorem dX12_lowest_28 : decode cX12_lowest 28 = .ok (.goto (-22), 3) := d_by (d_at odX12_lowest ofX12_lowest 28) rfl
theorem dX12_lowest_31 : decode cX12_lowest 31 = .ok (.iload 4, 2) := d_by (d_at odX12_lowest ofX12_lowest 31) rfl
theorem dX12_lowest_33 : decode cX12_lowest 33 = .ok (.ifCond .eq 7, 3) := d_by (d_at odX12_lowest ofX12_lowest 33) rfl
theorem dX12_lowest_36 : decode cX12_lowest 36 = .ok (.lload_n 2, 1) := d_by (d_at odX12_lowest ofX12_lowest 36) rfl
theorem dX12_lowest_37 : decode cX12_lowest 37 = .ok (.goto 4, 3) := d_by (d_at odX12_lowest ofX12_lowest 37) rfl
theorem dX12_lowest_40 : decode cX12_lowest 40 = .ok (.lload_n 0, 1) := d_by (d_at odX12_lowest ofX12_lowest 40) rfl
theorem dX12_lowest_41 : decode cX12_lowest 41 = .ok (.lload 5, 2) := d_by (d_at odX12_lowest ofX12_lowest 41) rfl
theorem dX12_lowest_43 : decode cX12_lowest 43 = .ok (.ldiv, 1) := d_by (d_at odX12_lowest ofX12_lowest 43) rfl
theorem dX12_lowest_44 : decode cX12_lowest 44 = .ok (.lreturn, 1) := d_by (d_at odX12_lowest ofX12_lowest 44) rfl
set_option maxRecDepth 100000 in
def bX12_registered : List Nat := [42, 182, 0, 167, 42, 27, 182, 1, 18, 154, 0, 10, 42, 4, 182, 0, 170, 133, 173, 42, 27, 2, 182, 1, 114, 62, 29, 156, 0, 11, 42, 16, 6, 182, 0, 170, 133, 173, 42, 27, 29, 182, 1, 114, 54, 4, 42, 29, 6, 182, 1, 15, 21, 4, 156, 0, 8, 16, 100, 167, 0, 10, 42, 21, 4, 6, 182, 1, 15, 104, 54, 5, 17, 39, 16, 21, 5, 100, 133, 20, 1, 117, 28, 184, 1, 119, 173]
set_option maxRecDepth 100000 in
theorem bbX12_registered : cX12_registered.data.toList.map UInt8.toNat = bX12_registered := by decide +kernel
set_option maxRecDepth 100000 in
def tX12_registered : Lean.RArray dLf := .branch 40 (.branch 20 (.branch 12 (.branch 5 (.branch 1 (.leaf (0, .aload_n 0, 1)) (.branch 4 (.leaf (1, .invokevirtual 167, 3)) (.leaf (4, .aload_n 0, 1)))) (.branch 6 (.leaf (5, .iload_n 1, 1)) (.branch 9 (.leaf (6, .invokevirtual 274, 3)) (.leaf (9, .ifCond .ne 10, 3))))) (.branch 17 (.branch 13 (.leaf (12, .aload_n 0, 1)) (.branch 14 (.leaf (13, .iconst 1, 1)) (.leaf (14, .invokevirtual 170, 3)))) (.branch 18 (.leaf (17, .i2l, 1)) (.branch 19 (.leaf (18, .lreturn, 1)) (.leaf (19, .aload_n 0, 1)))))) (.branch 30 (.branch 25 (.branch 21 (.leaf (20, .iload_n 1, 1)) (.branch 22 (.leaf (21, .iconst (-1), 1)) (.leaf (22, .invokevirtual 370, 3)))) (.branch 26 (.leaf (25, .istore_n 3, 1)) (.branch 27 (.leaf (26, .iload_n 3, 1)) (.leaf (27, .ifCond .ge 11, 3))))) (.branch 36 (.branch 31 (.leaf (30, .aload_n 0, 1)) (.branch 33 (.leaf (31, .bipush 6, 2)) (.leaf (33, .invokevirtual 170, 3)))) (.branch 38 (.branch 37 (.leaf (36, .i2l, 1)) (.leaf (37, .lreturn, 1))) (.branch 39 (.leaf (38, .aload_n 0, 1)) (.leaf (39, .iload_n 1, 1))))))) (.branch 63 (.branch 49 (.branch 46 (.branch 41 (.leaf (40, .iload_n 3, 1)) (.branch 44 (.leaf (41, .invokevirtual 370, 3)) (.leaf (44, .istore 4, 2)))) (.branch 47 (.leaf (46, .aload_n 0, 1)) (.branch 48 (.leaf (47, .iload_n 3, 1)) (.leaf (48, .iconst 3, 1))))) (.branch 57 (.branch 52 (.leaf (49, .invokevirtual 271, 3)) (.branch 54 (.leaf (52, .iload 4, 2)) (.leaf (54, .ifCond .ge 8, 3)))) (.branch 59 (.leaf (57, .bipush 100, 2)) (.branch 62 (.leaf (59, .goto 10, 3)) (.leaf (62, .aload_n 0, 1)))))) (.branch 75 (.branch 69 (.branch 65 (.leaf (63, .iload 4, 2)) (.branch 66 (.leaf (65, .iconst 3, 1)) (.leaf (66, .invokevirtual 271, 3)))) (.branch 70 (.leaf (69, .imul, 1)) (.branch 72 (.leaf (70, .istore 5, 2)) (.leaf (72, .sipush 10000, 3))))) (.branch 79 (.branch 77 (.leaf (75, .iload 5, 2)) (.branch 78 (.leaf (77, .isub, 1)) (.leaf (78, .i2l, 1)))) (.branch 83 (.branch 82 (.leaf (79, .ldc2_w 373, 3)) (.leaf (82, .iload_n 2, 1))) (.branch 86 (.leaf (83, .invokestatic 375, 3)) (.leaf (86, .lreturn, 1)))))))
noncomputable def oX12_registered : List dLf := dFl tX12_registered
theorem ofX12_registered : dFl tX12_registered = oX12_registered := rfl
set_option maxRecDepth 100000 in
theorem odX12_registered : ∀ q ∈ oX12_registered, decode cX12_registered q.1 = .ok (q.2.1, q.2.2) := q_go qT_ok bbX12_registered oX12_registered 0 (by decide +kernel)
set_option maxRecDepth 100000 in
def bX12_tryMatch : List Nat := [27, 42, 180, 0, 20, 16, 7, 46, 160, 0, 55, 29, 42, 180, 1, 123, 161, 0, 20, 29, 42, 180, 1, 123, 160, 0, 13, 21, 4, 42, 180, 1, 126, 161, 0, 4, 177, 42, 29, 181, 1, 123, 42, 21, 4, 181, 1, 126, 42, 180, 0, 44, 3, 42, 180, 0, 47, 3, 27, 184, 0, 176, 177, 3, 54, 5, 21, 5, 42, 180, 0, 20, 16, 6, 46, 162, 0, 73, 28, 21, 5, 184, 1, 42, 154, 0, 58, 42, 180, 0, 50, 8, 27, 104, 21, 5, 96, 46, 156, 0, 6, 167, 0, 41, 42, 180, 0, 44, 27, 21, 5, 79, 42, 27, 4, 96, 28, 4, 21, 5, 120, 128, 29, 4, 96, 21, 4, 42, 180, 0, 50, 8, 27, 104, 21, 5, 96, 46, 96, 182, 1, 129, 132, 5, 1, 167, 255, 177, 42, 180, 0, 44, 27, 16, 254, 79, 42, 27, 4, 96, 28, 29, 21, 4, 182, 1, 129, 177]
set_option maxRecDepth 100000 in
theorem bbX12_tryMatch : cX12_tryMatch.data.toList.map UInt8.toNat = bX12_tryMatch := by decide +kernel
set_option maxRecDepth 100000 in
def tX12_tryMatch : Lean.RArray dLf := .branch 93 (.branch 48 (.branch 21 (.branch 11 (.branch 5 (.branch 1 (.leaf (0, .iload_n 1, 1)) (.branch 2 (.leaf (1, .aload_n 0, 1)) (.leaf (2, .getfield 20, 3)))) (.branch 7 (.leaf (5, .bipush 7, 2)) (.branch 8 (.leaf (7, .iaload, 1)) (.leaf (8, .if_icmp .ne 55, 3))))) (.branch 16 (.branch 12 (.leaf (11, .iload_n 3, 1)) (.branch 13 (.leaf (12, .aload_n 0, 1)) (.leaf (13, .getfield 379, 3)))) (.branch 19 (.leaf (16, .if_icmp .lt 20, 3)) (.branch 20 (.leaf (19, .iload_n 3, 1)) (.leaf (20, .aload_n 0, 1)))))) (.branch 36 (.branch 29 (.branch 24 (.leaf (21, .getfield 379, 3)) (.branch 27 (.leaf (24, .if_icmp .ne 13, 3)) (.leaf (27, .iload 4, 2)))) (.branch 30 (.leaf (29, .aload_n 0, 1)) (.branch 33 (.leaf (30, .getfield 382, 3)) (.leaf (33, .if_icmp .lt 4, 3))))) (.branch 39 (.branch 37 (.leaf (36, .return_, 1)) (.branch 38 (.leaf (37, .aload_n 0, 1)) (.leaf (38, .iload_n 3, 1)))) (.branch 43 (.branch 42 (.leaf (39, .putfield 379, 3)) (.leaf (42, .aload_n 0, 1))) (.branch 45 (.leaf (43, .iload 4, 2)) (.leaf (45, .putfield 382, 3))))))) (.branch 68 (.branch 58 (.branch 53 (.branch 49 (.leaf (48, .aload_n 0, 1)) (.branch 52 (.leaf (49, .getfield 44, 3)) (.leaf (52, .iconst 0, 1)))) (.branch 54 (.leaf (53, .aload_n 0, 1)) (.branch 57 (.leaf (54, .getfield 47, 3)) (.leaf (57, .iconst 0, 1))))) (.branch 63 (.branch 59 (.leaf (58, .iload_n 1, 1)) (.branch 62 (.leaf (59, .invokestatic 176, 3)) (.leaf (62, .return_, 1)))) (.branch 64 (.leaf (63, .iconst 0, 1)) (.branch 66 (.leaf (64, .istore 5, 2)) (.leaf (66, .iload 5, 2)))))) (.branch 79 (.branch 74 (.branch 69 (.leaf (68, .aload_n 0, 1)) (.branch 72 (.leaf (69, .getfield 20, 3)) (.leaf (72, .bipush 6, 2)))) (.branch 75 (.leaf (74, .iaload, 1)) (.branch 78 (.leaf (75, .if_icmp .ge 73, 3)) (.leaf (78, .iload_n 2, 1))))) (.branch 87 (.branch 81 (.leaf (79, .iload 5, 2)) (.branch 84 (.leaf (81, .invokestatic 298, 3)) (.leaf (84, .ifCond .ne 58, 3)))) (.branch 91 (.branch 88 (.leaf (87, .aload_n 0, 1)) (.leaf (88, .getfield 50, 3))) (.branch 92 (.leaf (91, .iconst 5, 1)) (.leaf (92, .iload_n 1, 1)))))))) (.branch 128 (.branch 113 (.branch 104 (.branch 97 (.branch 94 (.leaf (93, .imul, 1)) (.branch 96 (.leaf (94, .iload 5, 2)) (.leaf (96, .iadd, 1)))) (.branch 98 (.leaf (97, .iaload, 1)) (.branch 101 (.leaf (98, .ifCond .ge 6, 3)) (.leaf (101, .goto 41, 3))))) (.branch 109 (.branch 105 (.leaf (104, .aload_n 0, 1)) (.branch 108 (.leaf (105, .getfield 44, 3)) (.leaf (108, .iload_n 1, 1)))) (.branch 111 (.leaf (109, .iload 5, 2)) (.branch 112 (.leaf (111, .iastore, 1)) (.leaf (112, .aload_n 0, 1)))))) (.branch 120 (.branch 116 (.branch 114 (.leaf (113, .iload_n 1, 1)) (.branch 115 (.leaf (114, .iconst 1, 1)) (.leaf (115, .iadd, 1)))) (.branch 117 (.leaf (116, .iload_n 2, 1)) (.branch 118 (.leaf (117, .iconst 1, 1)) (.leaf (118, .iload 5, 2))))) (.branch 123 (.branch 121 (.leaf (120, .ishl, 1)) (.branch 122 (.leaf (121, .ior, 1)) (.leaf (122, .iload_n 3, 1)))) (.branch 125 (.branch 124 (.leaf (123, .iconst 1, 1)) (.leaf (124, .iadd, 1))) (.branch 127 (.leaf (125, .iload 4, 2)) (.leaf (127, .aload_n 0, 1))))))) (.branch 149 (.branch 137 (.branch 133 (.branch 131 (.leaf (128, .getfield 50, 3)) (.branch 132 (.leaf (131, .iconst 5, 1)) (.leaf (132, .iload_n 1, 1)))) (.branch 134 (.leaf (133, .imul, 1)) (.branch 136 (.leaf (134, .iload 5, 2)) (.leaf (136, .iadd, 1))))) (.branch 142 (.branch 138 (.leaf (137, .iaload, 1)) (.branch 139 (.leaf (138, .iadd, 1)) (.leaf (139, .invokevirtual 385, 3)))) (.branch 145 (.leaf (142, .iinc 5 1, 3)) (.branch 148 (.leaf (145, .goto (-79), 3)) (.leaf (148, .aload_n 0, 1)))))) (.branch 158 (.branch 155 (.branch 152 (.leaf (149, .getfield 44, 3)) (.branch 153 (.leaf (152, .iload_n 1, 1)) (.leaf (153, .bipush (-2), 2)))) (.branch 156 (.leaf (155, .iastore, 1)) (.branch 157 (.leaf (156, .aload_n 0, 1)) (.leaf (157, .iload_n 1, 1))))) (.branch 161 (.branch 159 (.leaf (158, .iconst 1, 1)) (.branch 160 (.leaf (159, .iadd, 1)) (.leaf (160, .iload_n 2, 1)))) (.branch 164 (.branch 162 (.leaf (161, .iload_n 3, 1)) (.leaf (162, .iload 4, 2))) (.branch 167 (.leaf (164, .invokevirtual 385, 3)) (.leaf (167, .return_, 1))))))))
noncomputable def oX12_tryMatch : List dLf := dFl tX12_tryMatch
theorem ofX12_tryMatch : dFl tX12_tryMatch = oX12_tryMatch := rfl
set_option maxRecDepth 100000 in
theorem odX12_tryMatch : ∀ q ∈ oX12_tryMatch, decode cX12_tryMatch q.1 = .ok (q.2.1, q.2.2) := q_go qT_ok bbX12_tryMatch oX12_tryMatch 0 (by decide +kernel)
set_option maxRecDepth 100000 in
def bX12_seekMatch : List Nat := [3, 60, 27, 42, 180, 0, 20, 16, 7, 46, 162, 0, 44, 3, 61, 28, 42, 180, 0, 20, 16, 6, 46, 162, 0, 25, 42, 180, 0, 50, 8, 27, 104, 28, 96, 42, 28, 27, 182, 1, 111, 79, 132, 2, 1, 167, 255, 226, 132, 1, 1, 167, 255, 207, 42, 2, 181, 1, 123, 42, 3, 181, 1, 126, 42, 3, 3, 3, 3, 182, 1, 129, 177]
set_option maxRecDepth 100000 in
theorem bbX12_seekMatch : cX12_seekMatch.data.toList.map UInt8.toNat = bX12_seekMatch := by decide +kernel
set_option maxRecDepth 100000 in
def tX12_seekMatch : Lean.RArray dLf := .branch 34 (.branch 16 (.branch 7 (.branch 2 (.branch 1 (.leaf (0, .iconst 0, 1)) (.leaf (1, .istore_n 1, 1))) (.branch 3 (.leaf (2, .iload_n 1, 1)) (.branch 4 (.leaf (3, .aload_n 0, 1)) (.leaf (4, .getfield 20, 3))))) (.branch 13 (.branch 9 (.leaf (7, .bipush 7, 2)) (.branch 10 (.leaf (9, .iaload, 1)) (.leaf (10, .if_icmp .ge 44, 3)))) (.branch 14 (.leaf (13, .iconst 0, 1)) (.branch 15 (.leaf (14, .istore_n 2, 1)) (.leaf (15, .iload_n 2, 1)))))) (.branch 26 (.branch 20 (.branch 17 (.leaf (16, .aload_n 0, 1)) (.leaf (17, .getfield 20, 3))) (.branch 22 (.leaf (20, .bipush 6, 2)) (.branch 23 (.leaf (22, .iaload, 1)) (.leaf (23, .if_icmp .ge 25, 3))))) (.branch 31 (.branch 27 (.leaf (26, .aload_n 0, 1)) (.branch 30 (.leaf (27, .getfield 50, 3)) (.leaf (30, .iconst 5, 1)))) (.branch 32 (.leaf (31, .iload_n 1, 1)) (.branch 33 (.leaf (32, .imul, 1)) (.leaf (33, .iload_n 2, 1))))))) (.branch 55 (.branch 41 (.branch 36 (.branch 35 (.leaf (34, .iadd, 1)) (.leaf (35, .aload_n 0, 1))) (.branch 37 (.leaf (36, .iload_n 2, 1)) (.branch 38 (.leaf (37, .iload_n 1, 1)) (.leaf (38, .invokevirtual 367, 3))))) (.branch 48 (.branch 42 (.leaf (41, .iastore, 1)) (.branch 45 (.leaf (42, .iinc 2 1, 3)) (.leaf (45, .goto (-30), 3)))) (.branch 51 (.leaf (48, .iinc 1 1, 3)) (.branch 54 (.leaf (51, .goto (-49), 3)) (.leaf (54, .aload_n 0, 1)))))) (.branch 65 (.branch 60 (.branch 56 (.leaf (55, .iconst (-1), 1)) (.branch 59 (.leaf (56, .putfield 379, 3)) (.leaf (59, .aload_n 0, 1)))) (.branch 61 (.leaf (60, .iconst 0, 1)) (.branch 64 (.leaf (61, .putfield 382, 3)) (.leaf (64, .aload_n 0, 1))))) (.branch 68 (.branch 66 (.leaf (65, .iconst 0, 1)) (.branch 67 (.leaf (66, .iconst 0, 1)) (.leaf (67, .iconst 0, 1)))) (.branch 69 (.leaf (68, .iconst 0, 1)) (.branch 72 (.leaf (69, .invokevirtual 385, 3)) (.leaf (72, .return_, 1)))))))
noncomputable def oX12_seekMatch : List dLf := dFl tX12_seekMatch
theorem ofX12_seekMatch : dFl tX12_seekMatch = oX12_seekMatch := rfl
set_option maxRecDepth 100000 in
theorem odX12_seekMatch : ∀ q ∈ oX12_seekMatch, decode cX12_seekMatch q.1 = .ok (q.2.1, q.2.2) := q_go qT_ok bbX12_seekMatch oX12_seekMatch 0 (by decide +kernel)
set_option maxRecDepth 100000 in
def bX12_match : List Nat := [42, 182, 0, 167, 42, 180, 0, 180, 154, 0, 9, 42, 4, 182, 0, 170, 172, 42, 182, 1, 133, 42, 180, 1, 123, 172]
set_option maxRecDepth 100000 in
theorem bbX12_match : cX12_match.data.toList.map UInt8.toNat = bX12_match := by decide +kernel
set_option maxRecDepth 100000 in
def tX12_match : Lean.RArray dLf := .branch 13 (.branch 5 (.branch 1 (.leaf (0, .aload_n 0, 1)) (.branch 4 (.leaf (1, .invokevirtual 167, 3)) (.leaf (4, .aload_n 0, 1)))) (.branch 11 (.branch 8 (.leaf (5, .getfield 180, 3)) (.leaf (8, .ifCond .ne 9, 3))) (.branch 12 (.leaf (11, .aload_n 0, 1)) (.leaf (12, .iconst 1, 1))))) (.branch 18 (.branch 16 (.leaf (13, .invokevirtual 170, 3)) (.branch 17 (.leaf (16, .ireturn, 1)) (.leaf (17, .aload_n 0, 1)))) (.branch 22 (.branch 21 (.leaf (18, .invokevirtual 389, 3)) (.leaf (21, .aload_n 0, 1))) (.branch 25 (.leaf (22, .getfield 379, 3)) (.leaf (25, .ireturn, 1)))))
noncomputable def oX12_match : List dLf := dFl tX12_match
theorem ofX12_match : dFl tX12_match = oX12_match := rfl
set_option maxRecDepth 100000 in
theorem odX12_match : ∀ q ∈ oX12_match, decode cX12_match q.1 = .ok (q.2.1, q.2.2) := q_go qT_ok bbX12_match oX12_match 0 (by decide +kernel)
set_option maxRecDepth 100000 in
def bX12_matchDays : List Nat := [42, 182, 0, 167, 42, 180, 0, 180, 154, 0, 9, 42, 4, 182, 0, 170, 172, 42, 182, 1, 133, 42, 180, 1, 126, 172]
set_option maxRecDepth 100000 in
theorem bbX12_matchDays : cX12_matchDays.data.toList.map UInt8.toNat = bX12_matchDays := by decide +kernel
set_option maxRecDepth 100000 in
def tX12_matchDays : Lean.RArray dLf := .branch 13 (.branch 5 (.branch 1 (.leaf (0, .aload_n 0, 1)) (.branch 4 (.leaf (1, .invokevirtual 167, 3)) (.leaf (4, .aload_n 0, 1)))) (.branch 11 (.branch 8 (.leaf (5, .getfield 180, 3)) (.leaf (8, .ifCond .ne 9, 3))) (.branch 12 (.leaf (11, .aload_n 0, 1)) (.leaf (12, .iconst 1, 1))))) (.branch 18 (.branch 16 (.leaf (13, .invokevirtual 170, 3)) (.branch 17 (.leaf (16, .ireturn, 1)) (.leaf (17, .aload_n 0, 1)))) (.branch 22 (.branch 21 (.leaf (18, .invokevirtual 389, 3)) (.leaf (21, .aload_n 0, 1))) (.branch 25 (.leaf (22, .getfield 382, 3)) (.leaf (25, .ireturn, 1)))))
noncomputable def oX12_matchDays : List dLf := dFl tX12_matchDays
theorem ofX12_matchDays : dFl tX12_matchDays = oX12_matchDays := rfl
set_option maxRecDepth 100000 in
theorem odX12_matchDays : ∀ q ∈ oX12_matchDays, decode cX12_matchDays q.1 = .ok (q.2.1, q.2.2) := q_go qT_ok bbX12_matchDays oX12_matchDays 0 (by decide +kernel)
set_option maxRecDepth 100000 in
def bX12_matchOf : List Nat := [42, 182, 0, 167, 42, 27, 182, 1, 18, 154, 0, 9, 42, 4, 182, 0, 170, 172, 42, 182, 1, 133, 42, 180, 0, 47, 27, 46, 172]
set_option maxRecDepth 100000 in
theorem bbX12_matchOf : cX12_matchOf.data.toList.map UInt8.toNat = bX12_matchOf := by decide +kernel
set_option maxRecDepth 100000 in
def tX12_matchOf : Lean.RArray dLf := .branch 14 (.branch 6 (.branch 4 (.branch 1 (.leaf (0, .aload_n 0, 1)) (.leaf (1, .invokevirtual 167, 3))) (.branch 5 (.leaf (4, .aload_n 0, 1)) (.leaf (5, .iload_n 1, 1)))) (.branch 12 (.branch 9 (.leaf (6, .invokevirtual 274, 3)) (.leaf (9, .ifCond .ne 9, 3))) (.branch 13 (.leaf (12, .aload_n 0, 1)) (.leaf (13, .iconst 1, 1))))) (.branch 22 (.branch 18 (.branch 17 (.leaf (14, .invokevirtual 170, 3)) (.leaf (17, .ireturn, 1))) (.branch 19 (.leaf (18, .aload_n 0, 1)) (.leaf (19, .invokevirtual 389, 3)))) (.branch 26 (.branch 23 (.leaf (22, .aload_n 0, 1)) (.leaf (23, .getfield 47, 3))) (.branch 27 (.leaf (26, .iload_n 1, 1)) (.branch 28 (.leaf (27, .iaload, 1)) (.leaf (28, .ireturn, 1))))))
noncomputable def oX12_matchOf : List dLf := dFl tX12_matchOf
theorem ofX12_matchOf : dFl tX12_matchOf = oX12_matchOf := rfl
set_option maxRecDepth 100000 in
theorem odX12_matchOf : ∀ q ∈ oX12_matchOf, decode cX12_matchOf q.1 = .ok (q.2.1, q.2.2) := q_go qT_ok bbX12_matchOf oX12_matchOf 0 (by decide +kernel)
set_option maxRecDepth 100000 in
def bX12_meet : List Nat := [42, 182, 0, 167, 42, 27, 182, 1, 18, 153, 0, 39, 42, 29, 182, 1, 18, 153, 0, 31, 42, 28, 182, 1, 12, 153, 0, 23, 42, 21, 4, 182, 1, 12, 153, 0, 14, 27, 29, 159, 0, 9, 28, 21, 4, 160, 0, 9, 42, 4, 182, 0, 170, 172, 42, 28, 27, 182, 1, 108, 154, 0, 6, 16, 254, 172, 42, 180, 1, 102, 54, 5, 42, 180, 1, 105, 54, 6, 42, 21, 4, 29, 182, 1, 108, 153, 0, 31, 42, 27, 182, 1, 39, 42, 29, 3, 182, 1, 6, 160, 0, 17, 42, 29, 182, 1, 39, 42, 27, 3, 182, 1, 6, 159, 0, 6, 16, 254, 172, 21, 5, 42, 180, 1, 102, 184, 1, 99, 54, 7, 21, 7, 21, 6, 162, 0, 17, 21, 7, 42, 180, 1, 105, 162, 0, 8, 21, 7, 167, 0, 5, 16, 254, 172]
set_option maxRecDepth 100000 in
theorem bbX12_meet : cX12_meet.data.toList.map UInt8.toNat = bX12_meet := by decide +kernel
set_option maxRecDepth 100000 in
def tX12_meet : Lean.RArray dLf := .branch 76 (.branch 39 (.branch 20 (.branch 9 (.branch 4 (.branch 1 (.leaf (0, .aload_n 0, 1)) (.leaf (1, .invokevirtual 167, 3))) (.branch 5 (.leaf (4, .aload_n 0, 1)) (.branch 6 (.leaf (5, .iload_n 1, 1)) (.leaf (6, .invokevirtual 274, 3))))) (.branch 13 (.branch 12 (.leaf (9, .ifCond .eq 39, 3)) (.leaf (12, .aload_n 0, 1))) (.branch 14 (.leaf (13, .iload_n 3, 1)) (.branch 17 (.leaf (14, .invokevirtual 274, 3)) (.leaf (17, .ifCond .eq 31, 3)))))) (.branch 29 (.branch 22 (.branch 21 (.leaf (20, .aload_n 0, 1)) (.leaf (21, .iload_n 2, 1))) (.branch 25 (.leaf (22, .invokevirtual 268, 3)) (.branch 28 (.leaf (25, .ifCond .eq 23, 3)) (.leaf (28, .aload_n 0, 1))))) (.branch 34 (.branch 31 (.leaf (29, .iload 4, 2)) (.leaf (31, .invokevirtual 268, 3))) (.branch 37 (.leaf (34, .ifCond .eq 14, 3)) (.branch 38 (.leaf (37, .iload_n 1, 1)) (.leaf (38, .iload_n 3, 1))))))) (.branch 56 (.branch 49 (.branch 43 (.branch 42 (.leaf (39, .if_icmp .eq 9, 3)) (.leaf (42, .iload_n 2, 1))) (.branch 45 (.leaf (43, .iload 4, 2)) (.branch 48 (.leaf (45, .if_icmp .ne 9, 3)) (.leaf (48, .aload_n 0, 1))))) (.branch 53 (.branch 50 (.leaf (49, .iconst 1, 1)) (.leaf (50, .invokevirtual 170, 3))) (.branch 54 (.leaf (53, .ireturn, 1)) (.branch 55 (.leaf (54, .aload_n 0, 1)) (.leaf (55, .iload_n 2, 1)))))) (.branch 66 (.branch 60 (.branch 57 (.leaf (56, .iload_n 1, 1)) (.leaf (57, .invokevirtual 364, 3))) (.branch 63 (.leaf (60, .ifCond .ne 6, 3)) (.branch 65 (.leaf (63, .bipush (-2), 2)) (.leaf (65, .ireturn, 1))))) (.branch 70 (.branch 67 (.leaf (66, .aload_n 0, 1)) (.leaf (67, .getfield 358, 3))) (.branch 72 (.leaf (70, .istore 5, 2)) (.branch 73 (.leaf (72, .aload_n 0, 1)) (.leaf (73, .getfield 361, 3)))))))) (.branch 110 (.branch 94 (.branch 85 (.branch 79 (.branch 78 (.leaf (76, .istore 6, 2)) (.leaf (78, .aload_n 0, 1))) (.branch 81 (.leaf (79, .iload 4, 2)) (.branch 82 (.leaf (81, .iload_n 3, 1)) (.leaf (82, .invokevirtual 364, 3))))) (.branch 89 (.branch 88 (.leaf (85, .ifCond .eq 31, 3)) (.leaf (88, .aload_n 0, 1))) (.branch 90 (.leaf (89, .iload_n 1, 1)) (.branch 93 (.leaf (90, .invokevirtual 295, 3)) (.leaf (93, .aload_n 0, 1)))))) (.branch 103 (.branch 96 (.branch 95 (.leaf (94, .iload_n 3, 1)) (.leaf (95, .iconst 0, 1))) (.branch 99 (.leaf (96, .invokevirtual 262, 3)) (.branch 102 (.leaf (99, .if_icmp .ne 17, 3)) (.leaf (102, .aload_n 0, 1))))) (.branch 107 (.branch 104 (.leaf (103, .iload_n 3, 1)) (.leaf (104, .invokevirtual 295, 3))) (.branch 108 (.leaf (107, .aload_n 0, 1)) (.branch 109 (.leaf (108, .iload_n 1, 1)) (.leaf (109, .iconst 0, 1))))))) (.branch 132 (.branch 121 (.branch 116 (.branch 113 (.leaf (110, .invokevirtual 262, 3)) (.leaf (113, .if_icmp .eq 6, 3))) (.branch 118 (.leaf (116, .bipush (-2), 2)) (.branch 119 (.leaf (118, .ireturn, 1)) (.leaf (119, .iload 5, 2))))) (.branch 125 (.branch 122 (.leaf (121, .aload_n 0, 1)) (.leaf (122, .getfield 358, 3))) (.branch 128 (.leaf (125, .invokestatic 355, 3)) (.branch 130 (.leaf (128, .istore 7, 2)) (.leaf (130, .iload 7, 2)))))) (.branch 143 (.branch 137 (.branch 134 (.leaf (132, .iload 6, 2)) (.leaf (134, .if_icmp .ge 17, 3))) (.branch 139 (.leaf (137, .iload 7, 2)) (.branch 140 (.leaf (139, .aload_n 0, 1)) (.leaf (140, .getfield 361, 3))))) (.branch 148 (.branch 146 (.leaf (143, .if_icmp .ge 8, 3)) (.leaf (146, .iload 7, 2))) (.branch 151 (.leaf (148, .goto 5, 3)) (.branch 153 (.leaf (151, .bipush (-2), 2)) (.leaf (153, .ireturn, 1))))))))
noncomputable def oX12_meet : List dLf := dFl tX12_meet
theorem ofX12_meet : dFl tX12_meet = oX12_meet := rfl
set_option maxRecDepth 100000 in
theorem odX12_meet : ∀ q ∈ oX12_meet, decode cX12_meet q.1 = .ok (q.2.1, q.2.2) := q_go qT_ok bbX12_meet oX12_meet 0 (by decide +kernel)
set_option maxRecDepth 100000 in
def bX12_fitsAll : List Nat := [42, 42, 27, 4, 182, 1, 15, 181, 1, 136, 42, 3, 181, 1, 139, 4, 61, 3, 62, 29, 42, 180, 0, 20, 16, 8, 46, 162, 0, 111, 42, 180, 0, 20, 17, 0, 159, 6, 29, 104, 96, 46, 27, 159, 0, 6, 167, 0, 86, 42, 180, 0, 20, 17, 0, 159, 6, 29, 104, 96, 4, 96, 46, 54, 4, 42, 180, 0, 20, 17, 0, 159, 6, 29, 104, 96, 5, 96, 46, 54, 5, 28, 153, 0, 36, 42, 42, 27, 3, 182, 1, 15, 42, 180, 1, 136, 21, 4, 42, 180, 1, 139, 182, 1, 96, 3, 21, 5, 184, 0, 149, 153, 0, 7, 4, 167, 0, 4, 3, 61, 42, 21, 4, 181, 1, 136, 42, 21, 5, 181, 1, 139, 132, 3, 1, 167, 255, 140, 28, 172]
set_option maxRecDepth 100000 in
theorem bbX12_fitsAll : cX12_fitsAll.data.toList.map UInt8.toNat = bX12_fitsAll := by decide +kernel
set_option maxRecDepth 100000 in
def tX12_fitsAll : Lean.RArray dLf := .branch 65 (.branch 31 (.branch 16 (.branch 7 (.branch 2 (.branch 1 (.leaf (0, .aload_n 0, 1)) (.leaf (1, .aload_n 0, 1))) (.branch 3 (.leaf (2, .iload_n 1, 1)) (.branch 4 (.leaf (3, .iconst 1, 1)) (.leaf (4, .invokevirtual 271, 3))))) (.branch 11 (.branch 10 (.leaf (7, .putfield 392, 3)) (.leaf (10, .aload_n 0, 1))) (.branch 12 (.leaf (11, .iconst 0, 1)) (.branch 15 (.leaf (12, .putfield 395, 3)) (.leaf (15, .iconst 1, 1)))))) (.branch 21 (.branch 18 (.branch 17 (.leaf (16, .istore_n 2, 1)) (.leaf (17, .iconst 0, 1))) (.branch 19 (.leaf (18, .istore_n 3, 1)) (.branch 20 (.leaf (19, .iload_n 3, 1)) (.leaf (20, .aload_n 0, 1))))) (.branch 26 (.branch 24 (.leaf (21, .getfield 20, 3)) (.leaf (24, .bipush 8, 2))) (.branch 27 (.leaf (26, .iaload, 1)) (.branch 30 (.leaf (27, .if_icmp .ge 111, 3)) (.leaf (30, .aload_n 0, 1))))))) (.branch 49 (.branch 40 (.branch 37 (.branch 34 (.leaf (31, .getfield 20, 3)) (.leaf (34, .sipush 159, 3))) (.branch 38 (.leaf (37, .iconst 3, 1)) (.branch 39 (.leaf (38, .iload_n 3, 1)) (.leaf (39, .imul, 1))))) (.branch 42 (.branch 41 (.leaf (40, .iadd, 1)) (.leaf (41, .iaload, 1))) (.branch 43 (.leaf (42, .iload_n 1, 1)) (.branch 46 (.leaf (43, .if_icmp .eq 6, 3)) (.leaf (46, .goto 86, 3)))))) (.branch 58 (.branch 53 (.branch 50 (.leaf (49, .aload_n 0, 1)) (.leaf (50, .getfield 20, 3))) (.branch 56 (.leaf (53, .sipush 159, 3)) (.branch 57 (.leaf (56, .iconst 3, 1)) (.leaf (57, .iload_n 3, 1))))) (.branch 61 (.branch 59 (.leaf (58, .imul, 1)) (.branch 60 (.leaf (59, .iadd, 1)) (.leaf (60, .iconst 1, 1)))) (.branch 62 (.leaf (61, .iadd, 1)) (.branch 63 (.leaf (62, .iaload, 1)) (.leaf (63, .istore 4, 2)))))))) (.branch 98 (.branch 79 (.branch 74 (.branch 69 (.branch 66 (.leaf (65, .aload_n 0, 1)) (.leaf (66, .getfield 20, 3))) (.branch 72 (.leaf (69, .sipush 159, 3)) (.branch 73 (.leaf (72, .iconst 3, 1)) (.leaf (73, .iload_n 3, 1))))) (.branch 76 (.branch 75 (.leaf (74, .imul, 1)) (.leaf (75, .iadd, 1))) (.branch 77 (.leaf (76, .iconst 2, 1)) (.branch 78 (.leaf (77, .iadd, 1)) (.leaf (78, .iaload, 1)))))) (.branch 87 (.branch 82 (.branch 81 (.leaf (79, .istore 5, 2)) (.leaf (81, .iload_n 2, 1))) (.branch 85 (.leaf (82, .ifCond .eq 36, 3)) (.branch 86 (.leaf (85, .aload_n 0, 1)) (.leaf (86, .aload_n 0, 1))))) (.branch 92 (.branch 88 (.leaf (87, .iload_n 1, 1)) (.branch 89 (.leaf (88, .iconst 0, 1)) (.leaf (89, .invokevirtual 271, 3)))) (.branch 93 (.leaf (92, .aload_n 0, 1)) (.branch 96 (.leaf (93, .getfield 392, 3)) (.leaf (96, .iload 4, 2))))))) (.branch 119 (.branch 108 (.branch 102 (.branch 99 (.leaf (98, .aload_n 0, 1)) (.leaf (99, .getfield 395, 3))) (.branch 105 (.leaf (102, .invokevirtual 352, 3)) (.branch 106 (.leaf (105, .iconst 0, 1)) (.leaf (106, .iload 5, 2))))) (.branch 114 (.branch 111 (.leaf (108, .invokestatic 149, 3)) (.leaf (111, .ifCond .eq 7, 3))) (.branch 115 (.leaf (114, .iconst 1, 1)) (.branch 118 (.leaf (115, .goto 4, 3)) (.leaf (118, .iconst 0, 1)))))) (.branch 127 (.branch 121 (.branch 120 (.leaf (119, .istore_n 2, 1)) (.leaf (120, .aload_n 0, 1))) (.branch 123 (.leaf (121, .iload 4, 2)) (.branch 126 (.leaf (123, .putfield 392, 3)) (.leaf (126, .aload_n 0, 1))))) (.branch 135 (.branch 129 (.leaf (127, .iload 5, 2)) (.branch 132 (.leaf (129, .putfield 395, 3)) (.leaf (132, .iinc 3 1, 3)))) (.branch 138 (.leaf (135, .goto (-116), 3)) (.branch 139 (.leaf (138, .iload_n 2, 1)) (.leaf (139, .ireturn, 1))))))))
noncomputable def oX12_fitsAll : List dLf := dFl tX12_fitsAll
theorem ofX12_fitsAll : dFl tX12_fitsAll = oX12_fitsAll := rfl
set_option maxRecDepth 100000 in
theorem odX12_fitsAll : ∀ q ∈ oX12_fitsAll, decode cX12_fitsAll q.1 = .ok (q.2.1, q.2.2) := q_go qT_ok bbX12_fitsAll oX12_fitsAll 0 (by decide +kernel)
set_option maxRecDepth 100000 in
def bX12_fits : List Nat := [42, 182, 0, 167, 42, 180, 0, 180, 154, 0, 9, 42, 4, 182, 0, 170, 172, 3, 60, 3, 61, 28, 42, 180, 0, 20, 16, 6, 46, 162, 0, 27, 27, 42, 28, 182, 1, 142, 153, 0, 9, 4, 28, 120, 167, 0, 4, 3, 128, 60, 132, 2, 1, 167, 255, 224, 27, 172]
set_option maxRecDepth 100000 in
theorem bbX12_fits : cX12_fits.data.toList.map UInt8.toNat = bX12_fits := by decide +kernel
set_option maxRecDepth 100000 in
def tX12_fits : Lean.RArray dLf := .branch 28 (.branch 16 (.branch 8 (.branch 4 (.branch 1 (.leaf (0, .aload_n 0, 1)) (.leaf (1, .invokevirtual 167, 3))) (.branch 5 (.leaf (4, .aload_n 0, 1)) (.leaf (5, .getfield 180, 3)))) (.branch 12 (.branch 11 (.leaf (8, .ifCond .ne 9, 3)) (.leaf (11, .aload_n 0, 1))) (.branch 13 (.leaf (12, .iconst 1, 1)) (.leaf (13, .invokevirtual 170, 3))))) (.branch 20 (.branch 18 (.branch 17 (.leaf (16, .ireturn, 1)) (.leaf (17, .iconst 0, 1))) (.branch 19 (.leaf (18, .istore_n 1, 1)) (.leaf (19, .iconst 0, 1)))) (.branch 22 (.branch 21 (.leaf (20, .istore_n 2, 1)) (.leaf (21, .iload_n 2, 1))) (.branch 23 (.leaf (22, .aload_n 0, 1)) (.branch 26 (.leaf (23, .getfield 20, 3)) (.leaf (26, .bipush 6, 2))))))) (.branch 43 (.branch 34 (.branch 32 (.branch 29 (.leaf (28, .iaload, 1)) (.leaf (29, .if_icmp .ge 27, 3))) (.branch 33 (.leaf (32, .iload_n 1, 1)) (.leaf (33, .aload_n 0, 1)))) (.branch 38 (.branch 35 (.leaf (34, .iload_n 2, 1)) (.leaf (35, .invokevirtual 398, 3))) (.branch 41 (.leaf (38, .ifCond .eq 9, 3)) (.branch 42 (.leaf (41, .iconst 1, 1)) (.leaf (42, .iload_n 2, 1)))))) (.branch 49 (.branch 47 (.branch 44 (.leaf (43, .ishl, 1)) (.leaf (44, .goto 4, 3))) (.branch 48 (.leaf (47, .iconst 0, 1)) (.leaf (48, .ior, 1)))) (.branch 53 (.branch 50 (.leaf (49, .istore_n 1, 1)) (.leaf (50, .iinc 2 1, 3))) (.branch 56 (.leaf (53, .goto (-32), 3)) (.branch 57 (.leaf (56, .iload_n 1, 1)) (.leaf (57, .ireturn, 1)))))))
noncomputable def oX12_fits : List dLf := dFl tX12_fits
theorem ofX12_fits : dFl tX12_fits = oX12_fits := rfl
set_option maxRecDepth 100000 in
theorem odX12_fits : ∀ q ∈ oX12_fits, decode cX12_fits q.1 = .ok (q.2.1, q.2.2) := q_go qT_ok bbX12_fits oX12_fits 0 (by decide +kernel)
set_option maxRecDepth 100000 in
def bX12_reachOf : List Nat := [42, 27, 182, 1, 142, 87, 42, 42, 27, 3, 182, 1, 15, 42, 180, 1, 136, 42, 180, 1, 139, 182, 1, 93, 3, 62, 3, 54, 4, 21, 4, 42, 180, 0, 20, 7, 46, 162, 0, 31, 29, 42, 180, 0, 38, 21, 4, 46, 28, 163, 0, 10, 4, 21, 4, 120, 167, 0, 4, 3, 128, 62, 132, 4, 1, 167, 255, 220, 29, 172]
set_option maxRecDepth 100000 in
theorem bbX12_reachOf : cX12_reachOf.data.toList.map UInt8.toNat = bX12_reachOf := by decide +kernel
set_option maxRecDepth 100000 in
def tX12_reachOf : Lean.RArray dLf := .branch 35 (.branch 14 (.branch 7 (.branch 2 (.branch 1 (.leaf (0, .aload_n 0, 1)) (.leaf (1, .iload_n 1, 1))) (.branch 5 (.leaf (2, .invokevirtual 398, 3)) (.branch 6 (.leaf (5, .pop, 1)) (.leaf (6, .aload_n 0, 1))))) (.branch 9 (.branch 8 (.leaf (7, .aload_n 0, 1)) (.leaf (8, .iload_n 1, 1))) (.branch 10 (.leaf (9, .iconst 0, 1)) (.branch 13 (.leaf (10, .invokevirtual 271, 3)) (.leaf (13, .aload_n 0, 1)))))) (.branch 25 (.branch 18 (.branch 17 (.leaf (14, .getfield 392, 3)) (.leaf (17, .aload_n 0, 1))) (.branch 21 (.leaf (18, .getfield 395, 3)) (.branch 24 (.leaf (21, .invokevirtual 349, 3)) (.leaf (24, .iconst 0, 1))))) (.branch 29 (.branch 26 (.leaf (25, .istore_n 3, 1)) (.branch 27 (.leaf (26, .iconst 0, 1)) (.leaf (27, .istore 4, 2)))) (.branch 31 (.leaf (29, .iload 4, 2)) (.branch 32 (.leaf (31, .aload_n 0, 1)) (.leaf (32, .getfield 20, 3))))))) (.branch 52 (.branch 42 (.branch 37 (.branch 36 (.leaf (35, .iconst 4, 1)) (.leaf (36, .iaload, 1))) (.branch 40 (.leaf (37, .if_icmp .ge 31, 3)) (.branch 41 (.leaf (40, .iload_n 3, 1)) (.leaf (41, .aload_n 0, 1))))) (.branch 47 (.branch 45 (.leaf (42, .getfield 38, 3)) (.leaf (45, .iload 4, 2))) (.branch 48 (.leaf (47, .iaload, 1)) (.branch 49 (.leaf (48, .iload_n 2, 1)) (.leaf (49, .if_icmp .gt 10, 3)))))) (.branch 60 (.branch 55 (.branch 53 (.leaf (52, .iconst 1, 1)) (.leaf (53, .iload 4, 2))) (.branch 56 (.leaf (55, .ishl, 1)) (.branch 59 (.leaf (56, .goto 4, 3)) (.leaf (59, .iconst 0, 1))))) (.branch 65 (.branch 61 (.leaf (60, .ior, 1)) (.branch 62 (.leaf (61, .istore_n 3, 1)) (.leaf (62, .iinc 4 1, 3)))) (.branch 68 (.leaf (65, .goto (-36), 3)) (.branch 69 (.leaf (68, .iload_n 3, 1)) (.leaf (69, .ireturn, 1)))))))
noncomputable def oX12_reachOf : List dLf := dFl tX12_reachOf
theorem ofX12_reachOf : dFl tX12_reachOf = oX12_reachOf := rfl
set_option maxRecDepth 100000 in
theorem odX12_reachOf : ∀ q ∈ oX12_reachOf, decode cX12_reachOf q.1 = .ok (q.2.1, q.2.2) := q_go qT_ok bbX12_reachOf oX12_reachOf 0 (by decide +kernel)
set_option maxRecDepth 100000 in
def bX12_reach : List Nat := [42, 182, 0, 167, 42, 27, 182, 1, 12, 154, 0, 9, 42, 4, 182, 0, 170, 172, 28, 3, 19, 1, 84, 184, 0, 149, 153, 0, 12, 42, 27, 28, 182, 1, 145, 167, 0, 8, 42, 5, 182, 0, 170, 172]
set_option maxRecDepth 100000 in
theorem bbX12_reach : cX12_reach.data.toList.map UInt8.toNat = bX12_reach := by decide +kernel
set_option maxRecDepth 100000 in
def tX12_reach : Lean.RArray dLf := .branch 20 (.branch 12 (.branch 5 (.branch 1 (.leaf (0, .aload_n 0, 1)) (.branch 4 (.leaf (1, .invokevirtual 167, 3)) (.leaf (4, .aload_n 0, 1)))) (.branch 6 (.leaf (5, .iload_n 1, 1)) (.branch 9 (.leaf (6, .invokevirtual 268, 3)) (.leaf (9, .ifCond .ne 9, 3))))) (.branch 17 (.branch 13 (.leaf (12, .aload_n 0, 1)) (.branch 14 (.leaf (13, .iconst 1, 1)) (.leaf (14, .invokevirtual 170, 3)))) (.branch 18 (.leaf (17, .ireturn, 1)) (.branch 19 (.leaf (18, .iload_n 2, 1)) (.leaf (19, .iconst 0, 1)))))) (.branch 32 (.branch 29 (.branch 23 (.leaf (20, .ldc_w 340, 3)) (.branch 26 (.leaf (23, .invokestatic 149, 3)) (.leaf (26, .ifCond .eq 12, 3)))) (.branch 30 (.leaf (29, .aload_n 0, 1)) (.branch 31 (.leaf (30, .iload_n 1, 1)) (.leaf (31, .iload_n 2, 1))))) (.branch 39 (.branch 35 (.leaf (32, .invokevirtual 401, 3)) (.branch 38 (.leaf (35, .goto 8, 3)) (.leaf (38, .aload_n 0, 1)))) (.branch 40 (.leaf (39, .iconst 2, 1)) (.branch 43 (.leaf (40, .invokevirtual 170, 3)) (.leaf (43, .ireturn, 1))))))
noncomputable def oX12_reach : List dLf := dFl tX12_reach
theorem ofX12_reach : dFl tX12_reach = oX12_reach := rfl
set_option maxRecDepth 100000 in
theorem odX12_reach : ∀ q ∈ oX12_reach, decode cX12_reach q.1 = .ok (q.2.1, q.2.2) := q_go qT_ok bbX12_reach oX12_reach 0 (by decide +kernel)
set_option maxRecDepth 100000 in
def bX12_pier : List Nat := [42, 182, 0, 167, 42, 180, 0, 180, 154, 0, 9, 42, 4, 182, 0, 170, 172, 27, 3, 19, 1, 84, 184, 0, 149, 154, 0, 9, 42, 5, 182, 0, 170, 172, 2, 61, 19, 1, 85, 62, 3, 54, 4, 21, 4, 42, 180, 0, 20, 7, 46, 162, 0, 119, 3, 54, 5, 3, 54, 6, 3, 54, 7, 21, 7, 42, 180, 0, 20, 16, 6, 46, 162, 0, 49, 42, 21, 7, 182, 1, 142, 154, 0, 6, 167, 0, 31, 132, 6, 1, 21, 5, 42, 21, 7, 27, 182, 1, 145, 21, 4, 184, 1, 42, 153, 0, 7, 4, 167, 0, 4, 3, 96, 54, 5, 132, 7, 1, 167, 255, 201, 5, 21, 5, 104, 21, 6, 164, 0, 13, 5, 21, 5, 104, 21, 6, 100, 167, 0, 10, 21, 6, 5, 21, 5, 104, 100, 54, 7, 21, 7, 29, 161, 0, 6, 167, 0, 9, 21, 4, 61, 21, 7, 62, 132, 4, 1, 167, 255, 132, 28, 172]
set_option maxRecDepth 100000 in
theorem bbX12_pier : cX12_pier.data.toList.map UInt8.toNat = bX12_pier := by decide +kernel
set_option maxRecDepth 100000 in
def tX12_pier : Lean.RArray dLf := .branch 84 (.branch 41 (.branch 19 (.branch 11 (.branch 4 (.branch 1 (.leaf (0, .aload_n 0, 1)) (.leaf (1, .invokevirtual 167, 3))) (.branch 5 (.leaf (4, .aload_n 0, 1)) (.branch 8 (.leaf (5, .getfield 180, 3)) (.leaf (8, .ifCond .ne 9, 3))))) (.branch 16 (.branch 12 (.leaf (11, .aload_n 0, 1)) (.branch 13 (.leaf (12, .iconst 1, 1)) (.leaf (13, .invokevirtual 170, 3)))) (.branch 17 (.leaf (16, .ireturn, 1)) (.branch 18 (.leaf (17, .iload_n 1, 1)) (.leaf (18, .iconst 0, 1)))))) (.branch 33 (.branch 28 (.branch 22 (.leaf (19, .ldc_w 340, 3)) (.branch 25 (.leaf (22, .invokestatic 149, 3)) (.leaf (25, .ifCond .ne 9, 3)))) (.branch 29 (.leaf (28, .aload_n 0, 1)) (.branch 30 (.leaf (29, .iconst 2, 1)) (.leaf (30, .invokevirtual 170, 3))))) (.branch 36 (.branch 34 (.leaf (33, .ireturn, 1)) (.branch 35 (.leaf (34, .iconst (-1), 1)) (.leaf (35, .istore_n 2, 1)))) (.branch 39 (.leaf (36, .ldc_w 341, 3)) (.branch 40 (.leaf (39, .istore_n 3, 1)) (.leaf (40, .iconst 0, 1))))))) (.branch 60 (.branch 50 (.branch 45 (.branch 43 (.leaf (41, .istore 4, 2)) (.leaf (43, .iload 4, 2))) (.branch 46 (.leaf (45, .aload_n 0, 1)) (.branch 49 (.leaf (46, .getfield 20, 3)) (.leaf (49, .iconst 4, 1))))) (.branch 55 (.branch 51 (.leaf (50, .iaload, 1)) (.branch 54 (.leaf (51, .if_icmp .ge 119, 3)) (.leaf (54, .iconst 0, 1)))) (.branch 57 (.leaf (55, .istore 5, 2)) (.branch 58 (.leaf (57, .iconst 0, 1)) (.leaf (58, .istore 6, 2)))))) (.branch 71 (.branch 65 (.branch 61 (.leaf (60, .iconst 0, 1)) (.branch 63 (.leaf (61, .istore 7, 2)) (.leaf (63, .iload 7, 2)))) (.branch 66 (.leaf (65, .aload_n 0, 1)) (.branch 69 (.leaf (66, .getfield 20, 3)) (.leaf (69, .bipush 6, 2))))) (.branch 76 (.branch 72 (.leaf (71, .iaload, 1)) (.branch 75 (.leaf (72, .if_icmp .ge 49, 3)) (.leaf (75, .aload_n 0, 1)))) (.branch 78 (.leaf (76, .iload 7, 2)) (.branch 81 (.leaf (78, .invokevirtual 398, 3)) (.leaf (81, .ifCond .ne 6, 3)))))))) (.branch 131 (.branch 108 (.branch 95 (.branch 90 (.branch 87 (.leaf (84, .goto 31, 3)) (.leaf (87, .iinc 6 1, 3))) (.branch 92 (.leaf (90, .iload 5, 2)) (.branch 93 (.leaf (92, .aload_n 0, 1)) (.leaf (93, .iload 7, 2))))) (.branch 101 (.branch 96 (.leaf (95, .iload_n 1, 1)) (.branch 99 (.leaf (96, .invokevirtual 401, 3)) (.leaf (99, .iload 4, 2)))) (.branch 104 (.leaf (101, .invokestatic 298, 3)) (.branch 107 (.leaf (104, .ifCond .eq 7, 3)) (.leaf (107, .iconst 1, 1)))))) (.branch 121 (.branch 113 (.branch 111 (.leaf (108, .goto 4, 3)) (.branch 112 (.leaf (111, .iconst 0, 1)) (.leaf (112, .iadd, 1)))) (.branch 115 (.leaf (113, .istore 5, 2)) (.branch 118 (.leaf (115, .iinc 7 1, 3)) (.leaf (118, .goto (-55), 3))))) (.branch 125 (.branch 122 (.leaf (121, .iconst 2, 1)) (.branch 124 (.leaf (122, .iload 5, 2)) (.leaf (124, .imul, 1)))) (.branch 127 (.leaf (125, .iload 6, 2)) (.branch 130 (.leaf (127, .if_icmp .le 13, 3)) (.leaf (130, .iconst 2, 1))))))) (.branch 149 (.branch 140 (.branch 134 (.branch 133 (.leaf (131, .iload 5, 2)) (.leaf (133, .imul, 1))) (.branch 136 (.leaf (134, .iload 6, 2)) (.branch 137 (.leaf (136, .isub, 1)) (.leaf (137, .goto 10, 3))))) (.branch 145 (.branch 142 (.leaf (140, .iload 6, 2)) (.branch 143 (.leaf (142, .iconst 2, 1)) (.leaf (143, .iload 5, 2)))) (.branch 146 (.leaf (145, .imul, 1)) (.branch 147 (.leaf (146, .isub, 1)) (.leaf (147, .istore 7, 2)))))) (.branch 161 (.branch 155 (.branch 151 (.leaf (149, .iload 7, 2)) (.branch 152 (.leaf (151, .iload_n 3, 1)) (.leaf (152, .if_icmp .lt 6, 3)))) (.branch 158 (.leaf (155, .goto 9, 3)) (.branch 160 (.leaf (158, .iload 4, 2)) (.leaf (160, .istore_n 2, 1))))) (.branch 167 (.branch 163 (.leaf (161, .iload 7, 2)) (.branch 164 (.leaf (163, .istore_n 3, 1)) (.leaf (164, .iinc 4 1, 3)))) (.branch 170 (.leaf (167, .goto (-124), 3)) (.branch 171 (.leaf (170, .iload_n 2, 1)) (.leaf (171, .ireturn, 1))))))))
noncomputable def oX12_pier : List dLf := dFl tX12_pier
theorem ofX12_pier : dFl tX12_pier = oX12_pier := rfl
set_option maxRecDepth 100000 in
theorem odX12_pier : ∀ q ∈ oX12_pier, decode cX12_pier q.1 = .ok (q.2.1, q.2.2) := q_go qT_ok bbX12_pier oX12_pier 0 (by decide +kernel)
set_option maxRecDepth 100000 in
def bX12_doLead : List Nat := [4, 27, 120, 54, 4, 3, 54, 5, 21, 5, 21, 4, 159, 0, 103, 21, 4, 54, 5, 3, 54, 6, 21, 6, 42, 180, 0, 20, 8, 46, 162, 0, 82, 42, 21, 6, 182, 1, 46, 154, 0, 67, 29, 21, 6, 184, 1, 42, 153, 0, 6, 167, 0, 55, 4, 42, 180, 0, 20, 16, 59, 7, 21, 6, 104, 96, 46, 120, 4, 42, 180, 0, 20, 16, 59, 7, 21, 6, 104, 96, 4, 96, 46, 120, 128, 54, 7, 21, 4, 21, 4, 21, 7, 126, 153, 0, 8, 21, 7, 167, 0, 4, 3, 128, 54, 4, 132, 6, 1, 167, 255, 169, 167, 255, 152, 21, 4, 28, 184, 1, 42, 172]
set_option maxRecDepth 100000 in
theorem bbX12_doLead : cX12_doLead.data.toList.map UInt8.toNat = bX12_doLead := by decide +kernel
set_option maxRecDepth 100000 in
def tX12_doLead : Lean.RArray dLf := .branch 64 (.branch 29 (.branch 12 (.branch 5 (.branch 2 (.branch 1 (.leaf (0, .iconst 1, 1)) (.leaf (1, .iload_n 1, 1))) (.branch 3 (.leaf (2, .ishl, 1)) (.leaf (3, .istore 4, 2)))) (.branch 8 (.branch 6 (.leaf (5, .iconst 0, 1)) (.leaf (6, .istore 5, 2))) (.branch 10 (.leaf (8, .iload 5, 2)) (.leaf (10, .iload 4, 2))))) (.branch 20 (.branch 17 (.branch 15 (.leaf (12, .if_icmp .eq 103, 3)) (.leaf (15, .iload 4, 2))) (.branch 19 (.leaf (17, .istore 5, 2)) (.leaf (19, .iconst 0, 1)))) (.branch 24 (.branch 22 (.leaf (20, .istore 6, 2)) (.leaf (22, .iload 6, 2))) (.branch 25 (.leaf (24, .aload_n 0, 1)) (.branch 28 (.leaf (25, .getfield 20, 3)) (.leaf (28, .iconst 5, 1))))))) (.branch 45 (.branch 36 (.branch 33 (.branch 30 (.leaf (29, .iaload, 1)) (.leaf (30, .if_icmp .ge 82, 3))) (.branch 34 (.leaf (33, .aload_n 0, 1)) (.leaf (34, .iload 6, 2)))) (.branch 42 (.branch 39 (.leaf (36, .invokevirtual 302, 3)) (.leaf (39, .ifCond .ne 67, 3))) (.branch 43 (.leaf (42, .iload_n 3, 1)) (.leaf (43, .iload 6, 2))))) (.branch 55 (.branch 51 (.branch 48 (.leaf (45, .invokestatic 298, 3)) (.leaf (48, .ifCond .eq 6, 3))) (.branch 54 (.leaf (51, .goto 55, 3)) (.leaf (54, .iconst 1, 1)))) (.branch 59 (.branch 56 (.leaf (55, .aload_n 0, 1)) (.leaf (56, .getfield 20, 3))) (.branch 61 (.leaf (59, .bipush 59, 2)) (.branch 62 (.leaf (61, .iconst 4, 1)) (.leaf (62, .iload 6, 2)))))))) (.branch 85 (.branch 75 (.branch 68 (.branch 66 (.branch 65 (.leaf (64, .imul, 1)) (.leaf (65, .iadd, 1))) (.branch 67 (.leaf (66, .iaload, 1)) (.leaf (67, .ishl, 1)))) (.branch 70 (.branch 69 (.leaf (68, .iconst 1, 1)) (.leaf (69, .aload_n 0, 1))) (.branch 73 (.leaf (70, .getfield 20, 3)) (.leaf (73, .bipush 59, 2))))) (.branch 80 (.branch 78 (.branch 76 (.leaf (75, .iconst 4, 1)) (.leaf (76, .iload 6, 2))) (.branch 79 (.leaf (78, .imul, 1)) (.leaf (79, .iadd, 1)))) (.branch 82 (.branch 81 (.leaf (80, .iconst 1, 1)) (.leaf (81, .iadd, 1))) (.branch 83 (.leaf (82, .iaload, 1)) (.branch 84 (.leaf (83, .ishl, 1)) (.leaf (84, .ior, 1))))))) (.branch 103 (.branch 93 (.branch 89 (.branch 87 (.leaf (85, .istore 7, 2)) (.leaf (87, .iload 4, 2))) (.branch 91 (.leaf (89, .iload 4, 2)) (.leaf (91, .iload 7, 2)))) (.branch 97 (.branch 94 (.leaf (93, .iand, 1)) (.leaf (94, .ifCond .eq 8, 3))) (.branch 99 (.leaf (97, .iload 7, 2)) (.branch 102 (.leaf (99, .goto 4, 3)) (.leaf (102, .iconst 0, 1)))))) (.branch 112 (.branch 106 (.branch 104 (.leaf (103, .ior, 1)) (.leaf (104, .istore 4, 2))) (.branch 109 (.leaf (106, .iinc 6 1, 3)) (.leaf (109, .goto (-87), 3)))) (.branch 117 (.branch 115 (.leaf (112, .goto (-104), 3)) (.leaf (115, .iload 4, 2))) (.branch 118 (.leaf (117, .iload_n 2, 1)) (.branch 121 (.leaf (118, .invokestatic 298, 3)) (.leaf (121, .ireturn, 1))))))))
noncomputable def oX12_doLead : List dLf := dFl tX12_doLead
theorem ofX12_doLead : dFl tX12_doLead = oX12_doLead := rfl
set_option maxRecDepth 100000 in
theorem odX12_doLead : ∀ q ∈ oX12_doLead, decode cX12_doLead q.1 = .ok (q.2.1, q.2.2) := q_go qT_ok bbX12_doLead oX12_doLead 0 (by decide +kernel)
theorem dX12_doLead_0 : decode cX12_doLead 0 = .ok (.iconst 1, 1) := d_by (d_at odX12_doLead ofX12_doLead 0) rfl
theorem dX12_doLead_1 : decode cX12_doLead 1 = .ok (.iload_n 1, 1) := d_by (d_at odX12_doLead ofX12_doLead 1) rfl
theorem dX12_doLead_2 : decode cX12_doLead 2 = .ok (.ishl, 1) := d_by (d_at odX12_doLead ofX12_doLead 2) rfl
theorem dX12_doLead_3 : decode cX12_doLead 3 = .ok (.istore 4, 2) := d_by (d_at odX12_doLead ofX12_doLead 3) rfl
theorem dX12_doLead_5 : decode cX12_doLead 5 = .ok (.iconst 0, 1) := d_by (d_at odX12_doLead ofX12_doLead 5) rfl
theorem dX12_doLead_6 : decode cX12_doLead 6 = .ok (.istore 5, 2) := d_by (d_at odX12_doLead ofX12_doLead 6) rfl
theorem dX12_doLead_8 : decode cX12_doLead 8 = .ok (.iload 5, 2) := d_by (d_at odX12_doLead ofX12_doLead 8) rfl
theorem dX12_doLead_10 : decode cX12_doLead 10 = .ok (.iload 4, 2) := d_by (d_at odX12_doLead ofX12_doLead 10) rfl
theorem dX12_doLead_12 : decode cX12_doLead 12 = .ok (.if_icmp .eq 103, 3) := d_by (d_at odX12_doLead ofX12_doLead 12) rfl
theorem dX12_doLead_15 : decode cX12_doLead 15 = .ok (.iload 4, 2) := d_by (d_at odX12_doLead ofX12_doLead 15) rfl
theorem dX12_doLead_17 : decode cX12_doLead 17 = .ok (.istore 5, 2) := d_by (d_at odX12_doLead ofX12_doLead 17) rfl
theorem dX12_doLead_19 : decode cX12_doLead 19 = .ok (.iconst 0, 1) := d_by (d_at odX12_doLead ofX12_doLead 19) rfl
theorem dX12_doLead_20 : decode cX12_doLead 20 = .ok (.istore 6, 2) := d_by (d_at odX12_doLead ofX12_doLead 20) rfl
theorem dX12_doLead_22 : decode cX12_doLead 22 = .ok (.iload 6, 2) := d_by (d_at odX12_doLead ofX12_doLead 22) rfl
theorem dX12_doLead_24 : decode cX12_doLead 24 = .ok (.aload_n 0, 1) := d_by (d_at odX12_doLead ofX12_doLead 24) rfl
theorem dX12_doLead_25 : decode cX12_doLead 25 = .ok (.getfield 20, 3) := d_by (d_at odX12_doLead ofX12_doLead 25) rfl
theorem dX12_doLead_28 : decode cX12_doLead 28 = .ok (.iconst 5, 1) := d_by (d_at odX12_doLead ofX12_doLead 28) rfl
theorem dX12_doLead_29 : decode cX12_doLead 29 = .ok (.iaload, 1) := d_by (d_at odX12_doLead ofX12_doLead 29) rfl
theorem dX12_doLead_30 : decode cX12_doLead 30 = .ok (.if_icmp .ge 82, 3) := d_by (d_at odX12_doLead ofX12_doLead 30) rfl
theorem dX12_doLead_33 : decode cX12_doLead 33 = .ok (.aload_n 0, 1) := d_by (d_at odX12_doLead ofX12_doLead 33) rfl
theorem dX12_doLead_34 : decode cX12_doLead 34 = .ok (.iload 6, 2) := d_by (d_at odX12_doLead ofX12_doLead 34) rfl
theorem dX12_doLead_36 : decode cX12_doLead 36 = .ok (.invokevirtual 302, 3) := d_by (d_at odX12_doLead ofX12_doLead 36) rfl
theorem dX12_doLead_39 : decode cX12_doLead 39 = .ok (.ifCond .ne 67, 3) := d_by (d_at odX12_doLead ofX12_doLead 39) rfl
theorem dX12_doLead_42 : decode cX12_doLead 42 = .ok (.iload_n 3, 1) := d_by (d_at odX12_doLead ofX12_doLead 42) rfl
theorem dX12_doLead_43 : decode cX12_doLead 43 = .ok (.iload 6, 2) := d_by (d_at odX12_doLead ofX12_doLead 43) rfl
theorem dX12_doLead_45 : decode cX12_doLead 45 = .ok (.invokestatic 298, 3) := d_by (d_at odX12_doLead ofX12_doLead 45) rfl
theorem dX12_doLead_48 : decode cX12_doLead 48 = .ok (.ifCond .eq 6, 3) := d_by (d_at odX12_doLead ofX12_doLead 48) rfl
theorem dX12_doLead_51 : decode cX12_doLead 51 = .ok (.goto 55, 3) := d_by (d_at odX12_doLead ofX12_doLead 51) rfl
theorem dX12_doLead_54 : decode cX12_doLead 54 = .ok (.iconst 1, 1) := d_by (d_at odX12_doLead ofX12_doLead 54) rfl
theorem dX12_doLead_55 : decode cX12_doLead 55 = .ok (.aload_n 0, 1) := d_by (d_at odX12_doLead ofX12_doLead 55) rfl
theorem dX12_doLead_56 : decode cX12_doLead 56 = .ok (.getfield 20, 3) := d_by (d_at odX12_doLead ofX12_doLead 56) rfl
theorem dX12_doLead_59 : decode cX12_doLead 59 = .ok (.bipush 59, 2) := d_by (d_at odX12_doLead ofX12_doLead 59) rfl
theorem dX12_doLead_61 : decode cX12_doLead 61 = .ok (.iconst 4, 1) := d_by (d_at odX12_doLead ofX12_doLead 61) rfl
theorem dX12_doLead_62 : decode cX12_doLead 62 = .ok (.iload 6, 2) := d_by (d_at odX12_doLead ofX12_doLead 62) rfl
theorem dX12_doLead_64 : decode cX12_doLead 64 = .ok (.imul, 1) := d_by (d_at odX12_doLead ofX12_doLead 64) rfl
theorem dX12_doLead_65 : decode cX12_doLead 65 = .ok (.iadd, 1) := d_by (d_at odX12_doLead ofX12_doLead 65) rfl
theorem dX12_doLead_66 : decode cX12_doLead 66 = .ok (.iaload, 1) := d_by (d_at odX12_doLead ofX12_doLead 66) rfl
theorem dX12_doLead_67 : decode cX12_doLead 67 = .ok (.ishl, 1) := d_by (d_at odX12_doLead ofX12_doLead 67) rfl
theorem dX12_doLead_68 : decode cX12_doLead 68 = .ok (.iconst 1, 1) := d_by (d_at odX12_doLead ofX12_doLead 68) rfl
theorem dX12_doLead_69 : decode cX12_doLead 69 = .ok (.aload_n 0, 1) := d_by (d_at odX12_doLead ofX12_doLead 69) rfl
theorem dX12_doLead_70 : decode cX12_doLead 70 = .ok (.getfield 20, 3) := d_by (d_at odX12_doLead ofX12_doLead 70) rfl
theorem dX12_doLead_73 : decode cX12_doLead 73 = .ok (.bipush 59, 2) := d_by (d_at odX12_doLead ofX12_doLead 73) rfl
theorem dX12_doLead_75 : decode cX12_doLead 75 = .ok (.iconst 4, 1) := d_by (d_at odX12_doLead ofX12_doLead 75) rfl
theorem dX12_doLead_76 : decode cX12_doLead 76 = .ok (.iload 6, 2) := d_by (d_at odX12_doLead ofX12_doLead 76) rfl
theorem dX12_doLead_78 : decode cX12_doLead 78 = .ok (.imul, 1) := d_by (d_at odX12_doLead ofX12_doLead 78) rfl
theorem dX12_doLead_79 : decode cX12_doLead 79 = .ok (.iadd, 1) := d_by (d_at odX12_doLead ofX12_doLead 79) rfl
theorem dX12_doLead_80 : decode cX12_doLead 80 = .ok (.iconst 1, 1) := d_by (d_at odX12_doLead ofX12_doLead 80) rfl
theorem dX12_doLead_81 : decode cX12_doLead 81 = .ok (.iadd, 1) := d_by (d_at odX12_doLead ofX12_doLead 81) rfl
theorem dX12_doLead_82 : decode cX12_doLead 82 = .ok (.iaload, 1) := d_by (d_at odX12_doLead ofX12_doLead 82) rfl
theorem dX12_doLead_83 : decode cX12_doLead 83 = .ok (.ishl, 1) := d_by (d_at odX12_doLead ofX12_doLead 83) rfl
theorem dX12_doLead_84 : decode cX12_doLead 84 = .ok (.ior, 1) := d_by (d_at odX12_doLead ofX12_doLead 84) rfl
theorem dX12_doLead_85 : decode cX12_doLead 85 = .ok (.istore 7, 2) := d_by (d_at odX12_doLead ofX12_doLead 85) rfl
theorem dX12_doLead_87 : decode cX12_doLead 87 = .ok (.iload 4, 2) := d_by (d_at odX12_doLead ofX12_doLead 87) rfl
theorem dX12_doLead_89 : decode cX12_doLead 89 = .ok (.iload 4, 2) := d_by (d_at odX12_doLead ofX12_doLead 89) rfl
theorem dX12_doLead_91 : decode cX12_doLead 91 = .ok (.iload 7, 2) := d_by (d_at odX12_doLead ofX12_doLead 91) rfl
theorem dX12_doLead_93 : decode cX12_doLead 93 = .ok (.iand, 1) := d_by (d_at odX12_doLead ofX12_doLead 93) rfl
theorem dX12_doLead_94 : decode cX12_doLead 94 = .ok (.ifCond .eq 8, 3) := d_by (d_at odX12_doLead ofX12_doLead 94) rfl
theorem dX12_doLead_97 : decode cX12_doLead 97 = .ok (.iload 7, 2) := d_by (d_at odX12_doLead ofX12_doLead 97) rfl
theorem dX12_doLead_99 : decode cX12_doLead 99 = .ok (.goto 4, 3) := d_by (d_at odX12_doLead ofX12_doLead 99) rfl
theorem dX12_doLead_102 : decode cX12_doLead 102 = .ok (.iconst 0, 1) := d_by (d_at odX12_doLead ofX12_doLead 102) rfl
theorem dX12_doLead_103 : decode cX12_doLead 103 = .ok (.ior, 1) := d_by (d_at odX12_doLead ofX12_doLead 103) rfl
theorem dX12_doLead_104 : decode cX12_doLead 104 = .ok (.istore 4, 2) := d_by (d_at odX12_doLead ofX12_doLead 104) rfl
theorem dX12_doLead_106 : decode cX12_doLead 106 = .ok (.iinc 6 1, 3) := d_by (d_at odX12_doLead ofX12_doLead 106) rfl
theorem dX12_doLead_109 : decode cX12_doLead 109 = .ok (.goto (-87), 3) := d_by (d_at odX12_doLead ofX12_doLead 109) rfl
theorem dX12_doLead_112 : decode cX12_doLead 112 = .ok (.goto (-104), 3) := d_by (d_at odX12_doLead ofX12_doLead 112) rfl
theorem dX12_doLead_115 : decode cX12_doLead 115 = .ok (.iload 4, 2) := d_by (d_at odX12_doLead ofX12_doLead 115) rfl
theorem dX12_doLead_117 : decode cX12_doLead 117 = .ok (.iload_n 2, 1) := d_by (d_at odX12_doLead ofX12_doLead 117) rfl
theorem dX12_doLead_118 : decode cX12_doLead 118 = .ok (.invokestatic 298, 3) := d_by (d_at odX12_doLead ofX12_doLead 118) rfl
theorem dX12_doLead_121 : decode cX12_doLead 121 = .ok (.ireturn, 1) := d_by (d_at odX12_doLead ofX12_doLead 121) rfl
set_option maxRecDepth 100000 in
def bX12_watch : List Nat := [42, 182, 0, 167, 42, 27, 182, 1, 21, 153, 0, 16, 42, 28, 182, 1, 21, 153, 0, 8, 27, 28, 160, 0, 9, 42, 4, 182, 0, 170, 172, 4, 42, 180, 0, 20, 8, 46, 120, 4, 100, 62, 3, 54, 4, 21, 4, 4, 42, 180, 0, 20, 8, 46, 120, 162, 0, 35, 21, 4, 184, 1, 148, 29, 184, 1, 148, 162, 0, 17, 42, 27, 28, 21, 4, 182, 1, 151, 154, 0, 6, 21, 4, 62, 132, 4, 1, 167, 255, 214, 29, 42, 180, 0, 26, 4, 46, 2, 130, 126, 172]
set_option maxRecDepth 100000 in
theorem bbX12_watch : cX12_watch.data.toList.map UInt8.toNat = bX12_watch := by decide +kernel
set_option maxRecDepth 100000 in
def tX12_watch : Lean.RArray dLf := .branch 48 (.branch 27 (.branch 13 (.branch 5 (.branch 1 (.leaf (0, .aload_n 0, 1)) (.branch 4 (.leaf (1, .invokevirtual 167, 3)) (.leaf (4, .aload_n 0, 1)))) (.branch 9 (.branch 6 (.leaf (5, .iload_n 1, 1)) (.leaf (6, .invokevirtual 277, 3))) (.branch 12 (.leaf (9, .ifCond .eq 16, 3)) (.leaf (12, .aload_n 0, 1))))) (.branch 21 (.branch 17 (.branch 14 (.leaf (13, .iload_n 2, 1)) (.leaf (14, .invokevirtual 277, 3))) (.branch 20 (.leaf (17, .ifCond .eq 8, 3)) (.leaf (20, .iload_n 1, 1)))) (.branch 25 (.branch 22 (.leaf (21, .iload_n 2, 1)) (.leaf (22, .if_icmp .ne 9, 3))) (.branch 26 (.leaf (25, .aload_n 0, 1)) (.leaf (26, .iconst 1, 1)))))) (.branch 38 (.branch 32 (.branch 30 (.leaf (27, .invokevirtual 170, 3)) (.branch 31 (.leaf (30, .ireturn, 1)) (.leaf (31, .iconst 1, 1)))) (.branch 36 (.branch 33 (.leaf (32, .aload_n 0, 1)) (.leaf (33, .getfield 20, 3))) (.branch 37 (.leaf (36, .iconst 5, 1)) (.leaf (37, .iaload, 1))))) (.branch 42 (.branch 40 (.branch 39 (.leaf (38, .ishl, 1)) (.leaf (39, .iconst 1, 1))) (.branch 41 (.leaf (40, .isub, 1)) (.leaf (41, .istore_n 3, 1)))) (.branch 45 (.branch 43 (.leaf (42, .iconst 0, 1)) (.leaf (43, .istore 4, 2))) (.branch 47 (.leaf (45, .iload 4, 2)) (.leaf (47, .iconst 1, 1))))))) (.branch 75 (.branch 60 (.branch 53 (.branch 49 (.leaf (48, .aload_n 0, 1)) (.branch 52 (.leaf (49, .getfield 20, 3)) (.leaf (52, .iconst 5, 1)))) (.branch 55 (.branch 54 (.leaf (53, .iaload, 1)) (.leaf (54, .ishl, 1))) (.branch 58 (.leaf (55, .if_icmp .ge 35, 3)) (.leaf (58, .iload 4, 2))))) (.branch 70 (.branch 64 (.branch 63 (.leaf (60, .invokestatic 404, 3)) (.leaf (63, .iload_n 3, 1))) (.branch 67 (.leaf (64, .invokestatic 404, 3)) (.leaf (67, .if_icmp .ge 17, 3)))) (.branch 72 (.branch 71 (.leaf (70, .aload_n 0, 1)) (.leaf (71, .iload_n 1, 1))) (.branch 73 (.leaf (72, .iload_n 2, 1)) (.leaf (73, .iload 4, 2)))))) (.branch 91 (.branch 83 (.branch 78 (.leaf (75, .invokevirtual 407, 3)) (.branch 81 (.leaf (78, .ifCond .ne 6, 3)) (.leaf (81, .iload 4, 2)))) (.branch 87 (.branch 84 (.leaf (83, .istore_n 3, 1)) (.leaf (84, .iinc 4 1, 3))) (.branch 90 (.leaf (87, .goto (-42), 3)) (.leaf (90, .iload_n 3, 1))))) (.branch 97 (.branch 95 (.branch 92 (.leaf (91, .aload_n 0, 1)) (.leaf (92, .getfield 26, 3))) (.branch 96 (.leaf (95, .iconst 1, 1)) (.leaf (96, .iaload, 1)))) (.branch 99 (.branch 98 (.leaf (97, .iconst (-1), 1)) (.leaf (98, .ixor, 1))) (.branch 100 (.leaf (99, .iand, 1)) (.leaf (100, .ireturn, 1)))))))
noncomputable def oX12_watch : List dLf := dFl tX12_watch
theorem ofX12_watch : dFl tX12_watch = oX12_watch := rfl
set_option maxRecDepth 100000 in
theorem odX12_watch : ∀ q ∈ oX12_watch, decode cX12_watch q.1 = .ok (q.2.1, q.2.2) := q_go qT_ok bbX12_watch oX12_watch 0 (by decide +kernel)
set_option maxRecDepth 100000 in
def bX12_layFar : List Nat := [3, 60, 27, 16, 7, 162, 0, 102, 3, 61, 28, 16, 7, 162, 0, 88, 27, 42, 180, 0, 20, 7, 46, 162, 0, 27, 28, 42, 180, 0, 20, 7, 46, 162, 0, 17, 27, 28, 159, 0, 12, 42, 27, 28, 182, 1, 49, 167, 0, 4, 2, 62, 42, 180, 0, 53, 16, 7, 27, 104, 28, 96, 27, 28, 160, 0, 7, 3, 167, 0, 26, 29, 156, 0, 9, 19, 1, 85, 167, 0, 16, 42, 180, 0, 20, 16, 59, 7, 29, 104, 96, 5, 96, 46, 79, 132, 2, 1, 167, 255, 168, 132, 1, 1, 167, 255, 154, 3, 60, 27, 16, 7, 162, 0, 108, 3, 61, 28, 16, 7, 162, 0, 94, 3, 62, 29, 16, 7, 162, 0, 80, 42, 180, 0, 53, 16, 7, 28, 104, 27, 96, 46, 42, 180, 0, 53, 16, 7, 27, 104, 29, 96, 46, 96, 42, 180, 0, 53, 16, 7, 28, 104, 29, 96, 46, 162, 0, 37, 42, 180, 0, 53, 16, 7, 28, 104, 29, 96, 42, 180, 0, 53, 16, 7, 28, 104, 27, 96, 46, 42, 180, 0, 53, 16, 7, 27, 104, 29, 96, 46, 96, 79, 132, 3, 1, 167, 255, 176, 132, 2, 1, 167, 255, 162, 132, 1, 1, 167, 255, 148, 177]
set_option maxRecDepth 100000 in
theorem bbX12_layFar : cX12_layFar.data.toList.map UInt8.toNat = bX12_layFar := by decide +kernel
set_option maxRecDepth 100000 in
def tX12_layFar : Lean.RArray dLf := .branch 115 (.branch 56 (.branch 27 (.branch 11 (.branch 5 (.branch 2 (.branch 1 (.leaf (0, .iconst 0, 1)) (.leaf (1, .istore_n 1, 1))) (.branch 3 (.leaf (2, .iload_n 1, 1)) (.leaf (3, .bipush 7, 2)))) (.branch 9 (.branch 8 (.leaf (5, .if_icmp .ge 102, 3)) (.leaf (8, .iconst 0, 1))) (.branch 10 (.leaf (9, .istore_n 2, 1)) (.leaf (10, .iload_n 2, 1))))) (.branch 18 (.branch 16 (.branch 13 (.leaf (11, .bipush 7, 2)) (.leaf (13, .if_icmp .ge 88, 3))) (.branch 17 (.leaf (16, .iload_n 1, 1)) (.leaf (17, .aload_n 0, 1)))) (.branch 22 (.branch 21 (.leaf (18, .getfield 20, 3)) (.leaf (21, .iconst 4, 1))) (.branch 23 (.leaf (22, .iaload, 1)) (.branch 26 (.leaf (23, .if_icmp .ge 27, 3)) (.leaf (26, .iload_n 2, 1))))))) (.branch 41 (.branch 33 (.branch 31 (.branch 28 (.leaf (27, .aload_n 0, 1)) (.leaf (28, .getfield 20, 3))) (.branch 32 (.leaf (31, .iconst 4, 1)) (.leaf (32, .iaload, 1)))) (.branch 37 (.branch 36 (.leaf (33, .if_icmp .ge 17, 3)) (.leaf (36, .iload_n 1, 1))) (.branch 38 (.leaf (37, .iload_n 2, 1)) (.leaf (38, .if_icmp .eq 12, 3))))) (.branch 47 (.branch 43 (.branch 42 (.leaf (41, .aload_n 0, 1)) (.leaf (42, .iload_n 1, 1))) (.branch 44 (.leaf (43, .iload_n 2, 1)) (.leaf (44, .invokevirtual 305, 3)))) (.branch 51 (.branch 50 (.leaf (47, .goto 4, 3)) (.leaf (50, .iconst (-1), 1))) (.branch 52 (.leaf (51, .istore_n 3, 1)) (.branch 53 (.leaf (52, .aload_n 0, 1)) (.leaf (53, .getfield 53, 3)))))))) (.branch 87 (.branch 67 (.branch 61 (.branch 59 (.branch 58 (.leaf (56, .bipush 7, 2)) (.leaf (58, .iload_n 1, 1))) (.branch 60 (.leaf (59, .imul, 1)) (.leaf (60, .iload_n 2, 1)))) (.branch 63 (.branch 62 (.leaf (61, .iadd, 1)) (.leaf (62, .iload_n 1, 1))) (.branch 64 (.leaf (63, .iload_n 2, 1)) (.leaf (64, .if_icmp .ne 7, 3))))) (.branch 75 (.branch 71 (.branch 68 (.leaf (67, .iconst 0, 1)) (.leaf (68, .goto 26, 3))) (.branch 72 (.leaf (71, .iload_n 3, 1)) (.leaf (72, .ifCond .ge 9, 3)))) (.branch 81 (.branch 78 (.leaf (75, .ldc_w 341, 3)) (.leaf (78, .goto 16, 3))) (.branch 82 (.leaf (81, .aload_n 0, 1)) (.branch 85 (.leaf (82, .getfield 20, 3)) (.leaf (85, .bipush 59, 2))))))) (.branch 95 (.branch 91 (.branch 89 (.branch 88 (.leaf (87, .iconst 4, 1)) (.leaf (88, .iload_n 3, 1))) (.branch 90 (.leaf (89, .imul, 1)) (.leaf (90, .iadd, 1)))) (.branch 93 (.branch 92 (.leaf (91, .iconst 2, 1)) (.leaf (92, .iadd, 1))) (.branch 94 (.leaf (93, .iaload, 1)) (.leaf (94, .iastore, 1))))) (.branch 107 (.branch 101 (.branch 98 (.leaf (95, .iinc 2 1, 3)) (.leaf (98, .goto (-88), 3))) (.branch 104 (.leaf (101, .iinc 1 1, 3)) (.leaf (104, .goto (-102), 3)))) (.branch 109 (.branch 108 (.leaf (107, .iconst 0, 1)) (.leaf (108, .istore_n 1, 1))) (.branch 110 (.leaf (109, .iload_n 1, 1)) (.branch 112 (.leaf (110, .bipush 7, 2)) (.leaf (112, .if_icmp .ge 108, 3))))))))) (.branch 164 (.branch 141 (.branch 126 (.branch 120 (.branch 117 (.branch 116 (.leaf (115, .iconst 0, 1)) (.leaf (116, .istore_n 2, 1))) (.branch 118 (.leaf (117, .iload_n 2, 1)) (.leaf (118, .bipush 7, 2)))) (.branch 124 (.branch 123 (.leaf (120, .if_icmp .ge 94, 3)) (.leaf (123, .iconst 0, 1))) (.branch 125 (.leaf (124, .istore_n 3, 1)) (.leaf (125, .iload_n 3, 1))))) (.branch 135 (.branch 131 (.branch 128 (.leaf (126, .bipush 7, 2)) (.leaf (128, .if_icmp .ge 80, 3))) (.branch 132 (.leaf (131, .aload_n 0, 1)) (.leaf (132, .getfield 53, 3)))) (.branch 138 (.branch 137 (.leaf (135, .bipush 7, 2)) (.leaf (137, .iload_n 2, 1))) (.branch 139 (.leaf (138, .imul, 1)) (.branch 140 (.leaf (139, .iload_n 1, 1)) (.leaf (140, .iadd, 1))))))) (.branch 152 (.branch 148 (.branch 143 (.branch 142 (.leaf (141, .iaload, 1)) (.leaf (142, .aload_n 0, 1))) (.branch 146 (.leaf (143, .getfield 53, 3)) (.leaf (146, .bipush 7, 2)))) (.branch 150 (.branch 149 (.leaf (148, .iload_n 1, 1)) (.leaf (149, .imul, 1))) (.branch 151 (.leaf (150, .iload_n 3, 1)) (.leaf (151, .iadd, 1))))) (.branch 158 (.branch 154 (.branch 153 (.leaf (152, .iaload, 1)) (.leaf (153, .iadd, 1))) (.branch 155 (.leaf (154, .aload_n 0, 1)) (.leaf (155, .getfield 53, 3)))) (.branch 161 (.branch 160 (.leaf (158, .bipush 7, 2)) (.leaf (160, .iload_n 2, 1))) (.branch 162 (.leaf (161, .imul, 1)) (.branch 163 (.leaf (162, .iload_n 3, 1)) (.leaf (163, .iadd, 1)))))))) (.branch 189 (.branch 177 (.branch 172 (.branch 168 (.branch 165 (.leaf (164, .iaload, 1)) (.leaf (165, .if_icmp .ge 37, 3))) (.branch 169 (.leaf (168, .aload_n 0, 1)) (.leaf (169, .getfield 53, 3)))) (.branch 175 (.branch 174 (.leaf (172, .bipush 7, 2)) (.leaf (174, .iload_n 2, 1))) (.branch 176 (.leaf (175, .imul, 1)) (.leaf (176, .iload_n 3, 1))))) (.branch 184 (.branch 179 (.branch 178 (.leaf (177, .iadd, 1)) (.leaf (178, .aload_n 0, 1))) (.branch 182 (.leaf (179, .getfield 53, 3)) (.leaf (182, .bipush 7, 2)))) (.branch 186 (.branch 185 (.leaf (184, .iload_n 2, 1)) (.leaf (185, .imul, 1))) (.branch 187 (.leaf (186, .iload_n 1, 1)) (.branch 188 (.leaf (187, .iadd, 1)) (.leaf (188, .iaload, 1))))))) (.branch 200 (.branch 196 (.branch 193 (.branch 190 (.leaf (189, .aload_n 0, 1)) (.leaf (190, .getfield 53, 3))) (.branch 195 (.leaf (193, .bipush 7, 2)) (.leaf (195, .iload_n 1, 1)))) (.branch 198 (.branch 197 (.leaf (196, .imul, 1)) (.leaf (197, .iload_n 3, 1))) (.branch 199 (.leaf (198, .iadd, 1)) (.leaf (199, .iaload, 1))))) (.branch 208 (.branch 202 (.branch 201 (.leaf (200, .iadd, 1)) (.leaf (201, .iastore, 1))) (.branch 205 (.leaf (202, .iinc 3 1, 3)) (.leaf (205, .goto (-80), 3)))) (.branch 214 (.branch 211 (.leaf (208, .iinc 2 1, 3)) (.leaf (211, .goto (-94), 3))) (.branch 217 (.leaf (214, .iinc 1 1, 3)) (.branch 220 (.leaf (217, .goto (-108), 3)) (.leaf (220, .return_, 1)))))))))
noncomputable def oX12_layFar : List dLf := dFl tX12_layFar
theorem ofX12_layFar : dFl tX12_layFar = oX12_layFar := rfl
set_option maxRecDepth 100000 in
theorem odX12_layFar : ∀ q ∈ oX12_layFar, decode cX12_layFar q.1 = .ok (q.2.1, q.2.2) := q_go qT_ok bbX12_layFar oX12_layFar 0 (by decide +kernel)
set_option maxRecDepth 100000 in
def bX12_tryRound : List Nat := [29, 42, 180, 1, 154, 161, 0, 4, 177, 27, 42, 180, 0, 20, 7, 46, 160, 0, 23, 42, 29, 181, 1, 154, 42, 180, 0, 56, 3, 42, 180, 0, 59, 3, 27, 184, 0, 176, 177, 3, 54, 4, 21, 4, 42, 180, 0, 20, 7, 46, 162, 0, 63, 28, 21, 4, 184, 1, 42, 153, 0, 6, 167, 0, 45, 42, 180, 0, 56, 27, 21, 4, 79, 42, 27, 4, 96, 28, 4, 21, 4, 120, 128, 29, 42, 180, 0, 53, 16, 7, 42, 180, 0, 56, 27, 4, 100, 46, 104, 21, 4, 96, 46, 96, 182, 1, 157, 132, 4, 1, 167, 255, 188, 177]
set_option maxRecDepth 100000 in
theorem bbX12_tryRound : cX12_tryRound.data.toList.map UInt8.toNat = bX12_tryRound := by decide +kernel
set_option maxRecDepth 100000 in
def tX12_tryRound : Lean.RArray dLf := .branch 59 (.branch 29 (.branch 14 (.branch 8 (.branch 2 (.branch 1 (.leaf (0, .iload_n 3, 1)) (.leaf (1, .aload_n 0, 1))) (.branch 5 (.leaf (2, .getfield 410, 3)) (.leaf (5, .if_icmp .lt 4, 3)))) (.branch 10 (.branch 9 (.leaf (8, .return_, 1)) (.leaf (9, .iload_n 1, 1))) (.branch 11 (.leaf (10, .aload_n 0, 1)) (.leaf (11, .getfield 20, 3))))) (.branch 20 (.branch 16 (.branch 15 (.leaf (14, .iconst 4, 1)) (.leaf (15, .iaload, 1))) (.branch 19 (.leaf (16, .if_icmp .ne 23, 3)) (.leaf (19, .aload_n 0, 1)))) (.branch 24 (.branch 21 (.leaf (20, .iload_n 3, 1)) (.leaf (21, .putfield 410, 3))) (.branch 25 (.leaf (24, .aload_n 0, 1)) (.branch 28 (.leaf (25, .getfield 56, 3)) (.leaf (28, .iconst 0, 1))))))) (.branch 42 (.branch 35 (.branch 33 (.branch 30 (.leaf (29, .aload_n 0, 1)) (.leaf (30, .getfield 59, 3))) (.branch 34 (.leaf (33, .iconst 0, 1)) (.leaf (34, .iload_n 1, 1)))) (.branch 39 (.branch 38 (.leaf (35, .invokestatic 176, 3)) (.leaf (38, .return_, 1))) (.branch 40 (.leaf (39, .iconst 0, 1)) (.leaf (40, .istore 4, 2))))) (.branch 49 (.branch 45 (.branch 44 (.leaf (42, .iload 4, 2)) (.leaf (44, .aload_n 0, 1))) (.branch 48 (.leaf (45, .getfield 20, 3)) (.leaf (48, .iconst 4, 1)))) (.branch 53 (.branch 50 (.leaf (49, .iaload, 1)) (.leaf (50, .if_icmp .ge 63, 3))) (.branch 54 (.leaf (53, .iload_n 2, 1)) (.branch 56 (.leaf (54, .iload 4, 2)) (.leaf (56, .invokestatic 298, 3)))))))) (.branch 84 (.branch 74 (.branch 69 (.branch 65 (.branch 62 (.leaf (59, .ifCond .eq 6, 3)) (.leaf (62, .goto 45, 3))) (.branch 66 (.leaf (65, .aload_n 0, 1)) (.leaf (66, .getfield 56, 3)))) (.branch 72 (.branch 70 (.leaf (69, .iload_n 1, 1)) (.leaf (70, .iload 4, 2))) (.branch 73 (.leaf (72, .iastore, 1)) (.leaf (73, .aload_n 0, 1))))) (.branch 78 (.branch 76 (.branch 75 (.leaf (74, .iload_n 1, 1)) (.leaf (75, .iconst 1, 1))) (.branch 77 (.leaf (76, .iadd, 1)) (.leaf (77, .iload_n 2, 1)))) (.branch 81 (.branch 79 (.leaf (78, .iconst 1, 1)) (.leaf (79, .iload 4, 2))) (.branch 82 (.leaf (81, .ishl, 1)) (.branch 83 (.leaf (82, .ior, 1)) (.leaf (83, .iload_n 3, 1))))))) (.branch 98 (.branch 91 (.branch 88 (.branch 85 (.leaf (84, .aload_n 0, 1)) (.leaf (85, .getfield 53, 3))) (.branch 90 (.leaf (88, .bipush 7, 2)) (.leaf (90, .aload_n 0, 1)))) (.branch 95 (.branch 94 (.leaf (91, .getfield 56, 3)) (.leaf (94, .iload_n 1, 1))) (.branch 96 (.leaf (95, .iconst 1, 1)) (.branch 97 (.leaf (96, .isub, 1)) (.leaf (97, .iaload, 1)))))) (.branch 103 (.branch 101 (.branch 99 (.leaf (98, .imul, 1)) (.leaf (99, .iload 4, 2))) (.branch 102 (.leaf (101, .iadd, 1)) (.leaf (102, .iaload, 1)))) (.branch 107 (.branch 104 (.leaf (103, .iadd, 1)) (.leaf (104, .invokevirtual 413, 3))) (.branch 110 (.leaf (107, .iinc 4 1, 3)) (.branch 113 (.leaf (110, .goto (-68), 3)) (.leaf (113, .return_, 1))))))))
noncomputable def oX12_tryRound : List dLf := dFl tX12_tryRound
theorem ofX12_tryRound : dFl tX12_tryRound = oX12_tryRound := rfl
set_option maxRecDepth 100000 in
theorem odX12_tryRound : ∀ q ∈ oX12_tryRound, decode cX12_tryRound q.1 = .ok (q.2.1, q.2.2) := q_go qT_ok bbX12_tryRound oX12_tryRound 0 (by decide +kernel)
set_option maxRecDepth 100000 in
def bX12_seekRound : List Nat := [42, 182, 1, 160, 42, 19, 1, 85, 181, 1, 154, 42, 180, 0, 56, 3, 27, 79, 42, 4, 4, 27, 120, 3, 182, 1, 157, 42, 180, 1, 154, 19, 1, 85, 160, 0, 8, 16, 254, 167, 0, 7, 42, 180, 1, 154, 172]
set_option maxRecDepth 100000 in
theorem bbX12_seekRound : cX12_seekRound.data.toList.map UInt8.toNat = bX12_seekRound := by decide +kernel
set_option maxRecDepth 100000 in
def tX12_seekRound : Lean.RArray dLf := .branch 21 (.branch 12 (.branch 5 (.branch 1 (.leaf (0, .aload_n 0, 1)) (.branch 4 (.leaf (1, .invokevirtual 416, 3)) (.leaf (4, .aload_n 0, 1)))) (.branch 8 (.leaf (5, .ldc_w 341, 3)) (.branch 11 (.leaf (8, .putfield 410, 3)) (.leaf (11, .aload_n 0, 1))))) (.branch 17 (.branch 15 (.leaf (12, .getfield 56, 3)) (.branch 16 (.leaf (15, .iconst 0, 1)) (.leaf (16, .iload_n 1, 1)))) (.branch 19 (.branch 18 (.leaf (17, .iastore, 1)) (.leaf (18, .aload_n 0, 1))) (.branch 20 (.leaf (19, .iconst 1, 1)) (.leaf (20, .iconst 1, 1)))))) (.branch 31 (.branch 24 (.branch 22 (.leaf (21, .iload_n 1, 1)) (.branch 23 (.leaf (22, .ishl, 1)) (.leaf (23, .iconst 0, 1)))) (.branch 27 (.leaf (24, .invokevirtual 413, 3)) (.branch 28 (.leaf (27, .aload_n 0, 1)) (.leaf (28, .getfield 410, 3))))) (.branch 39 (.branch 34 (.leaf (31, .ldc_w 341, 3)) (.branch 37 (.leaf (34, .if_icmp .ne 8, 3)) (.leaf (37, .bipush (-2), 2)))) (.branch 43 (.branch 42 (.leaf (39, .goto 7, 3)) (.leaf (42, .aload_n 0, 1))) (.branch 46 (.leaf (43, .getfield 410, 3)) (.leaf (46, .ireturn, 1))))))
noncomputable def oX12_seekRound : List dLf := dFl tX12_seekRound
theorem ofX12_seekRound : dFl tX12_seekRound = oX12_seekRound := rfl
set_option maxRecDepth 100000 in
theorem odX12_seekRound : ∀ q ∈ oX12_seekRound, decode cX12_seekRound q.1 = .ok (q.2.1, q.2.2) := q_go qT_ok bbX12_seekRound oX12_seekRound 0 (by decide +kernel)
set_option maxRecDepth 100000 in
def bX12_round : List Nat := [42, 182, 0, 167, 42, 27, 182, 1, 21, 153, 0, 11, 42, 27, 182, 1, 163, 167, 0, 8, 42, 4, 182, 0, 170, 172]
set_option maxRecDepth 100000 in
theorem bbX12_round : cX12_round.data.toList.map UInt8.toNat = bX12_round := by decide +kernel
set_option maxRecDepth 100000 in
def tX12_round : Lean.RArray dLf := .branch 13 (.branch 5 (.branch 1 (.leaf (0, .aload_n 0, 1)) (.branch 4 (.leaf (1, .invokevirtual 167, 3)) (.leaf (4, .aload_n 0, 1)))) (.branch 9 (.branch 6 (.leaf (5, .iload_n 1, 1)) (.leaf (6, .invokevirtual 277, 3))) (.branch 12 (.leaf (9, .ifCond .eq 11, 3)) (.leaf (12, .aload_n 0, 1))))) (.branch 20 (.branch 14 (.leaf (13, .iload_n 1, 1)) (.branch 17 (.leaf (14, .invokevirtual 419, 3)) (.leaf (17, .goto 8, 3)))) (.branch 22 (.branch 21 (.leaf (20, .aload_n 0, 1)) (.leaf (21, .iconst 1, 1))) (.branch 25 (.leaf (22, .invokevirtual 170, 3)) (.leaf (25, .ireturn, 1)))))
noncomputable def oX12_round : List dLf := dFl tX12_round
theorem ofX12_round : dFl tX12_round = oX12_round := rfl
set_option maxRecDepth 100000 in
theorem odX12_round : ∀ q ∈ oX12_round, decode cX12_round q.1 = .ok (q.2.1, q.2.2) := q_go qT_ok bbX12_round oX12_round 0 (by decide +kernel)
set_option maxRecDepth 100000 in
def bX12_roundAt : List Nat := [42, 182, 0, 167, 42, 27, 182, 1, 21, 153, 0, 19, 28, 3, 42, 180, 0, 20, 7, 46, 4, 100, 184, 0, 149, 154, 0, 9, 42, 4, 182, 0, 170, 172, 42, 27, 182, 1, 163, 156, 0, 12, 42, 16, 6, 182, 0, 170, 167, 0, 9, 42, 180, 0, 59, 28, 46, 172]
set_option maxRecDepth 100000 in
theorem bbX12_roundAt : cX12_roundAt.data.toList.map UInt8.toNat = bX12_roundAt := by decide +kernel
set_option maxRecDepth 100000 in
def tX12_roundAt : Lean.RArray dLf := .branch 28 (.branch 14 (.branch 6 (.branch 4 (.branch 1 (.leaf (0, .aload_n 0, 1)) (.leaf (1, .invokevirtual 167, 3))) (.branch 5 (.leaf (4, .aload_n 0, 1)) (.leaf (5, .iload_n 1, 1)))) (.branch 12 (.branch 9 (.leaf (6, .invokevirtual 277, 3)) (.leaf (9, .ifCond .eq 19, 3))) (.branch 13 (.leaf (12, .iload_n 2, 1)) (.leaf (13, .iconst 0, 1))))) (.branch 20 (.branch 18 (.branch 15 (.leaf (14, .aload_n 0, 1)) (.leaf (15, .getfield 20, 3))) (.branch 19 (.leaf (18, .iconst 4, 1)) (.leaf (19, .iaload, 1)))) (.branch 22 (.branch 21 (.leaf (20, .iconst 1, 1)) (.leaf (21, .isub, 1))) (.branch 25 (.leaf (22, .invokestatic 149, 3)) (.leaf (25, .ifCond .ne 9, 3)))))) (.branch 42 (.branch 34 (.branch 30 (.branch 29 (.leaf (28, .aload_n 0, 1)) (.leaf (29, .iconst 1, 1))) (.branch 33 (.leaf (30, .invokevirtual 170, 3)) (.leaf (33, .ireturn, 1)))) (.branch 36 (.branch 35 (.leaf (34, .aload_n 0, 1)) (.leaf (35, .iload_n 1, 1))) (.branch 39 (.leaf (36, .invokevirtual 419, 3)) (.leaf (39, .ifCond .ge 12, 3))))) (.branch 51 (.branch 45 (.branch 43 (.leaf (42, .aload_n 0, 1)) (.leaf (43, .bipush 6, 2))) (.branch 48 (.leaf (45, .invokevirtual 170, 3)) (.leaf (48, .goto 9, 3)))) (.branch 55 (.branch 52 (.leaf (51, .aload_n 0, 1)) (.leaf (52, .getfield 59, 3))) (.branch 56 (.leaf (55, .iload_n 2, 1)) (.branch 57 (.leaf (56, .iaload, 1)) (.leaf (57, .ireturn, 1)))))))
noncomputable def oX12_roundAt : List dLf := dFl tX12_roundAt
theorem ofX12_roundAt : dFl tX12_roundAt = oX12_roundAt := rfl
set_option maxRecDepth 100000 in
theorem odX12_roundAt : ∀ q ∈ oX12_roundAt, decode cX12_roundAt q.1 = .ok (q.2.1, q.2.2) := q_go qT_ok bbX12_roundAt oX12_roundAt 0 (by decide +kernel)
set_option maxRecDepth 100000 in
def bX12_decade : List Nat := [42, 182, 0, 167, 42, 180, 0, 180, 154, 0, 9, 42, 4, 182, 0, 170, 172, 27, 3, 19, 1, 166, 184, 0, 149, 153, 0, 13, 28, 3, 16, 50, 184, 0, 149, 154, 0, 9, 42, 5, 182, 0, 170, 172, 27, 62, 3, 54, 4, 3, 54, 5, 21, 5, 28, 162, 0, 144, 3, 54, 6, 21, 6, 42, 180, 0, 20, 16, 7, 46, 162, 0, 123, 2, 54, 7, 3, 54, 8, 16, 75, 29, 104, 16, 74, 96, 19, 1, 167, 112, 62, 29, 16, 100, 112, 42, 180, 0, 20, 6, 46, 162, 0, 47, 16, 75, 29, 104, 16, 74, 96, 19, 1, 167, 112, 62, 29, 42, 21, 6, 182, 1, 28, 112, 54, 7, 16, 75, 29, 104, 16, 74, 96, 19, 1, 167, 112, 62, 29, 42, 180, 0, 20, 3, 46, 112, 54, 8, 21, 4, 42, 21, 6, 42, 180, 0, 26, 3, 46, 21, 5, 96, 21, 7, 21, 8, 182, 1, 35, 42, 21, 6, 4, 182, 1, 6, 160, 0, 7, 4, 167, 0, 4, 3, 96, 54, 4, 132, 6, 1, 167, 255, 127, 132, 5, 1, 167, 255, 112, 21, 4, 172]
set_option maxRecDepth 100000 in
theorem bbX12_decade : cX12_decade.data.toList.map UInt8.toNat = bX12_decade := by decide +kernel
set_option maxRecDepth 100000 in
def tX12_decade : Lean.RArray dLf := .branch 100 (.branch 52 (.branch 28 (.branch 13 (.branch 5 (.branch 1 (.leaf (0, .aload_n 0, 1)) (.branch 4 (.leaf (1, .invokevirtual 167, 3)) (.leaf (4, .aload_n 0, 1)))) (.branch 11 (.branch 8 (.leaf (5, .getfield 180, 3)) (.leaf (8, .ifCond .ne 9, 3))) (.branch 12 (.leaf (11, .aload_n 0, 1)) (.leaf (12, .iconst 1, 1))))) (.branch 18 (.branch 16 (.leaf (13, .invokevirtual 170, 3)) (.branch 17 (.leaf (16, .ireturn, 1)) (.leaf (17, .iload_n 1, 1)))) (.branch 22 (.branch 19 (.leaf (18, .iconst 0, 1)) (.leaf (19, .ldc_w 422, 3))) (.branch 25 (.leaf (22, .invokestatic 149, 3)) (.leaf (25, .ifCond .eq 13, 3)))))) (.branch 40 (.branch 32 (.branch 29 (.leaf (28, .iload_n 2, 1)) (.branch 30 (.leaf (29, .iconst 0, 1)) (.leaf (30, .bipush 50, 2)))) (.branch 38 (.branch 35 (.leaf (32, .invokestatic 149, 3)) (.leaf (35, .ifCond .ne 9, 3))) (.branch 39 (.leaf (38, .aload_n 0, 1)) (.leaf (39, .iconst 2, 1))))) (.branch 46 (.branch 44 (.branch 43 (.leaf (40, .invokevirtual 170, 3)) (.leaf (43, .ireturn, 1))) (.branch 45 (.leaf (44, .iload_n 1, 1)) (.leaf (45, .istore_n 3, 1)))) (.branch 49 (.branch 47 (.leaf (46, .iconst 0, 1)) (.leaf (47, .istore 4, 2))) (.branch 50 (.leaf (49, .iconst 0, 1)) (.leaf (50, .istore 5, 2))))))) (.branch 77 (.branch 64 (.branch 58 (.branch 54 (.leaf (52, .iload 5, 2)) (.branch 55 (.leaf (54, .iload_n 2, 1)) (.leaf (55, .if_icmp .ge 144, 3)))) (.branch 61 (.branch 59 (.leaf (58, .iconst 0, 1)) (.leaf (59, .istore 6, 2))) (.branch 63 (.leaf (61, .iload 6, 2)) (.leaf (63, .aload_n 0, 1))))) (.branch 70 (.branch 67 (.leaf (64, .getfield 20, 3)) (.branch 69 (.leaf (67, .bipush 7, 2)) (.leaf (69, .iaload, 1)))) (.branch 74 (.branch 73 (.leaf (70, .if_icmp .ge 123, 3)) (.leaf (73, .iconst (-1), 1))) (.branch 76 (.leaf (74, .istore 7, 2)) (.leaf (76, .iconst 0, 1)))))) (.branch 89 (.branch 82 (.branch 79 (.leaf (77, .istore 8, 2)) (.branch 81 (.leaf (79, .bipush 75, 2)) (.leaf (81, .iload_n 3, 1)))) (.branch 85 (.branch 83 (.leaf (82, .imul, 1)) (.leaf (83, .bipush 74, 2))) (.branch 86 (.leaf (85, .iadd, 1)) (.leaf (86, .ldc_w 423, 3))))) (.branch 94 (.branch 91 (.branch 90 (.leaf (89, .irem, 1)) (.leaf (90, .istore_n 3, 1))) (.branch 92 (.leaf (91, .iload_n 3, 1)) (.leaf (92, .bipush 100, 2)))) (.branch 96 (.branch 95 (.leaf (94, .irem, 1)) (.leaf (95, .aload_n 0, 1))) (.branch 99 (.leaf (96, .getfield 20, 3)) (.leaf (99, .iconst 3, 1)))))))) (.branch 145 (.branch 123 (.branch 111 (.branch 106 (.branch 101 (.leaf (100, .iaload, 1)) (.branch 104 (.leaf (101, .if_icmp .ge 47, 3)) (.leaf (104, .bipush 75, 2)))) (.branch 108 (.branch 107 (.leaf (106, .iload_n 3, 1)) (.leaf (107, .imul, 1))) (.branch 110 (.leaf (108, .bipush 74, 2)) (.leaf (110, .iadd, 1))))) (.branch 116 (.branch 114 (.leaf (111, .ldc_w 423, 3)) (.branch 115 (.leaf (114, .irem, 1)) (.leaf (115, .istore_n 3, 1)))) (.branch 118 (.branch 117 (.leaf (116, .iload_n 3, 1)) (.leaf (117, .aload_n 0, 1))) (.branch 120 (.leaf (118, .iload 6, 2)) (.leaf (120, .invokevirtual 284, 3)))))) (.branch 133 (.branch 128 (.branch 124 (.leaf (123, .irem, 1)) (.branch 126 (.leaf (124, .istore 7, 2)) (.leaf (126, .bipush 75, 2)))) (.branch 130 (.branch 129 (.leaf (128, .iload_n 3, 1)) (.leaf (129, .imul, 1))) (.branch 132 (.leaf (130, .bipush 74, 2)) (.leaf (132, .iadd, 1))))) (.branch 139 (.branch 137 (.branch 136 (.leaf (133, .ldc_w 423, 3)) (.leaf (136, .irem, 1))) (.branch 138 (.leaf (137, .istore_n 3, 1)) (.leaf (138, .iload_n 3, 1)))) (.branch 143 (.branch 140 (.leaf (139, .aload_n 0, 1)) (.leaf (140, .getfield 20, 3))) (.branch 144 (.leaf (143, .iconst 0, 1)) (.leaf (144, .iaload, 1))))))) (.branch 170 (.branch 157 (.branch 150 (.branch 146 (.leaf (145, .irem, 1)) (.branch 148 (.leaf (146, .istore 8, 2)) (.leaf (148, .iload 4, 2)))) (.branch 153 (.branch 151 (.leaf (150, .aload_n 0, 1)) (.leaf (151, .iload 6, 2))) (.branch 154 (.leaf (153, .aload_n 0, 1)) (.leaf (154, .getfield 26, 3))))) (.branch 162 (.branch 159 (.branch 158 (.leaf (157, .iconst 0, 1)) (.leaf (158, .iaload, 1))) (.branch 161 (.leaf (159, .iload 5, 2)) (.leaf (161, .iadd, 1)))) (.branch 166 (.branch 164 (.leaf (162, .iload 7, 2)) (.leaf (164, .iload 8, 2))) (.branch 169 (.leaf (166, .invokevirtual 291, 3)) (.leaf (169, .aload_n 0, 1)))))) (.branch 184 (.branch 176 (.branch 172 (.leaf (170, .iload 6, 2)) (.branch 173 (.leaf (172, .iconst 1, 1)) (.leaf (173, .invokevirtual 262, 3)))) (.branch 180 (.branch 179 (.leaf (176, .if_icmp .ne 7, 3)) (.leaf (179, .iconst 1, 1))) (.branch 183 (.leaf (180, .goto 4, 3)) (.leaf (183, .iconst 0, 1))))) (.branch 193 (.branch 187 (.branch 185 (.leaf (184, .iadd, 1)) (.leaf (185, .istore 4, 2))) (.branch 190 (.leaf (187, .iinc 6 1, 3)) (.leaf (190, .goto (-129), 3)))) (.branch 199 (.branch 196 (.leaf (193, .iinc 5 1, 3)) (.leaf (196, .goto (-144), 3))) (.branch 201 (.leaf (199, .iload 4, 2)) (.leaf (201, .ireturn, 1))))))))
noncomputable def oX12_decade : List dLf := dFl tX12_decade
theorem ofX12_decade : dFl tX12_decade = oX12_decade := rfl
set_option maxRecDepth 100000 in
theorem odX12_decade : ∀ q ∈ oX12_decade, decode cX12_decade q.1 = .ok (q.2.1, q.2.2) := q_go qT_ok bbX12_decade oX12_decade 0 (by decide +kernel)
set_option maxRecDepth 100000 in
def bX12_note1 : List Nat := [42, 180, 0, 183, 16, 12, 160, 0, 43, 3, 60, 27, 17, 3, 68, 162, 0, 24, 42, 180, 0, 29, 27, 42, 180, 0, 29, 27, 16, 76, 96, 46, 79, 132, 1, 1, 167, 255, 231, 42, 89, 180, 0, 183, 4, 100, 181, 0, 183, 42, 180, 0, 26, 3, 42, 180, 0, 29, 16, 76, 42, 180, 0, 183, 104, 16, 76, 184, 0, 176, 42, 89, 180, 0, 183, 4, 96, 181, 0, 183, 177]
set_option maxRecDepth 100000 in
theorem bbX12_note1 : cX12_note1.data.toList.map UInt8.toNat = bX12_note1 := by decide +kernel
set_option maxRecDepth 100000 in
def tX12_note1 : Lean.RArray dLf := .branch 40 (.branch 22 (.branch 10 (.branch 4 (.branch 1 (.leaf (0, .aload_n 0, 1)) (.leaf (1, .getfield 183, 3))) (.branch 6 (.leaf (4, .bipush 12, 2)) (.branch 9 (.leaf (6, .if_icmp .ne 43, 3)) (.leaf (9, .iconst 0, 1))))) (.branch 15 (.branch 11 (.leaf (10, .istore_n 1, 1)) (.branch 12 (.leaf (11, .iload_n 1, 1)) (.leaf (12, .sipush 836, 3)))) (.branch 18 (.leaf (15, .if_icmp .ge 24, 3)) (.branch 19 (.leaf (18, .aload_n 0, 1)) (.leaf (19, .getfield 29, 3)))))) (.branch 30 (.branch 24 (.branch 23 (.leaf (22, .iload_n 1, 1)) (.leaf (23, .aload_n 0, 1))) (.branch 27 (.leaf (24, .getfield 29, 3)) (.branch 28 (.leaf (27, .iload_n 1, 1)) (.leaf (28, .bipush 76, 2))))) (.branch 33 (.branch 31 (.leaf (30, .iadd, 1)) (.branch 32 (.leaf (31, .iaload, 1)) (.leaf (32, .iastore, 1)))) (.branch 36 (.leaf (33, .iinc 1 1, 3)) (.branch 39 (.leaf (36, .goto (-25), 3)) (.leaf (39, .aload_n 0, 1))))))) (.branch 60 (.branch 49 (.branch 44 (.branch 41 (.leaf (40, .dup, 1)) (.leaf (41, .getfield 183, 3))) (.branch 45 (.leaf (44, .iconst 1, 1)) (.branch 46 (.leaf (45, .isub, 1)) (.leaf (46, .putfield 183, 3))))) (.branch 54 (.branch 50 (.leaf (49, .aload_n 0, 1)) (.branch 53 (.leaf (50, .getfield 26, 3)) (.leaf (53, .iconst 0, 1)))) (.branch 55 (.leaf (54, .aload_n 0, 1)) (.branch 58 (.leaf (55, .getfield 29, 3)) (.leaf (58, .bipush 76, 2)))))) (.branch 71 (.branch 65 (.branch 61 (.leaf (60, .aload_n 0, 1)) (.branch 64 (.leaf (61, .getfield 183, 3)) (.leaf (64, .imul, 1)))) (.branch 67 (.leaf (65, .bipush 76, 2)) (.branch 70 (.leaf (67, .invokestatic 176, 3)) (.leaf (70, .aload_n 0, 1))))) (.branch 76 (.branch 72 (.leaf (71, .dup, 1)) (.branch 75 (.leaf (72, .getfield 183, 3)) (.leaf (75, .iconst 1, 1)))) (.branch 77 (.leaf (76, .iadd, 1)) (.branch 80 (.leaf (77, .putfield 183, 3)) (.leaf (80, .return_, 1)))))))
noncomputable def oX12_note1 : List dLf := dFl tX12_note1
theorem ofX12_note1 : dFl tX12_note1 = oX12_note1 := rfl
set_option maxRecDepth 100000 in
theorem odX12_note1 : ∀ q ∈ oX12_note1, decode cX12_note1 q.1 = .ok (q.2.1, q.2.2) := q_go qT_ok bbX12_note1 oX12_note1 0 (by decide +kernel)
theorem dX12_note1_0 : decode cX12_note1 0 = .ok (.aload_n 0, 1) := d_by (d_at odX12_note1 ofX12_note1 0) rfl
theorem dX12_note1_1 : decode cX12_note1 1 = .ok (.getfield 183, 3) := d_by (d_at odX12_note1 ofX12_note1 1) rfl
theorem dX12_note1_4 : decode cX12_note1 4 = .ok (.bipush 12, 2) := d_by (d_at odX12_note1 ofX12_note1 4) rfl
theorem dX12_note1_6 : decode cX12_note1 6 = .ok (.if_icmp .ne 43, 3) := d_by (d_at odX12_note1 ofX12_note1 6) rfl
theorem dX12_note1_9 : decode cX12_note1 9 = .ok (.iconst 0, 1) := d_by (d_at odX12_note1 ofX12_note1 9) rfl
theorem dX12_note1_10 : decode cX12_note1 10 = .ok (.istore_n 1, 1) := d_by (d_at odX12_note1 ofX12_note1 10) rfl
theorem dX12_note1_11 : decode cX12_note1 11 = .ok (.iload_n 1, 1) := d_by (d_at odX12_note1 ofX12_note1 11) rfl
theorem dX12_note1_12 : decode cX12_note1 12 = .ok (.sipush 836, 3) := d_by (d_at odX12_note1 ofX12_note1 12) rfl
theorem dX12_note1_15 : decode cX12_note1 15 = .ok (.if_icmp .ge 24, 3) := d_by (d_at odX12_note1 ofX12_note1 15) rfl
theorem dX12_note1_18 : decode cX12_note1 18 = .ok (.aload_n 0, 1) := d_by (d_at odX12_note1 ofX12_note1 18) rfl
theorem dX12_note1_19 : decode cX12_note1 19 = .ok (.getfield 29, 3) := d_by (d_at odX12_note1 ofX12_note1 19) rfl
theorem dX12_note1_22 : decode cX12_note1 22 = .ok (.iload_n 1, 1) := d_by (d_at odX12_note1 ofX12_note1 22) rfl
theorem dX12_note1_23 : decode cX12_note1 23 = .ok (.aload_n 0, 1) := d_by (d_at odX12_note1 ofX12_note1 23) rfl
theorem dX12_note1_24 : decode cX12_note1 24 = .ok (.getfield 29, 3) := d_by (d_at odX12_note1 ofX12_note1 24) rfl
theorem dX12_note1_27 : decode cX12_note1 27 = .ok (.iload_n 1, 1) := d_by (d_at odX12_note1 ofX12_note1 27) rfl
theorem dX12_note1_28 : decode cX12_note1 28 = .ok (.bipush 76, 2) := d_by (d_at odX12_note1 ofX12_note1 28) rfl
theorem dX12_note1_30 : decode cX12_note1 30 = .ok (.iadd, 1) := d_by (d_at odX12_note1 ofX12_note1 30) rfl
theorem dX12_note1_31 : decode cX12_note1 31 = .ok (.iaload, 1) := d_by (d_at odX12_note1 ofX12_note1 31) rfl
theorem dX12_note1_32 : decode cX12_note1 32 = .ok (.iastore, 1) := d_by (d_at odX12_note1 ofX12_note1 32) rfl
theorem dX12_note1_33 : decode cX12_note1 33 = .ok (.iinc 1 1, 3) := d_by (d_at odX12_note1 ofX12_note1 33) rfl
theorem dX12_note1_36 : decode cX12_note1 36 = .ok (.goto (-25), 3) := d_by (d_at odX12_note1 ofX12_note1 36) rfl
theorem dX12_note1_39 : decode cX12_note1 39 = .ok (.aload_n 0, 1) := d_by (d_at odX12_note1 ofX12_note1 39) rfl
theorem dX12_note1_40 : decode cX12_note1 40 = .ok (.dup, 1) := d_by (d_at odX12_note1 ofX12_note1 40) rfl
theorem dX12_note1_41 : decode cX12_note1 41 = .ok (.getfield 183, 3) := d_by (d_at odX12_note1 ofX12_note1 41) rfl
theorem dX12_note1_44 : decode cX12_note1 44 = .ok (.iconst 1, 1) := d_by (d_at odX12_note1 ofX12_note1 44) rfl
theorem dX12_note1_45 : decode cX12_note1 45 = .ok (.isub, 1) := d_by (d_at odX12_note1 ofX12_note1 45) rfl
theorem dX12_note1_46 : decode cX12_note1 46 = .ok (.putfield 183, 3) := d_by (d_at odX12_note1 ofX12_note1 46) rfl
theorem dX12_note1_49 : decode cX12_note1 49 = .ok (.aload_n 0, 1) := d_by (d_at odX12_note1 ofX12_note1 49) rfl
theorem dX12_note1_50 : decode cX12_note1 50 = .ok (.getfield 26, 3) := d_by (d_at odX12_note1 ofX12_note1 50) rfl
theorem dX12_note1_53 : decode cX12_note1 53 = .ok (.iconst 0, 1) := d_by (d_at odX12_note1 ofX12_note1 53) rfl
theorem dX12_note1_54 : decode cX12_note1 54 = .ok (.aload_n 0, 1) := d_by (d_at odX12_note1 ofX12_note1 54) rfl
theorem dX12_note1_55 : decode cX12_note1 55 = .ok (.getfield 29, 3) := d_by (d_at odX12_note1 ofX12_note1 55) rfl
theorem dX12_note1_58 : decode cX12_note1 58 = .ok (.bipush 76, 2) := d_by (d_at odX12_note1 ofX12_note1 58) rfl
theorem dX12_note1_60 : decode cX12_note1 60 = .ok (.aload_n 0, 1) := d_by (d_at odX12_note1 ofX12_note1 60) rfl
theorem dX12_note1_61 : decode cX12_note1 61 = .ok (.getfield 183, 3) := d_by (d_at odX12_note1 ofX12_note1 61) rfl
theorem dX12_note1_64 : decode cX12_note1 64 = .ok (.imul, 1) := d_by (d_at odX12_note1 ofX12_note1 64) rfl
theorem dX12_note1_65 : decode cX12_note1 65 = .ok (.bipush 76, 2) := d_by (d_at odX12_note1 ofX12_note1 65) rfl
theorem dX12_note1_67 : decode cX12_note1 67 = .ok (.invokestatic 176, 3) := d_by (d_at odX12_note1 ofX12_note1 67) rfl
theorem dX12_note1_70 : decode cX12_note1 70 = .ok (.aload_n 0, 1) := d_by (d_at odX12_note1 ofX12_note1 70) rfl
theorem dX12_note1_71 : decode cX12_note1 71 = .ok (.dup, 1) := d_by (d_at odX12_note1 ofX12_note1 71) rfl
theorem dX12_note1_72 : decode cX12_note1 72 = .ok (.getfield 183, 3) := d_by (d_at odX12_note1 ofX12_note1 72) rfl
theorem dX12_note1_75 : decode cX12_note1 75 = .ok (.iconst 1, 1) := d_by (d_at odX12_note1 ofX12_note1 75) rfl
theorem dX12_note1_76 : decode cX12_note1 76 = .ok (.iadd, 1) := d_by (d_at odX12_note1 ofX12_note1 76) rfl
theorem dX12_note1_77 : decode cX12_note1 77 = .ok (.putfield 183, 3) := d_by (d_at odX12_note1 ofX12_note1 77) rfl
theorem dX12_note1_80 : decode cX12_note1 80 = .ok (.return_, 1) := d_by (d_at odX12_note1 ofX12_note1 80) rfl
set_option maxRecDepth 100000 in
def bX12_send : List Nat := [42, 182, 0, 167, 42, 27, 182, 1, 12, 153, 0, 11, 42, 28, 182, 1, 18, 154, 0, 9, 42, 4, 182, 0, 170, 172, 42, 27, 28, 182, 1, 111, 62, 29, 156, 0, 9, 42, 8, 182, 0, 170, 172, 42, 28, 182, 1, 39, 54, 4, 42, 182, 1, 168, 42, 180, 0, 26, 5, 27, 96, 21, 4, 79, 42, 180, 0, 26, 16, 7, 27, 96, 29, 79, 42, 180, 0, 26, 16, 12, 28, 96, 29, 4, 96, 79, 42, 180, 0, 26, 16, 20, 28, 96, 21, 4, 4, 96, 79, 29, 172]
set_option maxRecDepth 100000 in
theorem bbX12_send : cX12_send.data.toList.map UInt8.toNat = bX12_send := by decide +kernel
set_option maxRecDepth 100000 in
def tX12_send : Lean.RArray dLf := .branch 55 (.branch 28 (.branch 14 (.branch 6 (.branch 4 (.branch 1 (.leaf (0, .aload_n 0, 1)) (.leaf (1, .invokevirtual 167, 3))) (.branch 5 (.leaf (4, .aload_n 0, 1)) (.leaf (5, .iload_n 1, 1)))) (.branch 12 (.branch 9 (.leaf (6, .invokevirtual 268, 3)) (.leaf (9, .ifCond .eq 11, 3))) (.branch 13 (.leaf (12, .aload_n 0, 1)) (.leaf (13, .iload_n 2, 1))))) (.branch 22 (.branch 20 (.branch 17 (.leaf (14, .invokevirtual 274, 3)) (.leaf (17, .ifCond .ne 9, 3))) (.branch 21 (.leaf (20, .aload_n 0, 1)) (.leaf (21, .iconst 1, 1)))) (.branch 26 (.branch 25 (.leaf (22, .invokevirtual 170, 3)) (.leaf (25, .ireturn, 1))) (.branch 27 (.leaf (26, .aload_n 0, 1)) (.leaf (27, .iload_n 1, 1)))))) (.branch 42 (.branch 34 (.branch 32 (.branch 29 (.leaf (28, .iload_n 2, 1)) (.leaf (29, .invokevirtual 367, 3))) (.branch 33 (.leaf (32, .istore_n 3, 1)) (.leaf (33, .iload_n 3, 1)))) (.branch 38 (.branch 37 (.leaf (34, .ifCond .ge 9, 3)) (.leaf (37, .aload_n 0, 1))) (.branch 39 (.leaf (38, .iconst 5, 1)) (.leaf (39, .invokevirtual 170, 3))))) (.branch 48 (.branch 44 (.branch 43 (.leaf (42, .ireturn, 1)) (.leaf (43, .aload_n 0, 1))) (.branch 45 (.leaf (44, .iload_n 2, 1)) (.leaf (45, .invokevirtual 295, 3)))) (.branch 51 (.branch 50 (.leaf (48, .istore 4, 2)) (.leaf (50, .aload_n 0, 1))) (.branch 54 (.leaf (51, .invokevirtual 424, 3)) (.leaf (54, .aload_n 0, 1))))))) (.branch 80 (.branch 68 (.branch 61 (.branch 59 (.branch 58 (.leaf (55, .getfield 26, 3)) (.leaf (58, .iconst 2, 1))) (.branch 60 (.leaf (59, .iload_n 1, 1)) (.leaf (60, .iadd, 1)))) (.branch 64 (.branch 63 (.leaf (61, .iload 4, 2)) (.leaf (63, .iastore, 1))) (.branch 65 (.leaf (64, .aload_n 0, 1)) (.leaf (65, .getfield 26, 3))))) (.branch 73 (.branch 71 (.branch 70 (.leaf (68, .bipush 7, 2)) (.leaf (70, .iload_n 1, 1))) (.branch 72 (.leaf (71, .iadd, 1)) (.leaf (72, .iload_n 3, 1)))) (.branch 75 (.branch 74 (.leaf (73, .iastore, 1)) (.leaf (74, .aload_n 0, 1))) (.branch 78 (.leaf (75, .getfield 26, 3)) (.leaf (78, .bipush 12, 2)))))) (.branch 90 (.branch 84 (.branch 82 (.branch 81 (.leaf (80, .iload_n 2, 1)) (.leaf (81, .iadd, 1))) (.branch 83 (.leaf (82, .iload_n 3, 1)) (.leaf (83, .iconst 1, 1)))) (.branch 86 (.branch 85 (.leaf (84, .iadd, 1)) (.leaf (85, .iastore, 1))) (.branch 87 (.leaf (86, .aload_n 0, 1)) (.leaf (87, .getfield 26, 3))))) (.branch 96 (.branch 93 (.branch 92 (.leaf (90, .bipush 20, 2)) (.leaf (92, .iload_n 2, 1))) (.branch 94 (.leaf (93, .iadd, 1)) (.leaf (94, .iload 4, 2)))) (.branch 98 (.branch 97 (.leaf (96, .iconst 1, 1)) (.leaf (97, .iadd, 1))) (.branch 99 (.leaf (98, .iastore, 1)) (.branch 100 (.leaf (99, .iload_n 3, 1)) (.leaf (100, .ireturn, 1))))))))
noncomputable def oX12_send : List dLf := dFl tX12_send
theorem ofX12_send : dFl tX12_send = oX12_send := rfl
set_option maxRecDepth 100000 in
theorem odX12_send : ∀ q ∈ oX12_send, decode cX12_send q.1 = .ok (q.2.1, q.2.2) := q_go qT_ok bbX12_send oX12_send 0 (by decide +kernel)
theorem dX12_send_0 : decode cX12_send 0 = .ok (.aload_n 0, 1) := d_by (d_at odX12_send ofX12_send 0) rfl
theorem dX12_send_1 : decode cX12_send 1 = .ok (.invokevirtual 167, 3) := d_by (d_at odX12_send ofX12_send 1) rfl
theorem dX12_send_4 : decode cX12_send 4 = .ok (.aload_n 0, 1) := d_by (d_at odX12_send ofX12_send 4) rfl
theorem dX12_send_5 : decode cX12_send 5 = .ok (.iload_n 1, 1) := d_by (d_at odX12_send ofX12_send 5) rfl
theorem dX12_send_6 : decode cX12_send 6 = .ok (.invokevirtual 268, 3) := d_by (d_at odX12_send ofX12_send 6) rfl
theorem dX12_send_9 : decode cX12_send 9 = .ok (.ifCond .eq 11, 3) := d_by (d_at odX12_send ofX12_send 9) rfl
theorem dX12_send_12 : decode cX12_send 12 = .ok (.aload_n 0, 1) := d_by (d_at odX12_send ofX12_send 12) rfl
theorem dX12_send_13 : decode cX12_send 13 = .ok (.iload_n 2, 1) := d_by (d_at odX12_send ofX12_send 13) rfl
theorem dX12_send_14 : decode cX12_send 14 = .ok (.invokevirtual 274, 3) := d_by (d_at odX12_send ofX12_send 14) rfl
theorem dX12_send_17 : decode cX12_send 17 = .ok (.ifCond .ne 9, 3) := d_by (d_at odX12_send ofX12_send 17) rfl
theorem dX12_send_20 : decode cX12_send 20 = .ok (.aload_n 0, 1) := d_by (d_at odX12_send ofX12_send 20) rfl
theorem dX12_send_21 : decode cX12_send 21 = .ok (.iconst 1, 1) := d_by (d_at odX12_send ofX12_send 21) rfl
theorem dX12_send_22 : decode cX12_send 22 = .ok (.invokevirtual 170, 3) := d_by (d_at odX12_send ofX12_send 22) rfl
theorem dX12_send_25 : decode cX12_send 25 = .ok (.ireturn, 1) := d_by (d_at odX12_send ofX12_send 25) rfl
theorem dX12_send_26 : decode cX12_send 26 = .ok (.aload_n 0, 1) := d_by (d_at odX12_send ofX12_send 26) rfl
theorem dX12_send_27 : decode cX12_send 27 = .ok (.iload_n 1, 1) := d_by (d_at odX12_send ofX12_send 27) rfl
theorem dX12_send_28 : decode cX12_send 28 = .ok (.iload_n 2, 1) := d_by (d_at odX12_send ofX12_send 28) rfl
theorem dX12_send_29 : decode cX12_send 29 = .ok (.invokevirtual 367, 3) := d_by (d_at odX12_send ofX12_send 29) rfl
theorem dX12_send_32 : decode cX12_send 32 = .ok (.istore_n 3, 1) := d_by (d_at odX12_send ofX12_send 32) rfl
theorem dX12_send_33 : decode cX12_send 33 = .ok (.iload_n 3, 1) := d_by (d_at odX12_send ofX12_send 33) rfl
theorem dX12_send_34 : decode cX12_send 34 = .ok (.ifCond .ge 9, 3) := d_by (d_at odX12_send ofX12_send 34) rfl
theorem dX12_send_37 : decode cX12_send 37 = .ok (.aload_n 0, 1) := d_by (d_at odX12_send ofX12_send 37) rfl
theorem dX12_send_38 : decode cX12_send 38 = .ok (.iconst 5, 1) := d_by (d_at odX12_send ofX12_send 38) rfl
theorem dX12_send_39 : decode cX12_send 39 = .ok (.invokevirtual 170, 3) := d_by (d_at odX12_send ofX12_send 39) rfl
theorem dX12_send_42 : decode cX12_send 42 = .ok (.ireturn, 1) := d_by (d_at odX12_send ofX12_send 42) rfl
theorem dX12_send_43 : decode cX12_send 43 = .ok (.aload_n 0, 1) := d_by (d_at odX12_send ofX12_send 43) rfl
theorem dX12_send_44 : decode cX12_send 44 = .ok (.iload_n 2, 1) := d_by (d_at odX12_send ofX12_send 44) rfl
theorem dX12_send_45 : decode cX12_send 45 = .ok (.invokevirtual 295, 3) := d_by (d_at odX12_send ofX12_send 45) rfl
theorem dX12_send_48 : decode cX12_send 48 = .ok (.istore 4, 2) := d_by (d_at odX12_send ofX12_send 48) rfl
theorem dX12_send_50 : decode cX12_send 50 = .ok (.aload_n 0, 1) := d_by (d_at odX12_send ofX12_send 50) rfl
theorem dX12_send_51 : decode cX12_send 51 = .ok (.invokevirtual 424, 3) := d_by (d_at odX12_send ofX12_send 51) rfl
theorem dX12_send_54 : decode cX12_send 54 = .ok (.aload_n 0, 1) := d_by (d_at odX12_send ofX12_send 54) rfl
theorem dX12_send_55 : decode cX12_send 55 = .ok (.getfield 26, 3) := d_by (d_at odX12_send ofX12_send 55) rfl
theorem dX12_send_58 : decode cX12_send 58 = .ok (.iconst 2, 1) := d_by (d_at odX12_send ofX12_send 58) rfl
theorem dX12_send_59 : decode cX12_send 59 = .ok (.iload_n 1, 1) := d_by (d_at odX12_send ofX12_send 59) rfl
theorem dX12_send_60 : decode cX12_send 60 = .ok (.iadd, 1) := d_by (d_at odX12_send ofX12_send 60) rfl
theorem dX12_send_61 : decode cX12_send 61 = .ok (.iload 4, 2) := d_by (d_at odX12_send ofX12_send 61) rfl
theorem dX12_send_63 : decode cX12_send 63 = .ok (.iastore, 1) := d_by (d_at odX12_send ofX12_send 63) rfl
theorem dX12_send_64 : decode cX12_send 64 = .ok (.aload_n 0, 1) := d_by (d_at odX12_send ofX12_send 64) rfl
theorem dX12_send_65 : decode cX12_send 65 = .ok (.getfield 26, 3) := d_by (d_at odX12_send ofX12_send 65) rfl
theorem dX12_send_68 : decode cX12_send 68 = .ok (.bipush 7, 2) := d_by (d_at odX12_send ofX12_send 68) rfl
theorem dX12_send_70 : decode cX12_send 70 = .ok (.iload_n 1, 1) := d_by (d_at odX12_send ofX12_send 70) rfl
theorem dX12_send_71 : decode cX12_send 71 = .ok (.iadd, 1) := d_by (d_at odX12_send ofX12_send 71) rfl
theorem dX12_send_72 : decode cX12_send 72 = .ok (.iload_n 3, 1) := d_by (d_at odX12_send ofX12_send 72) rfl
theorem dX12_send_73 : decode cX12_send 73 = .ok (.iastore, 1) := d_by (d_at odX12_send ofX12_send 73) rfl
theorem dX12_send_74 : decode cX12_send 74 = .ok (.aload_n 0, 1) := d_by (d_at odX12_send ofX12_send 74) rfl
theorem dX12_send_75 : decode cX12_send 75 = .ok (.getfield 26, 3) := d_by (d_at odX12_send ofX12_send 75) rfl
theorem dX12_send_78 : decode cX12_send 78 = .ok (.bipush 12, 2) := d_by (d_at odX12_send ofX12_send 78) rfl
theorem dX12_send_80 : decode cX12_send 80 = .ok (.iload_n 2, 1) := d_by (d_at odX12_send ofX12_send 80) rfl
theorem dX12_send_81 : decode cX12_send 81 = .ok (.iadd, 1) := d_by (d_at odX12_send ofX12_send 81) rfl
theorem dX12_send_82 : decode cX12_send 82 = .ok (.iload_n 3, 1) := d_by (d_at odX12_send ofX12_send 82) rfl
theorem dX12_send_83 : decode cX12_send 83 = .ok (.iconst 1, 1) := d_by (d_at odX12_send ofX12_send 83) rfl
theorem dX12_send_84 : decode cX12_send 84 = .ok (.iadd, 1) := d_by (d_at odX12_send ofX12_send 84) rfl
theorem dX12_send_85 : decode cX12_send 85 = .ok (.iastore, 1) := d_by (d_at odX12_send ofX12_send 85) rfl
theorem dX12_send_86 : decode cX12_send 86 = .ok (.aload_n 0, 1) := d_by (d_at odX12_send ofX12_send 86) rfl
theorem dX12_send_87 : decode cX12_send 87 = .ok (.getfield 26, 3) := d_by (d_at odX12_send ofX12_send 87) rfl
theorem dX12_send_90 : decode cX12_send 90 = .ok (.bipush 20, 2) := d_by (d_at odX12_send ofX12_send 90) rfl
theorem dX12_send_92 : decode cX12_send 92 = .ok (.iload_n 2, 1) := d_by (d_at odX12_send ofX12_send 92) rfl
theorem dX12_send_93 : decode cX12_send 93 = .ok (.iadd, 1) := d_by (d_at odX12_send ofX12_send 93) rfl
theorem dX12_send_94 : decode cX12_send 94 = .ok (.iload 4, 2) := d_by (d_at odX12_send ofX12_send 94) rfl
theorem dX12_send_96 : decode cX12_send 96 = .ok (.iconst 1, 1) := d_by (d_at odX12_send ofX12_send 96) rfl
theorem dX12_send_97 : decode cX12_send 97 = .ok (.iadd, 1) := d_by (d_at odX12_send ofX12_send 97) rfl
theorem dX12_send_98 : decode cX12_send 98 = .ok (.iastore, 1) := d_by (d_at odX12_send ofX12_send 98) rfl
theorem dX12_send_99 : decode cX12_send 99 = .ok (.iload_n 3, 1) := d_by (d_at odX12_send ofX12_send 99) rfl
theorem dX12_send_100 : decode cX12_send 100 = .ok (.ireturn, 1) := d_by (d_at odX12_send ofX12_send 100) rfl
set_option maxRecDepth 100000 in
def bX12_tune : List Nat := [42, 182, 0, 167, 42, 27, 182, 1, 18, 153, 0, 18, 28, 3, 42, 27, 182, 1, 28, 4, 100, 184, 0, 149, 154, 0, 9, 42, 4, 182, 1, 171, 172, 29, 3, 42, 180, 0, 20, 3, 46, 4, 100, 184, 0, 149, 154, 0, 9, 42, 5, 182, 1, 171, 172, 42, 180, 0, 26, 16, 28, 16, 6, 27, 104, 96, 28, 96, 46, 29, 159, 0, 15, 42, 180, 0, 26, 16, 12, 27, 96, 46, 158, 0, 9, 42, 8, 182, 1, 171, 172, 42, 182, 1, 168, 42, 180, 0, 26, 16, 28, 16, 6, 27, 104, 96, 28, 96, 29, 79, 4, 172]
set_option maxRecDepth 100000 in
theorem bbX12_tune : cX12_tune.data.toList.map UInt8.toNat = bX12_tune := by decide +kernel
set_option maxRecDepth 100000 in
def tX12_tune : Lean.RArray dLf := .branch 59 (.branch 29 (.branch 14 (.branch 6 (.branch 4 (.branch 1 (.leaf (0, .aload_n 0, 1)) (.leaf (1, .invokevirtual 167, 3))) (.branch 5 (.leaf (4, .aload_n 0, 1)) (.leaf (5, .iload_n 1, 1)))) (.branch 12 (.branch 9 (.leaf (6, .invokevirtual 274, 3)) (.leaf (9, .ifCond .eq 18, 3))) (.branch 13 (.leaf (12, .iload_n 2, 1)) (.leaf (13, .iconst 0, 1))))) (.branch 20 (.branch 16 (.branch 15 (.leaf (14, .aload_n 0, 1)) (.leaf (15, .iload_n 1, 1))) (.branch 19 (.leaf (16, .invokevirtual 284, 3)) (.leaf (19, .iconst 1, 1)))) (.branch 24 (.branch 21 (.leaf (20, .isub, 1)) (.leaf (21, .invokestatic 149, 3))) (.branch 27 (.leaf (24, .ifCond .ne 9, 3)) (.branch 28 (.leaf (27, .aload_n 0, 1)) (.leaf (28, .iconst 1, 1))))))) (.branch 42 (.branch 35 (.branch 33 (.branch 32 (.leaf (29, .invokevirtual 427, 3)) (.leaf (32, .ireturn, 1))) (.branch 34 (.leaf (33, .iload_n 3, 1)) (.leaf (34, .iconst 0, 1)))) (.branch 39 (.branch 36 (.leaf (35, .aload_n 0, 1)) (.leaf (36, .getfield 20, 3))) (.branch 40 (.leaf (39, .iconst 0, 1)) (.branch 41 (.leaf (40, .iaload, 1)) (.leaf (41, .iconst 1, 1)))))) (.branch 50 (.branch 46 (.branch 43 (.leaf (42, .isub, 1)) (.leaf (43, .invokestatic 149, 3))) (.branch 49 (.leaf (46, .ifCond .ne 9, 3)) (.leaf (49, .aload_n 0, 1)))) (.branch 54 (.branch 51 (.leaf (50, .iconst 2, 1)) (.leaf (51, .invokevirtual 427, 3))) (.branch 55 (.leaf (54, .ireturn, 1)) (.branch 56 (.leaf (55, .aload_n 0, 1)) (.leaf (56, .getfield 26, 3)))))))) (.branch 86 (.branch 70 (.branch 65 (.branch 63 (.branch 61 (.leaf (59, .bipush 28, 2)) (.leaf (61, .bipush 6, 2))) (.branch 64 (.leaf (63, .iload_n 1, 1)) (.leaf (64, .imul, 1)))) (.branch 67 (.branch 66 (.leaf (65, .iadd, 1)) (.leaf (66, .iload_n 2, 1))) (.branch 68 (.leaf (67, .iadd, 1)) (.branch 69 (.leaf (68, .iaload, 1)) (.leaf (69, .iload_n 3, 1)))))) (.branch 79 (.branch 74 (.branch 73 (.leaf (70, .if_icmp .eq 15, 3)) (.leaf (73, .aload_n 0, 1))) (.branch 77 (.leaf (74, .getfield 26, 3)) (.leaf (77, .bipush 12, 2)))) (.branch 81 (.branch 80 (.leaf (79, .iload_n 1, 1)) (.leaf (80, .iadd, 1))) (.branch 82 (.leaf (81, .iaload, 1)) (.branch 85 (.leaf (82, .ifCond .le 9, 3)) (.leaf (85, .aload_n 0, 1))))))) (.branch 103 (.branch 92 (.branch 90 (.branch 87 (.leaf (86, .iconst 5, 1)) (.leaf (87, .invokevirtual 427, 3))) (.branch 91 (.leaf (90, .ireturn, 1)) (.leaf (91, .aload_n 0, 1)))) (.branch 96 (.branch 95 (.leaf (92, .invokevirtual 424, 3)) (.leaf (95, .aload_n 0, 1))) (.branch 99 (.leaf (96, .getfield 26, 3)) (.branch 101 (.leaf (99, .bipush 28, 2)) (.leaf (101, .bipush 6, 2)))))) (.branch 107 (.branch 105 (.branch 104 (.leaf (103, .iload_n 1, 1)) (.leaf (104, .imul, 1))) (.branch 106 (.leaf (105, .iadd, 1)) (.leaf (106, .iload_n 2, 1)))) (.branch 109 (.branch 108 (.leaf (107, .iadd, 1)) (.leaf (108, .iload_n 3, 1))) (.branch 110 (.leaf (109, .iastore, 1)) (.branch 111 (.leaf (110, .iconst 1, 1)) (.leaf (111, .ireturn, 1))))))))
noncomputable def oX12_tune : List dLf := dFl tX12_tune
theorem ofX12_tune : dFl tX12_tune = oX12_tune := rfl
set_option maxRecDepth 100000 in
theorem odX12_tune : ∀ q ∈ oX12_tune, decode cX12_tune q.1 = .ok (q.2.1, q.2.2) := q_go qT_ok bbX12_tune oX12_tune 0 (by decide +kernel)
theorem dX12_tune_0 : decode cX12_tune 0 = .ok (.aload_n 0, 1) := d_by (d_at odX12_tune ofX12_tune 0) rfl
theorem dX12_tune_1 : decode cX12_tune 1 = .ok (.invokevirtual 167, 3) := d_by (d_at odX12_tune ofX12_tune 1) rfl
theorem dX12_tune_4 : decode cX12_tune 4 = .ok (.aload_n 0, 1) := d_by (d_at odX12_tune ofX12_tune 4) rfl
theorem dX12_tune_5 : decode cX12_tune 5 = .ok (.iload_n 1, 1) := d_by (d_at odX12_tune ofX12_tune 5) rfl
theorem dX12_tune_6 : decode cX12_tune 6 = .ok (.invokevirtual 274, 3) := d_by (d_at odX12_tune ofX12_tune 6) rfl
theorem dX12_tune_9 : decode cX12_tune 9 = .ok (.ifCond .eq 18, 3) := d_by (d_at odX12_tune ofX12_tune 9) rfl
theorem dX12_tune_12 : decode cX12_tune 12 = .ok (.iload_n 2, 1) := d_by (d_at odX12_tune ofX12_tune 12) rfl
theorem dX12_tune_13 : decode cX12_tune 13 = .ok (.iconst 0, 1) := d_by (d_at odX12_tune ofX12_tune 13) rfl
theorem dX12_tune_14 : decode cX12_tune 14 = .ok (.aload_n 0, 1) := d_by (d_at odX12_tune ofX12_tune 14) rfl
theorem dX12_tune_15 : decode cX12_tune 15 = .ok (.iload_n 1, 1) := d_by (d_at odX12_tune ofX12_tune 15) rfl
theorem dX12_tune_16 : decode cX12_tune 16 = .ok (.invokevirtual 284, 3) := d_by (d_at odX12_tune ofX12_tune 16) rfl
theorem dX12_tune_19 : decode cX12_tune 19 = .ok (.iconst 1, 1) := d_by (d_at odX12_tune ofX12_tune 19) rfl
theorem dX12_tune_20 : decode cX12_tune 20 = .ok (.isub, 1) := d_by (d_at odX12_tune ofX12_tune 20) rfl
theorem dX12_tune_21 : decode cX12_tune 21 = .ok (.invokestatic 149, 3) := d_by (d_at odX12_tune ofX12_tune 21) rfl
theorem dX12_tune_24 : decode cX12_tune 24 = .ok (.ifCond .ne 9, 3) := d_by (d_at odX12_tune ofX12_tune 24) rfl
theorem dX12_tune_27 : decode cX12_tune 27 = .ok (.aload_n 0, 1) := d_by (d_at odX12_tune ofX12_tune 27) rfl
theorem dX12_tune_28 : decode cX12_tune 28 = .ok (.iconst 1, 1) := d_by (d_at odX12_tune ofX12_tune 28) rfl
theorem dX12_tune_29 : decode cX12_tune 29 = .ok (.invokevirtual 427, 3) := d_by (d_at odX12_tune ofX12_tune 29) rfl
theorem dX12_tune_32 : decode cX12_tune 32 = .ok (.ireturn, 1) := d_by (d_at odX12_tune ofX12_tune 32) rfl
theorem dX12_tune_33 : decode cX12_tune 33 = .ok (.iload_n 3, 1) := d_by (d_at odX12_tune ofX12_tune 33) rfl
theorem dX12_tune_34 : decode cX12_tune 34 = .ok (.iconst 0, 1) := d_by (d_at odX12_tune ofX12_tune 34) rfl
theorem dX12_tune_35 : decode cX12_tune 35 = .ok (.aload_n 0, 1) := d_by (d_at odX12_tune ofX12_tune 35) rfl
theorem dX12_tune_36 : decode cX12_tune 36 = .ok (.getfield 20, 3) := d_by (d_at odX12_tune ofX12_tune 36) rfl
theorem dX12_tune_39 : decode cX12_tune 39 = .ok (.iconst 0, 1) := d_by (d_at odX12_tune ofX12_tune 39) rfl
theorem dX12_tune_40 : decode cX12_tune 40 = .ok (.iaload, 1) := d_by (d_at odX12_tune ofX12_tune 40) rfl
theorem dX12_tune_41 : decode cX12_tune 41 = .ok (.iconst 1, 1) := d_by (d_at odX12_tune ofX12_tune 41) rfl
theorem dX12_tune_42 : decode cX12_tune 42 = .ok (.isub, 1) := d_by (d_at odX12_tune ofX12_tune 42) rfl
theorem dX12_tune_43 : decode cX12_tune 43 = .ok (.invokestatic 149, 3) := d_by (d_at odX12_tune ofX12_tune 43) rfl
theorem dX12_tune_46 : decode cX12_tune 46 = .ok (.ifCond .ne 9, 3) := d_by (d_at odX12_tune ofX12_tune 46) rfl
theorem dX12_tune_49 : decode cX12_tune 49 = .ok (.aload_n 0, 1) := d_by (d_at odX12_tune ofX12_tune 49) rfl
theorem dX12_tune_50 : decode cX12_tune 50 = .ok (.iconst 2, 1) := d_by (d_at odX12_tune ofX12_tune 50) rfl
theorem dX12_tune_51 : decode cX12_tune 51 = .ok (.invokevirtual 427, 3) := d_by (d_at odX12_tune ofX12_tune 51) rfl
theorem dX12_tune_54 : decode cX12_tune 54 = .ok (.ireturn, 1) := d_by (d_at odX12_tune ofX12_tune 54) rfl
theorem dX12_tune_55 : decode cX12_tune 55 = .ok (.aload_n 0, 1) := d_by (d_at odX12_tune ofX12_tune 55) rfl
theorem dX12_tune_56 : decode cX12_tune 56 = .ok (.getfield 26, 3) := d_by (d_at odX12_tune ofX12_tune 56) rfl
theorem dX12_tune_59 : decode cX12_tune 59 = .ok (.bipush 28, 2) := d_by (d_at odX12_tune ofX12_tune 59) rfl
theorem dX12_tune_61 : decode cX12_tune 61 = .ok (.bipush 6, 2) := d_by (d_at odX12_tune ofX12_tune 61) rfl
theorem dX12_tune_63 : decode cX12_tune 63 = .ok (.iload_n 1, 1) := d_by (d_at odX12_tune ofX12_tune 63) rfl
theorem dX12_tune_64 : decode cX12_tune 64 = .ok (.imul, 1) := d_by (d_at odX12_tune ofX12_tune 64) rfl
theorem dX12_tune_65 : decode cX12_tune 65 = .ok (.iadd, 1) := d_by (d_at odX12_tune ofX12_tune 65) rfl
theorem dX12_tune_66 : decode cX12_tune 66 = .ok (.iload_n 2, 1) := d_by (d_at odX12_tune ofX12_tune 66) rfl
theorem dX12_tune_67 : decode cX12_tune 67 = .ok (.iadd, 1) := d_by (d_at odX12_tune ofX12_tune 67) rfl
theorem dX12_tune_68 : decode cX12_tune 68 = .ok (.iaload, 1) := d_by (d_at odX12_tune ofX12_tune 68) rfl
theorem dX12_tune_69 : decode cX12_tune 69 = .ok (.iload_n 3, 1) := d_by (d_at odX12_tune ofX12_tune 69) rfl
theorem dX12_tune_70 : decode cX12_tune 70 = .ok (.if_icmp .eq 15, 3) := d_by (d_at odX12_tune ofX12_tune 70) rfl
theorem dX12_tune_73 : decode cX12_tune 73 = .ok (.aload_n 0, 1) := d_by (d_at odX12_tune ofX12_tune 73) rfl
theorem dX12_tune_74 : decode cX12_tune 74 = .ok (.getfield 26, 3) := d_by (d_at odX12_tune ofX12_tune 74) rfl
theorem dX12_tune_77 : decode cX12_tune 77 = .ok (.bipush 12, 2) := d_by (d_at odX12_tune ofX12_tune 77) rfl
theorem dX12_tune_79 : decode cX12_tune 79 = .ok (.iload_n 1, 1) := d_by (d_at odX12_tune ofX12_tune 79) rfl
theorem dX12_tune_80 : decode cX12_tune 80 = .ok (.iadd, 1) := d_by (d_at odX12_tune ofX12_tune 80) rfl
theorem dX12_tune_81 : decode cX12_tune 81 = .ok (.iaload, 1) := d_by (d_at odX12_tune ofX12_tune 81) rfl
theorem dX12_tune_82 : decode cX12_tune 82 = .ok (.ifCond .le 9, 3) := d_by (d_at odX12_tune ofX12_tune 82) rfl
theorem dX12_tune_85 : decode cX12_tune 85 = .ok (.aload_n 0, 1) := d_by (d_at odX12_tune ofX12_tune 85) rfl
theorem dX12_tune_86 : decode cX12_tune 86 = .ok (.iconst 5, 1) := d_by (d_at odX12_tune ofX12_tune 86) rfl
theorem dX12_tune_87 : decode cX12_tune 87 = .ok (.invokevirtual 427, 3) := d_by (d_at odX12_tune ofX12_tune 87) rfl
theorem dX12_tune_90 : decode cX12_tune 90 = .ok (.ireturn, 1) := d_by (d_at odX12_tune ofX12_tune 90) rfl
theorem dX12_tune_91 : decode cX12_tune 91 = .ok (.aload_n 0, 1) := d_by (d_at odX12_tune ofX12_tune 91) rfl
theorem dX12_tune_92 : decode cX12_tune 92 = .ok (.invokevirtual 424, 3) := d_by (d_at odX12_tune ofX12_tune 92) rfl
theorem dX12_tune_95 : decode cX12_tune 95 = .ok (.aload_n 0, 1) := d_by (d_at odX12_tune ofX12_tune 95) rfl
theorem dX12_tune_96 : decode cX12_tune 96 = .ok (.getfield 26, 3) := d_by (d_at odX12_tune ofX12_tune 96) rfl
theorem dX12_tune_99 : decode cX12_tune 99 = .ok (.bipush 28, 2) := d_by (d_at odX12_tune ofX12_tune 99) rfl
theorem dX12_tune_101 : decode cX12_tune 101 = .ok (.bipush 6, 2) := d_by (d_at odX12_tune ofX12_tune 101) rfl
theorem dX12_tune_103 : decode cX12_tune 103 = .ok (.iload_n 1, 1) := d_by (d_at odX12_tune ofX12_tune 103) rfl
theorem dX12_tune_104 : decode cX12_tune 104 = .ok (.imul, 1) := d_by (d_at odX12_tune ofX12_tune 104) rfl
theorem dX12_tune_105 : decode cX12_tune 105 = .ok (.iadd, 1) := d_by (d_at odX12_tune ofX12_tune 105) rfl
theorem dX12_tune_106 : decode cX12_tune 106 = .ok (.iload_n 2, 1) := d_by (d_at odX12_tune ofX12_tune 106) rfl
theorem dX12_tune_107 : decode cX12_tune 107 = .ok (.iadd, 1) := d_by (d_at odX12_tune ofX12_tune 107) rfl
theorem dX12_tune_108 : decode cX12_tune 108 = .ok (.iload_n 3, 1) := d_by (d_at odX12_tune ofX12_tune 108) rfl
theorem dX12_tune_109 : decode cX12_tune 109 = .ok (.iastore, 1) := d_by (d_at odX12_tune ofX12_tune 109) rfl
theorem dX12_tune_110 : decode cX12_tune 110 = .ok (.iconst 1, 1) := d_by (d_at odX12_tune ofX12_tune 110) rfl
theorem dX12_tune_111 : decode cX12_tune 111 = .ok (.ireturn, 1) := d_by (d_at odX12_tune ofX12_tune 111) rfl
set_option maxRecDepth 100000 in
def bX12_years : List Nat := [42, 182, 0, 167, 42, 180, 0, 180, 154, 0, 9, 42, 4, 182, 0, 170, 172, 27, 4, 16, 99, 184, 0, 149, 154, 0, 9, 42, 5, 182, 0, 170, 172, 42, 180, 0, 26, 3, 46, 27, 96, 17, 39, 15, 164, 0, 9, 42, 6, 182, 0, 170, 172, 42, 182, 1, 168, 42, 180, 0, 26, 3, 92, 46, 27, 96, 79, 42, 180, 0, 26, 3, 46, 172]
set_option maxRecDepth 100000 in
theorem bbX12_years : cX12_years.data.toList.map UInt8.toNat = bX12_years := by decide +kernel
set_option maxRecDepth 100000 in
def tX12_years : Lean.RArray dLf := .branch 39 (.branch 19 (.branch 11 (.branch 4 (.branch 1 (.leaf (0, .aload_n 0, 1)) (.leaf (1, .invokevirtual 167, 3))) (.branch 5 (.leaf (4, .aload_n 0, 1)) (.branch 8 (.leaf (5, .getfield 180, 3)) (.leaf (8, .ifCond .ne 9, 3))))) (.branch 16 (.branch 12 (.leaf (11, .aload_n 0, 1)) (.branch 13 (.leaf (12, .iconst 1, 1)) (.leaf (13, .invokevirtual 170, 3)))) (.branch 17 (.leaf (16, .ireturn, 1)) (.branch 18 (.leaf (17, .iload_n 1, 1)) (.leaf (18, .iconst 1, 1)))))) (.branch 29 (.branch 24 (.branch 21 (.leaf (19, .bipush 99, 2)) (.leaf (21, .invokestatic 149, 3))) (.branch 27 (.leaf (24, .ifCond .ne 9, 3)) (.branch 28 (.leaf (27, .aload_n 0, 1)) (.leaf (28, .iconst 2, 1))))) (.branch 34 (.branch 32 (.leaf (29, .invokevirtual 170, 3)) (.branch 33 (.leaf (32, .ireturn, 1)) (.leaf (33, .aload_n 0, 1)))) (.branch 37 (.leaf (34, .getfield 26, 3)) (.branch 38 (.leaf (37, .iconst 0, 1)) (.leaf (38, .iaload, 1))))))) (.branch 58 (.branch 48 (.branch 41 (.branch 40 (.leaf (39, .iload_n 1, 1)) (.leaf (40, .iadd, 1))) (.branch 44 (.leaf (41, .sipush 9999, 3)) (.branch 47 (.leaf (44, .if_icmp .le 9, 3)) (.leaf (47, .aload_n 0, 1))))) (.branch 53 (.branch 49 (.leaf (48, .iconst 3, 1)) (.branch 52 (.leaf (49, .invokevirtual 170, 3)) (.leaf (52, .ireturn, 1)))) (.branch 54 (.leaf (53, .aload_n 0, 1)) (.branch 57 (.leaf (54, .invokevirtual 424, 3)) (.leaf (57, .aload_n 0, 1)))))) (.branch 66 (.branch 63 (.branch 61 (.leaf (58, .getfield 26, 3)) (.branch 62 (.leaf (61, .iconst 0, 1)) (.leaf (62, .dup2, 1)))) (.branch 64 (.leaf (63, .iaload, 1)) (.branch 65 (.leaf (64, .iload_n 1, 1)) (.leaf (65, .iadd, 1))))) (.branch 71 (.branch 67 (.leaf (66, .iastore, 1)) (.branch 68 (.leaf (67, .aload_n 0, 1)) (.leaf (68, .getfield 26, 3)))) (.branch 72 (.leaf (71, .iconst 0, 1)) (.branch 73 (.leaf (72, .iaload, 1)) (.leaf (73, .ireturn, 1)))))))
noncomputable def oX12_years : List dLf := dFl tX12_years
theorem ofX12_years : dFl tX12_years = oX12_years := rfl
set_option maxRecDepth 100000 in
theorem odX12_years : ∀ q ∈ oX12_years, decode cX12_years q.1 = .ok (q.2.1, q.2.2) := q_go qT_ok bbX12_years oX12_years 0 (by decide +kernel)
theorem dX12_years_0 : decode cX12_years 0 = .ok (.aload_n 0, 1) := d_by (d_at odX12_years ofX12_years 0) rfl
theorem dX12_years_1 : decode cX12_years 1 = .ok (.invokevirtual 167, 3) := d_by (d_at odX12_years ofX12_years 1) rfl
theorem dX12_years_4 : decode cX12_years 4 = .ok (.aload_n 0, 1) := d_by (d_at odX12_years ofX12_years 4) rfl
theorem dX12_years_5 : decode cX12_years 5 = .ok (.getfield 180, 3) := d_by (d_at odX12_years ofX12_years 5) rfl
theorem dX12_years_8 : decode cX12_years 8 = .ok (.ifCond .ne 9, 3) := d_by (d_at odX12_years ofX12_years 8) rfl
theorem dX12_years_11 : decode cX12_years 11 = .ok (.aload_n 0, 1) := d_by (d_at odX12_years ofX12_years 11) rfl
theorem dX12_years_12 : decode cX12_years 12 = .ok (.iconst 1, 1) := d_by (d_at odX12_years ofX12_years 12) rfl
theorem dX12_years_13 : decode cX12_years 13 = .ok (.invokevirtual 170, 3) := d_by (d_at odX12_years ofX12_years 13) rfl
theorem dX12_years_16 : decode cX12_years 16 = .ok (.ireturn, 1) := d_by (d_at odX12_years ofX12_years 16) rfl
theorem dX12_years_17 : decode cX12_years 17 = .ok (.iload_n 1, 1) := d_by (d_at odX12_years ofX12_years 17) rfl
theorem dX12_years_18 : decode cX12_years 18 = .ok (.iconst 1, 1) := d_by (d_at odX12_years ofX12_years 18) rfl
theorem dX12_years_19 : decode cX12_years 19 = .ok (.bipush 99, 2) := d_by (d_at odX12_years ofX12_years 19) rfl
theorem dX12_years_21 : decode cX12_years 21 = .ok (.invokestatic 149, 3) := d_by (d_at odX12_years ofX12_years 21) rfl
theorem dX12_years_24 : decode cX12_years 24 = .ok (.ifCond .ne 9, 3) := d_by (d_at odX12_years ofX12_years 24) rfl
theorem dX12_years_27 : decode cX12_years 27 = .ok (.aload_n 0, 1) := d_by (d_at odX12_years ofX12_years 27) rfl
theorem dX12_years_28 : decode cX12_years 28 = .ok (.iconst 2, 1) := d_by (d_at odX12_years ofX12_years 28) rfl
theorem dX12_years_29 : decode cX12_years 29 = .ok (.invokevirtual 170, 3) := d_by (d_at odX12_years ofX12_years 29) rfl
theorem dX12_years_32 : decode cX12_years 32 = .ok (.ireturn, 1) := d_by (d_at odX12_years ofX12_years 32) rfl
theorem dX12_years_33 : decode cX12_years 33 = .ok (.aload_n 0, 1) := d_by (d_at odX12_years ofX12_years 33) rfl
theorem dX12_years_34 : decode cX12_years 34 = .ok (.getfield 26, 3) := d_by (d_at odX12_years ofX12_years 34) rfl
theorem dX12_years_37 : decode cX12_years 37 = .ok (.iconst 0, 1) := d_by (d_at odX12_years ofX12_years 37) rfl
theorem dX12_years_38 : decode cX12_years 38 = .ok (.iaload, 1) := d_by (d_at odX12_years ofX12_years 38) rfl
theorem dX12_years_39 : decode cX12_years 39 = .ok (.iload_n 1, 1) := d_by (d_at odX12_years ofX12_years 39) rfl
theorem dX12_years_40 : decode cX12_years 40 = .ok (.iadd, 1) := d_by (d_at odX12_years ofX12_years 40) rfl
theorem dX12_years_41 : decode cX12_years 41 = .ok (.sipush 9999, 3) := d_by (d_at odX12_years ofX12_years 41) rfl
theorem dX12_years_44 : decode cX12_years 44 = .ok (.if_icmp .le 9, 3) := d_by (d_at odX12_years ofX12_years 44) rfl
theorem dX12_years_47 : decode cX12_years 47 = .ok (.aload_n 0, 1) := d_by (d_at odX12_years ofX12_years 47) rfl
theorem dX12_years_48 : decode cX12_years 48 = .ok (.iconst 3, 1) := d_by (d_at odX12_years ofX12_years 48) rfl
theorem dX12_years_49 : decode cX12_years 49 = .ok (.invokevirtual 170, 3) := d_by (d_at odX12_years ofX12_years 49) rfl
theorem dX12_years_52 : decode cX12_years 52 = .ok (.ireturn, 1) := d_by (d_at odX12_years ofX12_years 52) rfl
theorem dX12_years_53 : decode cX12_years 53 = .ok (.aload_n 0, 1) := d_by (d_at odX12_years ofX12_years 53) rfl
theorem dX12_years_54 : decode cX12_years 54 = .ok (.invokevirtual 424, 3) := d_by (d_at odX12_years ofX12_years 54) rfl
theorem dX12_years_57 : decode cX12_years 57 = .ok (.aload_n 0, 1) := d_by (d_at odX12_years ofX12_years 57) rfl
theorem dX12_years_58 : decode cX12_years 58 = .ok (.getfield 26, 3) := d_by (d_at odX12_years ofX12_years 58) rfl
theorem dX12_years_61 : decode cX12_years 61 = .ok (.iconst 0, 1) := d_by (d_at odX12_years ofX12_years 61) rfl
theorem dX12_years_62 : decode cX12_years 62 = .ok (.dup2, 1) := d_by (d_at odX12_years ofX12_years 62) rfl
theorem dX12_years_63 : decode cX12_years 63 = .ok (.iaload, 1) := d_by (d_at odX12_years ofX12_years 63) rfl
theorem dX12_years_64 : decode cX12_years 64 = .ok (.iload_n 1, 1) := d_by (d_at odX12_years ofX12_years 64) rfl
theorem dX12_years_65 : decode cX12_years 65 = .ok (.iadd, 1) := d_by (d_at odX12_years ofX12_years 65) rfl
theorem dX12_years_66 : decode cX12_years 66 = .ok (.iastore, 1) := d_by (d_at odX12_years ofX12_years 66) rfl
theorem dX12_years_67 : decode cX12_years 67 = .ok (.aload_n 0, 1) := d_by (d_at odX12_years ofX12_years 67) rfl
theorem dX12_years_68 : decode cX12_years 68 = .ok (.getfield 26, 3) := d_by (d_at odX12_years ofX12_years 68) rfl
theorem dX12_years_71 : decode cX12_years 71 = .ok (.iconst 0, 1) := d_by (d_at odX12_years ofX12_years 71) rfl
theorem dX12_years_72 : decode cX12_years 72 = .ok (.iaload, 1) := d_by (d_at odX12_years ofX12_years 72) rfl
theorem dX12_years_73 : decode cX12_years 73 = .ok (.ireturn, 1) := d_by (d_at odX12_years ofX12_years 73) rfl
set_option maxRecDepth 100000 in
def bX12_close : List Nat := [42, 182, 0, 167, 42, 180, 0, 180, 153, 0, 19, 27, 3, 42, 180, 0, 20, 8, 46, 4, 100, 184, 0, 149, 154, 0, 9, 42, 4, 182, 1, 171, 172, 42, 27, 182, 1, 46, 28, 160, 0, 9, 42, 8, 182, 1, 171, 172, 42, 182, 1, 168, 42, 180, 0, 26, 4, 92, 46, 4, 27, 120, 130, 79, 4, 172]
set_option maxRecDepth 100000 in
theorem bbX12_close : cX12_close.data.toList.map UInt8.toNat = bX12_close := by decide +kernel
set_option maxRecDepth 100000 in
def tX12_close : Lean.RArray dLf := .branch 35 (.branch 18 (.branch 11 (.branch 4 (.branch 1 (.leaf (0, .aload_n 0, 1)) (.leaf (1, .invokevirtual 167, 3))) (.branch 5 (.leaf (4, .aload_n 0, 1)) (.branch 8 (.leaf (5, .getfield 180, 3)) (.leaf (8, .ifCond .eq 19, 3))))) (.branch 13 (.branch 12 (.leaf (11, .iload_n 1, 1)) (.leaf (12, .iconst 0, 1))) (.branch 14 (.leaf (13, .aload_n 0, 1)) (.branch 17 (.leaf (14, .getfield 20, 3)) (.leaf (17, .iconst 5, 1)))))) (.branch 27 (.branch 20 (.branch 19 (.leaf (18, .iaload, 1)) (.leaf (19, .iconst 1, 1))) (.branch 21 (.leaf (20, .isub, 1)) (.branch 24 (.leaf (21, .invokestatic 149, 3)) (.leaf (24, .ifCond .ne 9, 3))))) (.branch 32 (.branch 28 (.leaf (27, .aload_n 0, 1)) (.branch 29 (.leaf (28, .iconst 1, 1)) (.leaf (29, .invokevirtual 427, 3)))) (.branch 33 (.leaf (32, .ireturn, 1)) (.branch 34 (.leaf (33, .aload_n 0, 1)) (.leaf (34, .iload_n 1, 1))))))) (.branch 53 (.branch 44 (.branch 39 (.branch 38 (.leaf (35, .invokevirtual 302, 3)) (.leaf (38, .iload_n 2, 1))) (.branch 42 (.leaf (39, .if_icmp .ne 9, 3)) (.branch 43 (.leaf (42, .aload_n 0, 1)) (.leaf (43, .iconst 5, 1))))) (.branch 48 (.branch 47 (.leaf (44, .invokevirtual 427, 3)) (.leaf (47, .ireturn, 1))) (.branch 49 (.leaf (48, .aload_n 0, 1)) (.branch 52 (.leaf (49, .invokevirtual 424, 3)) (.leaf (52, .aload_n 0, 1)))))) (.branch 60 (.branch 57 (.branch 56 (.leaf (53, .getfield 26, 3)) (.leaf (56, .iconst 1, 1))) (.branch 58 (.leaf (57, .dup2, 1)) (.branch 59 (.leaf (58, .iaload, 1)) (.leaf (59, .iconst 1, 1))))) (.branch 63 (.branch 61 (.leaf (60, .iload_n 1, 1)) (.branch 62 (.leaf (61, .ishl, 1)) (.leaf (62, .ixor, 1)))) (.branch 64 (.leaf (63, .iastore, 1)) (.branch 65 (.leaf (64, .iconst 1, 1)) (.leaf (65, .ireturn, 1)))))))
noncomputable def oX12_close : List dLf := dFl tX12_close
theorem ofX12_close : dFl tX12_close = oX12_close := rfl
set_option maxRecDepth 100000 in
theorem odX12_close : ∀ q ∈ oX12_close, decode cX12_close q.1 = .ok (q.2.1, q.2.2) := q_go qT_ok bbX12_close oX12_close 0 (by decide +kernel)
theorem dX12_close_0 : decode cX12_close 0 = .ok (.aload_n 0, 1) := d_by (d_at odX12_close ofX12_close 0) rfl
theorem dX12_close_1 : decode cX12_close 1 = .ok (.invokevirtual 167, 3) := d_by (d_at odX12_close ofX12_close 1) rfl
theorem dX12_close_4 : decode cX12_close 4 = .ok (.aload_n 0, 1) := d_by (d_at odX12_close ofX12_close 4) rfl
theorem dX12_close_5 : decode cX12_close 5 = .ok (.getfield 180, 3) := d_by (d_at odX12_close ofX12_close 5) rfl
theorem dX12_close_8 : decode cX12_close 8 = .ok (.ifCond .eq 19, 3) := d_by (d_at odX12_close ofX12_close 8) rfl
theorem dX12_close_11 : decode cX12_close 11 = .ok (.iload_n 1, 1) := d_by (d_at odX12_close ofX12_close 11) rfl
theorem dX12_close_12 : decode cX12_close 12 = .ok (.iconst 0, 1) := d_by (d_at odX12_close ofX12_close 12) rfl
theorem dX12_close_13 : decode cX12_close 13 = .ok (.aload_n 0, 1) := d_by (d_at odX12_close ofX12_close 13) rfl
theorem dX12_close_14 : decode cX12_close 14 = .ok (.getfield 20, 3) := d_by (d_at odX12_close ofX12_close 14) rfl
theorem dX12_close_17 : decode cX12_close 17 = .ok (.iconst 5, 1) := d_by (d_at odX12_close ofX12_close 17) rfl
theorem dX12_close_18 : decode cX12_close 18 = .ok (.iaload, 1) := d_by (d_at odX12_close ofX12_close 18) rfl
theorem dX12_close_19 : decode cX12_close 19 = .ok (.iconst 1, 1) := d_by (d_at odX12_close ofX12_close 19) rfl
theorem dX12_close_20 : decode cX12_close 20 = .ok (.isub, 1) := d_by (d_at odX12_close ofX12_close 20) rfl
theorem dX12_close_21 : decode cX12_close 21 = .ok (.invokestatic 149, 3) := d_by (d_at odX12_close ofX12_close 21) rfl
theorem dX12_close_24 : decode cX12_close 24 = .ok (.ifCond .ne 9, 3) := d_by (d_at odX12_close ofX12_close 24) rfl
theorem dX12_close_27 : decode cX12_close 27 = .ok (.aload_n 0, 1) := d_by (d_at odX12_close ofX12_close 27) rfl
theorem dX12_close_28 : decode cX12_close 28 = .ok (.iconst 1, 1) := d_by (d_at odX12_close ofX12_close 28) rfl
theorem dX12_close_29 : decode cX12_close 29 = .ok (.invokevirtual 427, 3) := d_by (d_at odX12_close ofX12_close 29) rfl
theorem dX12_close_32 : decode cX12_close 32 = .ok (.ireturn, 1) := d_by (d_at odX12_close ofX12_close 32) rfl
theorem dX12_close_33 : decode cX12_close 33 = .ok (.aload_n 0, 1) := d_by (d_at odX12_close ofX12_close 33) rfl
theorem dX12_close_34 : decode cX12_close 34 = .ok (.iload_n 1, 1) := d_by (d_at odX12_close ofX12_close 34) rfl
theorem dX12_close_35 : decode cX12_close 35 = .ok (.invokevirtual 302, 3) := d_by (d_at odX12_close ofX12_close 35) rfl
theorem dX12_close_38 : decode cX12_close 38 = .ok (.iload_n 2, 1) := d_by (d_at odX12_close ofX12_close 38) rfl
theorem dX12_close_39 : decode cX12_close 39 = .ok (.if_icmp .ne 9, 3) := d_by (d_at odX12_close ofX12_close 39) rfl
theorem dX12_close_42 : decode cX12_close 42 = .ok (.aload_n 0, 1) := d_by (d_at odX12_close ofX12_close 42) rfl
theorem dX12_close_43 : decode cX12_close 43 = .ok (.iconst 5, 1) := d_by (d_at odX12_close ofX12_close 43) rfl
theorem dX12_close_44 : decode cX12_close 44 = .ok (.invokevirtual 427, 3) := d_by (d_at odX12_close ofX12_close 44) rfl
theorem dX12_close_47 : decode cX12_close 47 = .ok (.ireturn, 1) := d_by (d_at odX12_close ofX12_close 47) rfl
theorem dX12_close_48 : decode cX12_close 48 = .ok (.aload_n 0, 1) := d_by (d_at odX12_close ofX12_close 48) rfl
theorem dX12_close_49 : decode cX12_close 49 = .ok (.invokevirtual 424, 3) := d_by (d_at odX12_close ofX12_close 49) rfl
theorem dX12_close_52 : decode cX12_close 52 = .ok (.aload_n 0, 1) := d_by (d_at odX12_close ofX12_close 52) rfl
theorem dX12_close_53 : decode cX12_close 53 = .ok (.getfield 26, 3) := d_by (d_at odX12_close ofX12_close 53) rfl
theorem dX12_close_56 : decode cX12_close 56 = .ok (.iconst 1, 1) := d_by (d_at odX12_close ofX12_close 56) rfl
theorem dX12_close_57 : decode cX12_close 57 = .ok (.dup2, 1) := d_by (d_at odX12_close ofX12_close 57) rfl
theorem dX12_close_58 : decode cX12_close 58 = .ok (.iaload, 1) := d_by (d_at odX12_close ofX12_close 58) rfl
theorem dX12_close_59 : decode cX12_close 59 = .ok (.iconst 1, 1) := d_by (d_at odX12_close ofX12_close 59) rfl
theorem dX12_close_60 : decode cX12_close 60 = .ok (.iload_n 1, 1) := d_by (d_at odX12_close ofX12_close 60) rfl
theorem dX12_close_61 : decode cX12_close 61 = .ok (.ishl, 1) := d_by (d_at odX12_close ofX12_close 61) rfl
theorem dX12_close_62 : decode cX12_close 62 = .ok (.ixor, 1) := d_by (d_at odX12_close ofX12_close 62) rfl
theorem dX12_close_63 : decode cX12_close 63 = .ok (.iastore, 1) := d_by (d_at odX12_close ofX12_close 63) rfl
theorem dX12_close_64 : decode cX12_close 64 = .ok (.iconst 1, 1) := d_by (d_at odX12_close ofX12_close 64) rfl
theorem dX12_close_65 : decode cX12_close 65 = .ok (.ireturn, 1) := d_by (d_at odX12_close ofX12_close 65) rfl
set_option maxRecDepth 100000 in
def bX12_undo : List Nat := [42, 182, 0, 167, 42, 180, 0, 183, 154, 0, 10, 42, 16, 6, 182, 1, 171, 172, 42, 89, 180, 0, 183, 4, 100, 181, 0, 183, 42, 180, 0, 29, 16, 76, 42, 180, 0, 183, 104, 42, 180, 0, 26, 3, 16, 76, 184, 0, 176, 4, 172]
set_option maxRecDepth 100000 in
theorem bbX12_undo : cX12_undo.data.toList.map UInt8.toNat = bX12_undo := by decide +kernel
set_option maxRecDepth 100000 in
def tX12_undo : Lean.RArray dLf := .branch 25 (.branch 14 (.branch 5 (.branch 1 (.leaf (0, .aload_n 0, 1)) (.branch 4 (.leaf (1, .invokevirtual 167, 3)) (.leaf (4, .aload_n 0, 1)))) (.branch 11 (.branch 8 (.leaf (5, .getfield 183, 3)) (.leaf (8, .ifCond .ne 10, 3))) (.branch 12 (.leaf (11, .aload_n 0, 1)) (.leaf (12, .bipush 6, 2))))) (.branch 19 (.branch 17 (.leaf (14, .invokevirtual 427, 3)) (.branch 18 (.leaf (17, .ireturn, 1)) (.leaf (18, .aload_n 0, 1)))) (.branch 23 (.branch 20 (.leaf (19, .dup, 1)) (.leaf (20, .getfield 183, 3))) (.branch 24 (.leaf (23, .iconst 1, 1)) (.leaf (24, .isub, 1)))))) (.branch 39 (.branch 32 (.branch 28 (.leaf (25, .putfield 183, 3)) (.branch 29 (.leaf (28, .aload_n 0, 1)) (.leaf (29, .getfield 29, 3)))) (.branch 35 (.branch 34 (.leaf (32, .bipush 76, 2)) (.leaf (34, .aload_n 0, 1))) (.branch 38 (.leaf (35, .getfield 183, 3)) (.leaf (38, .imul, 1))))) (.branch 44 (.branch 40 (.leaf (39, .aload_n 0, 1)) (.branch 43 (.leaf (40, .getfield 26, 3)) (.leaf (43, .iconst 0, 1)))) (.branch 49 (.branch 46 (.leaf (44, .bipush 76, 2)) (.leaf (46, .invokestatic 176, 3))) (.branch 50 (.leaf (49, .iconst 1, 1)) (.leaf (50, .ireturn, 1))))))
noncomputable def oX12_undo : List dLf := dFl tX12_undo
theorem ofX12_undo : dFl tX12_undo = oX12_undo := rfl
set_option maxRecDepth 100000 in
theorem odX12_undo : ∀ q ∈ oX12_undo, decode cX12_undo q.1 = .ok (q.2.1, q.2.2) := q_go qT_ok bbX12_undo oX12_undo 0 (by decide +kernel)
theorem dX12_undo_0 : decode cX12_undo 0 = .ok (.aload_n 0, 1) := d_by (d_at odX12_undo ofX12_undo 0) rfl
theorem dX12_undo_1 : decode cX12_undo 1 = .ok (.invokevirtual 167, 3) := d_by (d_at odX12_undo ofX12_undo 1) rfl
theorem dX12_undo_4 : decode cX12_undo 4 = .ok (.aload_n 0, 1) := d_by (d_at odX12_undo ofX12_undo 4) rfl
theorem dX12_undo_5 : decode cX12_undo 5 = .ok (.getfield 183, 3) := d_by (d_at odX12_undo ofX12_undo 5) rfl
theorem dX12_undo_8 : decode cX12_undo 8 = .ok (.ifCond .ne 10, 3) := d_by (d_at odX12_undo ofX12_undo 8) rfl
theorem dX12_undo_11 : decode cX12_undo 11 = .ok (.aload_n 0, 1) := d_by (d_at odX12_undo ofX12_undo 11) rfl
theorem dX12_undo_12 : decode cX12_undo 12 = .ok (.bipush 6, 2) := d_by (d_at odX12_undo ofX12_undo 12) rfl
theorem dX12_undo_14 : decode cX12_undo 14 = .ok (.invokevirtual 427, 3) := d_by (d_at odX12_undo ofX12_undo 14) rfl
theorem dX12_undo_17 : decode cX12_undo 17 = .ok (.ireturn, 1) := d_by (d_at odX12_undo ofX12_undo 17) rfl
theorem dX12_undo_18 : decode cX12_undo 18 = .ok (.aload_n 0, 1) := d_by (d_at odX12_undo ofX12_undo 18) rfl
theorem dX12_undo_19 : decode cX12_undo 19 = .ok (.dup, 1) := d_by (d_at odX12_undo ofX12_undo 19) rfl
theorem dX12_undo_20 : decode cX12_undo 20 = .ok (.getfield 183, 3) := d_by (d_at odX12_undo ofX12_undo 20) rfl
theorem dX12_undo_23 : decode cX12_undo 23 = .ok (.iconst 1, 1) := d_by (d_at odX12_undo ofX12_undo 23) rfl
theorem dX12_undo_24 : decode cX12_undo 24 = .ok (.isub, 1) := d_by (d_at odX12_undo ofX12_undo 24) rfl
theorem dX12_undo_25 : decode cX12_undo 25 = .ok (.putfield 183, 3) := d_by (d_at odX12_undo ofX12_undo 25) rfl
theorem dX12_undo_28 : decode cX12_undo 28 = .ok (.aload_n 0, 1) := d_by (d_at odX12_undo ofX12_undo 28) rfl
theorem dX12_undo_29 : decode cX12_undo 29 = .ok (.getfield 29, 3) := d_by (d_at odX12_undo ofX12_undo 29) rfl
theorem dX12_undo_32 : decode cX12_undo 32 = .ok (.bipush 76, 2) := d_by (d_at odX12_undo ofX12_undo 32) rfl
theorem dX12_undo_34 : decode cX12_undo 34 = .ok (.aload_n 0, 1) := d_by (d_at odX12_undo ofX12_undo 34) rfl
theorem dX12_undo_35 : decode cX12_undo 35 = .ok (.getfield 183, 3) := d_by (d_at odX12_undo ofX12_undo 35) rfl
theorem dX12_undo_38 : decode cX12_undo 38 = .ok (.imul, 1) := d_by (d_at odX12_undo ofX12_undo 38) rfl
theorem dX12_undo_39 : decode cX12_undo 39 = .ok (.aload_n 0, 1) := d_by (d_at odX12_undo ofX12_undo 39) rfl
theorem dX12_undo_40 : decode cX12_undo 40 = .ok (.getfield 26, 3) := d_by (d_at odX12_undo ofX12_undo 40) rfl
theorem dX12_undo_43 : decode cX12_undo 43 = .ok (.iconst 0, 1) := d_by (d_at odX12_undo ofX12_undo 43) rfl
theorem dX12_undo_44 : decode cX12_undo 44 = .ok (.bipush 76, 2) := d_by (d_at odX12_undo ofX12_undo 44) rfl
theorem dX12_undo_46 : decode cX12_undo 46 = .ok (.invokestatic 176, 3) := d_by (d_at odX12_undo ofX12_undo 46) rfl
theorem dX12_undo_49 : decode cX12_undo 49 = .ok (.iconst 1, 1) := d_by (d_at odX12_undo ofX12_undo 49) rfl
theorem dX12_undo_50 : decode cX12_undo 50 = .ok (.ireturn, 1) := d_by (d_at odX12_undo ofX12_undo 50) rfl
set_option maxRecDepth 100000 in
def bX12_image : List Nat := [42, 182, 0, 167, 42, 180, 0, 180, 154, 0, 9, 42, 4, 182, 0, 170, 172, 42, 180, 0, 186, 6, 160, 0, 9, 42, 6, 182, 0, 170, 172, 42, 180, 0, 26, 3, 42, 180, 0, 32, 16, 76, 42, 180, 0, 186, 104, 16, 76, 184, 0, 176, 42, 89, 180, 0, 186, 4, 96, 181, 0, 186, 42, 180, 0, 186, 4, 100, 172]
set_option maxRecDepth 100000 in
theorem bbX12_image : cX12_image.data.toList.map UInt8.toNat = bX12_image := by decide +kernel
set_option maxRecDepth 100000 in
def tX12_image : Lean.RArray dLf := .branch 35 (.branch 17 (.branch 8 (.branch 4 (.branch 1 (.leaf (0, .aload_n 0, 1)) (.leaf (1, .invokevirtual 167, 3))) (.branch 5 (.leaf (4, .aload_n 0, 1)) (.leaf (5, .getfield 180, 3)))) (.branch 12 (.branch 11 (.leaf (8, .ifCond .ne 9, 3)) (.leaf (11, .aload_n 0, 1))) (.branch 13 (.leaf (12, .iconst 1, 1)) (.branch 16 (.leaf (13, .invokevirtual 170, 3)) (.leaf (16, .ireturn, 1)))))) (.branch 26 (.branch 21 (.branch 18 (.leaf (17, .aload_n 0, 1)) (.leaf (18, .getfield 186, 3))) (.branch 22 (.leaf (21, .iconst 3, 1)) (.branch 25 (.leaf (22, .if_icmp .ne 9, 3)) (.leaf (25, .aload_n 0, 1))))) (.branch 30 (.branch 27 (.leaf (26, .iconst 3, 1)) (.leaf (27, .invokevirtual 170, 3))) (.branch 31 (.leaf (30, .ireturn, 1)) (.branch 32 (.leaf (31, .aload_n 0, 1)) (.leaf (32, .getfield 26, 3))))))) (.branch 53 (.branch 43 (.branch 37 (.branch 36 (.leaf (35, .iconst 0, 1)) (.leaf (36, .aload_n 0, 1))) (.branch 40 (.leaf (37, .getfield 32, 3)) (.branch 42 (.leaf (40, .bipush 76, 2)) (.leaf (42, .aload_n 0, 1))))) (.branch 47 (.branch 46 (.leaf (43, .getfield 186, 3)) (.leaf (46, .imul, 1))) (.branch 49 (.leaf (47, .bipush 76, 2)) (.branch 52 (.leaf (49, .invokestatic 176, 3)) (.leaf (52, .aload_n 0, 1)))))) (.branch 62 (.branch 57 (.branch 54 (.leaf (53, .dup, 1)) (.leaf (54, .getfield 186, 3))) (.branch 58 (.leaf (57, .iconst 1, 1)) (.branch 59 (.leaf (58, .iadd, 1)) (.leaf (59, .putfield 186, 3))))) (.branch 66 (.branch 63 (.leaf (62, .aload_n 0, 1)) (.leaf (63, .getfield 186, 3))) (.branch 67 (.leaf (66, .iconst 1, 1)) (.branch 68 (.leaf (67, .isub, 1)) (.leaf (68, .ireturn, 1)))))))
noncomputable def oX12_image : List dLf := dFl tX12_image
theorem ofX12_image : dFl tX12_image = oX12_image := rfl
set_option maxRecDepth 100000 in
theorem odX12_image : ∀ q ∈ oX12_image, decode cX12_image q.1 = .ok (q.2.1, q.2.2) := q_go qT_ok bbX12_image oX12_image 0 (by decide +kernel)
theorem dX12_image_0 : decode cX12_image 0 = .ok (.aload_n 0, 1) := d_by (d_at odX12_image ofX12_image 0) rfl
theorem dX12_image_1 : decode cX12_image 1 = .ok (.invokevirtual 167, 3) := d_by (d_at odX12_image ofX12_image 1) rfl
theorem dX12_image_4 : decode cX12_image 4 = .ok (.aload_n 0, 1) := d_by (d_at odX12_image ofX12_image 4) rfl
theorem dX12_image_5 : decode cX12_image 5 = .ok (.getfield 180, 3) := d_by (d_at odX12_image ofX12_image 5) rfl
theorem dX12_image_8 : decode cX12_image 8 = .ok (.ifCond .ne 9, 3) := d_by (d_at odX12_image ofX12_image 8) rfl
theorem dX12_image_11 : decode cX12_image 11 = .ok (.aload_n 0, 1) := d_by (d_at odX12_image ofX12_image 11) rfl
theorem dX12_image_12 : decode cX12_image 12 = .ok (.iconst 1, 1) := d_by (d_at odX12_image ofX12_image 12) rfl
theorem dX12_image_13 : decode cX12_image 13 = .ok (.invokevirtual 170, 3) := d_by (d_at odX12_image ofX12_image 13) rfl
theorem dX12_image_16 : decode cX12_image 16 = .ok (.ireturn, 1) := d_by (d_at odX12_image ofX12_image 16) rfl
theorem dX12_image_17 : decode cX12_image 17 = .ok (.aload_n 0, 1) := d_by (d_at odX12_image ofX12_image 17) rfl
theorem dX12_image_18 : decode cX12_image 18 = .ok (.getfield 186, 3) := d_by (d_at odX12_image ofX12_image 18) rfl
theorem dX12_image_21 : decode cX12_image 21 = .ok (.iconst 3, 1) := d_by (d_at odX12_image ofX12_image 21) rfl
theorem dX12_image_22 : decode cX12_image 22 = .ok (.if_icmp .ne 9, 3) := d_by (d_at odX12_image ofX12_image 22) rfl
theorem dX12_image_25 : decode cX12_image 25 = .ok (.aload_n 0, 1) := d_by (d_at odX12_image ofX12_image 25) rfl
theorem dX12_image_26 : decode cX12_image 26 = .ok (.iconst 3, 1) := d_by (d_at odX12_image ofX12_image 26) rfl
theorem dX12_image_27 : decode cX12_image 27 = .ok (.invokevirtual 170, 3) := d_by (d_at odX12_image ofX12_image 27) rfl
theorem dX12_image_30 : decode cX12_image 30 = .ok (.ireturn, 1) := d_by (d_at odX12_image ofX12_image 30) rfl
theorem dX12_image_31 : decode cX12_image 31 = .ok (.aload_n 0, 1) := d_by (d_at odX12_image ofX12_image 31) rfl
theorem dX12_image_32 : decode cX12_image 32 = .ok (.getfield 26, 3) := d_by (d_at odX12_image ofX12_image 32) rfl
theorem dX12_image_35 : decode cX12_image 35 = .ok (.iconst 0, 1) := d_by (d_at odX12_image ofX12_image 35) rfl
theorem dX12_image_36 : decode cX12_image 36 = .ok (.aload_n 0, 1) := d_by (d_at odX12_image ofX12_image 36) rfl
theorem dX12_image_37 : decode cX12_image 37 = .ok (.getfield 32, 3) := d_by (d_at odX12_image ofX12_image 37) rfl
theorem dX12_image_40 : decode cX12_image 40 = .ok (.bipush 76, 2) := d_by (d_at odX12_image ofX12_image 40) rfl
theorem dX12_image_42 : decode cX12_image 42 = .ok (.aload_n 0, 1) := d_by (d_at odX12_image ofX12_image 42) rfl
theorem dX12_image_43 : decode cX12_image 43 = .ok (.getfield 186, 3) := d_by (d_at odX12_image ofX12_image 43) rfl
theorem dX12_image_46 : decode cX12_image 46 = .ok (.imul, 1) := d_by (d_at odX12_image ofX12_image 46) rfl
theorem dX12_image_47 : decode cX12_image 47 = .ok (.bipush 76, 2) := d_by (d_at odX12_image ofX12_image 47) rfl
theorem dX12_image_49 : decode cX12_image 49 = .ok (.invokestatic 176, 3) := d_by (d_at odX12_image ofX12_image 49) rfl
theorem dX12_image_52 : decode cX12_image 52 = .ok (.aload_n 0, 1) := d_by (d_at odX12_image ofX12_image 52) rfl
theorem dX12_image_53 : decode cX12_image 53 = .ok (.dup, 1) := d_by (d_at odX12_image ofX12_image 53) rfl
theorem dX12_image_54 : decode cX12_image 54 = .ok (.getfield 186, 3) := d_by (d_at odX12_image ofX12_image 54) rfl
theorem dX12_image_57 : decode cX12_image 57 = .ok (.iconst 1, 1) := d_by (d_at odX12_image ofX12_image 57) rfl
theorem dX12_image_58 : decode cX12_image 58 = .ok (.iadd, 1) := d_by (d_at odX12_image ofX12_image 58) rfl
theorem dX12_image_59 : decode cX12_image 59 = .ok (.putfield 186, 3) := d_by (d_at odX12_image ofX12_image 59) rfl
theorem dX12_image_62 : decode cX12_image 62 = .ok (.aload_n 0, 1) := d_by (d_at odX12_image ofX12_image 62) rfl
theorem dX12_image_63 : decode cX12_image 63 = .ok (.getfield 186, 3) := d_by (d_at odX12_image ofX12_image 63) rfl
theorem dX12_image_66 : decode cX12_image 66 = .ok (.iconst 1, 1) := d_by (d_at odX12_image ofX12_image 66) rfl
theorem dX12_image_67 : decode cX12_image 67 = .ok (.isub, 1) := d_by (d_at odX12_image ofX12_image 67) rfl
theorem dX12_image_68 : decode cX12_image 68 = .ok (.ireturn, 1) := d_by (d_at odX12_image ofX12_image 68) rfl
set_option maxRecDepth 100000 in
def bX12_back : List Nat := [42, 182, 0, 167, 27, 3, 42, 180, 0, 186, 4, 100, 184, 0, 149, 154, 0, 9, 42, 4, 182, 1, 171, 172, 42, 180, 0, 32, 16, 76, 27, 104, 42, 180, 0, 26, 3, 16, 76, 184, 0, 176, 42, 3, 181, 0, 183, 4, 172]
set_option maxRecDepth 100000 in
theorem bbX12_back : cX12_back.data.toList.map UInt8.toNat = bX12_back := by decide +kernel
set_option maxRecDepth 100000 in
def tX12_back : Lean.RArray dLf := .branch 24 (.branch 11 (.branch 5 (.branch 1 (.leaf (0, .aload_n 0, 1)) (.branch 4 (.leaf (1, .invokevirtual 167, 3)) (.leaf (4, .iload_n 1, 1)))) (.branch 7 (.branch 6 (.leaf (5, .iconst 0, 1)) (.leaf (6, .aload_n 0, 1))) (.branch 10 (.leaf (7, .getfield 186, 3)) (.leaf (10, .iconst 1, 1))))) (.branch 18 (.branch 12 (.leaf (11, .isub, 1)) (.branch 15 (.leaf (12, .invokestatic 149, 3)) (.leaf (15, .ifCond .ne 9, 3)))) (.branch 20 (.branch 19 (.leaf (18, .aload_n 0, 1)) (.leaf (19, .iconst 1, 1))) (.branch 23 (.leaf (20, .invokevirtual 427, 3)) (.leaf (23, .ireturn, 1)))))) (.branch 36 (.branch 30 (.branch 25 (.leaf (24, .aload_n 0, 1)) (.branch 28 (.leaf (25, .getfield 32, 3)) (.leaf (28, .bipush 76, 2)))) (.branch 32 (.branch 31 (.leaf (30, .iload_n 1, 1)) (.leaf (31, .imul, 1))) (.branch 33 (.leaf (32, .aload_n 0, 1)) (.leaf (33, .getfield 26, 3))))) (.branch 43 (.branch 39 (.branch 37 (.leaf (36, .iconst 0, 1)) (.leaf (37, .bipush 76, 2))) (.branch 42 (.leaf (39, .invokestatic 176, 3)) (.leaf (42, .aload_n 0, 1)))) (.branch 47 (.branch 44 (.leaf (43, .iconst 0, 1)) (.leaf (44, .putfield 183, 3))) (.branch 48 (.leaf (47, .iconst 1, 1)) (.leaf (48, .ireturn, 1))))))
noncomputable def oX12_back : List dLf := dFl tX12_back
theorem ofX12_back : dFl tX12_back = oX12_back := rfl
set_option maxRecDepth 100000 in
theorem odX12_back : ∀ q ∈ oX12_back, decode cX12_back q.1 = .ok (q.2.1, q.2.2) := q_go qT_ok bbX12_back oX12_back 0 (by decide +kernel)
theorem dX12_back_0 : decode cX12_back 0 = .ok (.aload_n 0, 1) := d_by (d_at odX12_back ofX12_back 0) rfl
theorem dX12_back_1 : decode cX12_back 1 = .ok (.invokevirtual 167, 3) := d_by (d_at odX12_back ofX12_back 1) rfl
theorem dX12_back_4 : decode cX12_back 4 = .ok (.iload_n 1, 1) := d_by (d_at odX12_back ofX12_back 4) rfl
theorem dX12_back_5 : decode cX12_back 5 = .ok (.iconst 0, 1) := d_by (d_at odX12_back ofX12_back 5) rfl
theorem dX12_back_6 : decode cX12_back 6 = .ok (.aload_n 0, 1) := d_by (d_at odX12_back ofX12_back 6) rfl
theorem dX12_back_7 : decode cX12_back 7 = .ok (.getfield 186, 3) := d_by (d_at odX12_back ofX12_back 7) rfl
theorem dX12_back_10 : decode cX12_back 10 = .ok (.iconst 1, 1) := d_by (d_at odX12_back ofX12_back 10) rfl
theorem dX12_back_11 : decode cX12_back 11 = .ok (.isub, 1) := d_by (d_at odX12_back ofX12_back 11) rfl
theorem dX12_back_12 : decode cX12_back 12 = .ok (.invokestatic 149, 3) := d_by (d_at odX12_back ofX12_back 12) rfl
theorem dX12_back_15 : decode cX12_back 15 = .ok (.ifCond .ne 9, 3) := d_by (d_at odX12_back ofX12_back 15) rfl
theorem dX12_back_18 : decode cX12_back 18 = .ok (.aload_n 0, 1) := d_by (d_at odX12_back ofX12_back 18) rfl
theorem dX12_back_19 : decode cX12_back 19 = .ok (.iconst 1, 1) := d_by (d_at odX12_back ofX12_back 19) rfl
theorem dX12_back_20 : decode cX12_back 20 = .ok (.invokevirtual 427, 3) := d_by (d_at odX12_back ofX12_back 20) rfl
theorem dX12_back_23 : decode cX12_back 23 = .ok (.ireturn, 1) := d_by (d_at odX12_back ofX12_back 23) rfl
theorem dX12_back_24 : decode cX12_back 24 = .ok (.aload_n 0, 1) := d_by (d_at odX12_back ofX12_back 24) rfl
theorem dX12_back_25 : decode cX12_back 25 = .ok (.getfield 32, 3) := d_by (d_at odX12_back ofX12_back 25) rfl
theorem dX12_back_28 : decode cX12_back 28 = .ok (.bipush 76, 2) := d_by (d_at odX12_back ofX12_back 28) rfl
theorem dX12_back_30 : decode cX12_back 30 = .ok (.iload_n 1, 1) := d_by (d_at odX12_back ofX12_back 30) rfl
theorem dX12_back_31 : decode cX12_back 31 = .ok (.imul, 1) := d_by (d_at odX12_back ofX12_back 31) rfl
theorem dX12_back_32 : decode cX12_back 32 = .ok (.aload_n 0, 1) := d_by (d_at odX12_back ofX12_back 32) rfl
theorem dX12_back_33 : decode cX12_back 33 = .ok (.getfield 26, 3) := d_by (d_at odX12_back ofX12_back 33) rfl
theorem dX12_back_36 : decode cX12_back 36 = .ok (.iconst 0, 1) := d_by (d_at odX12_back ofX12_back 36) rfl
theorem dX12_back_37 : decode cX12_back 37 = .ok (.bipush 76, 2) := d_by (d_at odX12_back ofX12_back 37) rfl
theorem dX12_back_39 : decode cX12_back 39 = .ok (.invokestatic 176, 3) := d_by (d_at odX12_back ofX12_back 39) rfl
theorem dX12_back_42 : decode cX12_back 42 = .ok (.aload_n 0, 1) := d_by (d_at odX12_back ofX12_back 42) rfl
theorem dX12_back_43 : decode cX12_back 43 = .ok (.iconst 0, 1) := d_by (d_at odX12_back ofX12_back 43) rfl
theorem dX12_back_44 : decode cX12_back 44 = .ok (.putfield 183, 3) := d_by (d_at odX12_back ofX12_back 44) rfl
theorem dX12_back_47 : decode cX12_back 47 = .ok (.iconst 1, 1) := d_by (d_at odX12_back ofX12_back 47) rfl
theorem dX12_back_48 : decode cX12_back 48 = .ok (.ireturn, 1) := d_by (d_at odX12_back ofX12_back 48) rfl
set_option maxRecDepth 100000 in
def bX12_led : List Nat := [3, 61, 3, 62, 42, 180, 0, 180, 153, 0, 50, 29, 42, 180, 0, 20, 16, 7, 46, 162, 0, 39, 42, 180, 0, 26, 16, 12, 29, 96, 46, 158, 0, 6, 167, 0, 18, 28, 27, 160, 0, 10, 42, 3, 181, 0, 62, 29, 172, 132, 2, 1, 132, 3, 1, 167, 255, 205, 42, 4, 181, 0, 62, 3, 172]
set_option maxRecDepth 100000 in
theorem bbX12_led : cX12_led.data.toList.map UInt8.toNat = bX12_led := by decide +kernel
set_option maxRecDepth 100000 in
def tX12_led : Lean.RArray dLf := .branch 30 (.branch 13 (.branch 4 (.branch 2 (.branch 1 (.leaf (0, .iconst 0, 1)) (.leaf (1, .istore_n 2, 1))) (.branch 3 (.leaf (2, .iconst 0, 1)) (.leaf (3, .istore_n 3, 1)))) (.branch 8 (.branch 5 (.leaf (4, .aload_n 0, 1)) (.leaf (5, .getfield 180, 3))) (.branch 11 (.leaf (8, .ifCond .eq 50, 3)) (.branch 12 (.leaf (11, .iload_n 3, 1)) (.leaf (12, .aload_n 0, 1)))))) (.branch 22 (.branch 18 (.branch 16 (.leaf (13, .getfield 20, 3)) (.leaf (16, .bipush 7, 2))) (.branch 19 (.leaf (18, .iaload, 1)) (.leaf (19, .if_icmp .ge 39, 3)))) (.branch 26 (.branch 23 (.leaf (22, .aload_n 0, 1)) (.leaf (23, .getfield 26, 3))) (.branch 28 (.leaf (26, .bipush 12, 2)) (.branch 29 (.leaf (28, .iload_n 3, 1)) (.leaf (29, .iadd, 1))))))) (.branch 47 (.branch 38 (.branch 34 (.branch 31 (.leaf (30, .iaload, 1)) (.leaf (31, .ifCond .le 6, 3))) (.branch 37 (.leaf (34, .goto 18, 3)) (.leaf (37, .iload_n 2, 1)))) (.branch 42 (.branch 39 (.leaf (38, .iload_n 1, 1)) (.leaf (39, .if_icmp .ne 10, 3))) (.branch 43 (.leaf (42, .aload_n 0, 1)) (.branch 44 (.leaf (43, .iconst 0, 1)) (.leaf (44, .putfield 62, 3)))))) (.branch 58 (.branch 49 (.branch 48 (.leaf (47, .iload_n 3, 1)) (.leaf (48, .ireturn, 1))) (.branch 52 (.leaf (49, .iinc 2 1, 3)) (.branch 55 (.leaf (52, .iinc 3 1, 3)) (.leaf (55, .goto (-51), 3))))) (.branch 60 (.branch 59 (.leaf (58, .aload_n 0, 1)) (.leaf (59, .iconst 1, 1))) (.branch 63 (.leaf (60, .putfield 62, 3)) (.branch 64 (.leaf (63, .iconst 0, 1)) (.leaf (64, .ireturn, 1)))))))
noncomputable def oX12_led : List dLf := dFl tX12_led
theorem ofX12_led : dFl tX12_led = oX12_led := rfl
set_option maxRecDepth 100000 in
theorem odX12_led : ∀ q ∈ oX12_led, decode cX12_led q.1 = .ok (q.2.1, q.2.2) := q_go qT_ok bbX12_led oX12_led 0 (by decide +kernel)
set_option maxRecDepth 100000 in
def bX12_size : List Nat := [42, 3, 181, 0, 62, 27, 16, 12, 160, 0, 8, 42, 180, 0, 68, 172, 42, 180, 0, 180, 154, 0, 19, 27, 3, 16, 11, 184, 0, 149, 153, 0, 7, 3, 167, 0, 4, 2, 172, 27, 3, 16, 8, 184, 0, 149, 153, 0, 10, 42, 180, 0, 20, 27, 46, 172, 27, 16, 9, 160, 0, 12, 42, 180, 0, 26, 3, 46, 167, 0, 30, 27, 16, 10, 160, 0, 10, 42, 180, 0, 183, 167, 0, 17, 27, 16, 11, 160, 0, 10, 42, 180, 0, 186, 167, 0, 4, 2, 172]
set_option maxRecDepth 100000 in
theorem bbX12_size : cX12_size.data.toList.map UInt8.toNat = bX12_size := by decide +kernel
set_option maxRecDepth 100000 in
def tX12_size : Lean.RArray dLf := .branch 49 (.branch 24 (.branch 11 (.branch 5 (.branch 1 (.leaf (0, .aload_n 0, 1)) (.branch 2 (.leaf (1, .iconst 0, 1)) (.leaf (2, .putfield 62, 3)))) (.branch 6 (.leaf (5, .iload_n 1, 1)) (.branch 8 (.leaf (6, .bipush 12, 2)) (.leaf (8, .if_icmp .ne 8, 3))))) (.branch 16 (.branch 12 (.leaf (11, .aload_n 0, 1)) (.branch 15 (.leaf (12, .getfield 68, 3)) (.leaf (15, .ireturn, 1)))) (.branch 20 (.branch 17 (.leaf (16, .aload_n 0, 1)) (.leaf (17, .getfield 180, 3))) (.branch 23 (.leaf (20, .ifCond .ne 19, 3)) (.leaf (23, .iload_n 1, 1)))))) (.branch 37 (.branch 30 (.branch 25 (.leaf (24, .iconst 0, 1)) (.branch 27 (.leaf (25, .bipush 11, 2)) (.leaf (27, .invokestatic 149, 3)))) (.branch 33 (.leaf (30, .ifCond .eq 7, 3)) (.branch 34 (.leaf (33, .iconst 0, 1)) (.leaf (34, .goto 4, 3))))) (.branch 40 (.branch 38 (.leaf (37, .iconst (-1), 1)) (.branch 39 (.leaf (38, .ireturn, 1)) (.leaf (39, .iload_n 1, 1)))) (.branch 43 (.branch 41 (.leaf (40, .iconst 0, 1)) (.leaf (41, .bipush 8, 2))) (.branch 46 (.leaf (43, .invokestatic 149, 3)) (.leaf (46, .ifCond .eq 10, 3))))))) (.branch 71 (.branch 57 (.branch 54 (.branch 50 (.leaf (49, .aload_n 0, 1)) (.branch 53 (.leaf (50, .getfield 20, 3)) (.leaf (53, .iload_n 1, 1)))) (.branch 55 (.leaf (54, .iaload, 1)) (.branch 56 (.leaf (55, .ireturn, 1)) (.leaf (56, .iload_n 1, 1))))) (.branch 63 (.branch 59 (.leaf (57, .bipush 9, 2)) (.branch 62 (.leaf (59, .if_icmp .ne 12, 3)) (.leaf (62, .aload_n 0, 1)))) (.branch 67 (.branch 66 (.leaf (63, .getfield 26, 3)) (.leaf (66, .iconst 0, 1))) (.branch 68 (.leaf (67, .iaload, 1)) (.leaf (68, .goto 30, 3)))))) (.branch 85 (.branch 77 (.branch 72 (.leaf (71, .iload_n 1, 1)) (.branch 74 (.leaf (72, .bipush 10, 2)) (.leaf (74, .if_icmp .ne 10, 3)))) (.branch 81 (.branch 78 (.leaf (77, .aload_n 0, 1)) (.leaf (78, .getfield 183, 3))) (.branch 84 (.leaf (81, .goto 17, 3)) (.leaf (84, .iload_n 1, 1))))) (.branch 91 (.branch 87 (.leaf (85, .bipush 11, 2)) (.branch 90 (.leaf (87, .if_icmp .ne 10, 3)) (.leaf (90, .aload_n 0, 1)))) (.branch 97 (.branch 94 (.leaf (91, .getfield 186, 3)) (.leaf (94, .goto 4, 3))) (.branch 98 (.leaf (97, .iconst (-1), 1)) (.leaf (98, .ireturn, 1)))))))
noncomputable def oX12_size : List dLf := dFl tX12_size
theorem ofX12_size : dFl tX12_size = oX12_size := rfl
set_option maxRecDepth 100000 in
theorem odX12_size : ∀ q ∈ oX12_size, decode cX12_size q.1 = .ok (q.2.1, q.2.2) := q_go qT_ok bbX12_size oX12_size 0 (by decide +kernel)
set_option maxRecDepth 100000 in
def bX12_trouble : List Nat := [42, 3, 181, 0, 62, 42, 180, 0, 65, 172]
set_option maxRecDepth 100000 in
theorem bbX12_trouble : cX12_trouble.data.toList.map UInt8.toNat = bX12_trouble := by decide +kernel
set_option maxRecDepth 100000 in
def tX12_trouble : Lean.RArray dLf := .branch 5 (.branch 1 (.leaf (0, .aload_n 0, 1)) (.branch 2 (.leaf (1, .iconst 0, 1)) (.leaf (2, .putfield 62, 3)))) (.branch 6 (.leaf (5, .aload_n 0, 1)) (.branch 9 (.leaf (6, .getfield 65, 3)) (.leaf (9, .ireturn, 1))))
noncomputable def oX12_trouble : List dLf := dFl tX12_trouble
theorem ofX12_trouble : dFl tX12_trouble = oX12_trouble := rfl
set_option maxRecDepth 100000 in
theorem odX12_trouble : ∀ q ∈ oX12_trouble, decode cX12_trouble q.1 = .ok (q.2.1, q.2.2) := q_go qT_ok bbX12_trouble oX12_trouble 0 (by decide +kernel)
set_option maxRecDepth 100000 in
def bJ0_length_8abf5 : List Nat := [42, 180, 0, 9, 190, 42, 182, 1, 79, 122, 172]
set_option maxRecDepth 100000 in
theorem bbJ0_length_8abf5 : cJ0_length_8abf5.data.toList.map UInt8.toNat = bJ0_length_8abf5 := by decide +kernel
set_option maxRecDepth 100000 in
def tJ0_length_8abf5 : Lean.RArray dLf := .branch 5 (.branch 1 (.leaf (0, .aload_n 0, 1)) (.branch 4 (.leaf (1, .getfield 9, 3)) (.leaf (4, .arraylength, 1)))) (.branch 9 (.branch 6 (.leaf (5, .aload_n 0, 1)) (.leaf (6, .invokevirtual 335, 3))) (.branch 10 (.leaf (9, .ishr, 1)) (.leaf (10, .ireturn, 1))))
noncomputable def oJ0_length_8abf5 : List dLf := dFl tJ0_length_8abf5
theorem ofJ0_length_8abf5 : dFl tJ0_length_8abf5 = oJ0_length_8abf5 := rfl
set_option maxRecDepth 100000 in
theorem odJ0_length_8abf5 : ∀ q ∈ oJ0_length_8abf5, decode cJ0_length_8abf5 q.1 = .ok (q.2.1, q.2.2) := q_go qT_ok bbJ0_length_8abf5 oJ0_length_8abf5 0 (by decide +kernel)
set_option maxRecDepth 100000 in
def bJ0_charAt_5068e : List Nat := [42, 182, 1, 236, 153, 0, 12, 42, 180, 0, 9, 27, 184, 1, 239, 172, 42, 180, 0, 9, 27, 184, 1, 242, 172]
set_option maxRecDepth 100000 in
theorem bbJ0_charAt_5068e : cJ0_charAt_5068e.data.toList.map UInt8.toNat = bJ0_charAt_5068e := by decide +kernel
set_option maxRecDepth 100000 in
def tJ0_charAt_5068e : Lean.RArray dLf := .branch 12 (.branch 7 (.branch 1 (.leaf (0, .aload_n 0, 1)) (.branch 4 (.leaf (1, .invokevirtual 492, 3)) (.leaf (4, .ifCond .eq 12, 3)))) (.branch 8 (.leaf (7, .aload_n 0, 1)) (.branch 11 (.leaf (8, .getfield 9, 3)) (.leaf (11, .iload_n 1, 1))))) (.branch 17 (.branch 15 (.leaf (12, .invokestatic 495, 3)) (.branch 16 (.leaf (15, .ireturn, 1)) (.leaf (16, .aload_n 0, 1)))) (.branch 21 (.branch 20 (.leaf (17, .getfield 9, 3)) (.leaf (20, .iload_n 1, 1))) (.branch 24 (.leaf (21, .invokestatic 498, 3)) (.leaf (24, .ireturn, 1)))))
noncomputable def oJ0_charAt_5068e : List dLf := dFl tJ0_charAt_5068e
theorem ofJ0_charAt_5068e : dFl tJ0_charAt_5068e = oJ0_charAt_5068e := rfl
set_option maxRecDepth 100000 in
theorem odJ0_charAt_5068e : ∀ q ∈ oJ0_charAt_5068e, decode cJ0_charAt_5068e q.1 = .ok (q.2.1, q.2.2) := q_go qT_ok bbJ0_charAt_5068e oJ0_charAt_5068e 0 (by decide +kernel)
set_option maxRecDepth 100000 in
def bJ0_coder_7d493 : List Nat := [178, 0, 38, 153, 0, 10, 42, 180, 0, 15, 167, 0, 4, 4, 172]
set_option maxRecDepth 100000 in
theorem bbJ0_coder_7d493 : cJ0_coder_7d493.data.toList.map UInt8.toNat = bJ0_coder_7d493 := by decide +kernel
set_option maxRecDepth 100000 in
def tJ0_coder_7d493 : Lean.RArray dLf := .branch 7 (.branch 3 (.leaf (0, .getstatic 38, 3)) (.branch 6 (.leaf (3, .ifCond .eq 10, 3)) (.leaf (6, .aload_n 0, 1)))) (.branch 13 (.branch 10 (.leaf (7, .getfield 15, 3)) (.leaf (10, .goto 4, 3))) (.branch 14 (.leaf (13, .iconst 1, 1)) (.leaf (14, .ireturn, 1))))
noncomputable def oJ0_coder_7d493 : List dLf := dFl tJ0_coder_7d493
theorem ofJ0_coder_7d493 : dFl tJ0_coder_7d493 = oJ0_coder_7d493 := rfl
set_option maxRecDepth 100000 in
theorem odJ0_coder_7d493 : ∀ q ∈ oJ0_coder_7d493, decode cJ0_coder_7d493 q.1 = .ok (q.2.1, q.2.2) := q_go qT_ok bbJ0_coder_7d493 oJ0_coder_7d493 0 (by decide +kernel)
set_option maxRecDepth 100000 in
def bJ0_isLatin1_aae02 : List Nat := [178, 0, 38, 153, 0, 14, 42, 180, 0, 15, 154, 0, 7, 4, 167, 0, 4, 3, 172]
set_option maxRecDepth 100000 in
theorem bbJ0_isLatin1_aae02 : cJ0_isLatin1_aae02.data.toList.map UInt8.toNat = bJ0_isLatin1_aae02 := by decide +kernel
set_option maxRecDepth 100000 in
def tJ0_isLatin1_aae02 : Lean.RArray dLf := .branch 10 (.branch 6 (.branch 3 (.leaf (0, .getstatic 38, 3)) (.leaf (3, .ifCond .eq 14, 3))) (.branch 7 (.leaf (6, .aload_n 0, 1)) (.leaf (7, .getfield 15, 3)))) (.branch 14 (.branch 13 (.leaf (10, .ifCond .ne 7, 3)) (.leaf (13, .iconst 1, 1))) (.branch 17 (.leaf (14, .goto 4, 3)) (.branch 18 (.leaf (17, .iconst 0, 1)) (.leaf (18, .ireturn, 1)))))
noncomputable def oJ0_isLatin1_aae02 : List dLf := dFl tJ0_isLatin1_aae02
theorem ofJ0_isLatin1_aae02 : dFl tJ0_isLatin1_aae02 = oJ0_isLatin1_aae02 := rfl
set_option maxRecDepth 100000 in
theorem odJ0_isLatin1_aae02 : ∀ q ∈ oJ0_isLatin1_aae02, decode cJ0_isLatin1_aae02 q.1 = .ok (q.2.1, q.2.2) := q_go qT_ok bbJ0_isLatin1_aae02 oJ0_isLatin1_aae02 0 (by decide +kernel)
set_option maxRecDepth 100000 in
def bJ0_checkIndex_df160 : List Nat := [26, 27, 178, 4, 29, 184, 4, 35, 87, 177]
set_option maxRecDepth 100000 in
theorem bbJ0_checkIndex_df160 : cJ0_checkIndex_df160.data.toList.map UInt8.toNat = bJ0_checkIndex_df160 := by decide +kernel
set_option maxRecDepth 100000 in
def tJ0_checkIndex_df160 : Lean.RArray dLf := .branch 5 (.branch 1 (.leaf (0, .iload_n 0, 1)) (.branch 2 (.leaf (1, .iload_n 1, 1)) (.leaf (2, .getstatic 1053, 3)))) (.branch 8 (.leaf (5, .invokestatic 1059, 3)) (.branch 9 (.leaf (8, .pop, 1)) (.leaf (9, .return_, 1))))
noncomputable def oJ0_checkIndex_df160 : List dLf := dFl tJ0_checkIndex_df160
theorem ofJ0_checkIndex_df160 : dFl tJ0_checkIndex_df160 = oJ0_checkIndex_df160 := rfl
set_option maxRecDepth 100000 in
theorem odJ0_checkIndex_df160 : ∀ q ∈ oJ0_checkIndex_df160, decode cJ0_checkIndex_df160 q.1 = .ok (q.2.1, q.2.2) := q_go qT_ok bbJ0_checkIndex_df160 oJ0_checkIndex_df160 0 (by decide +kernel)
set_option maxRecDepth 100000 in
def bJ1_charAt_3b067 : List Nat := [27, 42, 190, 184, 0, 9, 42, 27, 51, 17, 0, 255, 126, 146, 172]
set_option maxRecDepth 100000 in
theorem bbJ1_charAt_3b067 : cJ1_charAt_3b067.data.toList.map UInt8.toNat = bJ1_charAt_3b067 := by decide +kernel
set_option maxRecDepth 100000 in
def tJ1_charAt_3b067 : Lean.RArray dLf := .branch 7 (.branch 2 (.branch 1 (.leaf (0, .iload_n 1, 1)) (.leaf (1, .aload_n 0, 1))) (.branch 3 (.leaf (2, .arraylength, 1)) (.branch 6 (.leaf (3, .invokestatic 9, 3)) (.leaf (6, .aload_n 0, 1))))) (.branch 12 (.branch 8 (.leaf (7, .iload_n 1, 1)) (.branch 9 (.leaf (8, .baload, 1)) (.leaf (9, .sipush 255, 3)))) (.branch 13 (.leaf (12, .iand, 1)) (.branch 14 (.leaf (13, .i2c, 1)) (.leaf (14, .ireturn, 1)))))
noncomputable def oJ1_charAt_3b067 : List dLf := dFl tJ1_charAt_3b067
theorem ofJ1_charAt_3b067 : dFl tJ1_charAt_3b067 = oJ1_charAt_3b067 := rfl
set_option maxRecDepth 100000 in
theorem odJ1_charAt_3b067 : ∀ q ∈ oJ1_charAt_3b067, decode cJ1_charAt_3b067 q.1 = .ok (q.2.1, q.2.2) := q_go qT_ok bbJ1_charAt_3b067 oJ1_charAt_3b067 0 (by decide +kernel)
end Pk0
section Pk1
set_option maxRecDepth 100000 in
def bJ3_checkIndex_8e157 : List Nat := [26, 155, 0, 8, 26, 27, 161, 0, 10, 44, 26, 27, 184, 0, 95, 191, 26, 172]
set_option maxRecDepth 100000 in
theorem bbJ3_checkIndex_8e157 : cJ3_checkIndex_8e157.data.toList.map UInt8.toNat = bJ3_checkIndex_8e157 := by decide +kernel
set_option maxRecDepth 100000 in
def tJ3_checkIndex_8e157 : Lean.RArray dLf := .branch 10 (.branch 5 (.branch 1 (.leaf (0, .iload_n 0, 1)) (.branch 4 (.leaf (1, .ifCond .lt 8, 3)) (.leaf (4, .iload_n 0, 1)))) (.branch 6 (.leaf (5, .iload_n 1, 1)) (.branch 9 (.leaf (6, .if_icmp .lt 10, 3)) (.leaf (9, .aload_n 2, 1))))) (.branch 15 (.branch 11 (.leaf (10, .iload_n 0, 1)) (.branch 12 (.leaf (11, .iload_n 1, 1)) (.leaf (12, .invokestatic 95, 3)))) (.branch 16 (.leaf (15, .athrow, 1)) (.branch 17 (.leaf (16, .iload_n 0, 1)) (.leaf (17, .ireturn, 1)))))
noncomputable def oJ3_checkIndex_8e157 : List dLf := dFl tJ3_checkIndex_8e157
theorem ofJ3_checkIndex_8e157 : dFl tJ3_checkIndex_8e157 = oJ3_checkIndex_8e157 := rfl
set_option maxRecDepth 100000 in
theorem odJ3_checkIndex_8e157 : ∀ q ∈ oJ3_checkIndex_8e157, decode cJ3_checkIndex_8e157 q.1 = .ok (q.2.1, q.2.2) := q_go qT_ok bbJ3_checkIndex_8e157 oJ3_checkIndex_8e157 0 (by decide +kernel)
set_option maxRecDepth 100000 in
def bJ7_fill_53178 : List Nat := [3, 61, 42, 190, 62, 28, 29, 162, 0, 13, 42, 28, 27, 79, 132, 2, 1, 167, 255, 244, 177]
set_option maxRecDepth 100000 in
theorem bbJ7_fill_53178 : cJ7_fill_53178.data.toList.map UInt8.toNat = bJ7_fill_53178 := by decide +kernel
set_option maxRecDepth 100000 in
def tJ7_fill_53178 : Lean.RArray dLf := .branch 7 (.branch 3 (.branch 1 (.leaf (0, .iconst 0, 1)) (.branch 2 (.leaf (1, .istore_n 2, 1)) (.leaf (2, .aload_n 0, 1)))) (.branch 5 (.branch 4 (.leaf (3, .arraylength, 1)) (.leaf (4, .istore_n 3, 1))) (.branch 6 (.leaf (5, .iload_n 2, 1)) (.leaf (6, .iload_n 3, 1))))) (.branch 13 (.branch 11 (.branch 10 (.leaf (7, .if_icmp .ge 13, 3)) (.leaf (10, .aload_n 0, 1))) (.branch 12 (.leaf (11, .iload_n 2, 1)) (.leaf (12, .iload_n 1, 1)))) (.branch 17 (.branch 14 (.leaf (13, .iastore, 1)) (.leaf (14, .iinc 2 1, 3))) (.branch 20 (.leaf (17, .goto (-12), 3)) (.leaf (20, .return_, 1)))))
noncomputable def oJ7_fill_53178 : List dLf := dFl tJ7_fill_53178
theorem ofJ7_fill_53178 : dFl tJ7_fill_53178 = oJ7_fill_53178 := rfl
set_option maxRecDepth 100000 in
theorem odJ7_fill_53178 : ∀ q ∈ oJ7_fill_53178, decode cJ7_fill_53178 q.1 = .ok (q.2.1, q.2.2) := q_go qT_ok bbJ7_fill_53178 oJ7_fill_53178 0 (by decide +kernel)
theorem dJ7_fill_53178_0 : decode cJ7_fill_53178 0 = .ok (.iconst 0, 1) := d_by (d_at odJ7_fill_53178 ofJ7_fill_53178 0) rfl
theorem dJ7_fill_53178_1 : decode cJ7_fill_53178 1 = .ok (.istore_n 2, 1) := d_by (d_at odJ7_fill_53178 ofJ7_fill_53178 1) rfl
theorem dJ7_fill_53178_2 : decode cJ7_fill_53178 2 = .ok (.aload_n 0, 1) := d_by (d_at odJ7_fill_53178 ofJ7_fill_53178 2) rfl
theorem dJ7_fill_53178_3 : decode cJ7_fill_53178 3 = .ok (.arraylength, 1) := d_by (d_at odJ7_fill_53178 ofJ7_fill_53178 3) rfl
theorem dJ7_fill_53178_4 : decode cJ7_fill_53178 4 = .ok (.istore_n 3, 1) := d_by (d_at odJ7_fill_53178 ofJ7_fill_53178 4) rfl
theorem dJ7_fill_53178_5 : decode cJ7_fill_53178 5 = .ok (.iload_n 2, 1) := d_by (d_at odJ7_fill_53178 ofJ7_fill_53178 5) rfl
theorem dJ7_fill_53178_6 : decode cJ7_fill_53178 6 = .ok (.iload_n 3, 1) := d_by (d_at odJ7_fill_53178 ofJ7_fill_53178 6) rfl
theorem dJ7_fill_53178_7 : decode cJ7_fill_53178 7 = .ok (.if_icmp .ge 13, 3) := d_by (d_at odJ7_fill_53178 ofJ7_fill_53178 7) rfl
theorem dJ7_fill_53178_10 : decode cJ7_fill_53178 10 = .ok (.aload_n 0, 1) := d_by (d_at odJ7_fill_53178 ofJ7_fill_53178 10) rfl
theorem dJ7_fill_53178_11 : decode cJ7_fill_53178 11 = .ok (.iload_n 2, 1) := d_by (d_at odJ7_fill_53178 ofJ7_fill_53178 11) rfl
theorem dJ7_fill_53178_12 : decode cJ7_fill_53178 12 = .ok (.iload_n 1, 1) := d_by (d_at odJ7_fill_53178 ofJ7_fill_53178 12) rfl
theorem dJ7_fill_53178_13 : decode cJ7_fill_53178 13 = .ok (.iastore, 1) := d_by (d_at odJ7_fill_53178 ofJ7_fill_53178 13) rfl
theorem dJ7_fill_53178_14 : decode cJ7_fill_53178 14 = .ok (.iinc 2 1, 3) := d_by (d_at odJ7_fill_53178 ofJ7_fill_53178 14) rfl
theorem dJ7_fill_53178_17 : decode cJ7_fill_53178 17 = .ok (.goto (-12), 3) := d_by (d_at odJ7_fill_53178 ofJ7_fill_53178 17) rfl
theorem dJ7_fill_53178_20 : decode cJ7_fill_53178 20 = .ok (.return_, 1) := d_by (d_at odJ7_fill_53178 ofJ7_fill_53178 20) rfl
set_option maxRecDepth 100000 in
def bJ6_bitCount_0f7a4 : List Nat := [26, 26, 4, 124, 19, 1, 9, 126, 100, 59, 26, 19, 1, 10, 126, 26, 5, 124, 19, 1, 10, 126, 96, 59, 26, 26, 7, 124, 96, 19, 1, 11, 126, 59, 26, 26, 16, 8, 124, 96, 59, 26, 26, 16, 16, 124, 96, 59, 26, 16, 63, 126, 172]
set_option maxRecDepth 100000 in
theorem bbJ6_bitCount_0f7a4 : cJ6_bitCount_0f7a4.data.toList.map UInt8.toNat = bJ6_bitCount_0f7a4 := by decide +kernel
set_option maxRecDepth 100000 in
def tJ6_bitCount_0f7a4 : Lean.RArray dLf := .branch 27 (.branch 14 (.branch 7 (.branch 2 (.branch 1 (.leaf (0, .iload_n 0, 1)) (.leaf (1, .iload_n 0, 1))) (.branch 3 (.leaf (2, .iconst 1, 1)) (.branch 4 (.leaf (3, .iushr, 1)) (.leaf (4, .ldc_w 265, 3))))) (.branch 9 (.branch 8 (.leaf (7, .iand, 1)) (.leaf (8, .isub, 1))) (.branch 10 (.leaf (9, .istore_n 0, 1)) (.branch 11 (.leaf (10, .iload_n 0, 1)) (.leaf (11, .ldc_w 266, 3)))))) (.branch 21 (.branch 16 (.branch 15 (.leaf (14, .iand, 1)) (.leaf (15, .iload_n 0, 1))) (.branch 17 (.leaf (16, .iconst 2, 1)) (.branch 18 (.leaf (17, .iushr, 1)) (.leaf (18, .ldc_w 266, 3))))) (.branch 24 (.branch 22 (.leaf (21, .iand, 1)) (.branch 23 (.leaf (22, .iadd, 1)) (.leaf (23, .istore_n 0, 1)))) (.branch 25 (.leaf (24, .iload_n 0, 1)) (.branch 26 (.leaf (25, .iload_n 0, 1)) (.leaf (26, .iconst 4, 1))))))) (.branch 40 (.branch 34 (.branch 29 (.branch 28 (.leaf (27, .iushr, 1)) (.leaf (28, .iadd, 1))) (.branch 32 (.leaf (29, .ldc_w 267, 3)) (.branch 33 (.leaf (32, .iand, 1)) (.leaf (33, .istore_n 0, 1))))) (.branch 36 (.branch 35 (.leaf (34, .iload_n 0, 1)) (.leaf (35, .iload_n 0, 1))) (.branch 38 (.leaf (36, .bipush 8, 2)) (.branch 39 (.leaf (38, .iushr, 1)) (.leaf (39, .iadd, 1)))))) (.branch 46 (.branch 42 (.branch 41 (.leaf (40, .istore_n 0, 1)) (.leaf (41, .iload_n 0, 1))) (.branch 43 (.leaf (42, .iload_n 0, 1)) (.branch 45 (.leaf (43, .bipush 16, 2)) (.leaf (45, .iushr, 1))))) (.branch 49 (.branch 47 (.leaf (46, .iadd, 1)) (.branch 48 (.leaf (47, .istore_n 0, 1)) (.leaf (48, .iload_n 0, 1)))) (.branch 51 (.leaf (49, .bipush 63, 2)) (.branch 52 (.leaf (51, .iand, 1)) (.leaf (52, .ireturn, 1)))))))
noncomputable def oJ6_bitCount_0f7a4 : List dLf := dFl tJ6_bitCount_0f7a4
theorem ofJ6_bitCount_0f7a4 : dFl tJ6_bitCount_0f7a4 = oJ6_bitCount_0f7a4 := rfl
set_option maxRecDepth 100000 in
theorem odJ6_bitCount_0f7a4 : ∀ q ∈ oJ6_bitCount_0f7a4, decode cJ6_bitCount_0f7a4 q.1 = .ok (q.2.1, q.2.2) := q_go qT_ok bbJ6_bitCount_0f7a4 oJ6_bitCount_0f7a4 0 (by decide +kernel)
theorem dJ6_bitCount_0f7a4_0 : decode cJ6_bitCount_0f7a4 0 = .ok (.iload_n 0, 1) := d_by (d_at odJ6_bitCount_0f7a4 ofJ6_bitCount_0f7a4 0) rfl
theorem dJ6_bitCount_0f7a4_1 : decode cJ6_bitCount_0f7a4 1 = .ok (.iload_n 0, 1) := d_by (d_at odJ6_bitCount_0f7a4 ofJ6_bitCount_0f7a4 1) rfl
theorem dJ6_bitCount_0f7a4_2 : decode cJ6_bitCount_0f7a4 2 = .ok (.iconst 1, 1) := d_by (d_at odJ6_bitCount_0f7a4 ofJ6_bitCount_0f7a4 2) rfl
theorem dJ6_bitCount_0f7a4_3 : decode cJ6_bitCount_0f7a4 3 = .ok (.iushr, 1) := d_by (d_at odJ6_bitCount_0f7a4 ofJ6_bitCount_0f7a4 3) rfl
theorem dJ6_bitCount_0f7a4_4 : decode cJ6_bitCount_0f7a4 4 = .ok (.ldc_w 265, 3) := d_by (d_at odJ6_bitCount_0f7a4 ofJ6_bitCount_0f7a4 4) rfl
theorem dJ6_bitCount_0f7a4_7 : decode cJ6_bitCount_0f7a4 7 = .ok (.iand, 1) := d_by (d_at odJ6_bitCount_0f7a4 ofJ6_bitCount_0f7a4 7) rfl
theorem dJ6_bitCount_0f7a4_8 : decode cJ6_bitCount_0f7a4 8 = .ok (.isub, 1) := d_by (d_at odJ6_bitCount_0f7a4 ofJ6_bitCount_0f7a4 8) rfl
theorem dJ6_bitCount_0f7a4_9 : decode cJ6_bitCount_0f7a4 9 = .ok (.istore_n 0, 1) := d_by (d_at odJ6_bitCount_0f7a4 ofJ6_bitCount_0f7a4 9) rfl
theorem dJ6_bitCount_0f7a4_10 : decode cJ6_bitCount_0f7a4 10 = .ok (.iload_n 0, 1) := d_by (d_at odJ6_bitCount_0f7a4 ofJ6_bitCount_0f7a4 10) rfl
theorem dJ6_bitCount_0f7a4_11 : decode cJ6_bitCount_0f7a4 11 = .ok (.ldc_w 266, 3) := d_by (d_at odJ6_bitCount_0f7a4 ofJ6_bitCount_0f7a4 11) rfl
theorem dJ6_bitCount_0f7a4_14 : decode cJ6_bitCount_0f7a4 14 = .ok (.iand, 1) := d_by (d_at odJ6_bitCount_0f7a4 ofJ6_bitCount_0f7a4 14) rfl
theorem dJ6_bitCount_0f7a4_15 : decode cJ6_bitCount_0f7a4 15 = .ok (.iload_n 0, 1) := d_by (d_at odJ6_bitCount_0f7a4 ofJ6_bitCount_0f7a4 15) rfl
theorem dJ6_bitCount_0f7a4_16 : decode cJ6_bitCount_0f7a4 16 = .ok (.iconst 2, 1) := d_by (d_at odJ6_bitCount_0f7a4 ofJ6_bitCount_0f7a4 16) rfl
theorem dJ6_bitCount_0f7a4_17 : decode cJ6_bitCount_0f7a4 17 = .ok (.iushr, 1) := d_by (d_at odJ6_bitCount_0f7a4 ofJ6_bitCount_0f7a4 17) rfl
theorem dJ6_bitCount_0f7a4_18 : decode cJ6_bitCount_0f7a4 18 = .ok (.ldc_w 266, 3) := d_by (d_at odJ6_bitCount_0f7a4 ofJ6_bitCount_0f7a4 18) rfl
theorem dJ6_bitCount_0f7a4_21 : decode cJ6_bitCount_0f7a4 21 = .ok (.iand, 1) := d_by (d_at odJ6_bitCount_0f7a4 ofJ6_bitCount_0f7a4 21) rfl
theorem dJ6_bitCount_0f7a4_22 : decode cJ6_bitCount_0f7a4 22 = .ok (.iadd, 1) := d_by (d_at odJ6_bitCount_0f7a4 ofJ6_bitCount_0f7a4 22) rfl
theorem dJ6_bitCount_0f7a4_23 : decode cJ6_bitCount_0f7a4 23 = .ok (.istore_n 0, 1) := d_by (d_at odJ6_bitCount_0f7a4 ofJ6_bitCount_0f7a4 23) rfl
theorem dJ6_bitCount_0f7a4_24 : decode cJ6_bitCount_0f7a4 24 = .ok (.iload_n 0, 1) := d_by (d_at odJ6_bitCount_0f7a4 ofJ6_bitCount_0f7a4 24) rfl
theorem dJ6_bitCount_0f7a4_25 : decode cJ6_bitCount_0f7a4 25 = .ok (.iload_n 0, 1) := d_by (d_at odJ6_bitCount_0f7a4 ofJ6_bitCount_0f7a4 25) rfl
theorem dJ6_bitCount_0f7a4_26 : decode cJ6_bitCount_0f7a4 26 = .ok (.iconst 4, 1) := d_by (d_at odJ6_bitCount_0f7a4 ofJ6_bitCount_0f7a4 26) rfl
theorem dJ6_bitCount_0f7a4_27 : decode cJ6_bitCount_0f7a4 27 = .ok (.iushr, 1) := d_by (d_at odJ6_bitCount_0f7a4 ofJ6_bitCount_0f7a4 27) rfl
theorem dJ6_bitCount_0f7a4_28 : decode cJ6_bitCount_0f7a4 28 = .ok (.iadd, 1) := d_by (d_at odJ6_bitCount_0f7a4 ofJ6_bitCount_0f7a4 28) rfl
theorem dJ6_bitCount_0f7a4_29 : decode cJ6_bitCount_0f7a4 29 = .ok (.ldc_w 267, 3) := d_by (d_at odJ6_bitCount_0f7a4 ofJ6_bitCount_0f7a4 29) rfl
theorem dJ6_bitCount_0f7a4_32 : decode cJ6_bitCount_0f7a4 32 = .ok (.iand, 1) := d_by (d_at odJ6_bitCount_0f7a4 ofJ6_bitCount_0f7a4 32) rfl
theorem dJ6_bitCount_0f7a4_33 : decode cJ6_bitCount_0f7a4 33 = .ok (.istore_n 0, 1) := d_by (d_at odJ6_bitCount_0f7a4 ofJ6_bitCount_0f7a4 33) rfl
theorem dJ6_bitCount_0f7a4_34 : decode cJ6_bitCount_0f7a4 34 = .ok (.iload_n 0, 1) := d_by (d_at odJ6_bitCount_0f7a4 ofJ6_bitCount_0f7a4 34) rfl
theorem dJ6_bitCount_0f7a4_35 : decode cJ6_bitCount_0f7a4 35 = .ok (.iload_n 0, 1) := d_by (d_at odJ6_bitCount_0f7a4 ofJ6_bitCount_0f7a4 35) rfl
theorem dJ6_bitCount_0f7a4_36 : decode cJ6_bitCount_0f7a4 36 = .ok (.bipush 8, 2) := d_by (d_at odJ6_bitCount_0f7a4 ofJ6_bitCount_0f7a4 36) rfl
theorem dJ6_bitCount_0f7a4_38 : decode cJ6_bitCount_0f7a4 38 = .ok (.iushr, 1) := d_by (d_at odJ6_bitCount_0f7a4 ofJ6_bitCount_0f7a4 38) rfl
theorem dJ6_bitCount_0f7a4_39 : decode cJ6_bitCount_0f7a4 39 = .ok (.iadd, 1) := d_by (d_at odJ6_bitCount_0f7a4 ofJ6_bitCount_0f7a4 39) rfl
theorem dJ6_bitCount_0f7a4_40 : decode cJ6_bitCount_0f7a4 40 = .ok (.istore_n 0, 1) := d_by (d_at odJ6_bitCount_0f7a4 ofJ6_bitCount_0f7a4 40) rfl
theorem dJ6_bitCount_0f7a4_41 : decode cJ6_bitCount_0f7a4 41 = .ok (.iload_n 0, 1) := d_by (d_at odJ6_bitCount_0f7a4 ofJ6_bitCount_0f7a4 41) rfl
theorem dJ6_bitCount_0f7a4_42 : decode cJ6_bitCount_0f7a4 42 = .ok (.iload_n 0, 1) := d_by (d_at odJ6_bitCount_0f7a4 ofJ6_bitCount_0f7a4 42) rfl
theorem dJ6_bitCount_0f7a4_43 : decode cJ6_bitCount_0f7a4 43 = .ok (.bipush 16, 2) := d_by (d_at odJ6_bitCount_0f7a4 ofJ6_bitCount_0f7a4 43) rfl
theorem dJ6_bitCount_0f7a4_45 : decode cJ6_bitCount_0f7a4 45 = .ok (.iushr, 1) := d_by (d_at odJ6_bitCount_0f7a4 ofJ6_bitCount_0f7a4 45) rfl
theorem dJ6_bitCount_0f7a4_46 : decode cJ6_bitCount_0f7a4 46 = .ok (.iadd, 1) := d_by (d_at odJ6_bitCount_0f7a4 ofJ6_bitCount_0f7a4 46) rfl
theorem dJ6_bitCount_0f7a4_47 : decode cJ6_bitCount_0f7a4 47 = .ok (.istore_n 0, 1) := d_by (d_at odJ6_bitCount_0f7a4 ofJ6_bitCount_0f7a4 47) rfl
theorem dJ6_bitCount_0f7a4_48 : decode cJ6_bitCount_0f7a4 48 = .ok (.iload_n 0, 1) := d_by (d_at odJ6_bitCount_0f7a4 ofJ6_bitCount_0f7a4 48) rfl
theorem dJ6_bitCount_0f7a4_49 : decode cJ6_bitCount_0f7a4 49 = .ok (.bipush 63, 2) := d_by (d_at odJ6_bitCount_0f7a4 ofJ6_bitCount_0f7a4 49) rfl
theorem dJ6_bitCount_0f7a4_51 : decode cJ6_bitCount_0f7a4 51 = .ok (.iand, 1) := d_by (d_at odJ6_bitCount_0f7a4 ofJ6_bitCount_0f7a4 51) rfl
theorem dJ6_bitCount_0f7a4_52 : decode cJ6_bitCount_0f7a4 52 = .ok (.ireturn, 1) := d_by (d_at odJ6_bitCount_0f7a4 ofJ6_bitCount_0f7a4 52) rfl
set_option maxRecDepth 100000 in
def bL_law : List Nat := [187, 0, 8, 89, 183, 0, 15, 76, 187, 0, 16, 89, 183, 0, 18, 77, 4, 188, 11, 78, 3, 54, 4, 21, 4, 42, 190, 16, 6, 100, 163, 6, 245, 42, 21, 4, 46, 16, 63, 126, 170, 0, 0, 0, 0, 0, 6, 229, 0, 0, 0, 0, 0, 0, 0, 49, 0, 0, 0, 216, 0, 0, 1, 33, 0, 0, 1, 58, 0, 0, 1, 71, 0, 0, 1, 84, 0, 0, 1, 121, 0, 0, 1, 158, 0, 0, 1, 183, 0, 0, 1, 220, 0, 0, 2, 1, 0, 0, 2, 26, 0, 0, 2, 63, 0, 0, 2, 88, 0, 0, 2, 137, 0, 0, 2, 162, 0, 0, 2, 199, 0, 0, 2, 212, 0, 0, 2, 225, 0, 0, 3, 6, 0, 0, 3, 43, 0, 0, 3, 68, 0, 0, 3, 93, 0, 0, 3, 130, 0, 0, 3, 155, 0, 0, 3, 216, 0, 0, 3, 253, 0, 0, 4, 22, 0, 0, 4, 47, 0, 0, 4, 84, 0, 0, 4, 137, 0, 0, 4, 150, 0, 0, 4, 163, 0, 0, 4, 188, 0, 0, 4, 249, 0, 0, 5, 6, 0, 0, 5, 43, 0, 0, 5, 68, 0, 0, 5, 105, 0, 0, 5, 130, 0, 0, 5, 167, 0, 0, 5, 204, 0, 0, 5, 241, 0, 0, 6, 34, 0, 0, 6, 59, 0, 0, 6, 112, 0, 0, 6, 125, 0, 0, 6, 138, 0, 0, 6, 163, 0, 0, 6, 191, 0, 0, 6, 216, 43, 42, 21, 4, 4, 96, 46, 42, 21, 4, 5, 96, 46, 42, 21, 4, 6, 96, 46, 42, 21, 4, 7, 96, 46, 42, 21, 4, 8, 96, 46, 182, 0, 19, 87, 44, 42, 21, 4, 4, 96, 46, 42, 21, 4, 5, 96, 46, 42, 21, 4, 6, 96, 46, 42, 21, 4, 7, 96, 46, 42, 21, 4, 8, 96, 46, 182, 0, 23, 87, 167, 5, 199, 43, 42, 21, 4, 4, 96, 46, 182, 0, 24, 87, 44, 42, 21, 4, 4, 96, 46, 182, 0, 27, 87, 167, 5, 174, 43, 182, 0, 28, 87, 44, 182, 0, 32, 87, 167, 5, 161, 43, 182, 0, 33, 87, 44, 182, 0, 36, 87, 167, 5, 148, 43, 42, 21, 4, 4, 96, 46, 42, 21, 4, 5, 96, 46, 182, 0, 37, 87, 44, 42, 21, 4, 4, 96, 46, 42, 21, 4, 5, 96, 46, 182, 0, 41, 87, 167, 5, 111, 43, 42, 21, 4, 4, 96, 46, 42, 21, 4, 5, 96, 46, 182, 0, 42, 87, 44, 42, 21, 4, 4, 96, 46, 42, 21, 4, 5, 96, 46, 182, 0, 45, 87, 167, 5, 74, 43, 42, 21, 4, 4, 96, 46, 182, 0, 46, 87, 44, 42, 21, 4, 4, 96, 46, 182, 0, 49, 87, 167, 5, 49, 43, 42, 21, 4, 4, 96, 46, 42, 21, 4, 5, 96, 46, 182, 0, 50, 87, 44, 42, 21, 4, 4, 96, 46, 42, 21, 4, 5, 96, 46, 182, 0, 53, 87, 167, 5, 12, 43, 42, 21, 4, 4, 96, 46, 42, 21, 4, 5, 96, 46, 182, 0, 54, 87, 44, 42, 21, 4, 4, 96, 46, 42, 21, 4, 5, 96, 46, 182, 0, 57, 87, 167, 4, 231, 43, 42, 21, 4, 4, 96, 46, 182, 0, 58, 87, 44, 42, 21, 4, 4, 96, 46, 182, 0, 61, 87, 167, 4, 206, 43, 42, 21, 4, 4, 96, 46, 42, 21, 4, 5, 96, 46, 182, 0, 62, 87, 44, 42, 21, 4, 4, 96, 46, 42, 21, 4, 5, 96, 46, 182, 0, 65, 87, 167, 4, 169, 43, 42, 21, 4, 4, 96, 46, 182, 0, 66, 87, 44, 42, 21, 4, 4, 96, 46, 182, 0, 69, 87, 167, 4, 144, 43, 42, 21, 4, 4, 96, 46, 42, 21, 4, 5, 96, 46, 42, 21, 4, 6, 96, 46, 182, 0, 70, 87, 44, 42, 21, 4, 4, 96, 46, 42, 21, 4, 5, 96, 46, 42, 21, 4, 6, 96, 46, 182, 0, 74, 87, 167, 4, 95, 43, 42, 21, 4, 4, 96, 46, 182, 0, 75, 44, 42, 21, 4, 4, 96, 46, 182, 0, 78, 159, 4, 72, 3, 172, 43, 42, 21, 4, 4, 96, 46, 42, 21, 4, 5, 96, 46, 182, 0, 79, 87, 44, 42, 21, 4, 4, 96, 46, 42, 21, 4, 5, 96, 46, 182, 0, 82, 87, 167, 4, 33, 43, 182, 0, 83, 87, 44, 182, 0, 86, 87, 167, 4, 20, 43, 182, 0, 87, 87, 44, 182, 0, 90, 87, 167, 4, 7, 43, 42, 21, 4, 4, 96, 46, 42, 21, 4, 5, 96, 46, 182, 0, 91, 87, 44, 42, 21, 4, 4, 96, 46, 42, 21, 4, 5, 96, 46, 182, 0, 94, 87, 167, 3, 226, 43, 42, 21, 4, 4, 96, 46, 42, 21, 4, 5, 96, 46, 182, 0, 95, 87, 44, 42, 21, 4, 4, 96, 46, 42, 21, 4, 5, 96, 46, 182, 0, 98, 87, 167, 3, 189, 43, 42, 21, 4, 4, 96, 46, 182, 0, 99, 87, 44, 42, 21, 4, 4, 96, 46, 182, 0, 102, 87, 167, 3, 164, 43, 42, 21, 4, 4, 96, 46, 182, 0, 103, 87, 44, 42, 21, 4, 4, 96, 46, 182, 0, 106, 87, 167, 3, 139, 43, 42, 21, 4, 4, 96, 46, 42, 21, 4, 5, 96, 46, 182, 0, 107, 87, 44, 42, 21, 4, 4, 96, 46, 42, 21, 4, 5, 96, 46, 182, 0, 110, 87, 167, 3, 102, 43, 42, 21, 4, 4, 96, 46, 182, 0, 111, 87, 44, 42, 21, 4, 4, 96, 46, 182, 0, 114, 87, 167, 3, 77, 43, 42, 21, 4, 4, 96, 46, 42, 21, 4, 5, 96, 46, 42, 21, 4, 6, 96, 46, 42, 21, 4, 7, 96, 46, 182, 0, 115, 87, 44, 42, 21, 4, 4, 96, 46, 42, 21, 4, 5, 96, 46, 42, 21, 4, 6, 96, 46, 42, 21, 4, 7, 96, 46, 182, 0, 119, 87, 167, 3, 16, 43, 42, 21, 4, 4, 96, 46, 42, 21, 4, 5, 96, 46, 182, 0, 120, 87, 44, 42, 21, 4, 4, 96, 46, 42, 21, 4, 5, 96, 46, 182, 0, 123, 87, 167, 2, 235, 43, 42, 21, 4, 4, 96, 46, 182, 0, 124, 87, 44, 42, 21, 4, 4, 96, 46, 182, 0, 127, 87, 167, 2, 210, 43, 42, 21, 4, 4, 96, 46, 182, 0, 128, 87, 44, 42, 21, 4, 4, 96, 46, 182, 0, 131, 87, 167, 2, 185, 43, 42, 21, 4, 4, 96, 46, 42, 21, 4, 5, 96, 46, 182, 0, 132, 87, 44, 42, 21, 4, 4, 96, 46, 42, 21, 4, 5, 96, 46, 182, 0, 135, 87, 167, 2, 148, 43, 42, 21, 4, 4, 96, 46, 42, 21, 4, 5, 96, 46, 153, 0, 7, 4, 167, 0, 4, 3, 182, 0, 136, 88, 44, 42, 21, 4, 4, 96, 46, 42, 21, 4, 5, 96, 46, 153, 0, 7, 4, 167, 0, 4, 3, 182, 0, 140, 88, 167, 2, 95, 43, 182, 0, 141, 87, 44, 182, 0, 144, 87, 167, 2, 82, 43, 182, 0, 145, 87, 44, 182, 0, 148, 87, 167, 2, 69, 43, 42, 21, 4, 4, 96, 46, 182, 0, 149, 87, 44, 42, 21, 4, 4, 96, 46, 182, 0, 152, 87, 167, 2, 44, 43, 42, 21, 4, 4, 96, 46, 42, 21, 4, 5, 96, 46, 42, 21, 4, 6, 96, 46, 42, 21, 4, 7, 96, 46, 182, 0, 153, 87, 44, 42, 21, 4, 4, 96, 46, 42, 21, 4, 5, 96, 46, 42, 21, 4, 6, 96, 46, 42, 21, 4, 7, 96, 46, 182, 0, 156, 87, 167, 1, 239, 43, 182, 0, 157, 87, 44, 182, 0, 160, 87, 167, 1, 226, 43, 42, 21, 4, 4, 96, 46, 42, 21, 4, 5, 96, 46, 182, 0, 161, 87, 44, 42, 21, 4, 4, 96, 46, 42, 21, 4, 5, 96, 46, 182, 0, 164, 87, 167, 1, 189, 43, 42, 21, 4, 4, 96, 46, 182, 0, 165, 87, 44, 42, 21, 4, 4, 96, 46, 182, 0, 168, 87, 167, 1, 164, 43, 42, 21, 4, 4, 96, 46, 42, 21, 4, 5, 96, 46, 182, 0, 169, 87, 44, 42, 21, 4, 4, 96, 46, 42, 21, 4, 5, 96, 46, 182, 0, 172, 87, 167, 1, 127, 43, 42, 21, 4, 4, 96, 46, 182, 0, 173, 87, 44, 42, 21, 4, 4, 96, 46, 182, 0, 176, 87, 167, 1, 102, 43, 42, 21, 4, 4, 96, 46, 42, 21, 4, 5, 96, 46, 182, 0, 177, 87, 44, 42, 21, 4, 4, 96, 46, 42, 21, 4, 5, 96, 46, 182, 0, 180, 87, 167, 1, 65, 43, 42, 21, 4, 4, 96, 46, 42, 21, 4, 5, 96, 46, 182, 0, 181, 87, 44, 42, 21, 4, 4, 96, 46, 42, 21, 4, 5, 96, 46, 182, 0, 184, 87, 167, 1, 28, 43, 42, 21, 4, 4, 96, 46, 42, 21, 4, 5, 96, 46, 182, 0, 185, 87, 44, 42, 21, 4, 4, 96, 46, 42, 21, 4, 5, 96, 46, 182, 0, 188, 87, 167, 0, 247, 43, 42, 21, 4, 4, 96, 46, 42, 21, 4, 5, 96, 46, 42, 21, 4, 6, 96, 46, 182, 0, 189, 87, 44, 42, 21, 4, 4, 96, 46, 42, 21, 4, 5, 96, 46, 42, 21, 4, 6, 96, 46, 182, 0, 193, 87, 167, 0, 198, 43, 42, 21, 4, 4, 96, 46, 182, 0, 194, 87, 44, 42, 21, 4, 4, 96, 46, 182, 0, 197, 87, 167, 0, 173, 43, 42, 21, 4, 4, 96, 46, 42, 21, 4, 5, 96, 46, 153, 0, 7, 4, 167, 0, 4, 3, 182, 0, 198, 87, 44, 42, 21, 4, 4, 96, 46, 42, 21, 4, 5, 96, 46, 153, 0, 7, 4, 167, 0, 4, 3, 182, 0, 202, 87, 167, 0, 120, 43, 182, 0, 203, 87, 44, 182, 0, 207, 87, 167, 0, 107, 43, 182, 0, 208, 87, 44, 182, 0, 211, 87, 167, 0, 94, 43, 42, 21, 4, 4, 96, 46, 182, 0, 212, 87, 44, 42, 21, 4, 4, 96, 46, 182, 0, 216, 87, 167, 0, 69, 43, 42, 21, 4, 4, 96, 46, 45, 184, 0, 217, 54, 5, 44, 42, 21, 4, 4, 96, 46, 182, 0, 222, 54, 6, 167, 0, 41, 43, 42, 21, 4, 4, 96, 46, 182, 0, 223, 87, 44, 42, 21, 4, 4, 96, 46, 182, 0, 226, 87, 167, 0, 16, 43, 182, 0, 227, 87, 44, 182, 0, 230, 87, 167, 0, 3, 132, 4, 6, 167, 249, 7, 4, 172]
set_option maxRecDepth 100000 in
theorem bbL_law : cL_law.data.toList.map UInt8.toNat = bL_law := by decide +kernel
theorem eL_law_17 : decode cL_law 17 = .ok (.newarray .long, 2) := by decide +kernel
theorem eL_law_40 : decode cL_law 40 = .ok (.tableswitch 1765 0 49 #[216, 289, 314, 327, 340, 377, 414, 439, 476, 513, 538, 575, 600, 649, 674, 711, 724, 737, 774, 811, 836, 861, 898, 923, 984, 1021, 1046, 1071, 1108, 1161, 1174, 1187, 1212, 1273, 1286, 1323, 1348, 1385, 1410, 1447, 1484, 1521, 1570, 1595, 1648, 1661, 1674, 1699, 1727, 1752], 216) := by decide +kernel
set_option maxRecDepth 100000 in
def tL_laws0 : Lean.RArray dLf := .branch 8 (.branch 4 (.branch 3 (.leaf (0, .new 8, 3)) (.leaf (3, .dup, 1))) (.branch 7 (.leaf (4, .invokespecial 15, 3)) (.leaf (7, .astore_n 1, 1)))) (.branch 12 (.branch 11 (.leaf (8, .new 16, 3)) (.leaf (11, .dup, 1))) (.branch 15 (.leaf (12, .invokespecial 18, 3)) (.branch 16 (.leaf (15, .astore_n 2, 1)) (.leaf (16, .iconst 1, 1)))))
noncomputable def oL_laws0 : List dLf := dFl tL_laws0
theorem ofL_laws0 : dFl tL_laws0 = oL_laws0 := rfl
set_option maxRecDepth 100000 in
theorem odL_laws0 : ∀ q ∈ oL_laws0, decode cL_law q.1 = .ok (q.2.1, q.2.2) := q_go qT_ok bbL_law oL_laws0 0 (by decide +kernel)
set_option maxRecDepth 100000 in
def tL_laws2 : Lean.RArray dLf := .branch 29 (.branch 23 (.branch 20 (.leaf (19, .astore_n 3, 1)) (.branch 21 (.leaf (20, .iconst 0, 1)) (.leaf (21, .istore 4, 2)))) (.branch 26 (.branch 25 (.leaf (23, .iload 4, 2)) (.leaf (25, .aload_n 0, 1))) (.branch 27 (.leaf (26, .arraylength, 1)) (.leaf (27, .bipush 6, 2))))) (.branch 34 (.branch 30 (.leaf (29, .isub, 1)) (.branch 33 (.leaf (30, .if_icmp .gt 1781, 3)) (.leaf (33, .aload_n 0, 1)))) (.branch 37 (.branch 36 (.leaf (34, .iload 4, 2)) (.leaf (36, .iaload, 1))) (.branch 39 (.leaf (37, .bipush 63, 2)) (.leaf (39, .iand, 1)))))
noncomputable def oL_laws2 : List dLf := dFl tL_laws2
theorem ofL_laws2 : dFl tL_laws2 = oL_laws2 := rfl
set_option maxRecDepth 100000 in
theorem odL_laws2 : ∀ q ∈ oL_laws2, decode cL_law q.1 = .ok (q.2.1, q.2.2) := q_go qT_ok bbL_law oL_laws2 19 (by decide +kernel)
set_option maxRecDepth 100000 in
def tL_laws4 : Lean.RArray dLf := .branch 396 (.branch 317 (.branch 286 (.branch 270 (.branch 263 (.branch 260 (.branch 257 (.leaf (256, .aload_n 1, 1)) (.branch 258 (.leaf (257, .aload_n 0, 1)) (.leaf (258, .iload 4, 2)))) (.branch 261 (.leaf (260, .iconst 1, 1)) (.branch 262 (.leaf (261, .iadd, 1)) (.leaf (262, .iaload, 1))))) (.branch 267 (.branch 264 (.leaf (263, .aload_n 0, 1)) (.branch 266 (.leaf (264, .iload 4, 2)) (.leaf (266, .iconst 2, 1)))) (.branch 268 (.leaf (267, .iadd, 1)) (.branch 269 (.leaf (268, .iaload, 1)) (.leaf (269, .aload_n 0, 1)))))) (.branch 278 (.branch 274 (.branch 272 (.leaf (270, .iload 4, 2)) (.branch 273 (.leaf (272, .iconst 3, 1)) (.leaf (273, .iadd, 1)))) (.branch 275 (.leaf (274, .iaload, 1)) (.branch 276 (.leaf (275, .aload_n 0, 1)) (.leaf (276, .iload 4, 2))))) (.branch 281 (.branch 279 (.leaf (278, .iconst 4, 1)) (.branch 280 (.leaf (279, .iadd, 1)) (.leaf (280, .iaload, 1)))) (.branch 284 (.branch 282 (.leaf (281, .aload_n 0, 1)) (.leaf (282, .iload 4, 2))) (.branch 285 (.leaf (284, .iconst 5, 1)) (.leaf (285, .iadd, 1))))))) (.branch 302 (.branch 295 (.branch 291 (.branch 287 (.leaf (286, .iaload, 1)) (.branch 290 (.leaf (287, .invokevirtual 19, 3)) (.leaf (290, .pop, 1)))) (.branch 292 (.leaf (291, .aload_n 2, 1)) (.branch 293 (.leaf (292, .aload_n 0, 1)) (.leaf (293, .iload 4, 2))))) (.branch 298 (.branch 296 (.leaf (295, .iconst 1, 1)) (.branch 297 (.leaf (296, .iadd, 1)) (.leaf (297, .iaload, 1)))) (.branch 299 (.leaf (298, .aload_n 0, 1)) (.branch 301 (.leaf (299, .iload 4, 2)) (.leaf (301, .iconst 2, 1)))))) (.branch 309 (.branch 305 (.branch 303 (.leaf (302, .iadd, 1)) (.branch 304 (.leaf (303, .iaload, 1)) (.leaf (304, .aload_n 0, 1)))) (.branch 307 (.leaf (305, .iload 4, 2)) (.branch 308 (.leaf (307, .iconst 3, 1)) (.leaf (308, .iadd, 1))))) (.branch 313 (.branch 310 (.leaf (309, .iaload, 1)) (.branch 311 (.leaf (310, .aload_n 0, 1)) (.leaf (311, .iload 4, 2)))) (.branch 315 (.branch 314 (.leaf (313, .iconst 4, 1)) (.leaf (314, .iadd, 1))) (.branch 316 (.leaf (315, .iaload, 1)) (.leaf (316, .aload_n 0, 1)))))))) (.branch 355 (.branch 335 (.branch 326 (.branch 321 (.branch 319 (.leaf (317, .iload 4, 2)) (.branch 320 (.leaf (319, .iconst 5, 1)) (.leaf (320, .iadd, 1)))) (.branch 322 (.leaf (321, .iaload, 1)) (.branch 325 (.leaf (322, .invokevirtual 23, 3)) (.leaf (325, .pop, 1))))) (.branch 331 (.branch 329 (.leaf (326, .goto 1479, 3)) (.branch 330 (.leaf (329, .aload_n 1, 1)) (.leaf (330, .aload_n 0, 1)))) (.branch 333 (.leaf (331, .iload 4, 2)) (.branch 334 (.leaf (333, .iconst 1, 1)) (.leaf (334, .iadd, 1)))))) (.branch 344 (.branch 340 (.branch 336 (.leaf (335, .iaload, 1)) (.branch 339 (.leaf (336, .invokevirtual 24, 3)) (.leaf (339, .pop, 1)))) (.branch 341 (.leaf (340, .aload_n 2, 1)) (.branch 342 (.leaf (341, .aload_n 0, 1)) (.leaf (342, .iload 4, 2))))) (.branch 347 (.branch 345 (.leaf (344, .iconst 1, 1)) (.branch 346 (.leaf (345, .iadd, 1)) (.leaf (346, .iaload, 1)))) (.branch 351 (.branch 350 (.leaf (347, .invokevirtual 27, 3)) (.leaf (350, .pop, 1))) (.branch 354 (.leaf (351, .goto 1454, 3)) (.leaf (354, .aload_n 1, 1))))))) (.branch 377 (.branch 367 (.branch 360 (.branch 358 (.leaf (355, .invokevirtual 28, 3)) (.branch 359 (.leaf (358, .pop, 1)) (.leaf (359, .aload_n 2, 1)))) (.branch 363 (.leaf (360, .invokevirtual 32, 3)) (.branch 364 (.leaf (363, .pop, 1)) (.leaf (364, .goto 1441, 3))))) (.branch 372 (.branch 368 (.leaf (367, .aload_n 1, 1)) (.branch 371 (.leaf (368, .invokevirtual 33, 3)) (.leaf (371, .pop, 1)))) (.branch 373 (.leaf (372, .aload_n 2, 1)) (.branch 376 (.leaf (373, .invokevirtual 36, 3)) (.leaf (376, .pop, 1)))))) (.branch 386 (.branch 382 (.branch 380 (.leaf (377, .goto 1428, 3)) (.branch 381 (.leaf (380, .aload_n 1, 1)) (.leaf (381, .aload_n 0, 1)))) (.branch 384 (.leaf (382, .iload 4, 2)) (.branch 385 (.leaf (384, .iconst 1, 1)) (.leaf (385, .iadd, 1))))) (.branch 390 (.branch 387 (.leaf (386, .iaload, 1)) (.branch 388 (.leaf (387, .aload_n 0, 1)) (.leaf (388, .iload 4, 2)))) (.branch 392 (.branch 391 (.leaf (390, .iconst 2, 1)) (.leaf (391, .iadd, 1))) (.branch 393 (.leaf (392, .iaload, 1)) (.leaf (393, .invokevirtual 37, 3))))))))) (.branch 465 (.branch 429 (.branch 410 (.branch 403 (.branch 399 (.branch 397 (.leaf (396, .pop, 1)) (.branch 398 (.leaf (397, .aload_n 2, 1)) (.leaf (398, .aload_n 0, 1)))) (.branch 401 (.leaf (399, .iload 4, 2)) (.branch 402 (.leaf (401, .iconst 1, 1)) (.leaf (402, .iadd, 1))))) (.branch 407 (.branch 404 (.leaf (403, .iaload, 1)) (.branch 405 (.leaf (404, .aload_n 0, 1)) (.leaf (405, .iload 4, 2)))) (.branch 408 (.leaf (407, .iconst 2, 1)) (.branch 409 (.leaf (408, .iadd, 1)) (.leaf (409, .iaload, 1)))))) (.branch 421 (.branch 417 (.branch 413 (.leaf (410, .invokevirtual 41, 3)) (.branch 414 (.leaf (413, .pop, 1)) (.leaf (414, .goto 1391, 3)))) (.branch 418 (.leaf (417, .aload_n 1, 1)) (.branch 419 (.leaf (418, .aload_n 0, 1)) (.leaf (419, .iload 4, 2))))) (.branch 424 (.branch 422 (.leaf (421, .iconst 1, 1)) (.branch 423 (.leaf (422, .iadd, 1)) (.leaf (423, .iaload, 1)))) (.branch 427 (.branch 425 (.leaf (424, .aload_n 0, 1)) (.leaf (425, .iload 4, 2))) (.branch 428 (.leaf (427, .iconst 2, 1)) (.leaf (428, .iadd, 1))))))) (.branch 445 (.branch 438 (.branch 434 (.branch 430 (.leaf (429, .iaload, 1)) (.branch 433 (.leaf (430, .invokevirtual 42, 3)) (.leaf (433, .pop, 1)))) (.branch 435 (.leaf (434, .aload_n 2, 1)) (.branch 436 (.leaf (435, .aload_n 0, 1)) (.leaf (436, .iload 4, 2))))) (.branch 441 (.branch 439 (.leaf (438, .iconst 1, 1)) (.branch 440 (.leaf (439, .iadd, 1)) (.leaf (440, .iaload, 1)))) (.branch 442 (.leaf (441, .aload_n 0, 1)) (.branch 444 (.leaf (442, .iload 4, 2)) (.leaf (444, .iconst 2, 1)))))) (.branch 455 (.branch 450 (.branch 446 (.leaf (445, .iadd, 1)) (.branch 447 (.leaf (446, .iaload, 1)) (.leaf (447, .invokevirtual 45, 3)))) (.branch 451 (.leaf (450, .pop, 1)) (.branch 454 (.leaf (451, .goto 1354, 3)) (.leaf (454, .aload_n 1, 1))))) (.branch 459 (.branch 456 (.leaf (455, .aload_n 0, 1)) (.branch 458 (.leaf (456, .iload 4, 2)) (.leaf (458, .iconst 1, 1)))) (.branch 461 (.branch 460 (.leaf (459, .iadd, 1)) (.leaf (460, .iaload, 1))) (.branch 464 (.leaf (461, .invokevirtual 46, 3)) (.leaf (464, .pop, 1)))))))) (.branch 500 (.branch 483 (.branch 472 (.branch 469 (.branch 466 (.leaf (465, .aload_n 2, 1)) (.branch 467 (.leaf (466, .aload_n 0, 1)) (.leaf (467, .iload 4, 2)))) (.branch 470 (.leaf (469, .iconst 1, 1)) (.branch 471 (.leaf (470, .iadd, 1)) (.leaf (471, .iaload, 1))))) (.branch 479 (.branch 475 (.leaf (472, .invokevirtual 49, 3)) (.branch 476 (.leaf (475, .pop, 1)) (.leaf (476, .goto 1329, 3)))) (.branch 480 (.leaf (479, .aload_n 1, 1)) (.branch 481 (.leaf (480, .aload_n 0, 1)) (.leaf (481, .iload 4, 2)))))) (.branch 490 (.branch 486 (.branch 484 (.leaf (483, .iconst 1, 1)) (.branch 485 (.leaf (484, .iadd, 1)) (.leaf (485, .iaload, 1)))) (.branch 487 (.leaf (486, .aload_n 0, 1)) (.branch 489 (.leaf (487, .iload 4, 2)) (.leaf (489, .iconst 2, 1))))) (.branch 495 (.branch 491 (.leaf (490, .iadd, 1)) (.branch 492 (.leaf (491, .iaload, 1)) (.leaf (492, .invokevirtual 50, 3)))) (.branch 497 (.branch 496 (.leaf (495, .pop, 1)) (.leaf (496, .aload_n 2, 1))) (.branch 498 (.leaf (497, .aload_n 0, 1)) (.leaf (498, .iload 4, 2))))))) (.branch 517 (.branch 507 (.branch 503 (.branch 501 (.leaf (500, .iconst 1, 1)) (.branch 502 (.leaf (501, .iadd, 1)) (.leaf (502, .iaload, 1)))) (.branch 504 (.leaf (503, .aload_n 0, 1)) (.branch 506 (.leaf (504, .iload 4, 2)) (.leaf (506, .iconst 2, 1))))) (.branch 512 (.branch 508 (.leaf (507, .iadd, 1)) (.branch 509 (.leaf (508, .iaload, 1)) (.leaf (509, .invokevirtual 53, 3)))) (.branch 513 (.leaf (512, .pop, 1)) (.branch 516 (.leaf (513, .goto 1292, 3)) (.leaf (516, .aload_n 1, 1)))))) (.branch 524 (.branch 521 (.branch 518 (.leaf (517, .aload_n 0, 1)) (.branch 520 (.leaf (518, .iload 4, 2)) (.leaf (520, .iconst 1, 1)))) (.branch 522 (.leaf (521, .iadd, 1)) (.branch 523 (.leaf (522, .iaload, 1)) (.leaf (523, .aload_n 0, 1))))) (.branch 528 (.branch 526 (.leaf (524, .iload 4, 2)) (.branch 527 (.leaf (526, .iconst 2, 1)) (.leaf (527, .iadd, 1)))) (.branch 532 (.branch 529 (.leaf (528, .iaload, 1)) (.leaf (529, .invokevirtual 54, 3))) (.branch 533 (.leaf (532, .pop, 1)) (.leaf (533, .aload_n 2, 1)))))))))
noncomputable def oL_laws4 : List dLf := dFl tL_laws4
theorem ofL_laws4 : dFl tL_laws4 = oL_laws4 := rfl
set_option maxRecDepth 100000 in
theorem odL_laws4 : ∀ q ∈ oL_laws4, decode cL_law q.1 = .ok (q.2.1, q.2.2) := q_go qT_ok bbL_law oL_laws4 256 (by decide +kernel)
set_option maxRecDepth 100000 in
def tL_laws5 : Lean.RArray dLf := .branch 673 (.branch 603 (.branch 569 (.branch 550 (.branch 541 (.branch 538 (.branch 535 (.leaf (534, .aload_n 0, 1)) (.branch 537 (.leaf (535, .iload 4, 2)) (.leaf (537, .iconst 1, 1)))) (.branch 539 (.leaf (538, .iadd, 1)) (.branch 540 (.leaf (539, .iaload, 1)) (.leaf (540, .aload_n 0, 1))))) (.branch 545 (.branch 543 (.leaf (541, .iload 4, 2)) (.branch 544 (.leaf (543, .iconst 2, 1)) (.leaf (544, .iadd, 1)))) (.branch 546 (.leaf (545, .iaload, 1)) (.branch 549 (.leaf (546, .invokevirtual 57, 3)) (.leaf (549, .pop, 1)))))) (.branch 559 (.branch 555 (.branch 553 (.leaf (550, .goto 1255, 3)) (.branch 554 (.leaf (553, .aload_n 1, 1)) (.leaf (554, .aload_n 0, 1)))) (.branch 557 (.leaf (555, .iload 4, 2)) (.branch 558 (.leaf (557, .iconst 1, 1)) (.leaf (558, .iadd, 1))))) (.branch 564 (.branch 560 (.leaf (559, .iaload, 1)) (.branch 563 (.leaf (560, .invokevirtual 58, 3)) (.leaf (563, .pop, 1)))) (.branch 566 (.branch 565 (.leaf (564, .aload_n 2, 1)) (.leaf (565, .aload_n 0, 1))) (.branch 568 (.leaf (566, .iload 4, 2)) (.leaf (568, .iconst 1, 1))))))) (.branch 586 (.branch 579 (.branch 574 (.branch 570 (.leaf (569, .iadd, 1)) (.branch 571 (.leaf (570, .iaload, 1)) (.leaf (571, .invokevirtual 61, 3)))) (.branch 575 (.leaf (574, .pop, 1)) (.branch 578 (.leaf (575, .goto 1230, 3)) (.leaf (578, .aload_n 1, 1))))) (.branch 583 (.branch 580 (.leaf (579, .aload_n 0, 1)) (.branch 582 (.leaf (580, .iload 4, 2)) (.leaf (582, .iconst 1, 1)))) (.branch 584 (.leaf (583, .iadd, 1)) (.branch 585 (.leaf (584, .iaload, 1)) (.leaf (585, .aload_n 0, 1)))))) (.branch 595 (.branch 590 (.branch 588 (.leaf (586, .iload 4, 2)) (.branch 589 (.leaf (588, .iconst 2, 1)) (.leaf (589, .iadd, 1)))) (.branch 591 (.leaf (590, .iaload, 1)) (.branch 594 (.leaf (591, .invokevirtual 62, 3)) (.leaf (594, .pop, 1))))) (.branch 599 (.branch 596 (.leaf (595, .aload_n 2, 1)) (.branch 597 (.leaf (596, .aload_n 0, 1)) (.leaf (597, .iload 4, 2)))) (.branch 601 (.branch 600 (.leaf (599, .iconst 1, 1)) (.leaf (600, .iadd, 1))) (.branch 602 (.leaf (601, .iaload, 1)) (.leaf (602, .aload_n 0, 1)))))))) (.branch 641 (.branch 621 (.branch 612 (.branch 607 (.branch 605 (.leaf (603, .iload 4, 2)) (.branch 606 (.leaf (605, .iconst 2, 1)) (.leaf (606, .iadd, 1)))) (.branch 608 (.leaf (607, .iaload, 1)) (.branch 611 (.leaf (608, .invokevirtual 65, 3)) (.leaf (611, .pop, 1))))) (.branch 617 (.branch 615 (.leaf (612, .goto 1193, 3)) (.branch 616 (.leaf (615, .aload_n 1, 1)) (.leaf (616, .aload_n 0, 1)))) (.branch 619 (.leaf (617, .iload 4, 2)) (.branch 620 (.leaf (619, .iconst 1, 1)) (.leaf (620, .iadd, 1)))))) (.branch 630 (.branch 626 (.branch 622 (.leaf (621, .iaload, 1)) (.branch 625 (.leaf (622, .invokevirtual 66, 3)) (.leaf (625, .pop, 1)))) (.branch 627 (.leaf (626, .aload_n 2, 1)) (.branch 628 (.leaf (627, .aload_n 0, 1)) (.leaf (628, .iload 4, 2))))) (.branch 633 (.branch 631 (.leaf (630, .iconst 1, 1)) (.branch 632 (.leaf (631, .iadd, 1)) (.leaf (632, .iaload, 1)))) (.branch 637 (.branch 636 (.leaf (633, .invokevirtual 69, 3)) (.leaf (636, .pop, 1))) (.branch 640 (.leaf (637, .goto 1168, 3)) (.leaf (640, .aload_n 1, 1))))))) (.branch 656 (.branch 648 (.branch 645 (.branch 642 (.leaf (641, .aload_n 0, 1)) (.branch 644 (.leaf (642, .iload 4, 2)) (.leaf (644, .iconst 1, 1)))) (.branch 646 (.leaf (645, .iadd, 1)) (.branch 647 (.leaf (646, .iaload, 1)) (.leaf (647, .aload_n 0, 1))))) (.branch 652 (.branch 650 (.leaf (648, .iload 4, 2)) (.branch 651 (.leaf (650, .iconst 2, 1)) (.leaf (651, .iadd, 1)))) (.branch 653 (.leaf (652, .iaload, 1)) (.branch 654 (.leaf (653, .aload_n 0, 1)) (.leaf (654, .iload 4, 2)))))) (.branch 664 (.branch 659 (.branch 657 (.leaf (656, .iconst 3, 1)) (.branch 658 (.leaf (657, .iadd, 1)) (.leaf (658, .iaload, 1)))) (.branch 662 (.leaf (659, .invokevirtual 70, 3)) (.branch 663 (.leaf (662, .pop, 1)) (.leaf (663, .aload_n 2, 1))))) (.branch 668 (.branch 665 (.leaf (664, .aload_n 0, 1)) (.branch 667 (.leaf (665, .iload 4, 2)) (.leaf (667, .iconst 1, 1)))) (.branch 670 (.branch 669 (.leaf (668, .iadd, 1)) (.leaf (669, .iaload, 1))) (.branch 671 (.leaf (670, .aload_n 0, 1)) (.leaf (671, .iload 4, 2))))))))) (.branch 742 (.branch 709 (.branch 690 (.branch 680 (.branch 676 (.branch 674 (.leaf (673, .iconst 2, 1)) (.branch 675 (.leaf (674, .iadd, 1)) (.leaf (675, .iaload, 1)))) (.branch 677 (.leaf (676, .aload_n 0, 1)) (.branch 679 (.leaf (677, .iload 4, 2)) (.leaf (679, .iconst 3, 1))))) (.branch 685 (.branch 681 (.leaf (680, .iadd, 1)) (.branch 682 (.leaf (681, .iaload, 1)) (.leaf (682, .invokevirtual 74, 3)))) (.branch 686 (.leaf (685, .pop, 1)) (.branch 689 (.leaf (686, .goto 1119, 3)) (.leaf (689, .aload_n 1, 1)))))) (.branch 699 (.branch 694 (.branch 691 (.leaf (690, .aload_n 0, 1)) (.branch 693 (.leaf (691, .iload 4, 2)) (.leaf (693, .iconst 1, 1)))) (.branch 695 (.leaf (694, .iadd, 1)) (.branch 696 (.leaf (695, .iaload, 1)) (.leaf (696, .invokevirtual 75, 3))))) (.branch 703 (.branch 700 (.leaf (699, .aload_n 2, 1)) (.branch 701 (.leaf (700, .aload_n 0, 1)) (.leaf (701, .iload 4, 2)))) (.branch 705 (.branch 704 (.leaf (703, .iconst 1, 1)) (.leaf (704, .iadd, 1))) (.branch 706 (.leaf (705, .iaload, 1)) (.leaf (706, .invokevirtual 78, 3))))))) (.branch 725 (.branch 718 (.branch 714 (.branch 712 (.leaf (709, .if_icmp .eq 1096, 3)) (.branch 713 (.leaf (712, .iconst 0, 1)) (.leaf (713, .ireturn, 1)))) (.branch 715 (.leaf (714, .aload_n 1, 1)) (.branch 716 (.leaf (715, .aload_n 0, 1)) (.leaf (716, .iload 4, 2))))) (.branch 721 (.branch 719 (.leaf (718, .iconst 1, 1)) (.branch 720 (.leaf (719, .iadd, 1)) (.leaf (720, .iaload, 1)))) (.branch 722 (.leaf (721, .aload_n 0, 1)) (.branch 724 (.leaf (722, .iload 4, 2)) (.leaf (724, .iconst 2, 1)))))) (.branch 733 (.branch 730 (.branch 726 (.leaf (725, .iadd, 1)) (.branch 727 (.leaf (726, .iaload, 1)) (.leaf (727, .invokevirtual 79, 3)))) (.branch 731 (.leaf (730, .pop, 1)) (.branch 732 (.leaf (731, .aload_n 2, 1)) (.leaf (732, .aload_n 0, 1))))) (.branch 737 (.branch 735 (.leaf (733, .iload 4, 2)) (.branch 736 (.leaf (735, .iconst 1, 1)) (.leaf (736, .iadd, 1)))) (.branch 739 (.branch 738 (.leaf (737, .iaload, 1)) (.leaf (738, .aload_n 0, 1))) (.branch 741 (.leaf (739, .iload 4, 2)) (.leaf (741, .iconst 2, 1)))))))) (.branch 784 (.branch 764 (.branch 752 (.branch 747 (.branch 743 (.leaf (742, .iadd, 1)) (.branch 744 (.leaf (743, .iaload, 1)) (.leaf (744, .invokevirtual 82, 3)))) (.branch 748 (.leaf (747, .pop, 1)) (.branch 751 (.leaf (748, .goto 1057, 3)) (.leaf (751, .aload_n 1, 1))))) (.branch 757 (.branch 755 (.leaf (752, .invokevirtual 83, 3)) (.branch 756 (.leaf (755, .pop, 1)) (.leaf (756, .aload_n 2, 1)))) (.branch 760 (.leaf (757, .invokevirtual 86, 3)) (.branch 761 (.leaf (760, .pop, 1)) (.leaf (761, .goto 1044, 3)))))) (.branch 774 (.branch 769 (.branch 765 (.leaf (764, .aload_n 1, 1)) (.branch 768 (.leaf (765, .invokevirtual 87, 3)) (.leaf (768, .pop, 1)))) (.branch 770 (.leaf (769, .aload_n 2, 1)) (.branch 773 (.leaf (770, .invokevirtual 90, 3)) (.leaf (773, .pop, 1))))) (.branch 779 (.branch 777 (.leaf (774, .goto 1031, 3)) (.branch 778 (.leaf (777, .aload_n 1, 1)) (.leaf (778, .aload_n 0, 1)))) (.branch 782 (.branch 781 (.leaf (779, .iload 4, 2)) (.leaf (781, .iconst 1, 1))) (.branch 783 (.leaf (782, .iadd, 1)) (.leaf (783, .iaload, 1))))))) (.branch 800 (.branch 793 (.branch 788 (.branch 785 (.leaf (784, .aload_n 0, 1)) (.branch 787 (.leaf (785, .iload 4, 2)) (.leaf (787, .iconst 2, 1)))) (.branch 789 (.leaf (788, .iadd, 1)) (.branch 790 (.leaf (789, .iaload, 1)) (.leaf (790, .invokevirtual 91, 3))))) (.branch 796 (.branch 794 (.leaf (793, .pop, 1)) (.branch 795 (.leaf (794, .aload_n 2, 1)) (.leaf (795, .aload_n 0, 1)))) (.branch 798 (.leaf (796, .iload 4, 2)) (.branch 799 (.leaf (798, .iconst 1, 1)) (.leaf (799, .iadd, 1)))))) (.branch 807 (.branch 804 (.branch 801 (.leaf (800, .iaload, 1)) (.branch 802 (.leaf (801, .aload_n 0, 1)) (.leaf (802, .iload 4, 2)))) (.branch 805 (.leaf (804, .iconst 2, 1)) (.branch 806 (.leaf (805, .iadd, 1)) (.leaf (806, .iaload, 1))))) (.branch 814 (.branch 810 (.leaf (807, .invokevirtual 94, 3)) (.branch 811 (.leaf (810, .pop, 1)) (.leaf (811, .goto 994, 3)))) (.branch 816 (.branch 815 (.leaf (814, .aload_n 1, 1)) (.leaf (815, .aload_n 0, 1))) (.branch 818 (.leaf (816, .iload 4, 2)) (.leaf (818, .iconst 1, 1)))))))))
noncomputable def oL_laws5 : List dLf := dFl tL_laws5
theorem ofL_laws5 : dFl tL_laws5 = oL_laws5 := rfl
set_option maxRecDepth 100000 in
theorem odL_laws5 : ∀ q ∈ oL_laws5, decode cL_law q.1 = .ok (q.2.1, q.2.2) := q_go qT_ok bbL_law oL_laws5 534 (by decide +kernel)
set_option maxRecDepth 100000 in
def tL_laws6 : Lean.RArray dLf := .branch 960 (.branch 889 (.branch 853 (.branch 835 (.branch 826 (.branch 822 (.branch 820 (.leaf (819, .iadd, 1)) (.branch 821 (.leaf (820, .iaload, 1)) (.leaf (821, .aload_n 0, 1)))) (.branch 824 (.leaf (822, .iload 4, 2)) (.branch 825 (.leaf (824, .iconst 2, 1)) (.leaf (825, .iadd, 1))))) (.branch 831 (.branch 827 (.leaf (826, .iaload, 1)) (.branch 830 (.leaf (827, .invokevirtual 95, 3)) (.leaf (830, .pop, 1)))) (.branch 832 (.leaf (831, .aload_n 2, 1)) (.branch 833 (.leaf (832, .aload_n 0, 1)) (.leaf (833, .iload 4, 2)))))) (.branch 842 (.branch 838 (.branch 836 (.leaf (835, .iconst 1, 1)) (.branch 837 (.leaf (836, .iadd, 1)) (.leaf (837, .iaload, 1)))) (.branch 839 (.leaf (838, .aload_n 0, 1)) (.branch 841 (.leaf (839, .iload 4, 2)) (.leaf (841, .iconst 2, 1))))) (.branch 847 (.branch 843 (.leaf (842, .iadd, 1)) (.branch 844 (.leaf (843, .iaload, 1)) (.leaf (844, .invokevirtual 98, 3)))) (.branch 851 (.branch 848 (.leaf (847, .pop, 1)) (.leaf (848, .goto 957, 3))) (.branch 852 (.leaf (851, .aload_n 1, 1)) (.leaf (852, .aload_n 0, 1))))))) (.branch 869 (.branch 862 (.branch 857 (.branch 855 (.leaf (853, .iload 4, 2)) (.branch 856 (.leaf (855, .iconst 1, 1)) (.leaf (856, .iadd, 1)))) (.branch 858 (.leaf (857, .iaload, 1)) (.branch 861 (.leaf (858, .invokevirtual 99, 3)) (.leaf (861, .pop, 1))))) (.branch 866 (.branch 863 (.leaf (862, .aload_n 2, 1)) (.branch 864 (.leaf (863, .aload_n 0, 1)) (.leaf (864, .iload 4, 2)))) (.branch 867 (.leaf (866, .iconst 1, 1)) (.branch 868 (.leaf (867, .iadd, 1)) (.leaf (868, .iaload, 1)))))) (.branch 880 (.branch 876 (.branch 872 (.leaf (869, .invokevirtual 102, 3)) (.branch 873 (.leaf (872, .pop, 1)) (.leaf (873, .goto 932, 3)))) (.branch 877 (.leaf (876, .aload_n 1, 1)) (.branch 878 (.leaf (877, .aload_n 0, 1)) (.leaf (878, .iload 4, 2))))) (.branch 883 (.branch 881 (.leaf (880, .iconst 1, 1)) (.branch 882 (.leaf (881, .iadd, 1)) (.leaf (882, .iaload, 1)))) (.branch 887 (.branch 886 (.leaf (883, .invokevirtual 103, 3)) (.leaf (886, .pop, 1))) (.branch 888 (.leaf (887, .aload_n 2, 1)) (.leaf (888, .aload_n 0, 1)))))))) (.branch 924 (.branch 907 (.branch 898 (.branch 893 (.branch 891 (.leaf (889, .iload 4, 2)) (.branch 892 (.leaf (891, .iconst 1, 1)) (.leaf (892, .iadd, 1)))) (.branch 894 (.leaf (893, .iaload, 1)) (.branch 897 (.leaf (894, .invokevirtual 106, 3)) (.leaf (897, .pop, 1))))) (.branch 903 (.branch 901 (.leaf (898, .goto 907, 3)) (.branch 902 (.leaf (901, .aload_n 1, 1)) (.leaf (902, .aload_n 0, 1)))) (.branch 905 (.leaf (903, .iload 4, 2)) (.branch 906 (.leaf (905, .iconst 1, 1)) (.leaf (906, .iadd, 1)))))) (.branch 914 (.branch 911 (.branch 908 (.leaf (907, .iaload, 1)) (.branch 909 (.leaf (908, .aload_n 0, 1)) (.leaf (909, .iload 4, 2)))) (.branch 912 (.leaf (911, .iconst 2, 1)) (.branch 913 (.leaf (912, .iadd, 1)) (.leaf (913, .iaload, 1))))) (.branch 919 (.branch 917 (.leaf (914, .invokevirtual 107, 3)) (.branch 918 (.leaf (917, .pop, 1)) (.leaf (918, .aload_n 2, 1)))) (.branch 922 (.branch 920 (.leaf (919, .aload_n 0, 1)) (.leaf (920, .iload 4, 2))) (.branch 923 (.leaf (922, .iconst 1, 1)) (.leaf (923, .iadd, 1))))))) (.branch 942 (.branch 931 (.branch 928 (.branch 925 (.leaf (924, .iaload, 1)) (.branch 926 (.leaf (925, .aload_n 0, 1)) (.leaf (926, .iload 4, 2)))) (.branch 929 (.leaf (928, .iconst 2, 1)) (.branch 930 (.leaf (929, .iadd, 1)) (.leaf (930, .iaload, 1))))) (.branch 938 (.branch 934 (.leaf (931, .invokevirtual 110, 3)) (.branch 935 (.leaf (934, .pop, 1)) (.leaf (935, .goto 870, 3)))) (.branch 939 (.leaf (938, .aload_n 1, 1)) (.branch 940 (.leaf (939, .aload_n 0, 1)) (.leaf (940, .iload 4, 2)))))) (.branch 950 (.branch 945 (.branch 943 (.leaf (942, .iconst 1, 1)) (.branch 944 (.leaf (943, .iadd, 1)) (.leaf (944, .iaload, 1)))) (.branch 948 (.leaf (945, .invokevirtual 111, 3)) (.branch 949 (.leaf (948, .pop, 1)) (.leaf (949, .aload_n 2, 1))))) (.branch 954 (.branch 951 (.leaf (950, .aload_n 0, 1)) (.branch 953 (.leaf (951, .iload 4, 2)) (.leaf (953, .iconst 1, 1)))) (.branch 956 (.branch 955 (.leaf (954, .iadd, 1)) (.leaf (955, .iaload, 1))) (.branch 959 (.leaf (956, .invokevirtual 114, 3)) (.leaf (959, .pop, 1))))))))) (.branch 1026 (.branch 993 (.branch 976 (.branch 969 (.branch 965 (.branch 963 (.leaf (960, .goto 845, 3)) (.branch 964 (.leaf (963, .aload_n 1, 1)) (.leaf (964, .aload_n 0, 1)))) (.branch 967 (.leaf (965, .iload 4, 2)) (.branch 968 (.leaf (967, .iconst 1, 1)) (.leaf (968, .iadd, 1))))) (.branch 973 (.branch 970 (.leaf (969, .iaload, 1)) (.branch 971 (.leaf (970, .aload_n 0, 1)) (.leaf (971, .iload 4, 2)))) (.branch 974 (.leaf (973, .iconst 2, 1)) (.branch 975 (.leaf (974, .iadd, 1)) (.leaf (975, .iaload, 1)))))) (.branch 983 (.branch 980 (.branch 977 (.leaf (976, .aload_n 0, 1)) (.branch 979 (.leaf (977, .iload 4, 2)) (.leaf (979, .iconst 3, 1)))) (.branch 981 (.leaf (980, .iadd, 1)) (.branch 982 (.leaf (981, .iaload, 1)) (.leaf (982, .aload_n 0, 1))))) (.branch 987 (.branch 985 (.leaf (983, .iload 4, 2)) (.branch 986 (.leaf (985, .iconst 4, 1)) (.leaf (986, .iadd, 1)))) (.branch 991 (.branch 988 (.leaf (987, .iaload, 1)) (.leaf (988, .invokevirtual 115, 3))) (.branch 992 (.leaf (991, .pop, 1)) (.leaf (992, .aload_n 2, 1))))))) (.branch 1008 (.branch 1000 (.branch 997 (.branch 994 (.leaf (993, .aload_n 0, 1)) (.branch 996 (.leaf (994, .iload 4, 2)) (.leaf (996, .iconst 1, 1)))) (.branch 998 (.leaf (997, .iadd, 1)) (.branch 999 (.leaf (998, .iaload, 1)) (.leaf (999, .aload_n 0, 1))))) (.branch 1004 (.branch 1002 (.leaf (1000, .iload 4, 2)) (.branch 1003 (.leaf (1002, .iconst 2, 1)) (.leaf (1003, .iadd, 1)))) (.branch 1005 (.leaf (1004, .iaload, 1)) (.branch 1006 (.leaf (1005, .aload_n 0, 1)) (.leaf (1006, .iload 4, 2)))))) (.branch 1015 (.branch 1011 (.branch 1009 (.leaf (1008, .iconst 3, 1)) (.branch 1010 (.leaf (1009, .iadd, 1)) (.leaf (1010, .iaload, 1)))) (.branch 1012 (.leaf (1011, .aload_n 0, 1)) (.branch 1014 (.leaf (1012, .iload 4, 2)) (.leaf (1014, .iconst 4, 1))))) (.branch 1020 (.branch 1016 (.leaf (1015, .iadd, 1)) (.branch 1017 (.leaf (1016, .iaload, 1)) (.leaf (1017, .invokevirtual 119, 3)))) (.branch 1024 (.branch 1021 (.leaf (1020, .pop, 1)) (.leaf (1021, .goto 784, 3))) (.branch 1025 (.leaf (1024, .aload_n 1, 1)) (.leaf (1025, .aload_n 0, 1)))))))) (.branch 1061 (.branch 1042 (.branch 1034 (.branch 1030 (.branch 1028 (.leaf (1026, .iload 4, 2)) (.branch 1029 (.leaf (1028, .iconst 1, 1)) (.leaf (1029, .iadd, 1)))) (.branch 1031 (.leaf (1030, .iaload, 1)) (.branch 1032 (.leaf (1031, .aload_n 0, 1)) (.leaf (1032, .iload 4, 2))))) (.branch 1037 (.branch 1035 (.leaf (1034, .iconst 2, 1)) (.branch 1036 (.leaf (1035, .iadd, 1)) (.leaf (1036, .iaload, 1)))) (.branch 1040 (.leaf (1037, .invokevirtual 120, 3)) (.branch 1041 (.leaf (1040, .pop, 1)) (.leaf (1041, .aload_n 2, 1)))))) (.branch 1049 (.branch 1046 (.branch 1043 (.leaf (1042, .aload_n 0, 1)) (.branch 1045 (.leaf (1043, .iload 4, 2)) (.leaf (1045, .iconst 1, 1)))) (.branch 1047 (.leaf (1046, .iadd, 1)) (.branch 1048 (.leaf (1047, .iaload, 1)) (.leaf (1048, .aload_n 0, 1))))) (.branch 1053 (.branch 1051 (.leaf (1049, .iload 4, 2)) (.branch 1052 (.leaf (1051, .iconst 2, 1)) (.leaf (1052, .iadd, 1)))) (.branch 1057 (.branch 1054 (.leaf (1053, .iaload, 1)) (.leaf (1054, .invokevirtual 123, 3))) (.branch 1058 (.leaf (1057, .pop, 1)) (.leaf (1058, .goto 747, 3))))))) (.branch 1077 (.branch 1068 (.branch 1065 (.branch 1062 (.leaf (1061, .aload_n 1, 1)) (.branch 1063 (.leaf (1062, .aload_n 0, 1)) (.leaf (1063, .iload 4, 2)))) (.branch 1066 (.leaf (1065, .iconst 1, 1)) (.branch 1067 (.leaf (1066, .iadd, 1)) (.leaf (1067, .iaload, 1))))) (.branch 1073 (.branch 1071 (.leaf (1068, .invokevirtual 124, 3)) (.branch 1072 (.leaf (1071, .pop, 1)) (.leaf (1072, .aload_n 2, 1)))) (.branch 1074 (.leaf (1073, .aload_n 0, 1)) (.branch 1076 (.leaf (1074, .iload 4, 2)) (.leaf (1076, .iconst 1, 1)))))) (.branch 1087 (.branch 1082 (.branch 1078 (.leaf (1077, .iadd, 1)) (.branch 1079 (.leaf (1078, .iaload, 1)) (.leaf (1079, .invokevirtual 127, 3)))) (.branch 1083 (.leaf (1082, .pop, 1)) (.branch 1086 (.leaf (1083, .goto 722, 3)) (.leaf (1086, .aload_n 1, 1))))) (.branch 1091 (.branch 1088 (.leaf (1087, .aload_n 0, 1)) (.branch 1090 (.leaf (1088, .iload 4, 2)) (.leaf (1090, .iconst 1, 1)))) (.branch 1093 (.branch 1092 (.leaf (1091, .iadd, 1)) (.leaf (1092, .iaload, 1))) (.branch 1096 (.leaf (1093, .invokevirtual 128, 3)) (.leaf (1096, .pop, 1)))))))))
noncomputable def oL_laws6 : List dLf := dFl tL_laws6
theorem ofL_laws6 : dFl tL_laws6 = oL_laws6 := rfl
set_option maxRecDepth 100000 in
theorem odL_laws6 : ∀ q ∈ oL_laws6, decode cL_law q.1 = .ok (q.2.1, q.2.2) := q_go qT_ok bbL_law oL_laws6 819 (by decide +kernel)
set_option maxRecDepth 100000 in
def tL_laws7 : Lean.RArray dLf := .branch 1248 (.branch 1168 (.branch 1132 (.branch 1115 (.branch 1104 (.branch 1101 (.branch 1098 (.leaf (1097, .aload_n 2, 1)) (.branch 1099 (.leaf (1098, .aload_n 0, 1)) (.leaf (1099, .iload 4, 2)))) (.branch 1102 (.leaf (1101, .iconst 1, 1)) (.branch 1103 (.leaf (1102, .iadd, 1)) (.leaf (1103, .iaload, 1))))) (.branch 1111 (.branch 1107 (.leaf (1104, .invokevirtual 131, 3)) (.branch 1108 (.leaf (1107, .pop, 1)) (.leaf (1108, .goto 697, 3)))) (.branch 1112 (.leaf (1111, .aload_n 1, 1)) (.branch 1113 (.leaf (1112, .aload_n 0, 1)) (.leaf (1113, .iload 4, 2)))))) (.branch 1122 (.branch 1118 (.branch 1116 (.leaf (1115, .iconst 1, 1)) (.branch 1117 (.leaf (1116, .iadd, 1)) (.leaf (1117, .iaload, 1)))) (.branch 1119 (.leaf (1118, .aload_n 0, 1)) (.branch 1121 (.leaf (1119, .iload 4, 2)) (.leaf (1121, .iconst 2, 1))))) (.branch 1127 (.branch 1123 (.leaf (1122, .iadd, 1)) (.branch 1124 (.leaf (1123, .iaload, 1)) (.leaf (1124, .invokevirtual 132, 3)))) (.branch 1129 (.branch 1128 (.leaf (1127, .pop, 1)) (.leaf (1128, .aload_n 2, 1))) (.branch 1130 (.leaf (1129, .aload_n 0, 1)) (.leaf (1130, .iload 4, 2))))))) (.branch 1149 (.branch 1139 (.branch 1135 (.branch 1133 (.leaf (1132, .iconst 1, 1)) (.branch 1134 (.leaf (1133, .iadd, 1)) (.leaf (1134, .iaload, 1)))) (.branch 1136 (.leaf (1135, .aload_n 0, 1)) (.branch 1138 (.leaf (1136, .iload 4, 2)) (.leaf (1138, .iconst 2, 1))))) (.branch 1144 (.branch 1140 (.leaf (1139, .iadd, 1)) (.branch 1141 (.leaf (1140, .iaload, 1)) (.leaf (1141, .invokevirtual 135, 3)))) (.branch 1145 (.leaf (1144, .pop, 1)) (.branch 1148 (.leaf (1145, .goto 660, 3)) (.leaf (1148, .aload_n 1, 1)))))) (.branch 1156 (.branch 1153 (.branch 1150 (.leaf (1149, .aload_n 0, 1)) (.branch 1152 (.leaf (1150, .iload 4, 2)) (.leaf (1152, .iconst 1, 1)))) (.branch 1154 (.leaf (1153, .iadd, 1)) (.branch 1155 (.leaf (1154, .iaload, 1)) (.leaf (1155, .aload_n 0, 1))))) (.branch 1160 (.branch 1158 (.leaf (1156, .iload 4, 2)) (.branch 1159 (.leaf (1158, .iconst 2, 1)) (.leaf (1159, .iadd, 1)))) (.branch 1164 (.branch 1161 (.leaf (1160, .iaload, 1)) (.leaf (1161, .ifCond .eq 7, 3))) (.branch 1165 (.leaf (1164, .iconst 1, 1)) (.leaf (1165, .goto 4, 3)))))))) (.branch 1207 (.branch 1184 (.branch 1177 (.branch 1173 (.branch 1169 (.leaf (1168, .iconst 0, 1)) (.branch 1172 (.leaf (1169, .invokevirtual 136, 3)) (.leaf (1172, .pop2, 1)))) (.branch 1174 (.leaf (1173, .aload_n 2, 1)) (.branch 1175 (.leaf (1174, .aload_n 0, 1)) (.leaf (1175, .iload 4, 2))))) (.branch 1180 (.branch 1178 (.leaf (1177, .iconst 1, 1)) (.branch 1179 (.leaf (1178, .iadd, 1)) (.leaf (1179, .iaload, 1)))) (.branch 1181 (.leaf (1180, .aload_n 0, 1)) (.branch 1183 (.leaf (1181, .iload 4, 2)) (.leaf (1183, .iconst 2, 1)))))) (.branch 1194 (.branch 1189 (.branch 1185 (.leaf (1184, .iadd, 1)) (.branch 1186 (.leaf (1185, .iaload, 1)) (.leaf (1186, .ifCond .eq 7, 3)))) (.branch 1190 (.leaf (1189, .iconst 1, 1)) (.branch 1193 (.leaf (1190, .goto 4, 3)) (.leaf (1193, .iconst 0, 1))))) (.branch 1201 (.branch 1197 (.leaf (1194, .invokevirtual 140, 3)) (.branch 1198 (.leaf (1197, .pop2, 1)) (.leaf (1198, .goto 607, 3)))) (.branch 1205 (.branch 1202 (.leaf (1201, .aload_n 1, 1)) (.leaf (1202, .invokevirtual 141, 3))) (.branch 1206 (.leaf (1205, .pop, 1)) (.leaf (1206, .aload_n 2, 1))))))) (.branch 1229 (.branch 1219 (.branch 1214 (.branch 1210 (.leaf (1207, .invokevirtual 144, 3)) (.branch 1211 (.leaf (1210, .pop, 1)) (.leaf (1211, .goto 594, 3)))) (.branch 1215 (.leaf (1214, .aload_n 1, 1)) (.branch 1218 (.leaf (1215, .invokevirtual 145, 3)) (.leaf (1218, .pop, 1))))) (.branch 1224 (.branch 1220 (.leaf (1219, .aload_n 2, 1)) (.branch 1223 (.leaf (1220, .invokevirtual 148, 3)) (.leaf (1223, .pop, 1)))) (.branch 1227 (.leaf (1224, .goto 581, 3)) (.branch 1228 (.leaf (1227, .aload_n 1, 1)) (.leaf (1228, .aload_n 0, 1)))))) (.branch 1238 (.branch 1233 (.branch 1231 (.leaf (1229, .iload 4, 2)) (.branch 1232 (.leaf (1231, .iconst 1, 1)) (.leaf (1232, .iadd, 1)))) (.branch 1234 (.leaf (1233, .iaload, 1)) (.branch 1237 (.leaf (1234, .invokevirtual 149, 3)) (.leaf (1237, .pop, 1))))) (.branch 1242 (.branch 1239 (.leaf (1238, .aload_n 2, 1)) (.branch 1240 (.leaf (1239, .aload_n 0, 1)) (.leaf (1240, .iload 4, 2)))) (.branch 1244 (.branch 1243 (.leaf (1242, .iconst 1, 1)) (.leaf (1243, .iadd, 1))) (.branch 1245 (.leaf (1244, .iaload, 1)) (.leaf (1245, .invokevirtual 152, 3))))))))) (.branch 1314 (.branch 1281 (.branch 1264 (.branch 1257 (.branch 1253 (.branch 1249 (.leaf (1248, .pop, 1)) (.branch 1252 (.leaf (1249, .goto 556, 3)) (.leaf (1252, .aload_n 1, 1)))) (.branch 1254 (.leaf (1253, .aload_n 0, 1)) (.branch 1256 (.leaf (1254, .iload 4, 2)) (.leaf (1256, .iconst 1, 1))))) (.branch 1260 (.branch 1258 (.leaf (1257, .iadd, 1)) (.branch 1259 (.leaf (1258, .iaload, 1)) (.leaf (1259, .aload_n 0, 1)))) (.branch 1262 (.leaf (1260, .iload 4, 2)) (.branch 1263 (.leaf (1262, .iconst 2, 1)) (.leaf (1263, .iadd, 1)))))) (.branch 1271 (.branch 1268 (.branch 1265 (.leaf (1264, .iaload, 1)) (.branch 1266 (.leaf (1265, .aload_n 0, 1)) (.leaf (1266, .iload 4, 2)))) (.branch 1269 (.leaf (1268, .iconst 3, 1)) (.branch 1270 (.leaf (1269, .iadd, 1)) (.leaf (1270, .iaload, 1))))) (.branch 1275 (.branch 1272 (.leaf (1271, .aload_n 0, 1)) (.branch 1274 (.leaf (1272, .iload 4, 2)) (.leaf (1274, .iconst 4, 1)))) (.branch 1277 (.branch 1276 (.leaf (1275, .iadd, 1)) (.leaf (1276, .iaload, 1))) (.branch 1280 (.leaf (1277, .invokevirtual 153, 3)) (.leaf (1280, .pop, 1))))))) (.branch 1295 (.branch 1288 (.branch 1285 (.branch 1282 (.leaf (1281, .aload_n 2, 1)) (.branch 1283 (.leaf (1282, .aload_n 0, 1)) (.leaf (1283, .iload 4, 2)))) (.branch 1286 (.leaf (1285, .iconst 1, 1)) (.branch 1287 (.leaf (1286, .iadd, 1)) (.leaf (1287, .iaload, 1))))) (.branch 1292 (.branch 1289 (.leaf (1288, .aload_n 0, 1)) (.branch 1291 (.leaf (1289, .iload 4, 2)) (.leaf (1291, .iconst 2, 1)))) (.branch 1293 (.leaf (1292, .iadd, 1)) (.branch 1294 (.leaf (1293, .iaload, 1)) (.leaf (1294, .aload_n 0, 1)))))) (.branch 1303 (.branch 1299 (.branch 1297 (.leaf (1295, .iload 4, 2)) (.branch 1298 (.leaf (1297, .iconst 3, 1)) (.leaf (1298, .iadd, 1)))) (.branch 1300 (.leaf (1299, .iaload, 1)) (.branch 1301 (.leaf (1300, .aload_n 0, 1)) (.leaf (1301, .iload 4, 2))))) (.branch 1306 (.branch 1304 (.leaf (1303, .iconst 4, 1)) (.branch 1305 (.leaf (1304, .iadd, 1)) (.leaf (1305, .iaload, 1)))) (.branch 1310 (.branch 1309 (.leaf (1306, .invokevirtual 156, 3)) (.leaf (1309, .pop, 1))) (.branch 1313 (.leaf (1310, .goto 495, 3)) (.leaf (1313, .aload_n 1, 1)))))))) (.branch 1350 (.branch 1333 (.branch 1326 (.branch 1319 (.branch 1317 (.leaf (1314, .invokevirtual 157, 3)) (.branch 1318 (.leaf (1317, .pop, 1)) (.leaf (1318, .aload_n 2, 1)))) (.branch 1322 (.leaf (1319, .invokevirtual 160, 3)) (.branch 1323 (.leaf (1322, .pop, 1)) (.leaf (1323, .goto 482, 3))))) (.branch 1330 (.branch 1327 (.leaf (1326, .aload_n 1, 1)) (.branch 1328 (.leaf (1327, .aload_n 0, 1)) (.leaf (1328, .iload 4, 2)))) (.branch 1331 (.leaf (1330, .iconst 1, 1)) (.branch 1332 (.leaf (1331, .iadd, 1)) (.leaf (1332, .iaload, 1)))))) (.branch 1342 (.branch 1337 (.branch 1334 (.leaf (1333, .aload_n 0, 1)) (.branch 1336 (.leaf (1334, .iload 4, 2)) (.leaf (1336, .iconst 2, 1)))) (.branch 1338 (.leaf (1337, .iadd, 1)) (.branch 1339 (.leaf (1338, .iaload, 1)) (.leaf (1339, .invokevirtual 161, 3))))) (.branch 1345 (.branch 1343 (.leaf (1342, .pop, 1)) (.branch 1344 (.leaf (1343, .aload_n 2, 1)) (.leaf (1344, .aload_n 0, 1)))) (.branch 1348 (.branch 1347 (.leaf (1345, .iload 4, 2)) (.leaf (1347, .iconst 1, 1))) (.branch 1349 (.leaf (1348, .iadd, 1)) (.leaf (1349, .iaload, 1))))))) (.branch 1368 (.branch 1359 (.branch 1354 (.branch 1351 (.leaf (1350, .aload_n 0, 1)) (.branch 1353 (.leaf (1351, .iload 4, 2)) (.leaf (1353, .iconst 2, 1)))) (.branch 1355 (.leaf (1354, .iadd, 1)) (.branch 1356 (.leaf (1355, .iaload, 1)) (.leaf (1356, .invokevirtual 164, 3))))) (.branch 1364 (.branch 1360 (.leaf (1359, .pop, 1)) (.branch 1363 (.leaf (1360, .goto 445, 3)) (.leaf (1363, .aload_n 1, 1)))) (.branch 1365 (.leaf (1364, .aload_n 0, 1)) (.branch 1367 (.leaf (1365, .iload 4, 2)) (.leaf (1367, .iconst 1, 1)))))) (.branch 1376 (.branch 1373 (.branch 1369 (.leaf (1368, .iadd, 1)) (.branch 1370 (.leaf (1369, .iaload, 1)) (.leaf (1370, .invokevirtual 165, 3)))) (.branch 1374 (.leaf (1373, .pop, 1)) (.branch 1375 (.leaf (1374, .aload_n 2, 1)) (.leaf (1375, .aload_n 0, 1))))) (.branch 1380 (.branch 1378 (.leaf (1376, .iload 4, 2)) (.branch 1379 (.leaf (1378, .iconst 1, 1)) (.leaf (1379, .iadd, 1)))) (.branch 1384 (.branch 1381 (.leaf (1380, .iaload, 1)) (.leaf (1381, .invokevirtual 168, 3))) (.branch 1385 (.leaf (1384, .pop, 1)) (.leaf (1385, .goto 420, 3)))))))))
noncomputable def oL_laws7 : List dLf := dFl tL_laws7
theorem ofL_laws7 : dFl tL_laws7 = oL_laws7 := rfl
set_option maxRecDepth 100000 in
theorem odL_laws7 : ∀ q ∈ oL_laws7, decode cL_law q.1 = .ok (q.2.1, q.2.2) := q_go qT_ok bbL_law oL_laws7 1097 (by decide +kernel)
set_option maxRecDepth 100000 in
def tL_laws8 : Lean.RArray dLf := .branch 1526 (.branch 1457 (.branch 1421 (.branch 1404 (.branch 1395 (.branch 1392 (.branch 1389 (.leaf (1388, .aload_n 1, 1)) (.branch 1390 (.leaf (1389, .aload_n 0, 1)) (.leaf (1390, .iload 4, 2)))) (.branch 1393 (.leaf (1392, .iconst 1, 1)) (.branch 1394 (.leaf (1393, .iadd, 1)) (.leaf (1394, .iaload, 1))))) (.branch 1399 (.branch 1396 (.leaf (1395, .aload_n 0, 1)) (.branch 1398 (.leaf (1396, .iload 4, 2)) (.leaf (1398, .iconst 2, 1)))) (.branch 1400 (.leaf (1399, .iadd, 1)) (.branch 1401 (.leaf (1400, .iaload, 1)) (.leaf (1401, .invokevirtual 169, 3)))))) (.branch 1411 (.branch 1407 (.branch 1405 (.leaf (1404, .pop, 1)) (.branch 1406 (.leaf (1405, .aload_n 2, 1)) (.leaf (1406, .aload_n 0, 1)))) (.branch 1409 (.leaf (1407, .iload 4, 2)) (.branch 1410 (.leaf (1409, .iconst 1, 1)) (.leaf (1410, .iadd, 1))))) (.branch 1415 (.branch 1412 (.leaf (1411, .iaload, 1)) (.branch 1413 (.leaf (1412, .aload_n 0, 1)) (.leaf (1413, .iload 4, 2)))) (.branch 1417 (.branch 1416 (.leaf (1415, .iconst 2, 1)) (.leaf (1416, .iadd, 1))) (.branch 1418 (.leaf (1417, .iaload, 1)) (.leaf (1418, .invokevirtual 172, 3))))))) (.branch 1438 (.branch 1430 (.branch 1426 (.branch 1422 (.leaf (1421, .pop, 1)) (.branch 1425 (.leaf (1422, .goto 383, 3)) (.leaf (1425, .aload_n 1, 1)))) (.branch 1427 (.leaf (1426, .aload_n 0, 1)) (.branch 1429 (.leaf (1427, .iload 4, 2)) (.leaf (1429, .iconst 1, 1))))) (.branch 1435 (.branch 1431 (.leaf (1430, .iadd, 1)) (.branch 1432 (.leaf (1431, .iaload, 1)) (.leaf (1432, .invokevirtual 173, 3)))) (.branch 1436 (.leaf (1435, .pop, 1)) (.branch 1437 (.leaf (1436, .aload_n 2, 1)) (.leaf (1437, .aload_n 0, 1)))))) (.branch 1447 (.branch 1442 (.branch 1440 (.leaf (1438, .iload 4, 2)) (.branch 1441 (.leaf (1440, .iconst 1, 1)) (.leaf (1441, .iadd, 1)))) (.branch 1443 (.leaf (1442, .iaload, 1)) (.branch 1446 (.leaf (1443, .invokevirtual 176, 3)) (.leaf (1446, .pop, 1))))) (.branch 1452 (.branch 1450 (.leaf (1447, .goto 358, 3)) (.branch 1451 (.leaf (1450, .aload_n 1, 1)) (.leaf (1451, .aload_n 0, 1)))) (.branch 1455 (.branch 1454 (.leaf (1452, .iload 4, 2)) (.leaf (1454, .iconst 1, 1))) (.branch 1456 (.leaf (1455, .iadd, 1)) (.leaf (1456, .iaload, 1)))))))) (.branch 1492 (.branch 1473 (.branch 1466 (.branch 1461 (.branch 1458 (.leaf (1457, .aload_n 0, 1)) (.branch 1460 (.leaf (1458, .iload 4, 2)) (.leaf (1460, .iconst 2, 1)))) (.branch 1462 (.leaf (1461, .iadd, 1)) (.branch 1463 (.leaf (1462, .iaload, 1)) (.leaf (1463, .invokevirtual 177, 3))))) (.branch 1469 (.branch 1467 (.leaf (1466, .pop, 1)) (.branch 1468 (.leaf (1467, .aload_n 2, 1)) (.leaf (1468, .aload_n 0, 1)))) (.branch 1471 (.leaf (1469, .iload 4, 2)) (.branch 1472 (.leaf (1471, .iconst 1, 1)) (.leaf (1472, .iadd, 1)))))) (.branch 1480 (.branch 1477 (.branch 1474 (.leaf (1473, .iaload, 1)) (.branch 1475 (.leaf (1474, .aload_n 0, 1)) (.leaf (1475, .iload 4, 2)))) (.branch 1478 (.leaf (1477, .iconst 2, 1)) (.branch 1479 (.leaf (1478, .iadd, 1)) (.leaf (1479, .iaload, 1))))) (.branch 1487 (.branch 1483 (.leaf (1480, .invokevirtual 180, 3)) (.branch 1484 (.leaf (1483, .pop, 1)) (.leaf (1484, .goto 321, 3)))) (.branch 1489 (.branch 1488 (.leaf (1487, .aload_n 1, 1)) (.leaf (1488, .aload_n 0, 1))) (.branch 1491 (.leaf (1489, .iload 4, 2)) (.leaf (1491, .iconst 1, 1))))))) (.branch 1508 (.branch 1499 (.branch 1495 (.branch 1493 (.leaf (1492, .iadd, 1)) (.branch 1494 (.leaf (1493, .iaload, 1)) (.leaf (1494, .aload_n 0, 1)))) (.branch 1497 (.leaf (1495, .iload 4, 2)) (.branch 1498 (.leaf (1497, .iconst 2, 1)) (.leaf (1498, .iadd, 1))))) (.branch 1504 (.branch 1500 (.leaf (1499, .iaload, 1)) (.branch 1503 (.leaf (1500, .invokevirtual 181, 3)) (.leaf (1503, .pop, 1)))) (.branch 1505 (.leaf (1504, .aload_n 2, 1)) (.branch 1506 (.leaf (1505, .aload_n 0, 1)) (.leaf (1506, .iload 4, 2)))))) (.branch 1515 (.branch 1511 (.branch 1509 (.leaf (1508, .iconst 1, 1)) (.branch 1510 (.leaf (1509, .iadd, 1)) (.leaf (1510, .iaload, 1)))) (.branch 1512 (.leaf (1511, .aload_n 0, 1)) (.branch 1514 (.leaf (1512, .iload 4, 2)) (.leaf (1514, .iconst 2, 1))))) (.branch 1520 (.branch 1516 (.leaf (1515, .iadd, 1)) (.branch 1517 (.leaf (1516, .iaload, 1)) (.leaf (1517, .invokevirtual 184, 3)))) (.branch 1524 (.branch 1521 (.leaf (1520, .pop, 1)) (.leaf (1521, .goto 284, 3))) (.branch 1525 (.leaf (1524, .aload_n 1, 1)) (.leaf (1525, .aload_n 0, 1))))))))) (.branch 1592 (.branch 1561 (.branch 1542 (.branch 1534 (.branch 1530 (.branch 1528 (.leaf (1526, .iload 4, 2)) (.branch 1529 (.leaf (1528, .iconst 1, 1)) (.leaf (1529, .iadd, 1)))) (.branch 1531 (.leaf (1530, .iaload, 1)) (.branch 1532 (.leaf (1531, .aload_n 0, 1)) (.leaf (1532, .iload 4, 2))))) (.branch 1537 (.branch 1535 (.leaf (1534, .iconst 2, 1)) (.branch 1536 (.leaf (1535, .iadd, 1)) (.leaf (1536, .iaload, 1)))) (.branch 1540 (.leaf (1537, .invokevirtual 185, 3)) (.branch 1541 (.leaf (1540, .pop, 1)) (.leaf (1541, .aload_n 2, 1)))))) (.branch 1549 (.branch 1546 (.branch 1543 (.leaf (1542, .aload_n 0, 1)) (.branch 1545 (.leaf (1543, .iload 4, 2)) (.leaf (1545, .iconst 1, 1)))) (.branch 1547 (.leaf (1546, .iadd, 1)) (.branch 1548 (.leaf (1547, .iaload, 1)) (.leaf (1548, .aload_n 0, 1))))) (.branch 1553 (.branch 1551 (.leaf (1549, .iload 4, 2)) (.branch 1552 (.leaf (1551, .iconst 2, 1)) (.leaf (1552, .iadd, 1)))) (.branch 1557 (.branch 1554 (.leaf (1553, .iaload, 1)) (.leaf (1554, .invokevirtual 188, 3))) (.branch 1558 (.leaf (1557, .pop, 1)) (.leaf (1558, .goto 247, 3))))))) (.branch 1575 (.branch 1568 (.branch 1565 (.branch 1562 (.leaf (1561, .aload_n 1, 1)) (.branch 1563 (.leaf (1562, .aload_n 0, 1)) (.leaf (1563, .iload 4, 2)))) (.branch 1566 (.leaf (1565, .iconst 1, 1)) (.branch 1567 (.leaf (1566, .iadd, 1)) (.leaf (1567, .iaload, 1))))) (.branch 1572 (.branch 1569 (.leaf (1568, .aload_n 0, 1)) (.branch 1571 (.leaf (1569, .iload 4, 2)) (.leaf (1571, .iconst 2, 1)))) (.branch 1573 (.leaf (1572, .iadd, 1)) (.branch 1574 (.leaf (1573, .iaload, 1)) (.leaf (1574, .aload_n 0, 1)))))) (.branch 1584 (.branch 1579 (.branch 1577 (.leaf (1575, .iload 4, 2)) (.branch 1578 (.leaf (1577, .iconst 3, 1)) (.leaf (1578, .iadd, 1)))) (.branch 1580 (.leaf (1579, .iaload, 1)) (.branch 1583 (.leaf (1580, .invokevirtual 189, 3)) (.leaf (1583, .pop, 1))))) (.branch 1588 (.branch 1585 (.leaf (1584, .aload_n 2, 1)) (.branch 1586 (.leaf (1585, .aload_n 0, 1)) (.leaf (1586, .iload 4, 2)))) (.branch 1590 (.branch 1589 (.leaf (1588, .iconst 1, 1)) (.leaf (1589, .iadd, 1))) (.branch 1591 (.leaf (1590, .iaload, 1)) (.leaf (1591, .aload_n 0, 1)))))))) (.branch 1627 (.branch 1610 (.branch 1600 (.branch 1596 (.branch 1594 (.leaf (1592, .iload 4, 2)) (.branch 1595 (.leaf (1594, .iconst 2, 1)) (.leaf (1595, .iadd, 1)))) (.branch 1597 (.leaf (1596, .iaload, 1)) (.branch 1598 (.leaf (1597, .aload_n 0, 1)) (.leaf (1598, .iload 4, 2))))) (.branch 1603 (.branch 1601 (.leaf (1600, .iconst 3, 1)) (.branch 1602 (.leaf (1601, .iadd, 1)) (.leaf (1602, .iaload, 1)))) (.branch 1606 (.leaf (1603, .invokevirtual 193, 3)) (.branch 1607 (.leaf (1606, .pop, 1)) (.leaf (1607, .goto 198, 3)))))) (.branch 1617 (.branch 1614 (.branch 1611 (.leaf (1610, .aload_n 1, 1)) (.branch 1612 (.leaf (1611, .aload_n 0, 1)) (.leaf (1612, .iload 4, 2)))) (.branch 1615 (.leaf (1614, .iconst 1, 1)) (.branch 1616 (.leaf (1615, .iadd, 1)) (.leaf (1616, .iaload, 1))))) (.branch 1622 (.branch 1620 (.leaf (1617, .invokevirtual 194, 3)) (.branch 1621 (.leaf (1620, .pop, 1)) (.leaf (1621, .aload_n 2, 1)))) (.branch 1625 (.branch 1623 (.leaf (1622, .aload_n 0, 1)) (.leaf (1623, .iload 4, 2))) (.branch 1626 (.leaf (1625, .iconst 1, 1)) (.leaf (1626, .iadd, 1))))))) (.branch 1645 (.branch 1637 (.branch 1632 (.branch 1628 (.leaf (1627, .iaload, 1)) (.branch 1631 (.leaf (1628, .invokevirtual 197, 3)) (.leaf (1631, .pop, 1)))) (.branch 1635 (.leaf (1632, .goto 173, 3)) (.branch 1636 (.leaf (1635, .aload_n 1, 1)) (.leaf (1636, .aload_n 0, 1))))) (.branch 1641 (.branch 1639 (.leaf (1637, .iload 4, 2)) (.branch 1640 (.leaf (1639, .iconst 1, 1)) (.leaf (1640, .iadd, 1)))) (.branch 1642 (.leaf (1641, .iaload, 1)) (.branch 1643 (.leaf (1642, .aload_n 0, 1)) (.leaf (1643, .iload 4, 2)))))) (.branch 1655 (.branch 1648 (.branch 1646 (.leaf (1645, .iconst 2, 1)) (.branch 1647 (.leaf (1646, .iadd, 1)) (.leaf (1647, .iaload, 1)))) (.branch 1651 (.leaf (1648, .ifCond .eq 7, 3)) (.branch 1652 (.leaf (1651, .iconst 1, 1)) (.leaf (1652, .goto 4, 3))))) (.branch 1660 (.branch 1656 (.leaf (1655, .iconst 0, 1)) (.branch 1659 (.leaf (1656, .invokevirtual 198, 3)) (.leaf (1659, .pop, 1)))) (.branch 1662 (.branch 1661 (.leaf (1660, .aload_n 2, 1)) (.leaf (1661, .aload_n 0, 1))) (.branch 1664 (.leaf (1662, .iload 4, 2)) (.leaf (1664, .iconst 1, 1)))))))))
noncomputable def oL_laws8 : List dLf := dFl tL_laws8
theorem ofL_laws8 : dFl tL_laws8 = oL_laws8 := rfl
set_option maxRecDepth 100000 in
theorem odL_laws8 : ∀ q ∈ oL_laws8, decode cL_law q.1 = .ok (q.2.1, q.2.2) := q_go qT_ok bbL_law oL_laws8 1388 (by decide +kernel)
set_option maxRecDepth 100000 in
def tL_laws9 : Lean.RArray dLf := .branch 1739 (.branch 1702 (.branch 1681 (.branch 1671 (.branch 1667 (.branch 1666 (.leaf (1665, .iadd, 1)) (.leaf (1666, .iaload, 1))) (.branch 1668 (.leaf (1667, .aload_n 0, 1)) (.branch 1670 (.leaf (1668, .iload 4, 2)) (.leaf (1670, .iconst 2, 1))))) (.branch 1676 (.branch 1672 (.leaf (1671, .iadd, 1)) (.branch 1673 (.leaf (1672, .iaload, 1)) (.leaf (1673, .ifCond .eq 7, 3)))) (.branch 1677 (.leaf (1676, .iconst 1, 1)) (.branch 1680 (.leaf (1677, .goto 4, 3)) (.leaf (1680, .iconst 0, 1)))))) (.branch 1692 (.branch 1685 (.branch 1684 (.leaf (1681, .invokevirtual 202, 3)) (.leaf (1684, .pop, 1))) (.branch 1688 (.leaf (1685, .goto 120, 3)) (.branch 1689 (.leaf (1688, .aload_n 1, 1)) (.leaf (1689, .invokevirtual 203, 3))))) (.branch 1697 (.branch 1693 (.leaf (1692, .pop, 1)) (.branch 1694 (.leaf (1693, .aload_n 2, 1)) (.leaf (1694, .invokevirtual 207, 3)))) (.branch 1698 (.leaf (1697, .pop, 1)) (.branch 1701 (.leaf (1698, .goto 107, 3)) (.leaf (1701, .aload_n 1, 1))))))) (.branch 1720 (.branch 1711 (.branch 1706 (.branch 1705 (.leaf (1702, .invokevirtual 208, 3)) (.leaf (1705, .pop, 1))) (.branch 1707 (.leaf (1706, .aload_n 2, 1)) (.branch 1710 (.leaf (1707, .invokevirtual 211, 3)) (.leaf (1710, .pop, 1))))) (.branch 1716 (.branch 1714 (.leaf (1711, .goto 94, 3)) (.branch 1715 (.leaf (1714, .aload_n 1, 1)) (.leaf (1715, .aload_n 0, 1)))) (.branch 1718 (.leaf (1716, .iload 4, 2)) (.branch 1719 (.leaf (1718, .iconst 1, 1)) (.leaf (1719, .iadd, 1)))))) (.branch 1729 (.branch 1725 (.branch 1721 (.leaf (1720, .iaload, 1)) (.branch 1724 (.leaf (1721, .invokevirtual 212, 3)) (.leaf (1724, .pop, 1)))) (.branch 1726 (.leaf (1725, .aload_n 2, 1)) (.branch 1727 (.leaf (1726, .aload_n 0, 1)) (.leaf (1727, .iload 4, 2))))) (.branch 1732 (.branch 1730 (.leaf (1729, .iconst 1, 1)) (.branch 1731 (.leaf (1730, .iadd, 1)) (.leaf (1731, .iaload, 1)))) (.branch 1735 (.leaf (1732, .invokevirtual 216, 3)) (.branch 1736 (.leaf (1735, .pop, 1)) (.leaf (1736, .goto 69, 3)))))))) (.branch 1773 (.branch 1754 (.branch 1745 (.branch 1741 (.branch 1740 (.leaf (1739, .aload_n 1, 1)) (.leaf (1740, .aload_n 0, 1))) (.branch 1743 (.leaf (1741, .iload 4, 2)) (.branch 1744 (.leaf (1743, .iconst 1, 1)) (.leaf (1744, .iadd, 1))))) (.branch 1750 (.branch 1746 (.leaf (1745, .iaload, 1)) (.branch 1747 (.leaf (1746, .aload_n 3, 1)) (.leaf (1747, .invokestatic 217, 3)))) (.branch 1752 (.leaf (1750, .istore 5, 2)) (.branch 1753 (.leaf (1752, .aload_n 2, 1)) (.leaf (1753, .aload_n 0, 1)))))) (.branch 1764 (.branch 1758 (.branch 1756 (.leaf (1754, .iload 4, 2)) (.branch 1757 (.leaf (1756, .iconst 1, 1)) (.leaf (1757, .iadd, 1)))) (.branch 1759 (.leaf (1758, .iaload, 1)) (.branch 1762 (.leaf (1759, .invokevirtual 222, 3)) (.leaf (1762, .istore 6, 2))))) (.branch 1769 (.branch 1767 (.leaf (1764, .goto 41, 3)) (.branch 1768 (.leaf (1767, .aload_n 1, 1)) (.leaf (1768, .aload_n 0, 1)))) (.branch 1771 (.leaf (1769, .iload 4, 2)) (.branch 1772 (.leaf (1771, .iconst 1, 1)) (.leaf (1772, .iadd, 1))))))) (.branch 1789 (.branch 1780 (.branch 1777 (.branch 1774 (.leaf (1773, .iaload, 1)) (.leaf (1774, .invokevirtual 223, 3))) (.branch 1778 (.leaf (1777, .pop, 1)) (.branch 1779 (.leaf (1778, .aload_n 2, 1)) (.leaf (1779, .aload_n 0, 1))))) (.branch 1784 (.branch 1782 (.leaf (1780, .iload 4, 2)) (.branch 1783 (.leaf (1782, .iconst 1, 1)) (.leaf (1783, .iadd, 1)))) (.branch 1785 (.leaf (1784, .iaload, 1)) (.branch 1788 (.leaf (1785, .invokevirtual 226, 3)) (.leaf (1788, .pop, 1)))))) (.branch 1801 (.branch 1796 (.branch 1792 (.leaf (1789, .goto 16, 3)) (.branch 1793 (.leaf (1792, .aload_n 1, 1)) (.leaf (1793, .invokevirtual 227, 3)))) (.branch 1797 (.leaf (1796, .pop, 1)) (.branch 1798 (.leaf (1797, .aload_n 2, 1)) (.leaf (1798, .invokevirtual 230, 3))))) (.branch 1808 (.branch 1802 (.leaf (1801, .pop, 1)) (.branch 1805 (.leaf (1802, .goto 3, 3)) (.leaf (1805, .iinc 4 6, 3)))) (.branch 1811 (.leaf (1808, .goto (-1785), 3)) (.branch 1812 (.leaf (1811, .iconst 1, 1)) (.leaf (1812, .ireturn, 1))))))))
noncomputable def oL_laws9 : List dLf := dFl tL_laws9
theorem ofL_laws9 : dFl tL_laws9 = oL_laws9 := rfl
set_option maxRecDepth 100000 in
theorem odL_laws9 : ∀ q ∈ oL_laws9, decode cL_law q.1 = .ok (q.2.1, q.2.2) := q_go qT_ok bbL_law oL_laws9 1665 (by decide +kernel)
theorem dL_law_0 : decode cL_law 0 = .ok (.new 8, 3) := d_by (d_at odL_laws0 ofL_laws0 0) rfl
theorem dL_law_3 : decode cL_law 3 = .ok (.dup, 1) := d_by (d_at odL_laws0 ofL_laws0 3) rfl
theorem dL_law_4 : decode cL_law 4 = .ok (.invokespecial 15, 3) := d_by (d_at odL_laws0 ofL_laws0 4) rfl
theorem dL_law_7 : decode cL_law 7 = .ok (.astore_n 1, 1) := d_by (d_at odL_laws0 ofL_laws0 7) rfl
theorem dL_law_8 : decode cL_law 8 = .ok (.new 16, 3) := d_by (d_at odL_laws0 ofL_laws0 8) rfl
theorem dL_law_11 : decode cL_law 11 = .ok (.dup, 1) := d_by (d_at odL_laws0 ofL_laws0 11) rfl
theorem dL_law_12 : decode cL_law 12 = .ok (.invokespecial 18, 3) := d_by (d_at odL_laws0 ofL_laws0 12) rfl
theorem dL_law_15 : decode cL_law 15 = .ok (.astore_n 2, 1) := d_by (d_at odL_laws0 ofL_laws0 15) rfl
theorem dL_law_16 : decode cL_law 16 = .ok (.iconst 1, 1) := d_by (d_at odL_laws0 ofL_laws0 16) rfl
theorem dL_law_17 : decode cL_law 17 = .ok (.newarray .long, 2) := eL_law_17
theorem dL_law_19 : decode cL_law 19 = .ok (.astore_n 3, 1) := d_by (d_at odL_laws2 ofL_laws2 19) rfl
theorem dL_law_20 : decode cL_law 20 = .ok (.iconst 0, 1) := d_by (d_at odL_laws2 ofL_laws2 20) rfl
theorem dL_law_21 : decode cL_law 21 = .ok (.istore 4, 2) := d_by (d_at odL_laws2 ofL_laws2 21) rfl
theorem dL_law_23 : decode cL_law 23 = .ok (.iload 4, 2) := d_by (d_at odL_laws2 ofL_laws2 23) rfl
theorem dL_law_25 : decode cL_law 25 = .ok (.aload_n 0, 1) := d_by (d_at odL_laws2 ofL_laws2 25) rfl
theorem dL_law_26 : decode cL_law 26 = .ok (.arraylength, 1) := d_by (d_at odL_laws2 ofL_laws2 26) rfl
theorem dL_law_27 : decode cL_law 27 = .ok (.bipush 6, 2) := d_by (d_at odL_laws2 ofL_laws2 27) rfl
theorem dL_law_29 : decode cL_law 29 = .ok (.isub, 1) := d_by (d_at odL_laws2 ofL_laws2 29) rfl
theorem dL_law_30 : decode cL_law 30 = .ok (.if_icmp .gt 1781, 3) := d_by (d_at odL_laws2 ofL_laws2 30) rfl
theorem dL_law_33 : decode cL_law 33 = .ok (.aload_n 0, 1) := d_by (d_at odL_laws2 ofL_laws2 33) rfl
theorem dL_law_34 : decode cL_law 34 = .ok (.iload 4, 2) := d_by (d_at odL_laws2 ofL_laws2 34) rfl
theorem dL_law_36 : decode cL_law 36 = .ok (.iaload, 1) := d_by (d_at odL_laws2 ofL_laws2 36) rfl
theorem dL_law_37 : decode cL_law 37 = .ok (.bipush 63, 2) := d_by (d_at odL_laws2 ofL_laws2 37) rfl
theorem dL_law_39 : decode cL_law 39 = .ok (.iand, 1) := d_by (d_at odL_laws2 ofL_laws2 39) rfl
theorem dL_law_40 : decode cL_law 40 = .ok (.tableswitch 1765 0 49 #[216, 289, 314, 327, 340, 377, 414, 439, 476, 513, 538, 575, 600, 649, 674, 711, 724, 737, 774, 811, 836, 861, 898, 923, 984, 1021, 1046, 1071, 1108, 1161, 1174, 1187, 1212, 1273, 1286, 1323, 1348, 1385, 1410, 1447, 1484, 1521, 1570, 1595, 1648, 1661, 1674, 1699, 1727, 1752], 216) := eL_law_40
theorem dL_law_256 : decode cL_law 256 = .ok (.aload_n 1, 1) := d_by (d_at odL_laws4 ofL_laws4 256) rfl
theorem dL_law_257 : decode cL_law 257 = .ok (.aload_n 0, 1) := d_by (d_at odL_laws4 ofL_laws4 257) rfl
theorem dL_law_258 : decode cL_law 258 = .ok (.iload 4, 2) := d_by (d_at odL_laws4 ofL_laws4 258) rfl
theorem dL_law_260 : decode cL_law 260 = .ok (.iconst 1, 1) := d_by (d_at odL_laws4 ofL_laws4 260) rfl
theorem dL_law_261 : decode cL_law 261 = .ok (.iadd, 1) := d_by (d_at odL_laws4 ofL_laws4 261) rfl
theorem dL_law_262 : decode cL_law 262 = .ok (.iaload, 1) := d_by (d_at odL_laws4 ofL_laws4 262) rfl
theorem dL_law_263 : decode cL_law 263 = .ok (.aload_n 0, 1) := d_by (d_at odL_laws4 ofL_laws4 263) rfl
theorem dL_law_264 : decode cL_law 264 = .ok (.iload 4, 2) := d_by (d_at odL_laws4 ofL_laws4 264) rfl
theorem dL_law_266 : decode cL_law 266 = .ok (.iconst 2, 1) := d_by (d_at odL_laws4 ofL_laws4 266) rfl
theorem dL_law_267 : decode cL_law 267 = .ok (.iadd, 1) := d_by (d_at odL_laws4 ofL_laws4 267) rfl
theorem dL_law_268 : decode cL_law 268 = .ok (.iaload, 1) := d_by (d_at odL_laws4 ofL_laws4 268) rfl
theorem dL_law_269 : decode cL_law 269 = .ok (.aload_n 0, 1) := d_by (d_at odL_laws4 ofL_laws4 269) rfl
theorem dL_law_270 : decode cL_law 270 = .ok (.iload 4, 2) := d_by (d_at odL_laws4 ofL_laws4 270) rfl
theorem dL_law_272 : decode cL_law 272 = .ok (.iconst 3, 1) := d_by (d_at odL_laws4 ofL_laws4 272) rfl
theorem dL_law_273 : decode cL_law 273 = .ok (.iadd, 1) := d_by (d_at odL_laws4 ofL_laws4 273) rfl
theorem dL_law_274 : decode cL_law 274 = .ok (.iaload, 1) := d_by (d_at odL_laws4 ofL_laws4 274) rfl
theorem dL_law_275 : decode cL_law 275 = .ok (.aload_n 0, 1) := d_by (d_at odL_laws4 ofL_laws4 275) rfl
theorem dL_law_276 : decode cL_law 276 = .ok (.iload 4, 2) := d_by (d_at odL_laws4 ofL_laws4 276) rfl
theorem dL_law_278 : decode cL_law 278 = .ok (.iconst 4, 1) := d_by (d_at odL_laws4 ofL_laws4 278) rfl
theorem dL_law_279 : decode cL_law 279 = .ok (.iadd, 1) := d_by (d_at odL_laws4 ofL_laws4 279) rfl
theorem dL_law_280 : decode cL_law 280 = .ok (.iaload, 1) := d_by (d_at odL_laws4 ofL_laws4 280) rfl
theorem dL_law_281 : decode cL_law 281 = .ok (.aload_n 0, 1) := d_by (d_at odL_laws4 ofL_laws4 281) rfl
theorem dL_law_282 : decode cL_law 282 = .ok (.iload 4, 2) := d_by (d_at odL_laws4 ofL_laws4 282) rfl
theorem dL_law_284 : decode cL_law 284 = .ok (.iconst 5, 1) := d_by (d_at odL_laws4 ofL_laws4 284) rfl
theorem dL_law_285 : decode cL_law 285 = .ok (.iadd, 1) := d_by (d_at odL_laws4 ofL_laws4 285) rfl
theorem dL_law_286 : decode cL_law 286 = .ok (.iaload, 1) := d_by (d_at odL_laws4 ofL_laws4 286) rfl
theorem dL_law_287 : decode cL_law 287 = .ok (.invokevirtual 19, 3) := d_by (d_at odL_laws4 ofL_laws4 287) rfl
theorem dL_law_290 : decode cL_law 290 = .ok (.pop, 1) := d_by (d_at odL_laws4 ofL_laws4 290) rfl
theorem dL_law_291 : decode cL_law 291 = .ok (.aload_n 2, 1) := d_by (d_at odL_laws4 ofL_laws4 291) rfl
theorem dL_law_292 : decode cL_law 292 = .ok (.aload_n 0, 1) := d_by (d_at odL_laws4 ofL_laws4 292) rfl
theorem dL_law_293 : decode cL_law 293 = .ok (.iload 4, 2) := d_by (d_at odL_laws4 ofL_laws4 293) rfl
theorem dL_law_295 : decode cL_law 295 = .ok (.iconst 1, 1) := d_by (d_at odL_laws4 ofL_laws4 295) rfl
theorem dL_law_296 : decode cL_law 296 = .ok (.iadd, 1) := d_by (d_at odL_laws4 ofL_laws4 296) rfl
theorem dL_law_297 : decode cL_law 297 = .ok (.iaload, 1) := d_by (d_at odL_laws4 ofL_laws4 297) rfl
theorem dL_law_298 : decode cL_law 298 = .ok (.aload_n 0, 1) := d_by (d_at odL_laws4 ofL_laws4 298) rfl
theorem dL_law_299 : decode cL_law 299 = .ok (.iload 4, 2) := d_by (d_at odL_laws4 ofL_laws4 299) rfl
theorem dL_law_301 : decode cL_law 301 = .ok (.iconst 2, 1) := d_by (d_at odL_laws4 ofL_laws4 301) rfl
theorem dL_law_302 : decode cL_law 302 = .ok (.iadd, 1) := d_by (d_at odL_laws4 ofL_laws4 302) rfl
theorem dL_law_303 : decode cL_law 303 = .ok (.iaload, 1) := d_by (d_at odL_laws4 ofL_laws4 303) rfl
theorem dL_law_304 : decode cL_law 304 = .ok (.aload_n 0, 1) := d_by (d_at odL_laws4 ofL_laws4 304) rfl
theorem dL_law_305 : decode cL_law 305 = .ok (.iload 4, 2) := d_by (d_at odL_laws4 ofL_laws4 305) rfl
theorem dL_law_307 : decode cL_law 307 = .ok (.iconst 3, 1) := d_by (d_at odL_laws4 ofL_laws4 307) rfl
theorem dL_law_308 : decode cL_law 308 = .ok (.iadd, 1) := d_by (d_at odL_laws4 ofL_laws4 308) rfl
theorem dL_law_309 : decode cL_law 309 = .ok (.iaload, 1) := d_by (d_at odL_laws4 ofL_laws4 309) rfl
theorem dL_law_310 : decode cL_law 310 = .ok (.aload_n 0, 1) := d_by (d_at odL_laws4 ofL_laws4 310) rfl
theorem dL_law_311 : decode cL_law 311 = .ok (.iload 4, 2) := d_by (d_at odL_laws4 ofL_laws4 311) rfl
theorem dL_law_313 : decode cL_law 313 = .ok (.iconst 4, 1) := d_by (d_at odL_laws4 ofL_laws4 313) rfl
theorem dL_law_314 : decode cL_law 314 = .ok (.iadd, 1) := d_by (d_at odL_laws4 ofL_laws4 314) rfl
theorem dL_law_315 : decode cL_law 315 = .ok (.iaload, 1) := d_by (d_at odL_laws4 ofL_laws4 315) rfl
theorem dL_law_316 : decode cL_law 316 = .ok (.aload_n 0, 1) := d_by (d_at odL_laws4 ofL_laws4 316) rfl
theorem dL_law_317 : decode cL_law 317 = .ok (.iload 4, 2) := d_by (d_at odL_laws4 ofL_laws4 317) rfl
theorem dL_law_319 : decode cL_law 319 = .ok (.iconst 5, 1) := d_by (d_at odL_laws4 ofL_laws4 319) rfl
theorem dL_law_320 : decode cL_law 320 = .ok (.iadd, 1) := d_by (d_at odL_laws4 ofL_laws4 320) rfl
theorem dL_law_321 : decode cL_law 321 = .ok (.iaload, 1) := d_by (d_at odL_laws4 ofL_laws4 321) rfl
theorem dL_law_322 : decode cL_law 322 = .ok (.invokevirtual 23, 3) := d_by (d_at odL_laws4 ofL_laws4 322) rfl
theorem dL_law_325 : decode cL_law 325 = .ok (.pop, 1) := d_by (d_at odL_laws4 ofL_laws4 325) rfl
theorem dL_law_326 : decode cL_law 326 = .ok (.goto 1479, 3) := d_by (d_at odL_laws4 ofL_laws4 326) rfl
theorem dL_law_329 : decode cL_law 329 = .ok (.aload_n 1, 1) := d_by (d_at odL_laws4 ofL_laws4 329) rfl
theorem dL_law_330 : decode cL_law 330 = .ok (.aload_n 0, 1) := d_by (d_at odL_laws4 ofL_laws4 330) rfl
theorem dL_law_331 : decode cL_law 331 = .ok (.iload 4, 2) := d_by (d_at odL_laws4 ofL_laws4 331) rfl
theorem dL_law_333 : decode cL_law 333 = .ok (.iconst 1, 1) := d_by (d_at odL_laws4 ofL_laws4 333) rfl
theorem dL_law_334 : decode cL_law 334 = .ok (.iadd, 1) := d_by (d_at odL_laws4 ofL_laws4 334) rfl
theorem dL_law_335 : decode cL_law 335 = .ok (.iaload, 1) := d_by (d_at odL_laws4 ofL_laws4 335) rfl
theorem dL_law_336 : decode cL_law 336 = .ok (.invokevirtual 24, 3) := d_by (d_at odL_laws4 ofL_laws4 336) rfl
theorem dL_law_339 : decode cL_law 339 = .ok (.pop, 1) := d_by (d_at odL_laws4 ofL_laws4 339) rfl
theorem dL_law_340 : decode cL_law 340 = .ok (.aload_n 2, 1) := d_by (d_at odL_laws4 ofL_laws4 340) rfl
theorem dL_law_341 : decode cL_law 341 = .ok (.aload_n 0, 1) := d_by (d_at odL_laws4 ofL_laws4 341) rfl
theorem dL_law_342 : decode cL_law 342 = .ok (.iload 4, 2) := d_by (d_at odL_laws4 ofL_laws4 342) rfl
theorem dL_law_344 : decode cL_law 344 = .ok (.iconst 1, 1) := d_by (d_at odL_laws4 ofL_laws4 344) rfl
theorem dL_law_345 : decode cL_law 345 = .ok (.iadd, 1) := d_by (d_at odL_laws4 ofL_laws4 345) rfl
theorem dL_law_346 : decode cL_law 346 = .ok (.iaload, 1) := d_by (d_at odL_laws4 ofL_laws4 346) rfl
theorem dL_law_347 : decode cL_law 347 = .ok (.invokevirtual 27, 3) := d_by (d_at odL_laws4 ofL_laws4 347) rfl
theorem dL_law_350 : decode cL_law 350 = .ok (.pop, 1) := d_by (d_at odL_laws4 ofL_laws4 350) rfl
theorem dL_law_351 : decode cL_law 351 = .ok (.goto 1454, 3) := d_by (d_at odL_laws4 ofL_laws4 351) rfl
theorem dL_law_354 : decode cL_law 354 = .ok (.aload_n 1, 1) := d_by (d_at odL_laws4 ofL_laws4 354) rfl
theorem dL_law_355 : decode cL_law 355 = .ok (.invokevirtual 28, 3) := d_by (d_at odL_laws4 ofL_laws4 355) rfl
theorem dL_law_358 : decode cL_law 358 = .ok (.pop, 1) := d_by (d_at odL_laws4 ofL_laws4 358) rfl
theorem dL_law_359 : decode cL_law 359 = .ok (.aload_n 2, 1) := d_by (d_at odL_laws4 ofL_laws4 359) rfl
theorem dL_law_360 : decode cL_law 360 = .ok (.invokevirtual 32, 3) := d_by (d_at odL_laws4 ofL_laws4 360) rfl
theorem dL_law_363 : decode cL_law 363 = .ok (.pop, 1) := d_by (d_at odL_laws4 ofL_laws4 363) rfl
theorem dL_law_364 : decode cL_law 364 = .ok (.goto 1441, 3) := d_by (d_at odL_laws4 ofL_laws4 364) rfl
theorem dL_law_367 : decode cL_law 367 = .ok (.aload_n 1, 1) := d_by (d_at odL_laws4 ofL_laws4 367) rfl
theorem dL_law_368 : decode cL_law 368 = .ok (.invokevirtual 33, 3) := d_by (d_at odL_laws4 ofL_laws4 368) rfl
theorem dL_law_371 : decode cL_law 371 = .ok (.pop, 1) := d_by (d_at odL_laws4 ofL_laws4 371) rfl
theorem dL_law_372 : decode cL_law 372 = .ok (.aload_n 2, 1) := d_by (d_at odL_laws4 ofL_laws4 372) rfl
theorem dL_law_373 : decode cL_law 373 = .ok (.invokevirtual 36, 3) := d_by (d_at odL_laws4 ofL_laws4 373) rfl
theorem dL_law_376 : decode cL_law 376 = .ok (.pop, 1) := d_by (d_at odL_laws4 ofL_laws4 376) rfl
theorem dL_law_377 : decode cL_law 377 = .ok (.goto 1428, 3) := d_by (d_at odL_laws4 ofL_laws4 377) rfl
theorem dL_law_380 : decode cL_law 380 = .ok (.aload_n 1, 1) := d_by (d_at odL_laws4 ofL_laws4 380) rfl
theorem dL_law_381 : decode cL_law 381 = .ok (.aload_n 0, 1) := d_by (d_at odL_laws4 ofL_laws4 381) rfl
theorem dL_law_382 : decode cL_law 382 = .ok (.iload 4, 2) := d_by (d_at odL_laws4 ofL_laws4 382) rfl
theorem dL_law_384 : decode cL_law 384 = .ok (.iconst 1, 1) := d_by (d_at odL_laws4 ofL_laws4 384) rfl
theorem dL_law_385 : decode cL_law 385 = .ok (.iadd, 1) := d_by (d_at odL_laws4 ofL_laws4 385) rfl
theorem dL_law_386 : decode cL_law 386 = .ok (.iaload, 1) := d_by (d_at odL_laws4 ofL_laws4 386) rfl
theorem dL_law_387 : decode cL_law 387 = .ok (.aload_n 0, 1) := d_by (d_at odL_laws4 ofL_laws4 387) rfl
theorem dL_law_388 : decode cL_law 388 = .ok (.iload 4, 2) := d_by (d_at odL_laws4 ofL_laws4 388) rfl
theorem dL_law_390 : decode cL_law 390 = .ok (.iconst 2, 1) := d_by (d_at odL_laws4 ofL_laws4 390) rfl
theorem dL_law_391 : decode cL_law 391 = .ok (.iadd, 1) := d_by (d_at odL_laws4 ofL_laws4 391) rfl
theorem dL_law_392 : decode cL_law 392 = .ok (.iaload, 1) := d_by (d_at odL_laws4 ofL_laws4 392) rfl
theorem dL_law_393 : decode cL_law 393 = .ok (.invokevirtual 37, 3) := d_by (d_at odL_laws4 ofL_laws4 393) rfl
theorem dL_law_396 : decode cL_law 396 = .ok (.pop, 1) := d_by (d_at odL_laws4 ofL_laws4 396) rfl
theorem dL_law_397 : decode cL_law 397 = .ok (.aload_n 2, 1) := d_by (d_at odL_laws4 ofL_laws4 397) rfl
theorem dL_law_398 : decode cL_law 398 = .ok (.aload_n 0, 1) := d_by (d_at odL_laws4 ofL_laws4 398) rfl
theorem dL_law_399 : decode cL_law 399 = .ok (.iload 4, 2) := d_by (d_at odL_laws4 ofL_laws4 399) rfl
theorem dL_law_401 : decode cL_law 401 = .ok (.iconst 1, 1) := d_by (d_at odL_laws4 ofL_laws4 401) rfl
theorem dL_law_402 : decode cL_law 402 = .ok (.iadd, 1) := d_by (d_at odL_laws4 ofL_laws4 402) rfl
theorem dL_law_403 : decode cL_law 403 = .ok (.iaload, 1) := d_by (d_at odL_laws4 ofL_laws4 403) rfl
theorem dL_law_404 : decode cL_law 404 = .ok (.aload_n 0, 1) := d_by (d_at odL_laws4 ofL_laws4 404) rfl
theorem dL_law_405 : decode cL_law 405 = .ok (.iload 4, 2) := d_by (d_at odL_laws4 ofL_laws4 405) rfl
theorem dL_law_407 : decode cL_law 407 = .ok (.iconst 2, 1) := d_by (d_at odL_laws4 ofL_laws4 407) rfl
theorem dL_law_408 : decode cL_law 408 = .ok (.iadd, 1) := d_by (d_at odL_laws4 ofL_laws4 408) rfl
theorem dL_law_409 : decode cL_law 409 = .ok (.iaload, 1) := d_by (d_at odL_laws4 ofL_laws4 409) rfl
theorem dL_law_410 : decode cL_law 410 = .ok (.invokevirtual 41, 3) := d_by (d_at odL_laws4 ofL_laws4 410) rfl
theorem dL_law_413 : decode cL_law 413 = .ok (.pop, 1) := d_by (d_at odL_laws4 ofL_laws4 413) rfl
theorem dL_law_414 : decode cL_law 414 = .ok (.goto 1391, 3) := d_by (d_at odL_laws4 ofL_laws4 414) rfl
theorem dL_law_417 : decode cL_law 417 = .ok (.aload_n 1, 1) := d_by (d_at odL_laws4 ofL_laws4 417) rfl
theorem dL_law_418 : decode cL_law 418 = .ok (.aload_n 0, 1) := d_by (d_at odL_laws4 ofL_laws4 418) rfl
theorem dL_law_419 : decode cL_law 419 = .ok (.iload 4, 2) := d_by (d_at odL_laws4 ofL_laws4 419) rfl
theorem dL_law_421 : decode cL_law 421 = .ok (.iconst 1, 1) := d_by (d_at odL_laws4 ofL_laws4 421) rfl
theorem dL_law_422 : decode cL_law 422 = .ok (.iadd, 1) := d_by (d_at odL_laws4 ofL_laws4 422) rfl
theorem dL_law_423 : decode cL_law 423 = .ok (.iaload, 1) := d_by (d_at odL_laws4 ofL_laws4 423) rfl
theorem dL_law_424 : decode cL_law 424 = .ok (.aload_n 0, 1) := d_by (d_at odL_laws4 ofL_laws4 424) rfl
theorem dL_law_425 : decode cL_law 425 = .ok (.iload 4, 2) := d_by (d_at odL_laws4 ofL_laws4 425) rfl
theorem dL_law_427 : decode cL_law 427 = .ok (.iconst 2, 1) := d_by (d_at odL_laws4 ofL_laws4 427) rfl
theorem dL_law_428 : decode cL_law 428 = .ok (.iadd, 1) := d_by (d_at odL_laws4 ofL_laws4 428) rfl
theorem dL_law_429 : decode cL_law 429 = .ok (.iaload, 1) := d_by (d_at odL_laws4 ofL_laws4 429) rfl
theorem dL_law_430 : decode cL_law 430 = .ok (.invokevirtual 42, 3) := d_by (d_at odL_laws4 ofL_laws4 430) rfl
theorem dL_law_433 : decode cL_law 433 = .ok (.pop, 1) := d_by (d_at odL_laws4 ofL_laws4 433) rfl
theorem dL_law_434 : decode cL_law 434 = .ok (.aload_n 2, 1) := d_by (d_at odL_laws4 ofL_laws4 434) rfl
theorem dL_law_435 : decode cL_law 435 = .ok (.aload_n 0, 1) := d_by (d_at odL_laws4 ofL_laws4 435) rfl
theorem dL_law_436 : decode cL_law 436 = .ok (.iload 4, 2) := d_by (d_at odL_laws4 ofL_laws4 436) rfl
theorem dL_law_438 : decode cL_law 438 = .ok (.iconst 1, 1) := d_by (d_at odL_laws4 ofL_laws4 438) rfl
theorem dL_law_439 : decode cL_law 439 = .ok (.iadd, 1) := d_by (d_at odL_laws4 ofL_laws4 439) rfl
theorem dL_law_440 : decode cL_law 440 = .ok (.iaload, 1) := d_by (d_at odL_laws4 ofL_laws4 440) rfl
theorem dL_law_441 : decode cL_law 441 = .ok (.aload_n 0, 1) := d_by (d_at odL_laws4 ofL_laws4 441) rfl
theorem dL_law_442 : decode cL_law 442 = .ok (.iload 4, 2) := d_by (d_at odL_laws4 ofL_laws4 442) rfl
theorem dL_law_444 : decode cL_law 444 = .ok (.iconst 2, 1) := d_by (d_at odL_laws4 ofL_laws4 444) rfl
theorem dL_law_445 : decode cL_law 445 = .ok (.iadd, 1) := d_by (d_at odL_laws4 ofL_laws4 445) rfl
theorem dL_law_446 : decode cL_law 446 = .ok (.iaload, 1) := d_by (d_at odL_laws4 ofL_laws4 446) rfl
theorem dL_law_447 : decode cL_law 447 = .ok (.invokevirtual 45, 3) := d_by (d_at odL_laws4 ofL_laws4 447) rfl
theorem dL_law_450 : decode cL_law 450 = .ok (.pop, 1) := d_by (d_at odL_laws4 ofL_laws4 450) rfl
theorem dL_law_451 : decode cL_law 451 = .ok (.goto 1354, 3) := d_by (d_at odL_laws4 ofL_laws4 451) rfl
theorem dL_law_454 : decode cL_law 454 = .ok (.aload_n 1, 1) := d_by (d_at odL_laws4 ofL_laws4 454) rfl
theorem dL_law_455 : decode cL_law 455 = .ok (.aload_n 0, 1) := d_by (d_at odL_laws4 ofL_laws4 455) rfl
theorem dL_law_456 : decode cL_law 456 = .ok (.iload 4, 2) := d_by (d_at odL_laws4 ofL_laws4 456) rfl
theorem dL_law_458 : decode cL_law 458 = .ok (.iconst 1, 1) := d_by (d_at odL_laws4 ofL_laws4 458) rfl
theorem dL_law_459 : decode cL_law 459 = .ok (.iadd, 1) := d_by (d_at odL_laws4 ofL_laws4 459) rfl
theorem dL_law_460 : decode cL_law 460 = .ok (.iaload, 1) := d_by (d_at odL_laws4 ofL_laws4 460) rfl
theorem dL_law_461 : decode cL_law 461 = .ok (.invokevirtual 46, 3) := d_by (d_at odL_laws4 ofL_laws4 461) rfl
theorem dL_law_464 : decode cL_law 464 = .ok (.pop, 1) := d_by (d_at odL_laws4 ofL_laws4 464) rfl
theorem dL_law_465 : decode cL_law 465 = .ok (.aload_n 2, 1) := d_by (d_at odL_laws4 ofL_laws4 465) rfl
theorem dL_law_466 : decode cL_law 466 = .ok (.aload_n 0, 1) := d_by (d_at odL_laws4 ofL_laws4 466) rfl
theorem dL_law_467 : decode cL_law 467 = .ok (.iload 4, 2) := d_by (d_at odL_laws4 ofL_laws4 467) rfl
theorem dL_law_469 : decode cL_law 469 = .ok (.iconst 1, 1) := d_by (d_at odL_laws4 ofL_laws4 469) rfl
theorem dL_law_470 : decode cL_law 470 = .ok (.iadd, 1) := d_by (d_at odL_laws4 ofL_laws4 470) rfl
theorem dL_law_471 : decode cL_law 471 = .ok (.iaload, 1) := d_by (d_at odL_laws4 ofL_laws4 471) rfl
theorem dL_law_472 : decode cL_law 472 = .ok (.invokevirtual 49, 3) := d_by (d_at odL_laws4 ofL_laws4 472) rfl
theorem dL_law_475 : decode cL_law 475 = .ok (.pop, 1) := d_by (d_at odL_laws4 ofL_laws4 475) rfl
theorem dL_law_476 : decode cL_law 476 = .ok (.goto 1329, 3) := d_by (d_at odL_laws4 ofL_laws4 476) rfl
theorem dL_law_479 : decode cL_law 479 = .ok (.aload_n 1, 1) := d_by (d_at odL_laws4 ofL_laws4 479) rfl
theorem dL_law_480 : decode cL_law 480 = .ok (.aload_n 0, 1) := d_by (d_at odL_laws4 ofL_laws4 480) rfl
theorem dL_law_481 : decode cL_law 481 = .ok (.iload 4, 2) := d_by (d_at odL_laws4 ofL_laws4 481) rfl
theorem dL_law_483 : decode cL_law 483 = .ok (.iconst 1, 1) := d_by (d_at odL_laws4 ofL_laws4 483) rfl
theorem dL_law_484 : decode cL_law 484 = .ok (.iadd, 1) := d_by (d_at odL_laws4 ofL_laws4 484) rfl
theorem dL_law_485 : decode cL_law 485 = .ok (.iaload, 1) := d_by (d_at odL_laws4 ofL_laws4 485) rfl
theorem dL_law_486 : decode cL_law 486 = .ok (.aload_n 0, 1) := d_by (d_at odL_laws4 ofL_laws4 486) rfl
theorem dL_law_487 : decode cL_law 487 = .ok (.iload 4, 2) := d_by (d_at odL_laws4 ofL_laws4 487) rfl
theorem dL_law_489 : decode cL_law 489 = .ok (.iconst 2, 1) := d_by (d_at odL_laws4 ofL_laws4 489) rfl
theorem dL_law_490 : decode cL_law 490 = .ok (.iadd, 1) := d_by (d_at odL_laws4 ofL_laws4 490) rfl
theorem dL_law_491 : decode cL_law 491 = .ok (.iaload, 1) := d_by (d_at odL_laws4 ofL_laws4 491) rfl
theorem dL_law_492 : decode cL_law 492 = .ok (.invokevirtual 50, 3) := d_by (d_at odL_laws4 ofL_laws4 492) rfl
theorem dL_law_495 : decode cL_law 495 = .ok (.pop, 1) := d_by (d_at odL_laws4 ofL_laws4 495) rfl
theorem dL_law_496 : decode cL_law 496 = .ok (.aload_n 2, 1) := d_by (d_at odL_laws4 ofL_laws4 496) rfl
theorem dL_law_497 : decode cL_law 497 = .ok (.aload_n 0, 1) := d_by (d_at odL_laws4 ofL_laws4 497) rfl
theorem dL_law_498 : decode cL_law 498 = .ok (.iload 4, 2) := d_by (d_at odL_laws4 ofL_laws4 498) rfl
theorem dL_law_500 : decode cL_law 500 = .ok (.iconst 1, 1) := d_by (d_at odL_laws4 ofL_laws4 500) rfl
theorem dL_law_501 : decode cL_law 501 = .ok (.iadd, 1) := d_by (d_at odL_laws4 ofL_laws4 501) rfl
theorem dL_law_502 : decode cL_law 502 = .ok (.iaload, 1) := d_by (d_at odL_laws4 ofL_laws4 502) rfl
theorem dL_law_503 : decode cL_law 503 = .ok (.aload_n 0, 1) := d_by (d_at odL_laws4 ofL_laws4 503) rfl
theorem dL_law_504 : decode cL_law 504 = .ok (.iload 4, 2) := d_by (d_at odL_laws4 ofL_laws4 504) rfl
theorem dL_law_506 : decode cL_law 506 = .ok (.iconst 2, 1) := d_by (d_at odL_laws4 ofL_laws4 506) rfl
theorem dL_law_507 : decode cL_law 507 = .ok (.iadd, 1) := d_by (d_at odL_laws4 ofL_laws4 507) rfl
theorem dL_law_508 : decode cL_law 508 = .ok (.iaload, 1) := d_by (d_at odL_laws4 ofL_laws4 508) rfl
theorem dL_law_509 : decode cL_law 509 = .ok (.invokevirtual 53, 3) := d_by (d_at odL_laws4 ofL_laws4 509) rfl
theorem dL_law_512 : decode cL_law 512 = .ok (.pop, 1) := d_by (d_at odL_laws4 ofL_laws4 512) rfl
theorem dL_law_513 : decode cL_law 513 = .ok (.goto 1292, 3) := d_by (d_at odL_laws4 ofL_laws4 513) rfl
theorem dL_law_516 : decode cL_law 516 = .ok (.aload_n 1, 1) := d_by (d_at odL_laws4 ofL_laws4 516) rfl
theorem dL_law_517 : decode cL_law 517 = .ok (.aload_n 0, 1) := d_by (d_at odL_laws4 ofL_laws4 517) rfl
theorem dL_law_518 : decode cL_law 518 = .ok (.iload 4, 2) := d_by (d_at odL_laws4 ofL_laws4 518) rfl
theorem dL_law_520 : decode cL_law 520 = .ok (.iconst 1, 1) := d_by (d_at odL_laws4 ofL_laws4 520) rfl
theorem dL_law_521 : decode cL_law 521 = .ok (.iadd, 1) := d_by (d_at odL_laws4 ofL_laws4 521) rfl
theorem dL_law_522 : decode cL_law 522 = .ok (.iaload, 1) := d_by (d_at odL_laws4 ofL_laws4 522) rfl
theorem dL_law_523 : decode cL_law 523 = .ok (.aload_n 0, 1) := d_by (d_at odL_laws4 ofL_laws4 523) rfl
theorem dL_law_524 : decode cL_law 524 = .ok (.iload 4, 2) := d_by (d_at odL_laws4 ofL_laws4 524) rfl
theorem dL_law_526 : decode cL_law 526 = .ok (.iconst 2, 1) := d_by (d_at odL_laws4 ofL_laws4 526) rfl
theorem dL_law_527 : decode cL_law 527 = .ok (.iadd, 1) := d_by (d_at odL_laws4 ofL_laws4 527) rfl
theorem dL_law_528 : decode cL_law 528 = .ok (.iaload, 1) := d_by (d_at odL_laws4 ofL_laws4 528) rfl
theorem dL_law_529 : decode cL_law 529 = .ok (.invokevirtual 54, 3) := d_by (d_at odL_laws4 ofL_laws4 529) rfl
theorem dL_law_532 : decode cL_law 532 = .ok (.pop, 1) := d_by (d_at odL_laws4 ofL_laws4 532) rfl
theorem dL_law_533 : decode cL_law 533 = .ok (.aload_n 2, 1) := d_by (d_at odL_laws4 ofL_laws4 533) rfl
theorem dL_law_534 : decode cL_law 534 = .ok (.aload_n 0, 1) := d_by (d_at odL_laws5 ofL_laws5 534) rfl
theorem dL_law_535 : decode cL_law 535 = .ok (.iload 4, 2) := d_by (d_at odL_laws5 ofL_laws5 535) rfl
theorem dL_law_537 : decode cL_law 537 = .ok (.iconst 1, 1) := d_by (d_at odL_laws5 ofL_laws5 537) rfl
theorem dL_law_538 : decode cL_law 538 = .ok (.iadd, 1) := d_by (d_at odL_laws5 ofL_laws5 538) rfl
theorem dL_law_539 : decode cL_law 539 = .ok (.iaload, 1) := d_by (d_at odL_laws5 ofL_laws5 539) rfl
theorem dL_law_540 : decode cL_law 540 = .ok (.aload_n 0, 1) := d_by (d_at odL_laws5 ofL_laws5 540) rfl
theorem dL_law_541 : decode cL_law 541 = .ok (.iload 4, 2) := d_by (d_at odL_laws5 ofL_laws5 541) rfl
theorem dL_law_543 : decode cL_law 543 = .ok (.iconst 2, 1) := d_by (d_at odL_laws5 ofL_laws5 543) rfl
theorem dL_law_544 : decode cL_law 544 = .ok (.iadd, 1) := d_by (d_at odL_laws5 ofL_laws5 544) rfl
theorem dL_law_545 : decode cL_law 545 = .ok (.iaload, 1) := d_by (d_at odL_laws5 ofL_laws5 545) rfl
theorem dL_law_546 : decode cL_law 546 = .ok (.invokevirtual 57, 3) := d_by (d_at odL_laws5 ofL_laws5 546) rfl
theorem dL_law_549 : decode cL_law 549 = .ok (.pop, 1) := d_by (d_at odL_laws5 ofL_laws5 549) rfl
theorem dL_law_550 : decode cL_law 550 = .ok (.goto 1255, 3) := d_by (d_at odL_laws5 ofL_laws5 550) rfl
theorem dL_law_553 : decode cL_law 553 = .ok (.aload_n 1, 1) := d_by (d_at odL_laws5 ofL_laws5 553) rfl
theorem dL_law_554 : decode cL_law 554 = .ok (.aload_n 0, 1) := d_by (d_at odL_laws5 ofL_laws5 554) rfl
theorem dL_law_555 : decode cL_law 555 = .ok (.iload 4, 2) := d_by (d_at odL_laws5 ofL_laws5 555) rfl
theorem dL_law_557 : decode cL_law 557 = .ok (.iconst 1, 1) := d_by (d_at odL_laws5 ofL_laws5 557) rfl
theorem dL_law_558 : decode cL_law 558 = .ok (.iadd, 1) := d_by (d_at odL_laws5 ofL_laws5 558) rfl
theorem dL_law_559 : decode cL_law 559 = .ok (.iaload, 1) := d_by (d_at odL_laws5 ofL_laws5 559) rfl
theorem dL_law_560 : decode cL_law 560 = .ok (.invokevirtual 58, 3) := d_by (d_at odL_laws5 ofL_laws5 560) rfl
theorem dL_law_563 : decode cL_law 563 = .ok (.pop, 1) := d_by (d_at odL_laws5 ofL_laws5 563) rfl
theorem dL_law_564 : decode cL_law 564 = .ok (.aload_n 2, 1) := d_by (d_at odL_laws5 ofL_laws5 564) rfl
theorem dL_law_565 : decode cL_law 565 = .ok (.aload_n 0, 1) := d_by (d_at odL_laws5 ofL_laws5 565) rfl
theorem dL_law_566 : decode cL_law 566 = .ok (.iload 4, 2) := d_by (d_at odL_laws5 ofL_laws5 566) rfl
theorem dL_law_568 : decode cL_law 568 = .ok (.iconst 1, 1) := d_by (d_at odL_laws5 ofL_laws5 568) rfl
theorem dL_law_569 : decode cL_law 569 = .ok (.iadd, 1) := d_by (d_at odL_laws5 ofL_laws5 569) rfl
theorem dL_law_570 : decode cL_law 570 = .ok (.iaload, 1) := d_by (d_at odL_laws5 ofL_laws5 570) rfl
theorem dL_law_571 : decode cL_law 571 = .ok (.invokevirtual 61, 3) := d_by (d_at odL_laws5 ofL_laws5 571) rfl
theorem dL_law_574 : decode cL_law 574 = .ok (.pop, 1) := d_by (d_at odL_laws5 ofL_laws5 574) rfl
theorem dL_law_575 : decode cL_law 575 = .ok (.goto 1230, 3) := d_by (d_at odL_laws5 ofL_laws5 575) rfl
theorem dL_law_578 : decode cL_law 578 = .ok (.aload_n 1, 1) := d_by (d_at odL_laws5 ofL_laws5 578) rfl
theorem dL_law_579 : decode cL_law 579 = .ok (.aload_n 0, 1) := d_by (d_at odL_laws5 ofL_laws5 579) rfl
theorem dL_law_580 : decode cL_law 580 = .ok (.iload 4, 2) := d_by (d_at odL_laws5 ofL_laws5 580) rfl
theorem dL_law_582 : decode cL_law 582 = .ok (.iconst 1, 1) := d_by (d_at odL_laws5 ofL_laws5 582) rfl
theorem dL_law_583 : decode cL_law 583 = .ok (.iadd, 1) := d_by (d_at odL_laws5 ofL_laws5 583) rfl
theorem dL_law_584 : decode cL_law 584 = .ok (.iaload, 1) := d_by (d_at odL_laws5 ofL_laws5 584) rfl
theorem dL_law_585 : decode cL_law 585 = .ok (.aload_n 0, 1) := d_by (d_at odL_laws5 ofL_laws5 585) rfl
theorem dL_law_586 : decode cL_law 586 = .ok (.iload 4, 2) := d_by (d_at odL_laws5 ofL_laws5 586) rfl
theorem dL_law_588 : decode cL_law 588 = .ok (.iconst 2, 1) := d_by (d_at odL_laws5 ofL_laws5 588) rfl
theorem dL_law_589 : decode cL_law 589 = .ok (.iadd, 1) := d_by (d_at odL_laws5 ofL_laws5 589) rfl
theorem dL_law_590 : decode cL_law 590 = .ok (.iaload, 1) := d_by (d_at odL_laws5 ofL_laws5 590) rfl
theorem dL_law_591 : decode cL_law 591 = .ok (.invokevirtual 62, 3) := d_by (d_at odL_laws5 ofL_laws5 591) rfl
theorem dL_law_594 : decode cL_law 594 = .ok (.pop, 1) := d_by (d_at odL_laws5 ofL_laws5 594) rfl
theorem dL_law_595 : decode cL_law 595 = .ok (.aload_n 2, 1) := d_by (d_at odL_laws5 ofL_laws5 595) rfl
theorem dL_law_596 : decode cL_law 596 = .ok (.aload_n 0, 1) := d_by (d_at odL_laws5 ofL_laws5 596) rfl
theorem dL_law_597 : decode cL_law 597 = .ok (.iload 4, 2) := d_by (d_at odL_laws5 ofL_laws5 597) rfl
theorem dL_law_599 : decode cL_law 599 = .ok (.iconst 1, 1) := d_by (d_at odL_laws5 ofL_laws5 599) rfl
theorem dL_law_600 : decode cL_law 600 = .ok (.iadd, 1) := d_by (d_at odL_laws5 ofL_laws5 600) rfl
theorem dL_law_601 : decode cL_law 601 = .ok (.iaload, 1) := d_by (d_at odL_laws5 ofL_laws5 601) rfl
theorem dL_law_602 : decode cL_law 602 = .ok (.aload_n 0, 1) := d_by (d_at odL_laws5 ofL_laws5 602) rfl
theorem dL_law_603 : decode cL_law 603 = .ok (.iload 4, 2) := d_by (d_at odL_laws5 ofL_laws5 603) rfl
theorem dL_law_605 : decode cL_law 605 = .ok (.iconst 2, 1) := d_by (d_at odL_laws5 ofL_laws5 605) rfl
theorem dL_law_606 : decode cL_law 606 = .ok (.iadd, 1) := d_by (d_at odL_laws5 ofL_laws5 606) rfl
theorem dL_law_607 : decode cL_law 607 = .ok (.iaload, 1) := d_by (d_at odL_laws5 ofL_laws5 607) rfl
theorem dL_law_608 : decode cL_law 608 = .ok (.invokevirtual 65, 3) := d_by (d_at odL_laws5 ofL_laws5 608) rfl
theorem dL_law_611 : decode cL_law 611 = .ok (.pop, 1) := d_by (d_at odL_laws5 ofL_laws5 611) rfl
theorem dL_law_612 : decode cL_law 612 = .ok (.goto 1193, 3) := d_by (d_at odL_laws5 ofL_laws5 612) rfl
theorem dL_law_615 : decode cL_law 615 = .ok (.aload_n 1, 1) := d_by (d_at odL_laws5 ofL_laws5 615) rfl
theorem dL_law_616 : decode cL_law 616 = .ok (.aload_n 0, 1) := d_by (d_at odL_laws5 ofL_laws5 616) rfl
theorem dL_law_617 : decode cL_law 617 = .ok (.iload 4, 2) := d_by (d_at odL_laws5 ofL_laws5 617) rfl
theorem dL_law_619 : decode cL_law 619 = .ok (.iconst 1, 1) := d_by (d_at odL_laws5 ofL_laws5 619) rfl
theorem dL_law_620 : decode cL_law 620 = .ok (.iadd, 1) := d_by (d_at odL_laws5 ofL_laws5 620) rfl
theorem dL_law_621 : decode cL_law 621 = .ok (.iaload, 1) := d_by (d_at odL_laws5 ofL_laws5 621) rfl
theorem dL_law_622 : decode cL_law 622 = .ok (.invokevirtual 66, 3) := d_by (d_at odL_laws5 ofL_laws5 622) rfl
theorem dL_law_625 : decode cL_law 625 = .ok (.pop, 1) := d_by (d_at odL_laws5 ofL_laws5 625) rfl
theorem dL_law_626 : decode cL_law 626 = .ok (.aload_n 2, 1) := d_by (d_at odL_laws5 ofL_laws5 626) rfl
theorem dL_law_627 : decode cL_law 627 = .ok (.aload_n 0, 1) := d_by (d_at odL_laws5 ofL_laws5 627) rfl
theorem dL_law_628 : decode cL_law 628 = .ok (.iload 4, 2) := d_by (d_at odL_laws5 ofL_laws5 628) rfl
theorem dL_law_630 : decode cL_law 630 = .ok (.iconst 1, 1) := d_by (d_at odL_laws5 ofL_laws5 630) rfl
theorem dL_law_631 : decode cL_law 631 = .ok (.iadd, 1) := d_by (d_at odL_laws5 ofL_laws5 631) rfl
theorem dL_law_632 : decode cL_law 632 = .ok (.iaload, 1) := d_by (d_at odL_laws5 ofL_laws5 632) rfl
theorem dL_law_633 : decode cL_law 633 = .ok (.invokevirtual 69, 3) := d_by (d_at odL_laws5 ofL_laws5 633) rfl
theorem dL_law_636 : decode cL_law 636 = .ok (.pop, 1) := d_by (d_at odL_laws5 ofL_laws5 636) rfl
theorem dL_law_637 : decode cL_law 637 = .ok (.goto 1168, 3) := d_by (d_at odL_laws5 ofL_laws5 637) rfl
theorem dL_law_640 : decode cL_law 640 = .ok (.aload_n 1, 1) := d_by (d_at odL_laws5 ofL_laws5 640) rfl
theorem dL_law_641 : decode cL_law 641 = .ok (.aload_n 0, 1) := d_by (d_at odL_laws5 ofL_laws5 641) rfl
theorem dL_law_642 : decode cL_law 642 = .ok (.iload 4, 2) := d_by (d_at odL_laws5 ofL_laws5 642) rfl
theorem dL_law_644 : decode cL_law 644 = .ok (.iconst 1, 1) := d_by (d_at odL_laws5 ofL_laws5 644) rfl
theorem dL_law_645 : decode cL_law 645 = .ok (.iadd, 1) := d_by (d_at odL_laws5 ofL_laws5 645) rfl
theorem dL_law_646 : decode cL_law 646 = .ok (.iaload, 1) := d_by (d_at odL_laws5 ofL_laws5 646) rfl
theorem dL_law_647 : decode cL_law 647 = .ok (.aload_n 0, 1) := d_by (d_at odL_laws5 ofL_laws5 647) rfl
theorem dL_law_648 : decode cL_law 648 = .ok (.iload 4, 2) := d_by (d_at odL_laws5 ofL_laws5 648) rfl
theorem dL_law_650 : decode cL_law 650 = .ok (.iconst 2, 1) := d_by (d_at odL_laws5 ofL_laws5 650) rfl
theorem dL_law_651 : decode cL_law 651 = .ok (.iadd, 1) := d_by (d_at odL_laws5 ofL_laws5 651) rfl
theorem dL_law_652 : decode cL_law 652 = .ok (.iaload, 1) := d_by (d_at odL_laws5 ofL_laws5 652) rfl
theorem dL_law_653 : decode cL_law 653 = .ok (.aload_n 0, 1) := d_by (d_at odL_laws5 ofL_laws5 653) rfl
theorem dL_law_654 : decode cL_law 654 = .ok (.iload 4, 2) := d_by (d_at odL_laws5 ofL_laws5 654) rfl
theorem dL_law_656 : decode cL_law 656 = .ok (.iconst 3, 1) := d_by (d_at odL_laws5 ofL_laws5 656) rfl
theorem dL_law_657 : decode cL_law 657 = .ok (.iadd, 1) := d_by (d_at odL_laws5 ofL_laws5 657) rfl
theorem dL_law_658 : decode cL_law 658 = .ok (.iaload, 1) := d_by (d_at odL_laws5 ofL_laws5 658) rfl
theorem dL_law_659 : decode cL_law 659 = .ok (.invokevirtual 70, 3) := d_by (d_at odL_laws5 ofL_laws5 659) rfl
theorem dL_law_662 : decode cL_law 662 = .ok (.pop, 1) := d_by (d_at odL_laws5 ofL_laws5 662) rfl
theorem dL_law_663 : decode cL_law 663 = .ok (.aload_n 2, 1) := d_by (d_at odL_laws5 ofL_laws5 663) rfl
theorem dL_law_664 : decode cL_law 664 = .ok (.aload_n 0, 1) := d_by (d_at odL_laws5 ofL_laws5 664) rfl
theorem dL_law_665 : decode cL_law 665 = .ok (.iload 4, 2) := d_by (d_at odL_laws5 ofL_laws5 665) rfl
theorem dL_law_667 : decode cL_law 667 = .ok (.iconst 1, 1) := d_by (d_at odL_laws5 ofL_laws5 667) rfl
theorem dL_law_668 : decode cL_law 668 = .ok (.iadd, 1) := d_by (d_at odL_laws5 ofL_laws5 668) rfl
theorem dL_law_669 : decode cL_law 669 = .ok (.iaload, 1) := d_by (d_at odL_laws5 ofL_laws5 669) rfl
theorem dL_law_670 : decode cL_law 670 = .ok (.aload_n 0, 1) := d_by (d_at odL_laws5 ofL_laws5 670) rfl
theorem dL_law_671 : decode cL_law 671 = .ok (.iload 4, 2) := d_by (d_at odL_laws5 ofL_laws5 671) rfl
theorem dL_law_673 : decode cL_law 673 = .ok (.iconst 2, 1) := d_by (d_at odL_laws5 ofL_laws5 673) rfl
theorem dL_law_674 : decode cL_law 674 = .ok (.iadd, 1) := d_by (d_at odL_laws5 ofL_laws5 674) rfl
theorem dL_law_675 : decode cL_law 675 = .ok (.iaload, 1) := d_by (d_at odL_laws5 ofL_laws5 675) rfl
theorem dL_law_676 : decode cL_law 676 = .ok (.aload_n 0, 1) := d_by (d_at odL_laws5 ofL_laws5 676) rfl
theorem dL_law_677 : decode cL_law 677 = .ok (.iload 4, 2) := d_by (d_at odL_laws5 ofL_laws5 677) rfl
theorem dL_law_679 : decode cL_law 679 = .ok (.iconst 3, 1) := d_by (d_at odL_laws5 ofL_laws5 679) rfl
theorem dL_law_680 : decode cL_law 680 = .ok (.iadd, 1) := d_by (d_at odL_laws5 ofL_laws5 680) rfl
theorem dL_law_681 : decode cL_law 681 = .ok (.iaload, 1) := d_by (d_at odL_laws5 ofL_laws5 681) rfl
theorem dL_law_682 : decode cL_law 682 = .ok (.invokevirtual 74, 3) := d_by (d_at odL_laws5 ofL_laws5 682) rfl
theorem dL_law_685 : decode cL_law 685 = .ok (.pop, 1) := d_by (d_at odL_laws5 ofL_laws5 685) rfl
theorem dL_law_686 : decode cL_law 686 = .ok (.goto 1119, 3) := d_by (d_at odL_laws5 ofL_laws5 686) rfl
theorem dL_law_689 : decode cL_law 689 = .ok (.aload_n 1, 1) := d_by (d_at odL_laws5 ofL_laws5 689) rfl
theorem dL_law_690 : decode cL_law 690 = .ok (.aload_n 0, 1) := d_by (d_at odL_laws5 ofL_laws5 690) rfl
theorem dL_law_691 : decode cL_law 691 = .ok (.iload 4, 2) := d_by (d_at odL_laws5 ofL_laws5 691) rfl
theorem dL_law_693 : decode cL_law 693 = .ok (.iconst 1, 1) := d_by (d_at odL_laws5 ofL_laws5 693) rfl
theorem dL_law_694 : decode cL_law 694 = .ok (.iadd, 1) := d_by (d_at odL_laws5 ofL_laws5 694) rfl
theorem dL_law_695 : decode cL_law 695 = .ok (.iaload, 1) := d_by (d_at odL_laws5 ofL_laws5 695) rfl
theorem dL_law_696 : decode cL_law 696 = .ok (.invokevirtual 75, 3) := d_by (d_at odL_laws5 ofL_laws5 696) rfl
theorem dL_law_699 : decode cL_law 699 = .ok (.aload_n 2, 1) := d_by (d_at odL_laws5 ofL_laws5 699) rfl
theorem dL_law_700 : decode cL_law 700 = .ok (.aload_n 0, 1) := d_by (d_at odL_laws5 ofL_laws5 700) rfl
theorem dL_law_701 : decode cL_law 701 = .ok (.iload 4, 2) := d_by (d_at odL_laws5 ofL_laws5 701) rfl
theorem dL_law_703 : decode cL_law 703 = .ok (.iconst 1, 1) := d_by (d_at odL_laws5 ofL_laws5 703) rfl
theorem dL_law_704 : decode cL_law 704 = .ok (.iadd, 1) := d_by (d_at odL_laws5 ofL_laws5 704) rfl
theorem dL_law_705 : decode cL_law 705 = .ok (.iaload, 1) := d_by (d_at odL_laws5 ofL_laws5 705) rfl
theorem dL_law_706 : decode cL_law 706 = .ok (.invokevirtual 78, 3) := d_by (d_at odL_laws5 ofL_laws5 706) rfl
theorem dL_law_709 : decode cL_law 709 = .ok (.if_icmp .eq 1096, 3) := d_by (d_at odL_laws5 ofL_laws5 709) rfl
theorem dL_law_714 : decode cL_law 714 = .ok (.aload_n 1, 1) := d_by (d_at odL_laws5 ofL_laws5 714) rfl
theorem dL_law_715 : decode cL_law 715 = .ok (.aload_n 0, 1) := d_by (d_at odL_laws5 ofL_laws5 715) rfl
theorem dL_law_716 : decode cL_law 716 = .ok (.iload 4, 2) := d_by (d_at odL_laws5 ofL_laws5 716) rfl
theorem dL_law_718 : decode cL_law 718 = .ok (.iconst 1, 1) := d_by (d_at odL_laws5 ofL_laws5 718) rfl
theorem dL_law_719 : decode cL_law 719 = .ok (.iadd, 1) := d_by (d_at odL_laws5 ofL_laws5 719) rfl
theorem dL_law_720 : decode cL_law 720 = .ok (.iaload, 1) := d_by (d_at odL_laws5 ofL_laws5 720) rfl
theorem dL_law_721 : decode cL_law 721 = .ok (.aload_n 0, 1) := d_by (d_at odL_laws5 ofL_laws5 721) rfl
theorem dL_law_722 : decode cL_law 722 = .ok (.iload 4, 2) := d_by (d_at odL_laws5 ofL_laws5 722) rfl
theorem dL_law_724 : decode cL_law 724 = .ok (.iconst 2, 1) := d_by (d_at odL_laws5 ofL_laws5 724) rfl
theorem dL_law_725 : decode cL_law 725 = .ok (.iadd, 1) := d_by (d_at odL_laws5 ofL_laws5 725) rfl
theorem dL_law_726 : decode cL_law 726 = .ok (.iaload, 1) := d_by (d_at odL_laws5 ofL_laws5 726) rfl
theorem dL_law_727 : decode cL_law 727 = .ok (.invokevirtual 79, 3) := d_by (d_at odL_laws5 ofL_laws5 727) rfl
theorem dL_law_730 : decode cL_law 730 = .ok (.pop, 1) := d_by (d_at odL_laws5 ofL_laws5 730) rfl
theorem dL_law_731 : decode cL_law 731 = .ok (.aload_n 2, 1) := d_by (d_at odL_laws5 ofL_laws5 731) rfl
theorem dL_law_732 : decode cL_law 732 = .ok (.aload_n 0, 1) := d_by (d_at odL_laws5 ofL_laws5 732) rfl
theorem dL_law_733 : decode cL_law 733 = .ok (.iload 4, 2) := d_by (d_at odL_laws5 ofL_laws5 733) rfl
theorem dL_law_735 : decode cL_law 735 = .ok (.iconst 1, 1) := d_by (d_at odL_laws5 ofL_laws5 735) rfl
theorem dL_law_736 : decode cL_law 736 = .ok (.iadd, 1) := d_by (d_at odL_laws5 ofL_laws5 736) rfl
theorem dL_law_737 : decode cL_law 737 = .ok (.iaload, 1) := d_by (d_at odL_laws5 ofL_laws5 737) rfl
theorem dL_law_738 : decode cL_law 738 = .ok (.aload_n 0, 1) := d_by (d_at odL_laws5 ofL_laws5 738) rfl
theorem dL_law_739 : decode cL_law 739 = .ok (.iload 4, 2) := d_by (d_at odL_laws5 ofL_laws5 739) rfl
theorem dL_law_741 : decode cL_law 741 = .ok (.iconst 2, 1) := d_by (d_at odL_laws5 ofL_laws5 741) rfl
theorem dL_law_742 : decode cL_law 742 = .ok (.iadd, 1) := d_by (d_at odL_laws5 ofL_laws5 742) rfl
theorem dL_law_743 : decode cL_law 743 = .ok (.iaload, 1) := d_by (d_at odL_laws5 ofL_laws5 743) rfl
theorem dL_law_744 : decode cL_law 744 = .ok (.invokevirtual 82, 3) := d_by (d_at odL_laws5 ofL_laws5 744) rfl
theorem dL_law_747 : decode cL_law 747 = .ok (.pop, 1) := d_by (d_at odL_laws5 ofL_laws5 747) rfl
theorem dL_law_748 : decode cL_law 748 = .ok (.goto 1057, 3) := d_by (d_at odL_laws5 ofL_laws5 748) rfl
theorem dL_law_751 : decode cL_law 751 = .ok (.aload_n 1, 1) := d_by (d_at odL_laws5 ofL_laws5 751) rfl
theorem dL_law_752 : decode cL_law 752 = .ok (.invokevirtual 83, 3) := d_by (d_at odL_laws5 ofL_laws5 752) rfl
theorem dL_law_755 : decode cL_law 755 = .ok (.pop, 1) := d_by (d_at odL_laws5 ofL_laws5 755) rfl
theorem dL_law_756 : decode cL_law 756 = .ok (.aload_n 2, 1) := d_by (d_at odL_laws5 ofL_laws5 756) rfl
theorem dL_law_757 : decode cL_law 757 = .ok (.invokevirtual 86, 3) := d_by (d_at odL_laws5 ofL_laws5 757) rfl
theorem dL_law_760 : decode cL_law 760 = .ok (.pop, 1) := d_by (d_at odL_laws5 ofL_laws5 760) rfl
theorem dL_law_761 : decode cL_law 761 = .ok (.goto 1044, 3) := d_by (d_at odL_laws5 ofL_laws5 761) rfl
theorem dL_law_764 : decode cL_law 764 = .ok (.aload_n 1, 1) := d_by (d_at odL_laws5 ofL_laws5 764) rfl
theorem dL_law_765 : decode cL_law 765 = .ok (.invokevirtual 87, 3) := d_by (d_at odL_laws5 ofL_laws5 765) rfl
theorem dL_law_768 : decode cL_law 768 = .ok (.pop, 1) := d_by (d_at odL_laws5 ofL_laws5 768) rfl
theorem dL_law_769 : decode cL_law 769 = .ok (.aload_n 2, 1) := d_by (d_at odL_laws5 ofL_laws5 769) rfl
theorem dL_law_770 : decode cL_law 770 = .ok (.invokevirtual 90, 3) := d_by (d_at odL_laws5 ofL_laws5 770) rfl
theorem dL_law_773 : decode cL_law 773 = .ok (.pop, 1) := d_by (d_at odL_laws5 ofL_laws5 773) rfl
theorem dL_law_774 : decode cL_law 774 = .ok (.goto 1031, 3) := d_by (d_at odL_laws5 ofL_laws5 774) rfl
theorem dL_law_777 : decode cL_law 777 = .ok (.aload_n 1, 1) := d_by (d_at odL_laws5 ofL_laws5 777) rfl
theorem dL_law_778 : decode cL_law 778 = .ok (.aload_n 0, 1) := d_by (d_at odL_laws5 ofL_laws5 778) rfl
theorem dL_law_779 : decode cL_law 779 = .ok (.iload 4, 2) := d_by (d_at odL_laws5 ofL_laws5 779) rfl
theorem dL_law_781 : decode cL_law 781 = .ok (.iconst 1, 1) := d_by (d_at odL_laws5 ofL_laws5 781) rfl
theorem dL_law_782 : decode cL_law 782 = .ok (.iadd, 1) := d_by (d_at odL_laws5 ofL_laws5 782) rfl
theorem dL_law_783 : decode cL_law 783 = .ok (.iaload, 1) := d_by (d_at odL_laws5 ofL_laws5 783) rfl
theorem dL_law_784 : decode cL_law 784 = .ok (.aload_n 0, 1) := d_by (d_at odL_laws5 ofL_laws5 784) rfl
theorem dL_law_785 : decode cL_law 785 = .ok (.iload 4, 2) := d_by (d_at odL_laws5 ofL_laws5 785) rfl
theorem dL_law_787 : decode cL_law 787 = .ok (.iconst 2, 1) := d_by (d_at odL_laws5 ofL_laws5 787) rfl
theorem dL_law_788 : decode cL_law 788 = .ok (.iadd, 1) := d_by (d_at odL_laws5 ofL_laws5 788) rfl
theorem dL_law_789 : decode cL_law 789 = .ok (.iaload, 1) := d_by (d_at odL_laws5 ofL_laws5 789) rfl
theorem dL_law_790 : decode cL_law 790 = .ok (.invokevirtual 91, 3) := d_by (d_at odL_laws5 ofL_laws5 790) rfl
theorem dL_law_793 : decode cL_law 793 = .ok (.pop, 1) := d_by (d_at odL_laws5 ofL_laws5 793) rfl
theorem dL_law_794 : decode cL_law 794 = .ok (.aload_n 2, 1) := d_by (d_at odL_laws5 ofL_laws5 794) rfl
theorem dL_law_795 : decode cL_law 795 = .ok (.aload_n 0, 1) := d_by (d_at odL_laws5 ofL_laws5 795) rfl
theorem dL_law_796 : decode cL_law 796 = .ok (.iload 4, 2) := d_by (d_at odL_laws5 ofL_laws5 796) rfl
theorem dL_law_798 : decode cL_law 798 = .ok (.iconst 1, 1) := d_by (d_at odL_laws5 ofL_laws5 798) rfl
theorem dL_law_799 : decode cL_law 799 = .ok (.iadd, 1) := d_by (d_at odL_laws5 ofL_laws5 799) rfl
theorem dL_law_800 : decode cL_law 800 = .ok (.iaload, 1) := d_by (d_at odL_laws5 ofL_laws5 800) rfl
theorem dL_law_801 : decode cL_law 801 = .ok (.aload_n 0, 1) := d_by (d_at odL_laws5 ofL_laws5 801) rfl
theorem dL_law_802 : decode cL_law 802 = .ok (.iload 4, 2) := d_by (d_at odL_laws5 ofL_laws5 802) rfl
theorem dL_law_804 : decode cL_law 804 = .ok (.iconst 2, 1) := d_by (d_at odL_laws5 ofL_laws5 804) rfl
theorem dL_law_805 : decode cL_law 805 = .ok (.iadd, 1) := d_by (d_at odL_laws5 ofL_laws5 805) rfl
theorem dL_law_806 : decode cL_law 806 = .ok (.iaload, 1) := d_by (d_at odL_laws5 ofL_laws5 806) rfl
theorem dL_law_807 : decode cL_law 807 = .ok (.invokevirtual 94, 3) := d_by (d_at odL_laws5 ofL_laws5 807) rfl
theorem dL_law_810 : decode cL_law 810 = .ok (.pop, 1) := d_by (d_at odL_laws5 ofL_laws5 810) rfl
theorem dL_law_811 : decode cL_law 811 = .ok (.goto 994, 3) := d_by (d_at odL_laws5 ofL_laws5 811) rfl
theorem dL_law_814 : decode cL_law 814 = .ok (.aload_n 1, 1) := d_by (d_at odL_laws5 ofL_laws5 814) rfl
theorem dL_law_815 : decode cL_law 815 = .ok (.aload_n 0, 1) := d_by (d_at odL_laws5 ofL_laws5 815) rfl
theorem dL_law_816 : decode cL_law 816 = .ok (.iload 4, 2) := d_by (d_at odL_laws5 ofL_laws5 816) rfl
theorem dL_law_818 : decode cL_law 818 = .ok (.iconst 1, 1) := d_by (d_at odL_laws5 ofL_laws5 818) rfl
theorem dL_law_819 : decode cL_law 819 = .ok (.iadd, 1) := d_by (d_at odL_laws6 ofL_laws6 819) rfl
theorem dL_law_820 : decode cL_law 820 = .ok (.iaload, 1) := d_by (d_at odL_laws6 ofL_laws6 820) rfl
theorem dL_law_821 : decode cL_law 821 = .ok (.aload_n 0, 1) := d_by (d_at odL_laws6 ofL_laws6 821) rfl
theorem dL_law_822 : decode cL_law 822 = .ok (.iload 4, 2) := d_by (d_at odL_laws6 ofL_laws6 822) rfl
theorem dL_law_824 : decode cL_law 824 = .ok (.iconst 2, 1) := d_by (d_at odL_laws6 ofL_laws6 824) rfl
theorem dL_law_825 : decode cL_law 825 = .ok (.iadd, 1) := d_by (d_at odL_laws6 ofL_laws6 825) rfl
theorem dL_law_826 : decode cL_law 826 = .ok (.iaload, 1) := d_by (d_at odL_laws6 ofL_laws6 826) rfl
theorem dL_law_827 : decode cL_law 827 = .ok (.invokevirtual 95, 3) := d_by (d_at odL_laws6 ofL_laws6 827) rfl
theorem dL_law_830 : decode cL_law 830 = .ok (.pop, 1) := d_by (d_at odL_laws6 ofL_laws6 830) rfl
theorem dL_law_831 : decode cL_law 831 = .ok (.aload_n 2, 1) := d_by (d_at odL_laws6 ofL_laws6 831) rfl
theorem dL_law_832 : decode cL_law 832 = .ok (.aload_n 0, 1) := d_by (d_at odL_laws6 ofL_laws6 832) rfl
theorem dL_law_833 : decode cL_law 833 = .ok (.iload 4, 2) := d_by (d_at odL_laws6 ofL_laws6 833) rfl
theorem dL_law_835 : decode cL_law 835 = .ok (.iconst 1, 1) := d_by (d_at odL_laws6 ofL_laws6 835) rfl
theorem dL_law_836 : decode cL_law 836 = .ok (.iadd, 1) := d_by (d_at odL_laws6 ofL_laws6 836) rfl
theorem dL_law_837 : decode cL_law 837 = .ok (.iaload, 1) := d_by (d_at odL_laws6 ofL_laws6 837) rfl
theorem dL_law_838 : decode cL_law 838 = .ok (.aload_n 0, 1) := d_by (d_at odL_laws6 ofL_laws6 838) rfl
theorem dL_law_839 : decode cL_law 839 = .ok (.iload 4, 2) := d_by (d_at odL_laws6 ofL_laws6 839) rfl
theorem dL_law_841 : decode cL_law 841 = .ok (.iconst 2, 1) := d_by (d_at odL_laws6 ofL_laws6 841) rfl
theorem dL_law_842 : decode cL_law 842 = .ok (.iadd, 1) := d_by (d_at odL_laws6 ofL_laws6 842) rfl
theorem dL_law_843 : decode cL_law 843 = .ok (.iaload, 1) := d_by (d_at odL_laws6 ofL_laws6 843) rfl
theorem dL_law_844 : decode cL_law 844 = .ok (.invokevirtual 98, 3) := d_by (d_at odL_laws6 ofL_laws6 844) rfl
theorem dL_law_847 : decode cL_law 847 = .ok (.pop, 1) := d_by (d_at odL_laws6 ofL_laws6 847) rfl
theorem dL_law_848 : decode cL_law 848 = .ok (.goto 957, 3) := d_by (d_at odL_laws6 ofL_laws6 848) rfl
theorem dL_law_851 : decode cL_law 851 = .ok (.aload_n 1, 1) := d_by (d_at odL_laws6 ofL_laws6 851) rfl
theorem dL_law_852 : decode cL_law 852 = .ok (.aload_n 0, 1) := d_by (d_at odL_laws6 ofL_laws6 852) rfl
theorem dL_law_853 : decode cL_law 853 = .ok (.iload 4, 2) := d_by (d_at odL_laws6 ofL_laws6 853) rfl
theorem dL_law_855 : decode cL_law 855 = .ok (.iconst 1, 1) := d_by (d_at odL_laws6 ofL_laws6 855) rfl
theorem dL_law_856 : decode cL_law 856 = .ok (.iadd, 1) := d_by (d_at odL_laws6 ofL_laws6 856) rfl
theorem dL_law_857 : decode cL_law 857 = .ok (.iaload, 1) := d_by (d_at odL_laws6 ofL_laws6 857) rfl
theorem dL_law_858 : decode cL_law 858 = .ok (.invokevirtual 99, 3) := d_by (d_at odL_laws6 ofL_laws6 858) rfl
theorem dL_law_861 : decode cL_law 861 = .ok (.pop, 1) := d_by (d_at odL_laws6 ofL_laws6 861) rfl
theorem dL_law_862 : decode cL_law 862 = .ok (.aload_n 2, 1) := d_by (d_at odL_laws6 ofL_laws6 862) rfl
theorem dL_law_863 : decode cL_law 863 = .ok (.aload_n 0, 1) := d_by (d_at odL_laws6 ofL_laws6 863) rfl
theorem dL_law_864 : decode cL_law 864 = .ok (.iload 4, 2) := d_by (d_at odL_laws6 ofL_laws6 864) rfl
theorem dL_law_866 : decode cL_law 866 = .ok (.iconst 1, 1) := d_by (d_at odL_laws6 ofL_laws6 866) rfl
theorem dL_law_867 : decode cL_law 867 = .ok (.iadd, 1) := d_by (d_at odL_laws6 ofL_laws6 867) rfl
theorem dL_law_868 : decode cL_law 868 = .ok (.iaload, 1) := d_by (d_at odL_laws6 ofL_laws6 868) rfl
theorem dL_law_869 : decode cL_law 869 = .ok (.invokevirtual 102, 3) := d_by (d_at odL_laws6 ofL_laws6 869) rfl
theorem dL_law_872 : decode cL_law 872 = .ok (.pop, 1) := d_by (d_at odL_laws6 ofL_laws6 872) rfl
theorem dL_law_873 : decode cL_law 873 = .ok (.goto 932, 3) := d_by (d_at odL_laws6 ofL_laws6 873) rfl
theorem dL_law_876 : decode cL_law 876 = .ok (.aload_n 1, 1) := d_by (d_at odL_laws6 ofL_laws6 876) rfl
theorem dL_law_877 : decode cL_law 877 = .ok (.aload_n 0, 1) := d_by (d_at odL_laws6 ofL_laws6 877) rfl
theorem dL_law_878 : decode cL_law 878 = .ok (.iload 4, 2) := d_by (d_at odL_laws6 ofL_laws6 878) rfl
theorem dL_law_880 : decode cL_law 880 = .ok (.iconst 1, 1) := d_by (d_at odL_laws6 ofL_laws6 880) rfl
theorem dL_law_881 : decode cL_law 881 = .ok (.iadd, 1) := d_by (d_at odL_laws6 ofL_laws6 881) rfl
theorem dL_law_882 : decode cL_law 882 = .ok (.iaload, 1) := d_by (d_at odL_laws6 ofL_laws6 882) rfl
theorem dL_law_883 : decode cL_law 883 = .ok (.invokevirtual 103, 3) := d_by (d_at odL_laws6 ofL_laws6 883) rfl
theorem dL_law_886 : decode cL_law 886 = .ok (.pop, 1) := d_by (d_at odL_laws6 ofL_laws6 886) rfl
theorem dL_law_887 : decode cL_law 887 = .ok (.aload_n 2, 1) := d_by (d_at odL_laws6 ofL_laws6 887) rfl
theorem dL_law_888 : decode cL_law 888 = .ok (.aload_n 0, 1) := d_by (d_at odL_laws6 ofL_laws6 888) rfl
theorem dL_law_889 : decode cL_law 889 = .ok (.iload 4, 2) := d_by (d_at odL_laws6 ofL_laws6 889) rfl
theorem dL_law_891 : decode cL_law 891 = .ok (.iconst 1, 1) := d_by (d_at odL_laws6 ofL_laws6 891) rfl
theorem dL_law_892 : decode cL_law 892 = .ok (.iadd, 1) := d_by (d_at odL_laws6 ofL_laws6 892) rfl
theorem dL_law_893 : decode cL_law 893 = .ok (.iaload, 1) := d_by (d_at odL_laws6 ofL_laws6 893) rfl
theorem dL_law_894 : decode cL_law 894 = .ok (.invokevirtual 106, 3) := d_by (d_at odL_laws6 ofL_laws6 894) rfl
theorem dL_law_897 : decode cL_law 897 = .ok (.pop, 1) := d_by (d_at odL_laws6 ofL_laws6 897) rfl
theorem dL_law_898 : decode cL_law 898 = .ok (.goto 907, 3) := d_by (d_at odL_laws6 ofL_laws6 898) rfl
theorem dL_law_901 : decode cL_law 901 = .ok (.aload_n 1, 1) := d_by (d_at odL_laws6 ofL_laws6 901) rfl
theorem dL_law_902 : decode cL_law 902 = .ok (.aload_n 0, 1) := d_by (d_at odL_laws6 ofL_laws6 902) rfl
theorem dL_law_903 : decode cL_law 903 = .ok (.iload 4, 2) := d_by (d_at odL_laws6 ofL_laws6 903) rfl
theorem dL_law_905 : decode cL_law 905 = .ok (.iconst 1, 1) := d_by (d_at odL_laws6 ofL_laws6 905) rfl
theorem dL_law_906 : decode cL_law 906 = .ok (.iadd, 1) := d_by (d_at odL_laws6 ofL_laws6 906) rfl
theorem dL_law_907 : decode cL_law 907 = .ok (.iaload, 1) := d_by (d_at odL_laws6 ofL_laws6 907) rfl
theorem dL_law_908 : decode cL_law 908 = .ok (.aload_n 0, 1) := d_by (d_at odL_laws6 ofL_laws6 908) rfl
theorem dL_law_909 : decode cL_law 909 = .ok (.iload 4, 2) := d_by (d_at odL_laws6 ofL_laws6 909) rfl
theorem dL_law_911 : decode cL_law 911 = .ok (.iconst 2, 1) := d_by (d_at odL_laws6 ofL_laws6 911) rfl
theorem dL_law_912 : decode cL_law 912 = .ok (.iadd, 1) := d_by (d_at odL_laws6 ofL_laws6 912) rfl
theorem dL_law_913 : decode cL_law 913 = .ok (.iaload, 1) := d_by (d_at odL_laws6 ofL_laws6 913) rfl
theorem dL_law_914 : decode cL_law 914 = .ok (.invokevirtual 107, 3) := d_by (d_at odL_laws6 ofL_laws6 914) rfl
theorem dL_law_917 : decode cL_law 917 = .ok (.pop, 1) := d_by (d_at odL_laws6 ofL_laws6 917) rfl
theorem dL_law_918 : decode cL_law 918 = .ok (.aload_n 2, 1) := d_by (d_at odL_laws6 ofL_laws6 918) rfl
theorem dL_law_919 : decode cL_law 919 = .ok (.aload_n 0, 1) := d_by (d_at odL_laws6 ofL_laws6 919) rfl
theorem dL_law_920 : decode cL_law 920 = .ok (.iload 4, 2) := d_by (d_at odL_laws6 ofL_laws6 920) rfl
theorem dL_law_922 : decode cL_law 922 = .ok (.iconst 1, 1) := d_by (d_at odL_laws6 ofL_laws6 922) rfl
theorem dL_law_923 : decode cL_law 923 = .ok (.iadd, 1) := d_by (d_at odL_laws6 ofL_laws6 923) rfl
theorem dL_law_924 : decode cL_law 924 = .ok (.iaload, 1) := d_by (d_at odL_laws6 ofL_laws6 924) rfl
theorem dL_law_925 : decode cL_law 925 = .ok (.aload_n 0, 1) := d_by (d_at odL_laws6 ofL_laws6 925) rfl
theorem dL_law_926 : decode cL_law 926 = .ok (.iload 4, 2) := d_by (d_at odL_laws6 ofL_laws6 926) rfl
theorem dL_law_928 : decode cL_law 928 = .ok (.iconst 2, 1) := d_by (d_at odL_laws6 ofL_laws6 928) rfl
theorem dL_law_929 : decode cL_law 929 = .ok (.iadd, 1) := d_by (d_at odL_laws6 ofL_laws6 929) rfl
theorem dL_law_930 : decode cL_law 930 = .ok (.iaload, 1) := d_by (d_at odL_laws6 ofL_laws6 930) rfl
theorem dL_law_931 : decode cL_law 931 = .ok (.invokevirtual 110, 3) := d_by (d_at odL_laws6 ofL_laws6 931) rfl
theorem dL_law_934 : decode cL_law 934 = .ok (.pop, 1) := d_by (d_at odL_laws6 ofL_laws6 934) rfl
theorem dL_law_935 : decode cL_law 935 = .ok (.goto 870, 3) := d_by (d_at odL_laws6 ofL_laws6 935) rfl
theorem dL_law_938 : decode cL_law 938 = .ok (.aload_n 1, 1) := d_by (d_at odL_laws6 ofL_laws6 938) rfl
theorem dL_law_939 : decode cL_law 939 = .ok (.aload_n 0, 1) := d_by (d_at odL_laws6 ofL_laws6 939) rfl
theorem dL_law_940 : decode cL_law 940 = .ok (.iload 4, 2) := d_by (d_at odL_laws6 ofL_laws6 940) rfl
theorem dL_law_942 : decode cL_law 942 = .ok (.iconst 1, 1) := d_by (d_at odL_laws6 ofL_laws6 942) rfl
theorem dL_law_943 : decode cL_law 943 = .ok (.iadd, 1) := d_by (d_at odL_laws6 ofL_laws6 943) rfl
theorem dL_law_944 : decode cL_law 944 = .ok (.iaload, 1) := d_by (d_at odL_laws6 ofL_laws6 944) rfl
theorem dL_law_945 : decode cL_law 945 = .ok (.invokevirtual 111, 3) := d_by (d_at odL_laws6 ofL_laws6 945) rfl
theorem dL_law_948 : decode cL_law 948 = .ok (.pop, 1) := d_by (d_at odL_laws6 ofL_laws6 948) rfl
theorem dL_law_949 : decode cL_law 949 = .ok (.aload_n 2, 1) := d_by (d_at odL_laws6 ofL_laws6 949) rfl
theorem dL_law_950 : decode cL_law 950 = .ok (.aload_n 0, 1) := d_by (d_at odL_laws6 ofL_laws6 950) rfl
theorem dL_law_951 : decode cL_law 951 = .ok (.iload 4, 2) := d_by (d_at odL_laws6 ofL_laws6 951) rfl
theorem dL_law_953 : decode cL_law 953 = .ok (.iconst 1, 1) := d_by (d_at odL_laws6 ofL_laws6 953) rfl
theorem dL_law_954 : decode cL_law 954 = .ok (.iadd, 1) := d_by (d_at odL_laws6 ofL_laws6 954) rfl
theorem dL_law_955 : decode cL_law 955 = .ok (.iaload, 1) := d_by (d_at odL_laws6 ofL_laws6 955) rfl
theorem dL_law_956 : decode cL_law 956 = .ok (.invokevirtual 114, 3) := d_by (d_at odL_laws6 ofL_laws6 956) rfl
theorem dL_law_959 : decode cL_law 959 = .ok (.pop, 1) := d_by (d_at odL_laws6 ofL_laws6 959) rfl
theorem dL_law_960 : decode cL_law 960 = .ok (.goto 845, 3) := d_by (d_at odL_laws6 ofL_laws6 960) rfl
theorem dL_law_963 : decode cL_law 963 = .ok (.aload_n 1, 1) := d_by (d_at odL_laws6 ofL_laws6 963) rfl
theorem dL_law_964 : decode cL_law 964 = .ok (.aload_n 0, 1) := d_by (d_at odL_laws6 ofL_laws6 964) rfl
theorem dL_law_965 : decode cL_law 965 = .ok (.iload 4, 2) := d_by (d_at odL_laws6 ofL_laws6 965) rfl
theorem dL_law_967 : decode cL_law 967 = .ok (.iconst 1, 1) := d_by (d_at odL_laws6 ofL_laws6 967) rfl
theorem dL_law_968 : decode cL_law 968 = .ok (.iadd, 1) := d_by (d_at odL_laws6 ofL_laws6 968) rfl
theorem dL_law_969 : decode cL_law 969 = .ok (.iaload, 1) := d_by (d_at odL_laws6 ofL_laws6 969) rfl
theorem dL_law_970 : decode cL_law 970 = .ok (.aload_n 0, 1) := d_by (d_at odL_laws6 ofL_laws6 970) rfl
theorem dL_law_971 : decode cL_law 971 = .ok (.iload 4, 2) := d_by (d_at odL_laws6 ofL_laws6 971) rfl
theorem dL_law_973 : decode cL_law 973 = .ok (.iconst 2, 1) := d_by (d_at odL_laws6 ofL_laws6 973) rfl
theorem dL_law_974 : decode cL_law 974 = .ok (.iadd, 1) := d_by (d_at odL_laws6 ofL_laws6 974) rfl
theorem dL_law_975 : decode cL_law 975 = .ok (.iaload, 1) := d_by (d_at odL_laws6 ofL_laws6 975) rfl
theorem dL_law_976 : decode cL_law 976 = .ok (.aload_n 0, 1) := d_by (d_at odL_laws6 ofL_laws6 976) rfl
theorem dL_law_977 : decode cL_law 977 = .ok (.iload 4, 2) := d_by (d_at odL_laws6 ofL_laws6 977) rfl
theorem dL_law_979 : decode cL_law 979 = .ok (.iconst 3, 1) := d_by (d_at odL_laws6 ofL_laws6 979) rfl
theorem dL_law_980 : decode cL_law 980 = .ok (.iadd, 1) := d_by (d_at odL_laws6 ofL_laws6 980) rfl
theorem dL_law_981 : decode cL_law 981 = .ok (.iaload, 1) := d_by (d_at odL_laws6 ofL_laws6 981) rfl
theorem dL_law_982 : decode cL_law 982 = .ok (.aload_n 0, 1) := d_by (d_at odL_laws6 ofL_laws6 982) rfl
theorem dL_law_983 : decode cL_law 983 = .ok (.iload 4, 2) := d_by (d_at odL_laws6 ofL_laws6 983) rfl
theorem dL_law_985 : decode cL_law 985 = .ok (.iconst 4, 1) := d_by (d_at odL_laws6 ofL_laws6 985) rfl
theorem dL_law_986 : decode cL_law 986 = .ok (.iadd, 1) := d_by (d_at odL_laws6 ofL_laws6 986) rfl
theorem dL_law_987 : decode cL_law 987 = .ok (.iaload, 1) := d_by (d_at odL_laws6 ofL_laws6 987) rfl
theorem dL_law_988 : decode cL_law 988 = .ok (.invokevirtual 115, 3) := d_by (d_at odL_laws6 ofL_laws6 988) rfl
theorem dL_law_991 : decode cL_law 991 = .ok (.pop, 1) := d_by (d_at odL_laws6 ofL_laws6 991) rfl
theorem dL_law_992 : decode cL_law 992 = .ok (.aload_n 2, 1) := d_by (d_at odL_laws6 ofL_laws6 992) rfl
theorem dL_law_993 : decode cL_law 993 = .ok (.aload_n 0, 1) := d_by (d_at odL_laws6 ofL_laws6 993) rfl
theorem dL_law_994 : decode cL_law 994 = .ok (.iload 4, 2) := d_by (d_at odL_laws6 ofL_laws6 994) rfl
theorem dL_law_996 : decode cL_law 996 = .ok (.iconst 1, 1) := d_by (d_at odL_laws6 ofL_laws6 996) rfl
theorem dL_law_997 : decode cL_law 997 = .ok (.iadd, 1) := d_by (d_at odL_laws6 ofL_laws6 997) rfl
theorem dL_law_998 : decode cL_law 998 = .ok (.iaload, 1) := d_by (d_at odL_laws6 ofL_laws6 998) rfl
theorem dL_law_999 : decode cL_law 999 = .ok (.aload_n 0, 1) := d_by (d_at odL_laws6 ofL_laws6 999) rfl
theorem dL_law_1000 : decode cL_law 1000 = .ok (.iload 4, 2) := d_by (d_at odL_laws6 ofL_laws6 1000) rfl
theorem dL_law_1002 : decode cL_law 1002 = .ok (.iconst 2, 1) := d_by (d_at odL_laws6 ofL_laws6 1002) rfl
theorem dL_law_1003 : decode cL_law 1003 = .ok (.iadd, 1) := d_by (d_at odL_laws6 ofL_laws6 1003) rfl
theorem dL_law_1004 : decode cL_law 1004 = .ok (.iaload, 1) := d_by (d_at odL_laws6 ofL_laws6 1004) rfl
theorem dL_law_1005 : decode cL_law 1005 = .ok (.aload_n 0, 1) := d_by (d_at odL_laws6 ofL_laws6 1005) rfl
theorem dL_law_1006 : decode cL_law 1006 = .ok (.iload 4, 2) := d_by (d_at odL_laws6 ofL_laws6 1006) rfl
theorem dL_law_1008 : decode cL_law 1008 = .ok (.iconst 3, 1) := d_by (d_at odL_laws6 ofL_laws6 1008) rfl
theorem dL_law_1009 : decode cL_law 1009 = .ok (.iadd, 1) := d_by (d_at odL_laws6 ofL_laws6 1009) rfl
theorem dL_law_1010 : decode cL_law 1010 = .ok (.iaload, 1) := d_by (d_at odL_laws6 ofL_laws6 1010) rfl
theorem dL_law_1011 : decode cL_law 1011 = .ok (.aload_n 0, 1) := d_by (d_at odL_laws6 ofL_laws6 1011) rfl
theorem dL_law_1012 : decode cL_law 1012 = .ok (.iload 4, 2) := d_by (d_at odL_laws6 ofL_laws6 1012) rfl
theorem dL_law_1014 : decode cL_law 1014 = .ok (.iconst 4, 1) := d_by (d_at odL_laws6 ofL_laws6 1014) rfl
theorem dL_law_1015 : decode cL_law 1015 = .ok (.iadd, 1) := d_by (d_at odL_laws6 ofL_laws6 1015) rfl
theorem dL_law_1016 : decode cL_law 1016 = .ok (.iaload, 1) := d_by (d_at odL_laws6 ofL_laws6 1016) rfl
theorem dL_law_1017 : decode cL_law 1017 = .ok (.invokevirtual 119, 3) := d_by (d_at odL_laws6 ofL_laws6 1017) rfl
theorem dL_law_1020 : decode cL_law 1020 = .ok (.pop, 1) := d_by (d_at odL_laws6 ofL_laws6 1020) rfl
theorem dL_law_1021 : decode cL_law 1021 = .ok (.goto 784, 3) := d_by (d_at odL_laws6 ofL_laws6 1021) rfl
theorem dL_law_1024 : decode cL_law 1024 = .ok (.aload_n 1, 1) := d_by (d_at odL_laws6 ofL_laws6 1024) rfl
theorem dL_law_1025 : decode cL_law 1025 = .ok (.aload_n 0, 1) := d_by (d_at odL_laws6 ofL_laws6 1025) rfl
theorem dL_law_1026 : decode cL_law 1026 = .ok (.iload 4, 2) := d_by (d_at odL_laws6 ofL_laws6 1026) rfl
theorem dL_law_1028 : decode cL_law 1028 = .ok (.iconst 1, 1) := d_by (d_at odL_laws6 ofL_laws6 1028) rfl
theorem dL_law_1029 : decode cL_law 1029 = .ok (.iadd, 1) := d_by (d_at odL_laws6 ofL_laws6 1029) rfl
theorem dL_law_1030 : decode cL_law 1030 = .ok (.iaload, 1) := d_by (d_at odL_laws6 ofL_laws6 1030) rfl
theorem dL_law_1031 : decode cL_law 1031 = .ok (.aload_n 0, 1) := d_by (d_at odL_laws6 ofL_laws6 1031) rfl
theorem dL_law_1032 : decode cL_law 1032 = .ok (.iload 4, 2) := d_by (d_at odL_laws6 ofL_laws6 1032) rfl
theorem dL_law_1034 : decode cL_law 1034 = .ok (.iconst 2, 1) := d_by (d_at odL_laws6 ofL_laws6 1034) rfl
theorem dL_law_1035 : decode cL_law 1035 = .ok (.iadd, 1) := d_by (d_at odL_laws6 ofL_laws6 1035) rfl
theorem dL_law_1036 : decode cL_law 1036 = .ok (.iaload, 1) := d_by (d_at odL_laws6 ofL_laws6 1036) rfl
theorem dL_law_1037 : decode cL_law 1037 = .ok (.invokevirtual 120, 3) := d_by (d_at odL_laws6 ofL_laws6 1037) rfl
theorem dL_law_1040 : decode cL_law 1040 = .ok (.pop, 1) := d_by (d_at odL_laws6 ofL_laws6 1040) rfl
theorem dL_law_1041 : decode cL_law 1041 = .ok (.aload_n 2, 1) := d_by (d_at odL_laws6 ofL_laws6 1041) rfl
theorem dL_law_1042 : decode cL_law 1042 = .ok (.aload_n 0, 1) := d_by (d_at odL_laws6 ofL_laws6 1042) rfl
theorem dL_law_1043 : decode cL_law 1043 = .ok (.iload 4, 2) := d_by (d_at odL_laws6 ofL_laws6 1043) rfl
theorem dL_law_1045 : decode cL_law 1045 = .ok (.iconst 1, 1) := d_by (d_at odL_laws6 ofL_laws6 1045) rfl
theorem dL_law_1046 : decode cL_law 1046 = .ok (.iadd, 1) := d_by (d_at odL_laws6 ofL_laws6 1046) rfl
theorem dL_law_1047 : decode cL_law 1047 = .ok (.iaload, 1) := d_by (d_at odL_laws6 ofL_laws6 1047) rfl
theorem dL_law_1048 : decode cL_law 1048 = .ok (.aload_n 0, 1) := d_by (d_at odL_laws6 ofL_laws6 1048) rfl
theorem dL_law_1049 : decode cL_law 1049 = .ok (.iload 4, 2) := d_by (d_at odL_laws6 ofL_laws6 1049) rfl
theorem dL_law_1051 : decode cL_law 1051 = .ok (.iconst 2, 1) := d_by (d_at odL_laws6 ofL_laws6 1051) rfl
theorem dL_law_1052 : decode cL_law 1052 = .ok (.iadd, 1) := d_by (d_at odL_laws6 ofL_laws6 1052) rfl
theorem dL_law_1053 : decode cL_law 1053 = .ok (.iaload, 1) := d_by (d_at odL_laws6 ofL_laws6 1053) rfl
theorem dL_law_1054 : decode cL_law 1054 = .ok (.invokevirtual 123, 3) := d_by (d_at odL_laws6 ofL_laws6 1054) rfl
theorem dL_law_1057 : decode cL_law 1057 = .ok (.pop, 1) := d_by (d_at odL_laws6 ofL_laws6 1057) rfl
theorem dL_law_1058 : decode cL_law 1058 = .ok (.goto 747, 3) := d_by (d_at odL_laws6 ofL_laws6 1058) rfl
theorem dL_law_1061 : decode cL_law 1061 = .ok (.aload_n 1, 1) := d_by (d_at odL_laws6 ofL_laws6 1061) rfl
theorem dL_law_1062 : decode cL_law 1062 = .ok (.aload_n 0, 1) := d_by (d_at odL_laws6 ofL_laws6 1062) rfl
theorem dL_law_1063 : decode cL_law 1063 = .ok (.iload 4, 2) := d_by (d_at odL_laws6 ofL_laws6 1063) rfl
theorem dL_law_1065 : decode cL_law 1065 = .ok (.iconst 1, 1) := d_by (d_at odL_laws6 ofL_laws6 1065) rfl
theorem dL_law_1066 : decode cL_law 1066 = .ok (.iadd, 1) := d_by (d_at odL_laws6 ofL_laws6 1066) rfl
theorem dL_law_1067 : decode cL_law 1067 = .ok (.iaload, 1) := d_by (d_at odL_laws6 ofL_laws6 1067) rfl
theorem dL_law_1068 : decode cL_law 1068 = .ok (.invokevirtual 124, 3) := d_by (d_at odL_laws6 ofL_laws6 1068) rfl
theorem dL_law_1071 : decode cL_law 1071 = .ok (.pop, 1) := d_by (d_at odL_laws6 ofL_laws6 1071) rfl
theorem dL_law_1072 : decode cL_law 1072 = .ok (.aload_n 2, 1) := d_by (d_at odL_laws6 ofL_laws6 1072) rfl
theorem dL_law_1073 : decode cL_law 1073 = .ok (.aload_n 0, 1) := d_by (d_at odL_laws6 ofL_laws6 1073) rfl
theorem dL_law_1074 : decode cL_law 1074 = .ok (.iload 4, 2) := d_by (d_at odL_laws6 ofL_laws6 1074) rfl
theorem dL_law_1076 : decode cL_law 1076 = .ok (.iconst 1, 1) := d_by (d_at odL_laws6 ofL_laws6 1076) rfl
theorem dL_law_1077 : decode cL_law 1077 = .ok (.iadd, 1) := d_by (d_at odL_laws6 ofL_laws6 1077) rfl
theorem dL_law_1078 : decode cL_law 1078 = .ok (.iaload, 1) := d_by (d_at odL_laws6 ofL_laws6 1078) rfl
theorem dL_law_1079 : decode cL_law 1079 = .ok (.invokevirtual 127, 3) := d_by (d_at odL_laws6 ofL_laws6 1079) rfl
theorem dL_law_1082 : decode cL_law 1082 = .ok (.pop, 1) := d_by (d_at odL_laws6 ofL_laws6 1082) rfl
theorem dL_law_1083 : decode cL_law 1083 = .ok (.goto 722, 3) := d_by (d_at odL_laws6 ofL_laws6 1083) rfl
theorem dL_law_1086 : decode cL_law 1086 = .ok (.aload_n 1, 1) := d_by (d_at odL_laws6 ofL_laws6 1086) rfl
theorem dL_law_1087 : decode cL_law 1087 = .ok (.aload_n 0, 1) := d_by (d_at odL_laws6 ofL_laws6 1087) rfl
theorem dL_law_1088 : decode cL_law 1088 = .ok (.iload 4, 2) := d_by (d_at odL_laws6 ofL_laws6 1088) rfl
theorem dL_law_1090 : decode cL_law 1090 = .ok (.iconst 1, 1) := d_by (d_at odL_laws6 ofL_laws6 1090) rfl
theorem dL_law_1091 : decode cL_law 1091 = .ok (.iadd, 1) := d_by (d_at odL_laws6 ofL_laws6 1091) rfl
theorem dL_law_1092 : decode cL_law 1092 = .ok (.iaload, 1) := d_by (d_at odL_laws6 ofL_laws6 1092) rfl
theorem dL_law_1093 : decode cL_law 1093 = .ok (.invokevirtual 128, 3) := d_by (d_at odL_laws6 ofL_laws6 1093) rfl
theorem dL_law_1096 : decode cL_law 1096 = .ok (.pop, 1) := d_by (d_at odL_laws6 ofL_laws6 1096) rfl
theorem dL_law_1097 : decode cL_law 1097 = .ok (.aload_n 2, 1) := d_by (d_at odL_laws7 ofL_laws7 1097) rfl
theorem dL_law_1098 : decode cL_law 1098 = .ok (.aload_n 0, 1) := d_by (d_at odL_laws7 ofL_laws7 1098) rfl
theorem dL_law_1099 : decode cL_law 1099 = .ok (.iload 4, 2) := d_by (d_at odL_laws7 ofL_laws7 1099) rfl
theorem dL_law_1101 : decode cL_law 1101 = .ok (.iconst 1, 1) := d_by (d_at odL_laws7 ofL_laws7 1101) rfl
theorem dL_law_1102 : decode cL_law 1102 = .ok (.iadd, 1) := d_by (d_at odL_laws7 ofL_laws7 1102) rfl
theorem dL_law_1103 : decode cL_law 1103 = .ok (.iaload, 1) := d_by (d_at odL_laws7 ofL_laws7 1103) rfl
theorem dL_law_1104 : decode cL_law 1104 = .ok (.invokevirtual 131, 3) := d_by (d_at odL_laws7 ofL_laws7 1104) rfl
theorem dL_law_1107 : decode cL_law 1107 = .ok (.pop, 1) := d_by (d_at odL_laws7 ofL_laws7 1107) rfl
theorem dL_law_1108 : decode cL_law 1108 = .ok (.goto 697, 3) := d_by (d_at odL_laws7 ofL_laws7 1108) rfl
theorem dL_law_1111 : decode cL_law 1111 = .ok (.aload_n 1, 1) := d_by (d_at odL_laws7 ofL_laws7 1111) rfl
theorem dL_law_1112 : decode cL_law 1112 = .ok (.aload_n 0, 1) := d_by (d_at odL_laws7 ofL_laws7 1112) rfl
theorem dL_law_1113 : decode cL_law 1113 = .ok (.iload 4, 2) := d_by (d_at odL_laws7 ofL_laws7 1113) rfl
theorem dL_law_1115 : decode cL_law 1115 = .ok (.iconst 1, 1) := d_by (d_at odL_laws7 ofL_laws7 1115) rfl
theorem dL_law_1116 : decode cL_law 1116 = .ok (.iadd, 1) := d_by (d_at odL_laws7 ofL_laws7 1116) rfl
theorem dL_law_1117 : decode cL_law 1117 = .ok (.iaload, 1) := d_by (d_at odL_laws7 ofL_laws7 1117) rfl
theorem dL_law_1118 : decode cL_law 1118 = .ok (.aload_n 0, 1) := d_by (d_at odL_laws7 ofL_laws7 1118) rfl
theorem dL_law_1119 : decode cL_law 1119 = .ok (.iload 4, 2) := d_by (d_at odL_laws7 ofL_laws7 1119) rfl
theorem dL_law_1121 : decode cL_law 1121 = .ok (.iconst 2, 1) := d_by (d_at odL_laws7 ofL_laws7 1121) rfl
theorem dL_law_1122 : decode cL_law 1122 = .ok (.iadd, 1) := d_by (d_at odL_laws7 ofL_laws7 1122) rfl
theorem dL_law_1123 : decode cL_law 1123 = .ok (.iaload, 1) := d_by (d_at odL_laws7 ofL_laws7 1123) rfl
theorem dL_law_1124 : decode cL_law 1124 = .ok (.invokevirtual 132, 3) := d_by (d_at odL_laws7 ofL_laws7 1124) rfl
theorem dL_law_1127 : decode cL_law 1127 = .ok (.pop, 1) := d_by (d_at odL_laws7 ofL_laws7 1127) rfl
theorem dL_law_1128 : decode cL_law 1128 = .ok (.aload_n 2, 1) := d_by (d_at odL_laws7 ofL_laws7 1128) rfl
theorem dL_law_1129 : decode cL_law 1129 = .ok (.aload_n 0, 1) := d_by (d_at odL_laws7 ofL_laws7 1129) rfl
theorem dL_law_1130 : decode cL_law 1130 = .ok (.iload 4, 2) := d_by (d_at odL_laws7 ofL_laws7 1130) rfl
theorem dL_law_1132 : decode cL_law 1132 = .ok (.iconst 1, 1) := d_by (d_at odL_laws7 ofL_laws7 1132) rfl
theorem dL_law_1133 : decode cL_law 1133 = .ok (.iadd, 1) := d_by (d_at odL_laws7 ofL_laws7 1133) rfl
theorem dL_law_1134 : decode cL_law 1134 = .ok (.iaload, 1) := d_by (d_at odL_laws7 ofL_laws7 1134) rfl
theorem dL_law_1135 : decode cL_law 1135 = .ok (.aload_n 0, 1) := d_by (d_at odL_laws7 ofL_laws7 1135) rfl
theorem dL_law_1136 : decode cL_law 1136 = .ok (.iload 4, 2) := d_by (d_at odL_laws7 ofL_laws7 1136) rfl
theorem dL_law_1138 : decode cL_law 1138 = .ok (.iconst 2, 1) := d_by (d_at odL_laws7 ofL_laws7 1138) rfl
theorem dL_law_1139 : decode cL_law 1139 = .ok (.iadd, 1) := d_by (d_at odL_laws7 ofL_laws7 1139) rfl
theorem dL_law_1140 : decode cL_law 1140 = .ok (.iaload, 1) := d_by (d_at odL_laws7 ofL_laws7 1140) rfl
theorem dL_law_1141 : decode cL_law 1141 = .ok (.invokevirtual 135, 3) := d_by (d_at odL_laws7 ofL_laws7 1141) rfl
theorem dL_law_1144 : decode cL_law 1144 = .ok (.pop, 1) := d_by (d_at odL_laws7 ofL_laws7 1144) rfl
theorem dL_law_1145 : decode cL_law 1145 = .ok (.goto 660, 3) := d_by (d_at odL_laws7 ofL_laws7 1145) rfl
theorem dL_law_1148 : decode cL_law 1148 = .ok (.aload_n 1, 1) := d_by (d_at odL_laws7 ofL_laws7 1148) rfl
theorem dL_law_1149 : decode cL_law 1149 = .ok (.aload_n 0, 1) := d_by (d_at odL_laws7 ofL_laws7 1149) rfl
theorem dL_law_1150 : decode cL_law 1150 = .ok (.iload 4, 2) := d_by (d_at odL_laws7 ofL_laws7 1150) rfl
theorem dL_law_1152 : decode cL_law 1152 = .ok (.iconst 1, 1) := d_by (d_at odL_laws7 ofL_laws7 1152) rfl
theorem dL_law_1153 : decode cL_law 1153 = .ok (.iadd, 1) := d_by (d_at odL_laws7 ofL_laws7 1153) rfl
theorem dL_law_1154 : decode cL_law 1154 = .ok (.iaload, 1) := d_by (d_at odL_laws7 ofL_laws7 1154) rfl
theorem dL_law_1155 : decode cL_law 1155 = .ok (.aload_n 0, 1) := d_by (d_at odL_laws7 ofL_laws7 1155) rfl
theorem dL_law_1156 : decode cL_law 1156 = .ok (.iload 4, 2) := d_by (d_at odL_laws7 ofL_laws7 1156) rfl
theorem dL_law_1158 : decode cL_law 1158 = .ok (.iconst 2, 1) := d_by (d_at odL_laws7 ofL_laws7 1158) rfl
theorem dL_law_1159 : decode cL_law 1159 = .ok (.iadd, 1) := d_by (d_at odL_laws7 ofL_laws7 1159) rfl
theorem dL_law_1160 : decode cL_law 1160 = .ok (.iaload, 1) := d_by (d_at odL_laws7 ofL_laws7 1160) rfl
theorem dL_law_1161 : decode cL_law 1161 = .ok (.ifCond .eq 7, 3) := d_by (d_at odL_laws7 ofL_laws7 1161) rfl
theorem dL_law_1164 : decode cL_law 1164 = .ok (.iconst 1, 1) := d_by (d_at odL_laws7 ofL_laws7 1164) rfl
theorem dL_law_1165 : decode cL_law 1165 = .ok (.goto 4, 3) := d_by (d_at odL_laws7 ofL_laws7 1165) rfl
theorem dL_law_1168 : decode cL_law 1168 = .ok (.iconst 0, 1) := d_by (d_at odL_laws7 ofL_laws7 1168) rfl
theorem dL_law_1169 : decode cL_law 1169 = .ok (.invokevirtual 136, 3) := d_by (d_at odL_laws7 ofL_laws7 1169) rfl
theorem dL_law_1172 : decode cL_law 1172 = .ok (.pop2, 1) := d_by (d_at odL_laws7 ofL_laws7 1172) rfl
theorem dL_law_1173 : decode cL_law 1173 = .ok (.aload_n 2, 1) := d_by (d_at odL_laws7 ofL_laws7 1173) rfl
theorem dL_law_1174 : decode cL_law 1174 = .ok (.aload_n 0, 1) := d_by (d_at odL_laws7 ofL_laws7 1174) rfl
theorem dL_law_1175 : decode cL_law 1175 = .ok (.iload 4, 2) := d_by (d_at odL_laws7 ofL_laws7 1175) rfl
theorem dL_law_1177 : decode cL_law 1177 = .ok (.iconst 1, 1) := d_by (d_at odL_laws7 ofL_laws7 1177) rfl
theorem dL_law_1178 : decode cL_law 1178 = .ok (.iadd, 1) := d_by (d_at odL_laws7 ofL_laws7 1178) rfl
theorem dL_law_1179 : decode cL_law 1179 = .ok (.iaload, 1) := d_by (d_at odL_laws7 ofL_laws7 1179) rfl
theorem dL_law_1180 : decode cL_law 1180 = .ok (.aload_n 0, 1) := d_by (d_at odL_laws7 ofL_laws7 1180) rfl
theorem dL_law_1181 : decode cL_law 1181 = .ok (.iload 4, 2) := d_by (d_at odL_laws7 ofL_laws7 1181) rfl
theorem dL_law_1183 : decode cL_law 1183 = .ok (.iconst 2, 1) := d_by (d_at odL_laws7 ofL_laws7 1183) rfl
theorem dL_law_1184 : decode cL_law 1184 = .ok (.iadd, 1) := d_by (d_at odL_laws7 ofL_laws7 1184) rfl
theorem dL_law_1185 : decode cL_law 1185 = .ok (.iaload, 1) := d_by (d_at odL_laws7 ofL_laws7 1185) rfl
theorem dL_law_1186 : decode cL_law 1186 = .ok (.ifCond .eq 7, 3) := d_by (d_at odL_laws7 ofL_laws7 1186) rfl
theorem dL_law_1189 : decode cL_law 1189 = .ok (.iconst 1, 1) := d_by (d_at odL_laws7 ofL_laws7 1189) rfl
theorem dL_law_1190 : decode cL_law 1190 = .ok (.goto 4, 3) := d_by (d_at odL_laws7 ofL_laws7 1190) rfl
theorem dL_law_1193 : decode cL_law 1193 = .ok (.iconst 0, 1) := d_by (d_at odL_laws7 ofL_laws7 1193) rfl
theorem dL_law_1194 : decode cL_law 1194 = .ok (.invokevirtual 140, 3) := d_by (d_at odL_laws7 ofL_laws7 1194) rfl
theorem dL_law_1197 : decode cL_law 1197 = .ok (.pop2, 1) := d_by (d_at odL_laws7 ofL_laws7 1197) rfl
theorem dL_law_1198 : decode cL_law 1198 = .ok (.goto 607, 3) := d_by (d_at odL_laws7 ofL_laws7 1198) rfl
theorem dL_law_1201 : decode cL_law 1201 = .ok (.aload_n 1, 1) := d_by (d_at odL_laws7 ofL_laws7 1201) rfl
theorem dL_law_1202 : decode cL_law 1202 = .ok (.invokevirtual 141, 3) := d_by (d_at odL_laws7 ofL_laws7 1202) rfl
theorem dL_law_1205 : decode cL_law 1205 = .ok (.pop, 1) := d_by (d_at odL_laws7 ofL_laws7 1205) rfl
theorem dL_law_1206 : decode cL_law 1206 = .ok (.aload_n 2, 1) := d_by (d_at odL_laws7 ofL_laws7 1206) rfl
theorem dL_law_1207 : decode cL_law 1207 = .ok (.invokevirtual 144, 3) := d_by (d_at odL_laws7 ofL_laws7 1207) rfl
theorem dL_law_1210 : decode cL_law 1210 = .ok (.pop, 1) := d_by (d_at odL_laws7 ofL_laws7 1210) rfl
theorem dL_law_1211 : decode cL_law 1211 = .ok (.goto 594, 3) := d_by (d_at odL_laws7 ofL_laws7 1211) rfl
theorem dL_law_1214 : decode cL_law 1214 = .ok (.aload_n 1, 1) := d_by (d_at odL_laws7 ofL_laws7 1214) rfl
theorem dL_law_1215 : decode cL_law 1215 = .ok (.invokevirtual 145, 3) := d_by (d_at odL_laws7 ofL_laws7 1215) rfl
theorem dL_law_1218 : decode cL_law 1218 = .ok (.pop, 1) := d_by (d_at odL_laws7 ofL_laws7 1218) rfl
theorem dL_law_1219 : decode cL_law 1219 = .ok (.aload_n 2, 1) := d_by (d_at odL_laws7 ofL_laws7 1219) rfl
theorem dL_law_1220 : decode cL_law 1220 = .ok (.invokevirtual 148, 3) := d_by (d_at odL_laws7 ofL_laws7 1220) rfl
theorem dL_law_1223 : decode cL_law 1223 = .ok (.pop, 1) := d_by (d_at odL_laws7 ofL_laws7 1223) rfl
theorem dL_law_1224 : decode cL_law 1224 = .ok (.goto 581, 3) := d_by (d_at odL_laws7 ofL_laws7 1224) rfl
theorem dL_law_1227 : decode cL_law 1227 = .ok (.aload_n 1, 1) := d_by (d_at odL_laws7 ofL_laws7 1227) rfl
theorem dL_law_1228 : decode cL_law 1228 = .ok (.aload_n 0, 1) := d_by (d_at odL_laws7 ofL_laws7 1228) rfl
theorem dL_law_1229 : decode cL_law 1229 = .ok (.iload 4, 2) := d_by (d_at odL_laws7 ofL_laws7 1229) rfl
theorem dL_law_1231 : decode cL_law 1231 = .ok (.iconst 1, 1) := d_by (d_at odL_laws7 ofL_laws7 1231) rfl
theorem dL_law_1232 : decode cL_law 1232 = .ok (.iadd, 1) := d_by (d_at odL_laws7 ofL_laws7 1232) rfl
theorem dL_law_1233 : decode cL_law 1233 = .ok (.iaload, 1) := d_by (d_at odL_laws7 ofL_laws7 1233) rfl
theorem dL_law_1234 : decode cL_law 1234 = .ok (.invokevirtual 149, 3) := d_by (d_at odL_laws7 ofL_laws7 1234) rfl
theorem dL_law_1237 : decode cL_law 1237 = .ok (.pop, 1) := d_by (d_at odL_laws7 ofL_laws7 1237) rfl
theorem dL_law_1238 : decode cL_law 1238 = .ok (.aload_n 2, 1) := d_by (d_at odL_laws7 ofL_laws7 1238) rfl
theorem dL_law_1239 : decode cL_law 1239 = .ok (.aload_n 0, 1) := d_by (d_at odL_laws7 ofL_laws7 1239) rfl
theorem dL_law_1240 : decode cL_law 1240 = .ok (.iload 4, 2) := d_by (d_at odL_laws7 ofL_laws7 1240) rfl
theorem dL_law_1242 : decode cL_law 1242 = .ok (.iconst 1, 1) := d_by (d_at odL_laws7 ofL_laws7 1242) rfl
theorem dL_law_1243 : decode cL_law 1243 = .ok (.iadd, 1) := d_by (d_at odL_laws7 ofL_laws7 1243) rfl
theorem dL_law_1244 : decode cL_law 1244 = .ok (.iaload, 1) := d_by (d_at odL_laws7 ofL_laws7 1244) rfl
theorem dL_law_1245 : decode cL_law 1245 = .ok (.invokevirtual 152, 3) := d_by (d_at odL_laws7 ofL_laws7 1245) rfl
theorem dL_law_1248 : decode cL_law 1248 = .ok (.pop, 1) := d_by (d_at odL_laws7 ofL_laws7 1248) rfl
theorem dL_law_1249 : decode cL_law 1249 = .ok (.goto 556, 3) := d_by (d_at odL_laws7 ofL_laws7 1249) rfl
theorem dL_law_1252 : decode cL_law 1252 = .ok (.aload_n 1, 1) := d_by (d_at odL_laws7 ofL_laws7 1252) rfl
theorem dL_law_1253 : decode cL_law 1253 = .ok (.aload_n 0, 1) := d_by (d_at odL_laws7 ofL_laws7 1253) rfl
theorem dL_law_1254 : decode cL_law 1254 = .ok (.iload 4, 2) := d_by (d_at odL_laws7 ofL_laws7 1254) rfl
theorem dL_law_1256 : decode cL_law 1256 = .ok (.iconst 1, 1) := d_by (d_at odL_laws7 ofL_laws7 1256) rfl
theorem dL_law_1257 : decode cL_law 1257 = .ok (.iadd, 1) := d_by (d_at odL_laws7 ofL_laws7 1257) rfl
theorem dL_law_1258 : decode cL_law 1258 = .ok (.iaload, 1) := d_by (d_at odL_laws7 ofL_laws7 1258) rfl
theorem dL_law_1259 : decode cL_law 1259 = .ok (.aload_n 0, 1) := d_by (d_at odL_laws7 ofL_laws7 1259) rfl
theorem dL_law_1260 : decode cL_law 1260 = .ok (.iload 4, 2) := d_by (d_at odL_laws7 ofL_laws7 1260) rfl
theorem dL_law_1262 : decode cL_law 1262 = .ok (.iconst 2, 1) := d_by (d_at odL_laws7 ofL_laws7 1262) rfl
theorem dL_law_1263 : decode cL_law 1263 = .ok (.iadd, 1) := d_by (d_at odL_laws7 ofL_laws7 1263) rfl
theorem dL_law_1264 : decode cL_law 1264 = .ok (.iaload, 1) := d_by (d_at odL_laws7 ofL_laws7 1264) rfl
theorem dL_law_1265 : decode cL_law 1265 = .ok (.aload_n 0, 1) := d_by (d_at odL_laws7 ofL_laws7 1265) rfl
theorem dL_law_1266 : decode cL_law 1266 = .ok (.iload 4, 2) := d_by (d_at odL_laws7 ofL_laws7 1266) rfl
theorem dL_law_1268 : decode cL_law 1268 = .ok (.iconst 3, 1) := d_by (d_at odL_laws7 ofL_laws7 1268) rfl
theorem dL_law_1269 : decode cL_law 1269 = .ok (.iadd, 1) := d_by (d_at odL_laws7 ofL_laws7 1269) rfl
theorem dL_law_1270 : decode cL_law 1270 = .ok (.iaload, 1) := d_by (d_at odL_laws7 ofL_laws7 1270) rfl
theorem dL_law_1271 : decode cL_law 1271 = .ok (.aload_n 0, 1) := d_by (d_at odL_laws7 ofL_laws7 1271) rfl
theorem dL_law_1272 : decode cL_law 1272 = .ok (.iload 4, 2) := d_by (d_at odL_laws7 ofL_laws7 1272) rfl
theorem dL_law_1274 : decode cL_law 1274 = .ok (.iconst 4, 1) := d_by (d_at odL_laws7 ofL_laws7 1274) rfl
theorem dL_law_1275 : decode cL_law 1275 = .ok (.iadd, 1) := d_by (d_at odL_laws7 ofL_laws7 1275) rfl
theorem dL_law_1276 : decode cL_law 1276 = .ok (.iaload, 1) := d_by (d_at odL_laws7 ofL_laws7 1276) rfl
theorem dL_law_1277 : decode cL_law 1277 = .ok (.invokevirtual 153, 3) := d_by (d_at odL_laws7 ofL_laws7 1277) rfl
theorem dL_law_1280 : decode cL_law 1280 = .ok (.pop, 1) := d_by (d_at odL_laws7 ofL_laws7 1280) rfl
theorem dL_law_1281 : decode cL_law 1281 = .ok (.aload_n 2, 1) := d_by (d_at odL_laws7 ofL_laws7 1281) rfl
theorem dL_law_1282 : decode cL_law 1282 = .ok (.aload_n 0, 1) := d_by (d_at odL_laws7 ofL_laws7 1282) rfl
theorem dL_law_1283 : decode cL_law 1283 = .ok (.iload 4, 2) := d_by (d_at odL_laws7 ofL_laws7 1283) rfl
theorem dL_law_1285 : decode cL_law 1285 = .ok (.iconst 1, 1) := d_by (d_at odL_laws7 ofL_laws7 1285) rfl
theorem dL_law_1286 : decode cL_law 1286 = .ok (.iadd, 1) := d_by (d_at odL_laws7 ofL_laws7 1286) rfl
theorem dL_law_1287 : decode cL_law 1287 = .ok (.iaload, 1) := d_by (d_at odL_laws7 ofL_laws7 1287) rfl
theorem dL_law_1288 : decode cL_law 1288 = .ok (.aload_n 0, 1) := d_by (d_at odL_laws7 ofL_laws7 1288) rfl
theorem dL_law_1289 : decode cL_law 1289 = .ok (.iload 4, 2) := d_by (d_at odL_laws7 ofL_laws7 1289) rfl
theorem dL_law_1291 : decode cL_law 1291 = .ok (.iconst 2, 1) := d_by (d_at odL_laws7 ofL_laws7 1291) rfl
theorem dL_law_1292 : decode cL_law 1292 = .ok (.iadd, 1) := d_by (d_at odL_laws7 ofL_laws7 1292) rfl
theorem dL_law_1293 : decode cL_law 1293 = .ok (.iaload, 1) := d_by (d_at odL_laws7 ofL_laws7 1293) rfl
theorem dL_law_1294 : decode cL_law 1294 = .ok (.aload_n 0, 1) := d_by (d_at odL_laws7 ofL_laws7 1294) rfl
theorem dL_law_1295 : decode cL_law 1295 = .ok (.iload 4, 2) := d_by (d_at odL_laws7 ofL_laws7 1295) rfl
theorem dL_law_1297 : decode cL_law 1297 = .ok (.iconst 3, 1) := d_by (d_at odL_laws7 ofL_laws7 1297) rfl
theorem dL_law_1298 : decode cL_law 1298 = .ok (.iadd, 1) := d_by (d_at odL_laws7 ofL_laws7 1298) rfl
theorem dL_law_1299 : decode cL_law 1299 = .ok (.iaload, 1) := d_by (d_at odL_laws7 ofL_laws7 1299) rfl
theorem dL_law_1300 : decode cL_law 1300 = .ok (.aload_n 0, 1) := d_by (d_at odL_laws7 ofL_laws7 1300) rfl
theorem dL_law_1301 : decode cL_law 1301 = .ok (.iload 4, 2) := d_by (d_at odL_laws7 ofL_laws7 1301) rfl
theorem dL_law_1303 : decode cL_law 1303 = .ok (.iconst 4, 1) := d_by (d_at odL_laws7 ofL_laws7 1303) rfl
theorem dL_law_1304 : decode cL_law 1304 = .ok (.iadd, 1) := d_by (d_at odL_laws7 ofL_laws7 1304) rfl
theorem dL_law_1305 : decode cL_law 1305 = .ok (.iaload, 1) := d_by (d_at odL_laws7 ofL_laws7 1305) rfl
theorem dL_law_1306 : decode cL_law 1306 = .ok (.invokevirtual 156, 3) := d_by (d_at odL_laws7 ofL_laws7 1306) rfl
theorem dL_law_1309 : decode cL_law 1309 = .ok (.pop, 1) := d_by (d_at odL_laws7 ofL_laws7 1309) rfl
theorem dL_law_1310 : decode cL_law 1310 = .ok (.goto 495, 3) := d_by (d_at odL_laws7 ofL_laws7 1310) rfl
theorem dL_law_1313 : decode cL_law 1313 = .ok (.aload_n 1, 1) := d_by (d_at odL_laws7 ofL_laws7 1313) rfl
theorem dL_law_1314 : decode cL_law 1314 = .ok (.invokevirtual 157, 3) := d_by (d_at odL_laws7 ofL_laws7 1314) rfl
theorem dL_law_1317 : decode cL_law 1317 = .ok (.pop, 1) := d_by (d_at odL_laws7 ofL_laws7 1317) rfl
theorem dL_law_1318 : decode cL_law 1318 = .ok (.aload_n 2, 1) := d_by (d_at odL_laws7 ofL_laws7 1318) rfl
theorem dL_law_1319 : decode cL_law 1319 = .ok (.invokevirtual 160, 3) := d_by (d_at odL_laws7 ofL_laws7 1319) rfl
theorem dL_law_1322 : decode cL_law 1322 = .ok (.pop, 1) := d_by (d_at odL_laws7 ofL_laws7 1322) rfl
theorem dL_law_1323 : decode cL_law 1323 = .ok (.goto 482, 3) := d_by (d_at odL_laws7 ofL_laws7 1323) rfl
theorem dL_law_1326 : decode cL_law 1326 = .ok (.aload_n 1, 1) := d_by (d_at odL_laws7 ofL_laws7 1326) rfl
theorem dL_law_1327 : decode cL_law 1327 = .ok (.aload_n 0, 1) := d_by (d_at odL_laws7 ofL_laws7 1327) rfl
theorem dL_law_1328 : decode cL_law 1328 = .ok (.iload 4, 2) := d_by (d_at odL_laws7 ofL_laws7 1328) rfl
theorem dL_law_1330 : decode cL_law 1330 = .ok (.iconst 1, 1) := d_by (d_at odL_laws7 ofL_laws7 1330) rfl
theorem dL_law_1331 : decode cL_law 1331 = .ok (.iadd, 1) := d_by (d_at odL_laws7 ofL_laws7 1331) rfl
theorem dL_law_1332 : decode cL_law 1332 = .ok (.iaload, 1) := d_by (d_at odL_laws7 ofL_laws7 1332) rfl
theorem dL_law_1333 : decode cL_law 1333 = .ok (.aload_n 0, 1) := d_by (d_at odL_laws7 ofL_laws7 1333) rfl
theorem dL_law_1334 : decode cL_law 1334 = .ok (.iload 4, 2) := d_by (d_at odL_laws7 ofL_laws7 1334) rfl
theorem dL_law_1336 : decode cL_law 1336 = .ok (.iconst 2, 1) := d_by (d_at odL_laws7 ofL_laws7 1336) rfl
theorem dL_law_1337 : decode cL_law 1337 = .ok (.iadd, 1) := d_by (d_at odL_laws7 ofL_laws7 1337) rfl
theorem dL_law_1338 : decode cL_law 1338 = .ok (.iaload, 1) := d_by (d_at odL_laws7 ofL_laws7 1338) rfl
theorem dL_law_1339 : decode cL_law 1339 = .ok (.invokevirtual 161, 3) := d_by (d_at odL_laws7 ofL_laws7 1339) rfl
theorem dL_law_1342 : decode cL_law 1342 = .ok (.pop, 1) := d_by (d_at odL_laws7 ofL_laws7 1342) rfl
theorem dL_law_1343 : decode cL_law 1343 = .ok (.aload_n 2, 1) := d_by (d_at odL_laws7 ofL_laws7 1343) rfl
theorem dL_law_1344 : decode cL_law 1344 = .ok (.aload_n 0, 1) := d_by (d_at odL_laws7 ofL_laws7 1344) rfl
theorem dL_law_1345 : decode cL_law 1345 = .ok (.iload 4, 2) := d_by (d_at odL_laws7 ofL_laws7 1345) rfl
theorem dL_law_1347 : decode cL_law 1347 = .ok (.iconst 1, 1) := d_by (d_at odL_laws7 ofL_laws7 1347) rfl
theorem dL_law_1348 : decode cL_law 1348 = .ok (.iadd, 1) := d_by (d_at odL_laws7 ofL_laws7 1348) rfl
theorem dL_law_1349 : decode cL_law 1349 = .ok (.iaload, 1) := d_by (d_at odL_laws7 ofL_laws7 1349) rfl
theorem dL_law_1350 : decode cL_law 1350 = .ok (.aload_n 0, 1) := d_by (d_at odL_laws7 ofL_laws7 1350) rfl
theorem dL_law_1351 : decode cL_law 1351 = .ok (.iload 4, 2) := d_by (d_at odL_laws7 ofL_laws7 1351) rfl
theorem dL_law_1353 : decode cL_law 1353 = .ok (.iconst 2, 1) := d_by (d_at odL_laws7 ofL_laws7 1353) rfl
theorem dL_law_1354 : decode cL_law 1354 = .ok (.iadd, 1) := d_by (d_at odL_laws7 ofL_laws7 1354) rfl
theorem dL_law_1355 : decode cL_law 1355 = .ok (.iaload, 1) := d_by (d_at odL_laws7 ofL_laws7 1355) rfl
theorem dL_law_1356 : decode cL_law 1356 = .ok (.invokevirtual 164, 3) := d_by (d_at odL_laws7 ofL_laws7 1356) rfl
theorem dL_law_1359 : decode cL_law 1359 = .ok (.pop, 1) := d_by (d_at odL_laws7 ofL_laws7 1359) rfl
theorem dL_law_1360 : decode cL_law 1360 = .ok (.goto 445, 3) := d_by (d_at odL_laws7 ofL_laws7 1360) rfl
theorem dL_law_1363 : decode cL_law 1363 = .ok (.aload_n 1, 1) := d_by (d_at odL_laws7 ofL_laws7 1363) rfl
theorem dL_law_1364 : decode cL_law 1364 = .ok (.aload_n 0, 1) := d_by (d_at odL_laws7 ofL_laws7 1364) rfl
theorem dL_law_1365 : decode cL_law 1365 = .ok (.iload 4, 2) := d_by (d_at odL_laws7 ofL_laws7 1365) rfl
theorem dL_law_1367 : decode cL_law 1367 = .ok (.iconst 1, 1) := d_by (d_at odL_laws7 ofL_laws7 1367) rfl
theorem dL_law_1368 : decode cL_law 1368 = .ok (.iadd, 1) := d_by (d_at odL_laws7 ofL_laws7 1368) rfl
theorem dL_law_1369 : decode cL_law 1369 = .ok (.iaload, 1) := d_by (d_at odL_laws7 ofL_laws7 1369) rfl
theorem dL_law_1370 : decode cL_law 1370 = .ok (.invokevirtual 165, 3) := d_by (d_at odL_laws7 ofL_laws7 1370) rfl
theorem dL_law_1373 : decode cL_law 1373 = .ok (.pop, 1) := d_by (d_at odL_laws7 ofL_laws7 1373) rfl
theorem dL_law_1374 : decode cL_law 1374 = .ok (.aload_n 2, 1) := d_by (d_at odL_laws7 ofL_laws7 1374) rfl
theorem dL_law_1375 : decode cL_law 1375 = .ok (.aload_n 0, 1) := d_by (d_at odL_laws7 ofL_laws7 1375) rfl
theorem dL_law_1376 : decode cL_law 1376 = .ok (.iload 4, 2) := d_by (d_at odL_laws7 ofL_laws7 1376) rfl
theorem dL_law_1378 : decode cL_law 1378 = .ok (.iconst 1, 1) := d_by (d_at odL_laws7 ofL_laws7 1378) rfl
theorem dL_law_1379 : decode cL_law 1379 = .ok (.iadd, 1) := d_by (d_at odL_laws7 ofL_laws7 1379) rfl
theorem dL_law_1380 : decode cL_law 1380 = .ok (.iaload, 1) := d_by (d_at odL_laws7 ofL_laws7 1380) rfl
theorem dL_law_1381 : decode cL_law 1381 = .ok (.invokevirtual 168, 3) := d_by (d_at odL_laws7 ofL_laws7 1381) rfl
theorem dL_law_1384 : decode cL_law 1384 = .ok (.pop, 1) := d_by (d_at odL_laws7 ofL_laws7 1384) rfl
theorem dL_law_1385 : decode cL_law 1385 = .ok (.goto 420, 3) := d_by (d_at odL_laws7 ofL_laws7 1385) rfl
theorem dL_law_1388 : decode cL_law 1388 = .ok (.aload_n 1, 1) := d_by (d_at odL_laws8 ofL_laws8 1388) rfl
theorem dL_law_1389 : decode cL_law 1389 = .ok (.aload_n 0, 1) := d_by (d_at odL_laws8 ofL_laws8 1389) rfl
theorem dL_law_1390 : decode cL_law 1390 = .ok (.iload 4, 2) := d_by (d_at odL_laws8 ofL_laws8 1390) rfl
theorem dL_law_1392 : decode cL_law 1392 = .ok (.iconst 1, 1) := d_by (d_at odL_laws8 ofL_laws8 1392) rfl
theorem dL_law_1393 : decode cL_law 1393 = .ok (.iadd, 1) := d_by (d_at odL_laws8 ofL_laws8 1393) rfl
theorem dL_law_1394 : decode cL_law 1394 = .ok (.iaload, 1) := d_by (d_at odL_laws8 ofL_laws8 1394) rfl
theorem dL_law_1395 : decode cL_law 1395 = .ok (.aload_n 0, 1) := d_by (d_at odL_laws8 ofL_laws8 1395) rfl
theorem dL_law_1396 : decode cL_law 1396 = .ok (.iload 4, 2) := d_by (d_at odL_laws8 ofL_laws8 1396) rfl
theorem dL_law_1398 : decode cL_law 1398 = .ok (.iconst 2, 1) := d_by (d_at odL_laws8 ofL_laws8 1398) rfl
theorem dL_law_1399 : decode cL_law 1399 = .ok (.iadd, 1) := d_by (d_at odL_laws8 ofL_laws8 1399) rfl
theorem dL_law_1400 : decode cL_law 1400 = .ok (.iaload, 1) := d_by (d_at odL_laws8 ofL_laws8 1400) rfl
theorem dL_law_1401 : decode cL_law 1401 = .ok (.invokevirtual 169, 3) := d_by (d_at odL_laws8 ofL_laws8 1401) rfl
theorem dL_law_1404 : decode cL_law 1404 = .ok (.pop, 1) := d_by (d_at odL_laws8 ofL_laws8 1404) rfl
theorem dL_law_1405 : decode cL_law 1405 = .ok (.aload_n 2, 1) := d_by (d_at odL_laws8 ofL_laws8 1405) rfl
theorem dL_law_1406 : decode cL_law 1406 = .ok (.aload_n 0, 1) := d_by (d_at odL_laws8 ofL_laws8 1406) rfl
theorem dL_law_1407 : decode cL_law 1407 = .ok (.iload 4, 2) := d_by (d_at odL_laws8 ofL_laws8 1407) rfl
theorem dL_law_1409 : decode cL_law 1409 = .ok (.iconst 1, 1) := d_by (d_at odL_laws8 ofL_laws8 1409) rfl
theorem dL_law_1410 : decode cL_law 1410 = .ok (.iadd, 1) := d_by (d_at odL_laws8 ofL_laws8 1410) rfl
theorem dL_law_1411 : decode cL_law 1411 = .ok (.iaload, 1) := d_by (d_at odL_laws8 ofL_laws8 1411) rfl
theorem dL_law_1412 : decode cL_law 1412 = .ok (.aload_n 0, 1) := d_by (d_at odL_laws8 ofL_laws8 1412) rfl
theorem dL_law_1413 : decode cL_law 1413 = .ok (.iload 4, 2) := d_by (d_at odL_laws8 ofL_laws8 1413) rfl
theorem dL_law_1415 : decode cL_law 1415 = .ok (.iconst 2, 1) := d_by (d_at odL_laws8 ofL_laws8 1415) rfl
theorem dL_law_1416 : decode cL_law 1416 = .ok (.iadd, 1) := d_by (d_at odL_laws8 ofL_laws8 1416) rfl
theorem dL_law_1417 : decode cL_law 1417 = .ok (.iaload, 1) := d_by (d_at odL_laws8 ofL_laws8 1417) rfl
theorem dL_law_1418 : decode cL_law 1418 = .ok (.invokevirtual 172, 3) := d_by (d_at odL_laws8 ofL_laws8 1418) rfl
theorem dL_law_1421 : decode cL_law 1421 = .ok (.pop, 1) := d_by (d_at odL_laws8 ofL_laws8 1421) rfl
theorem dL_law_1422 : decode cL_law 1422 = .ok (.goto 383, 3) := d_by (d_at odL_laws8 ofL_laws8 1422) rfl
theorem dL_law_1425 : decode cL_law 1425 = .ok (.aload_n 1, 1) := d_by (d_at odL_laws8 ofL_laws8 1425) rfl
theorem dL_law_1426 : decode cL_law 1426 = .ok (.aload_n 0, 1) := d_by (d_at odL_laws8 ofL_laws8 1426) rfl
theorem dL_law_1427 : decode cL_law 1427 = .ok (.iload 4, 2) := d_by (d_at odL_laws8 ofL_laws8 1427) rfl
theorem dL_law_1429 : decode cL_law 1429 = .ok (.iconst 1, 1) := d_by (d_at odL_laws8 ofL_laws8 1429) rfl
theorem dL_law_1430 : decode cL_law 1430 = .ok (.iadd, 1) := d_by (d_at odL_laws8 ofL_laws8 1430) rfl
theorem dL_law_1431 : decode cL_law 1431 = .ok (.iaload, 1) := d_by (d_at odL_laws8 ofL_laws8 1431) rfl
theorem dL_law_1432 : decode cL_law 1432 = .ok (.invokevirtual 173, 3) := d_by (d_at odL_laws8 ofL_laws8 1432) rfl
theorem dL_law_1435 : decode cL_law 1435 = .ok (.pop, 1) := d_by (d_at odL_laws8 ofL_laws8 1435) rfl
theorem dL_law_1436 : decode cL_law 1436 = .ok (.aload_n 2, 1) := d_by (d_at odL_laws8 ofL_laws8 1436) rfl
theorem dL_law_1437 : decode cL_law 1437 = .ok (.aload_n 0, 1) := d_by (d_at odL_laws8 ofL_laws8 1437) rfl
theorem dL_law_1438 : decode cL_law 1438 = .ok (.iload 4, 2) := d_by (d_at odL_laws8 ofL_laws8 1438) rfl
theorem dL_law_1440 : decode cL_law 1440 = .ok (.iconst 1, 1) := d_by (d_at odL_laws8 ofL_laws8 1440) rfl
theorem dL_law_1441 : decode cL_law 1441 = .ok (.iadd, 1) := d_by (d_at odL_laws8 ofL_laws8 1441) rfl
theorem dL_law_1442 : decode cL_law 1442 = .ok (.iaload, 1) := d_by (d_at odL_laws8 ofL_laws8 1442) rfl
theorem dL_law_1443 : decode cL_law 1443 = .ok (.invokevirtual 176, 3) := d_by (d_at odL_laws8 ofL_laws8 1443) rfl
theorem dL_law_1446 : decode cL_law 1446 = .ok (.pop, 1) := d_by (d_at odL_laws8 ofL_laws8 1446) rfl
theorem dL_law_1447 : decode cL_law 1447 = .ok (.goto 358, 3) := d_by (d_at odL_laws8 ofL_laws8 1447) rfl
theorem dL_law_1450 : decode cL_law 1450 = .ok (.aload_n 1, 1) := d_by (d_at odL_laws8 ofL_laws8 1450) rfl
theorem dL_law_1451 : decode cL_law 1451 = .ok (.aload_n 0, 1) := d_by (d_at odL_laws8 ofL_laws8 1451) rfl
theorem dL_law_1452 : decode cL_law 1452 = .ok (.iload 4, 2) := d_by (d_at odL_laws8 ofL_laws8 1452) rfl
theorem dL_law_1454 : decode cL_law 1454 = .ok (.iconst 1, 1) := d_by (d_at odL_laws8 ofL_laws8 1454) rfl
theorem dL_law_1455 : decode cL_law 1455 = .ok (.iadd, 1) := d_by (d_at odL_laws8 ofL_laws8 1455) rfl
theorem dL_law_1456 : decode cL_law 1456 = .ok (.iaload, 1) := d_by (d_at odL_laws8 ofL_laws8 1456) rfl
theorem dL_law_1457 : decode cL_law 1457 = .ok (.aload_n 0, 1) := d_by (d_at odL_laws8 ofL_laws8 1457) rfl
theorem dL_law_1458 : decode cL_law 1458 = .ok (.iload 4, 2) := d_by (d_at odL_laws8 ofL_laws8 1458) rfl
theorem dL_law_1460 : decode cL_law 1460 = .ok (.iconst 2, 1) := d_by (d_at odL_laws8 ofL_laws8 1460) rfl
theorem dL_law_1461 : decode cL_law 1461 = .ok (.iadd, 1) := d_by (d_at odL_laws8 ofL_laws8 1461) rfl
theorem dL_law_1462 : decode cL_law 1462 = .ok (.iaload, 1) := d_by (d_at odL_laws8 ofL_laws8 1462) rfl
theorem dL_law_1463 : decode cL_law 1463 = .ok (.invokevirtual 177, 3) := d_by (d_at odL_laws8 ofL_laws8 1463) rfl
theorem dL_law_1466 : decode cL_law 1466 = .ok (.pop, 1) := d_by (d_at odL_laws8 ofL_laws8 1466) rfl
theorem dL_law_1467 : decode cL_law 1467 = .ok (.aload_n 2, 1) := d_by (d_at odL_laws8 ofL_laws8 1467) rfl
theorem dL_law_1468 : decode cL_law 1468 = .ok (.aload_n 0, 1) := d_by (d_at odL_laws8 ofL_laws8 1468) rfl
theorem dL_law_1469 : decode cL_law 1469 = .ok (.iload 4, 2) := d_by (d_at odL_laws8 ofL_laws8 1469) rfl
theorem dL_law_1471 : decode cL_law 1471 = .ok (.iconst 1, 1) := d_by (d_at odL_laws8 ofL_laws8 1471) rfl
theorem dL_law_1472 : decode cL_law 1472 = .ok (.iadd, 1) := d_by (d_at odL_laws8 ofL_laws8 1472) rfl
theorem dL_law_1473 : decode cL_law 1473 = .ok (.iaload, 1) := d_by (d_at odL_laws8 ofL_laws8 1473) rfl
theorem dL_law_1474 : decode cL_law 1474 = .ok (.aload_n 0, 1) := d_by (d_at odL_laws8 ofL_laws8 1474) rfl
theorem dL_law_1475 : decode cL_law 1475 = .ok (.iload 4, 2) := d_by (d_at odL_laws8 ofL_laws8 1475) rfl
theorem dL_law_1477 : decode cL_law 1477 = .ok (.iconst 2, 1) := d_by (d_at odL_laws8 ofL_laws8 1477) rfl
theorem dL_law_1478 : decode cL_law 1478 = .ok (.iadd, 1) := d_by (d_at odL_laws8 ofL_laws8 1478) rfl
theorem dL_law_1479 : decode cL_law 1479 = .ok (.iaload, 1) := d_by (d_at odL_laws8 ofL_laws8 1479) rfl
theorem dL_law_1480 : decode cL_law 1480 = .ok (.invokevirtual 180, 3) := d_by (d_at odL_laws8 ofL_laws8 1480) rfl
theorem dL_law_1483 : decode cL_law 1483 = .ok (.pop, 1) := d_by (d_at odL_laws8 ofL_laws8 1483) rfl
theorem dL_law_1484 : decode cL_law 1484 = .ok (.goto 321, 3) := d_by (d_at odL_laws8 ofL_laws8 1484) rfl
theorem dL_law_1487 : decode cL_law 1487 = .ok (.aload_n 1, 1) := d_by (d_at odL_laws8 ofL_laws8 1487) rfl
theorem dL_law_1488 : decode cL_law 1488 = .ok (.aload_n 0, 1) := d_by (d_at odL_laws8 ofL_laws8 1488) rfl
theorem dL_law_1489 : decode cL_law 1489 = .ok (.iload 4, 2) := d_by (d_at odL_laws8 ofL_laws8 1489) rfl
theorem dL_law_1491 : decode cL_law 1491 = .ok (.iconst 1, 1) := d_by (d_at odL_laws8 ofL_laws8 1491) rfl
theorem dL_law_1492 : decode cL_law 1492 = .ok (.iadd, 1) := d_by (d_at odL_laws8 ofL_laws8 1492) rfl
theorem dL_law_1493 : decode cL_law 1493 = .ok (.iaload, 1) := d_by (d_at odL_laws8 ofL_laws8 1493) rfl
theorem dL_law_1494 : decode cL_law 1494 = .ok (.aload_n 0, 1) := d_by (d_at odL_laws8 ofL_laws8 1494) rfl
theorem dL_law_1495 : decode cL_law 1495 = .ok (.iload 4, 2) := d_by (d_at odL_laws8 ofL_laws8 1495) rfl
theorem dL_law_1497 : decode cL_law 1497 = .ok (.iconst 2, 1) := d_by (d_at odL_laws8 ofL_laws8 1497) rfl
theorem dL_law_1498 : decode cL_law 1498 = .ok (.iadd, 1) := d_by (d_at odL_laws8 ofL_laws8 1498) rfl
theorem dL_law_1499 : decode cL_law 1499 = .ok (.iaload, 1) := d_by (d_at odL_laws8 ofL_laws8 1499) rfl
theorem dL_law_1500 : decode cL_law 1500 = .ok (.invokevirtual 181, 3) := d_by (d_at odL_laws8 ofL_laws8 1500) rfl
theorem dL_law_1503 : decode cL_law 1503 = .ok (.pop, 1) := d_by (d_at odL_laws8 ofL_laws8 1503) rfl
theorem dL_law_1504 : decode cL_law 1504 = .ok (.aload_n 2, 1) := d_by (d_at odL_laws8 ofL_laws8 1504) rfl
theorem dL_law_1505 : decode cL_law 1505 = .ok (.aload_n 0, 1) := d_by (d_at odL_laws8 ofL_laws8 1505) rfl
theorem dL_law_1506 : decode cL_law 1506 = .ok (.iload 4, 2) := d_by (d_at odL_laws8 ofL_laws8 1506) rfl
theorem dL_law_1508 : decode cL_law 1508 = .ok (.iconst 1, 1) := d_by (d_at odL_laws8 ofL_laws8 1508) rfl
theorem dL_law_1509 : decode cL_law 1509 = .ok (.iadd, 1) := d_by (d_at odL_laws8 ofL_laws8 1509) rfl
theorem dL_law_1510 : decode cL_law 1510 = .ok (.iaload, 1) := d_by (d_at odL_laws8 ofL_laws8 1510) rfl
theorem dL_law_1511 : decode cL_law 1511 = .ok (.aload_n 0, 1) := d_by (d_at odL_laws8 ofL_laws8 1511) rfl
theorem dL_law_1512 : decode cL_law 1512 = .ok (.iload 4, 2) := d_by (d_at odL_laws8 ofL_laws8 1512) rfl
theorem dL_law_1514 : decode cL_law 1514 = .ok (.iconst 2, 1) := d_by (d_at odL_laws8 ofL_laws8 1514) rfl
theorem dL_law_1515 : decode cL_law 1515 = .ok (.iadd, 1) := d_by (d_at odL_laws8 ofL_laws8 1515) rfl
theorem dL_law_1516 : decode cL_law 1516 = .ok (.iaload, 1) := d_by (d_at odL_laws8 ofL_laws8 1516) rfl
theorem dL_law_1517 : decode cL_law 1517 = .ok (.invokevirtual 184, 3) := d_by (d_at odL_laws8 ofL_laws8 1517) rfl
theorem dL_law_1520 : decode cL_law 1520 = .ok (.pop, 1) := d_by (d_at odL_laws8 ofL_laws8 1520) rfl
theorem dL_law_1521 : decode cL_law 1521 = .ok (.goto 284, 3) := d_by (d_at odL_laws8 ofL_laws8 1521) rfl
theorem dL_law_1524 : decode cL_law 1524 = .ok (.aload_n 1, 1) := d_by (d_at odL_laws8 ofL_laws8 1524) rfl
theorem dL_law_1525 : decode cL_law 1525 = .ok (.aload_n 0, 1) := d_by (d_at odL_laws8 ofL_laws8 1525) rfl
theorem dL_law_1526 : decode cL_law 1526 = .ok (.iload 4, 2) := d_by (d_at odL_laws8 ofL_laws8 1526) rfl
theorem dL_law_1528 : decode cL_law 1528 = .ok (.iconst 1, 1) := d_by (d_at odL_laws8 ofL_laws8 1528) rfl
theorem dL_law_1529 : decode cL_law 1529 = .ok (.iadd, 1) := d_by (d_at odL_laws8 ofL_laws8 1529) rfl
theorem dL_law_1530 : decode cL_law 1530 = .ok (.iaload, 1) := d_by (d_at odL_laws8 ofL_laws8 1530) rfl
theorem dL_law_1531 : decode cL_law 1531 = .ok (.aload_n 0, 1) := d_by (d_at odL_laws8 ofL_laws8 1531) rfl
theorem dL_law_1532 : decode cL_law 1532 = .ok (.iload 4, 2) := d_by (d_at odL_laws8 ofL_laws8 1532) rfl
theorem dL_law_1534 : decode cL_law 1534 = .ok (.iconst 2, 1) := d_by (d_at odL_laws8 ofL_laws8 1534) rfl
theorem dL_law_1535 : decode cL_law 1535 = .ok (.iadd, 1) := d_by (d_at odL_laws8 ofL_laws8 1535) rfl
theorem dL_law_1536 : decode cL_law 1536 = .ok (.iaload, 1) := d_by (d_at odL_laws8 ofL_laws8 1536) rfl
theorem dL_law_1537 : decode cL_law 1537 = .ok (.invokevirtual 185, 3) := d_by (d_at odL_laws8 ofL_laws8 1537) rfl
theorem dL_law_1540 : decode cL_law 1540 = .ok (.pop, 1) := d_by (d_at odL_laws8 ofL_laws8 1540) rfl
theorem dL_law_1541 : decode cL_law 1541 = .ok (.aload_n 2, 1) := d_by (d_at odL_laws8 ofL_laws8 1541) rfl
theorem dL_law_1542 : decode cL_law 1542 = .ok (.aload_n 0, 1) := d_by (d_at odL_laws8 ofL_laws8 1542) rfl
theorem dL_law_1543 : decode cL_law 1543 = .ok (.iload 4, 2) := d_by (d_at odL_laws8 ofL_laws8 1543) rfl
theorem dL_law_1545 : decode cL_law 1545 = .ok (.iconst 1, 1) := d_by (d_at odL_laws8 ofL_laws8 1545) rfl
theorem dL_law_1546 : decode cL_law 1546 = .ok (.iadd, 1) := d_by (d_at odL_laws8 ofL_laws8 1546) rfl
theorem dL_law_1547 : decode cL_law 1547 = .ok (.iaload, 1) := d_by (d_at odL_laws8 ofL_laws8 1547) rfl
theorem dL_law_1548 : decode cL_law 1548 = .ok (.aload_n 0, 1) := d_by (d_at odL_laws8 ofL_laws8 1548) rfl
theorem dL_law_1549 : decode cL_law 1549 = .ok (.iload 4, 2) := d_by (d_at odL_laws8 ofL_laws8 1549) rfl
theorem dL_law_1551 : decode cL_law 1551 = .ok (.iconst 2, 1) := d_by (d_at odL_laws8 ofL_laws8 1551) rfl
theorem dL_law_1552 : decode cL_law 1552 = .ok (.iadd, 1) := d_by (d_at odL_laws8 ofL_laws8 1552) rfl
theorem dL_law_1553 : decode cL_law 1553 = .ok (.iaload, 1) := d_by (d_at odL_laws8 ofL_laws8 1553) rfl
theorem dL_law_1554 : decode cL_law 1554 = .ok (.invokevirtual 188, 3) := d_by (d_at odL_laws8 ofL_laws8 1554) rfl
theorem dL_law_1557 : decode cL_law 1557 = .ok (.pop, 1) := d_by (d_at odL_laws8 ofL_laws8 1557) rfl
theorem dL_law_1558 : decode cL_law 1558 = .ok (.goto 247, 3) := d_by (d_at odL_laws8 ofL_laws8 1558) rfl
theorem dL_law_1561 : decode cL_law 1561 = .ok (.aload_n 1, 1) := d_by (d_at odL_laws8 ofL_laws8 1561) rfl
theorem dL_law_1562 : decode cL_law 1562 = .ok (.aload_n 0, 1) := d_by (d_at odL_laws8 ofL_laws8 1562) rfl
theorem dL_law_1563 : decode cL_law 1563 = .ok (.iload 4, 2) := d_by (d_at odL_laws8 ofL_laws8 1563) rfl
theorem dL_law_1565 : decode cL_law 1565 = .ok (.iconst 1, 1) := d_by (d_at odL_laws8 ofL_laws8 1565) rfl
theorem dL_law_1566 : decode cL_law 1566 = .ok (.iadd, 1) := d_by (d_at odL_laws8 ofL_laws8 1566) rfl
theorem dL_law_1567 : decode cL_law 1567 = .ok (.iaload, 1) := d_by (d_at odL_laws8 ofL_laws8 1567) rfl
theorem dL_law_1568 : decode cL_law 1568 = .ok (.aload_n 0, 1) := d_by (d_at odL_laws8 ofL_laws8 1568) rfl
theorem dL_law_1569 : decode cL_law 1569 = .ok (.iload 4, 2) := d_by (d_at odL_laws8 ofL_laws8 1569) rfl
theorem dL_law_1571 : decode cL_law 1571 = .ok (.iconst 2, 1) := d_by (d_at odL_laws8 ofL_laws8 1571) rfl
theorem dL_law_1572 : decode cL_law 1572 = .ok (.iadd, 1) := d_by (d_at odL_laws8 ofL_laws8 1572) rfl
theorem dL_law_1573 : decode cL_law 1573 = .ok (.iaload, 1) := d_by (d_at odL_laws8 ofL_laws8 1573) rfl
theorem dL_law_1574 : decode cL_law 1574 = .ok (.aload_n 0, 1) := d_by (d_at odL_laws8 ofL_laws8 1574) rfl
theorem dL_law_1575 : decode cL_law 1575 = .ok (.iload 4, 2) := d_by (d_at odL_laws8 ofL_laws8 1575) rfl
theorem dL_law_1577 : decode cL_law 1577 = .ok (.iconst 3, 1) := d_by (d_at odL_laws8 ofL_laws8 1577) rfl
theorem dL_law_1578 : decode cL_law 1578 = .ok (.iadd, 1) := d_by (d_at odL_laws8 ofL_laws8 1578) rfl
theorem dL_law_1579 : decode cL_law 1579 = .ok (.iaload, 1) := d_by (d_at odL_laws8 ofL_laws8 1579) rfl
theorem dL_law_1580 : decode cL_law 1580 = .ok (.invokevirtual 189, 3) := d_by (d_at odL_laws8 ofL_laws8 1580) rfl
theorem dL_law_1583 : decode cL_law 1583 = .ok (.pop, 1) := d_by (d_at odL_laws8 ofL_laws8 1583) rfl
theorem dL_law_1584 : decode cL_law 1584 = .ok (.aload_n 2, 1) := d_by (d_at odL_laws8 ofL_laws8 1584) rfl
theorem dL_law_1585 : decode cL_law 1585 = .ok (.aload_n 0, 1) := d_by (d_at odL_laws8 ofL_laws8 1585) rfl
theorem dL_law_1586 : decode cL_law 1586 = .ok (.iload 4, 2) := d_by (d_at odL_laws8 ofL_laws8 1586) rfl
theorem dL_law_1588 : decode cL_law 1588 = .ok (.iconst 1, 1) := d_by (d_at odL_laws8 ofL_laws8 1588) rfl
theorem dL_law_1589 : decode cL_law 1589 = .ok (.iadd, 1) := d_by (d_at odL_laws8 ofL_laws8 1589) rfl
theorem dL_law_1590 : decode cL_law 1590 = .ok (.iaload, 1) := d_by (d_at odL_laws8 ofL_laws8 1590) rfl
theorem dL_law_1591 : decode cL_law 1591 = .ok (.aload_n 0, 1) := d_by (d_at odL_laws8 ofL_laws8 1591) rfl
theorem dL_law_1592 : decode cL_law 1592 = .ok (.iload 4, 2) := d_by (d_at odL_laws8 ofL_laws8 1592) rfl
theorem dL_law_1594 : decode cL_law 1594 = .ok (.iconst 2, 1) := d_by (d_at odL_laws8 ofL_laws8 1594) rfl
theorem dL_law_1595 : decode cL_law 1595 = .ok (.iadd, 1) := d_by (d_at odL_laws8 ofL_laws8 1595) rfl
theorem dL_law_1596 : decode cL_law 1596 = .ok (.iaload, 1) := d_by (d_at odL_laws8 ofL_laws8 1596) rfl
theorem dL_law_1597 : decode cL_law 1597 = .ok (.aload_n 0, 1) := d_by (d_at odL_laws8 ofL_laws8 1597) rfl
theorem dL_law_1598 : decode cL_law 1598 = .ok (.iload 4, 2) := d_by (d_at odL_laws8 ofL_laws8 1598) rfl
theorem dL_law_1600 : decode cL_law 1600 = .ok (.iconst 3, 1) := d_by (d_at odL_laws8 ofL_laws8 1600) rfl
theorem dL_law_1601 : decode cL_law 1601 = .ok (.iadd, 1) := d_by (d_at odL_laws8 ofL_laws8 1601) rfl
theorem dL_law_1602 : decode cL_law 1602 = .ok (.iaload, 1) := d_by (d_at odL_laws8 ofL_laws8 1602) rfl
theorem dL_law_1603 : decode cL_law 1603 = .ok (.invokevirtual 193, 3) := d_by (d_at odL_laws8 ofL_laws8 1603) rfl
theorem dL_law_1606 : decode cL_law 1606 = .ok (.pop, 1) := d_by (d_at odL_laws8 ofL_laws8 1606) rfl
theorem dL_law_1607 : decode cL_law 1607 = .ok (.goto 198, 3) := d_by (d_at odL_laws8 ofL_laws8 1607) rfl
theorem dL_law_1610 : decode cL_law 1610 = .ok (.aload_n 1, 1) := d_by (d_at odL_laws8 ofL_laws8 1610) rfl
theorem dL_law_1611 : decode cL_law 1611 = .ok (.aload_n 0, 1) := d_by (d_at odL_laws8 ofL_laws8 1611) rfl
theorem dL_law_1612 : decode cL_law 1612 = .ok (.iload 4, 2) := d_by (d_at odL_laws8 ofL_laws8 1612) rfl
theorem dL_law_1614 : decode cL_law 1614 = .ok (.iconst 1, 1) := d_by (d_at odL_laws8 ofL_laws8 1614) rfl
theorem dL_law_1615 : decode cL_law 1615 = .ok (.iadd, 1) := d_by (d_at odL_laws8 ofL_laws8 1615) rfl
theorem dL_law_1616 : decode cL_law 1616 = .ok (.iaload, 1) := d_by (d_at odL_laws8 ofL_laws8 1616) rfl
theorem dL_law_1617 : decode cL_law 1617 = .ok (.invokevirtual 194, 3) := d_by (d_at odL_laws8 ofL_laws8 1617) rfl
theorem dL_law_1620 : decode cL_law 1620 = .ok (.pop, 1) := d_by (d_at odL_laws8 ofL_laws8 1620) rfl
theorem dL_law_1621 : decode cL_law 1621 = .ok (.aload_n 2, 1) := d_by (d_at odL_laws8 ofL_laws8 1621) rfl
theorem dL_law_1622 : decode cL_law 1622 = .ok (.aload_n 0, 1) := d_by (d_at odL_laws8 ofL_laws8 1622) rfl
theorem dL_law_1623 : decode cL_law 1623 = .ok (.iload 4, 2) := d_by (d_at odL_laws8 ofL_laws8 1623) rfl
theorem dL_law_1625 : decode cL_law 1625 = .ok (.iconst 1, 1) := d_by (d_at odL_laws8 ofL_laws8 1625) rfl
theorem dL_law_1626 : decode cL_law 1626 = .ok (.iadd, 1) := d_by (d_at odL_laws8 ofL_laws8 1626) rfl
theorem dL_law_1627 : decode cL_law 1627 = .ok (.iaload, 1) := d_by (d_at odL_laws8 ofL_laws8 1627) rfl
theorem dL_law_1628 : decode cL_law 1628 = .ok (.invokevirtual 197, 3) := d_by (d_at odL_laws8 ofL_laws8 1628) rfl
theorem dL_law_1631 : decode cL_law 1631 = .ok (.pop, 1) := d_by (d_at odL_laws8 ofL_laws8 1631) rfl
theorem dL_law_1632 : decode cL_law 1632 = .ok (.goto 173, 3) := d_by (d_at odL_laws8 ofL_laws8 1632) rfl
theorem dL_law_1635 : decode cL_law 1635 = .ok (.aload_n 1, 1) := d_by (d_at odL_laws8 ofL_laws8 1635) rfl
theorem dL_law_1636 : decode cL_law 1636 = .ok (.aload_n 0, 1) := d_by (d_at odL_laws8 ofL_laws8 1636) rfl
theorem dL_law_1637 : decode cL_law 1637 = .ok (.iload 4, 2) := d_by (d_at odL_laws8 ofL_laws8 1637) rfl
theorem dL_law_1639 : decode cL_law 1639 = .ok (.iconst 1, 1) := d_by (d_at odL_laws8 ofL_laws8 1639) rfl
theorem dL_law_1640 : decode cL_law 1640 = .ok (.iadd, 1) := d_by (d_at odL_laws8 ofL_laws8 1640) rfl
theorem dL_law_1641 : decode cL_law 1641 = .ok (.iaload, 1) := d_by (d_at odL_laws8 ofL_laws8 1641) rfl
theorem dL_law_1642 : decode cL_law 1642 = .ok (.aload_n 0, 1) := d_by (d_at odL_laws8 ofL_laws8 1642) rfl
theorem dL_law_1643 : decode cL_law 1643 = .ok (.iload 4, 2) := d_by (d_at odL_laws8 ofL_laws8 1643) rfl
theorem dL_law_1645 : decode cL_law 1645 = .ok (.iconst 2, 1) := d_by (d_at odL_laws8 ofL_laws8 1645) rfl
theorem dL_law_1646 : decode cL_law 1646 = .ok (.iadd, 1) := d_by (d_at odL_laws8 ofL_laws8 1646) rfl
theorem dL_law_1647 : decode cL_law 1647 = .ok (.iaload, 1) := d_by (d_at odL_laws8 ofL_laws8 1647) rfl
theorem dL_law_1648 : decode cL_law 1648 = .ok (.ifCond .eq 7, 3) := d_by (d_at odL_laws8 ofL_laws8 1648) rfl
theorem dL_law_1651 : decode cL_law 1651 = .ok (.iconst 1, 1) := d_by (d_at odL_laws8 ofL_laws8 1651) rfl
theorem dL_law_1652 : decode cL_law 1652 = .ok (.goto 4, 3) := d_by (d_at odL_laws8 ofL_laws8 1652) rfl
theorem dL_law_1655 : decode cL_law 1655 = .ok (.iconst 0, 1) := d_by (d_at odL_laws8 ofL_laws8 1655) rfl
theorem dL_law_1656 : decode cL_law 1656 = .ok (.invokevirtual 198, 3) := d_by (d_at odL_laws8 ofL_laws8 1656) rfl
theorem dL_law_1659 : decode cL_law 1659 = .ok (.pop, 1) := d_by (d_at odL_laws8 ofL_laws8 1659) rfl
theorem dL_law_1660 : decode cL_law 1660 = .ok (.aload_n 2, 1) := d_by (d_at odL_laws8 ofL_laws8 1660) rfl
theorem dL_law_1661 : decode cL_law 1661 = .ok (.aload_n 0, 1) := d_by (d_at odL_laws8 ofL_laws8 1661) rfl
theorem dL_law_1662 : decode cL_law 1662 = .ok (.iload 4, 2) := d_by (d_at odL_laws8 ofL_laws8 1662) rfl
theorem dL_law_1664 : decode cL_law 1664 = .ok (.iconst 1, 1) := d_by (d_at odL_laws8 ofL_laws8 1664) rfl
theorem dL_law_1665 : decode cL_law 1665 = .ok (.iadd, 1) := d_by (d_at odL_laws9 ofL_laws9 1665) rfl
theorem dL_law_1666 : decode cL_law 1666 = .ok (.iaload, 1) := d_by (d_at odL_laws9 ofL_laws9 1666) rfl
theorem dL_law_1667 : decode cL_law 1667 = .ok (.aload_n 0, 1) := d_by (d_at odL_laws9 ofL_laws9 1667) rfl
theorem dL_law_1668 : decode cL_law 1668 = .ok (.iload 4, 2) := d_by (d_at odL_laws9 ofL_laws9 1668) rfl
theorem dL_law_1670 : decode cL_law 1670 = .ok (.iconst 2, 1) := d_by (d_at odL_laws9 ofL_laws9 1670) rfl
theorem dL_law_1671 : decode cL_law 1671 = .ok (.iadd, 1) := d_by (d_at odL_laws9 ofL_laws9 1671) rfl
theorem dL_law_1672 : decode cL_law 1672 = .ok (.iaload, 1) := d_by (d_at odL_laws9 ofL_laws9 1672) rfl
theorem dL_law_1673 : decode cL_law 1673 = .ok (.ifCond .eq 7, 3) := d_by (d_at odL_laws9 ofL_laws9 1673) rfl
theorem dL_law_1676 : decode cL_law 1676 = .ok (.iconst 1, 1) := d_by (d_at odL_laws9 ofL_laws9 1676) rfl
theorem dL_law_1677 : decode cL_law 1677 = .ok (.goto 4, 3) := d_by (d_at odL_laws9 ofL_laws9 1677) rfl
theorem dL_law_1680 : decode cL_law 1680 = .ok (.iconst 0, 1) := d_by (d_at odL_laws9 ofL_laws9 1680) rfl
theorem dL_law_1681 : decode cL_law 1681 = .ok (.invokevirtual 202, 3) := d_by (d_at odL_laws9 ofL_laws9 1681) rfl
theorem dL_law_1684 : decode cL_law 1684 = .ok (.pop, 1) := d_by (d_at odL_laws9 ofL_laws9 1684) rfl
theorem dL_law_1685 : decode cL_law 1685 = .ok (.goto 120, 3) := d_by (d_at odL_laws9 ofL_laws9 1685) rfl
theorem dL_law_1688 : decode cL_law 1688 = .ok (.aload_n 1, 1) := d_by (d_at odL_laws9 ofL_laws9 1688) rfl
theorem dL_law_1689 : decode cL_law 1689 = .ok (.invokevirtual 203, 3) := d_by (d_at odL_laws9 ofL_laws9 1689) rfl
theorem dL_law_1692 : decode cL_law 1692 = .ok (.pop, 1) := d_by (d_at odL_laws9 ofL_laws9 1692) rfl
theorem dL_law_1693 : decode cL_law 1693 = .ok (.aload_n 2, 1) := d_by (d_at odL_laws9 ofL_laws9 1693) rfl
theorem dL_law_1694 : decode cL_law 1694 = .ok (.invokevirtual 207, 3) := d_by (d_at odL_laws9 ofL_laws9 1694) rfl
theorem dL_law_1697 : decode cL_law 1697 = .ok (.pop, 1) := d_by (d_at odL_laws9 ofL_laws9 1697) rfl
theorem dL_law_1698 : decode cL_law 1698 = .ok (.goto 107, 3) := d_by (d_at odL_laws9 ofL_laws9 1698) rfl
theorem dL_law_1701 : decode cL_law 1701 = .ok (.aload_n 1, 1) := d_by (d_at odL_laws9 ofL_laws9 1701) rfl
theorem dL_law_1702 : decode cL_law 1702 = .ok (.invokevirtual 208, 3) := d_by (d_at odL_laws9 ofL_laws9 1702) rfl
theorem dL_law_1705 : decode cL_law 1705 = .ok (.pop, 1) := d_by (d_at odL_laws9 ofL_laws9 1705) rfl
theorem dL_law_1706 : decode cL_law 1706 = .ok (.aload_n 2, 1) := d_by (d_at odL_laws9 ofL_laws9 1706) rfl
theorem dL_law_1707 : decode cL_law 1707 = .ok (.invokevirtual 211, 3) := d_by (d_at odL_laws9 ofL_laws9 1707) rfl
theorem dL_law_1710 : decode cL_law 1710 = .ok (.pop, 1) := d_by (d_at odL_laws9 ofL_laws9 1710) rfl
theorem dL_law_1711 : decode cL_law 1711 = .ok (.goto 94, 3) := d_by (d_at odL_laws9 ofL_laws9 1711) rfl
theorem dL_law_1714 : decode cL_law 1714 = .ok (.aload_n 1, 1) := d_by (d_at odL_laws9 ofL_laws9 1714) rfl
theorem dL_law_1715 : decode cL_law 1715 = .ok (.aload_n 0, 1) := d_by (d_at odL_laws9 ofL_laws9 1715) rfl
theorem dL_law_1716 : decode cL_law 1716 = .ok (.iload 4, 2) := d_by (d_at odL_laws9 ofL_laws9 1716) rfl
theorem dL_law_1718 : decode cL_law 1718 = .ok (.iconst 1, 1) := d_by (d_at odL_laws9 ofL_laws9 1718) rfl
theorem dL_law_1719 : decode cL_law 1719 = .ok (.iadd, 1) := d_by (d_at odL_laws9 ofL_laws9 1719) rfl
theorem dL_law_1720 : decode cL_law 1720 = .ok (.iaload, 1) := d_by (d_at odL_laws9 ofL_laws9 1720) rfl
theorem dL_law_1721 : decode cL_law 1721 = .ok (.invokevirtual 212, 3) := d_by (d_at odL_laws9 ofL_laws9 1721) rfl
theorem dL_law_1724 : decode cL_law 1724 = .ok (.pop, 1) := d_by (d_at odL_laws9 ofL_laws9 1724) rfl
theorem dL_law_1725 : decode cL_law 1725 = .ok (.aload_n 2, 1) := d_by (d_at odL_laws9 ofL_laws9 1725) rfl
theorem dL_law_1726 : decode cL_law 1726 = .ok (.aload_n 0, 1) := d_by (d_at odL_laws9 ofL_laws9 1726) rfl
theorem dL_law_1727 : decode cL_law 1727 = .ok (.iload 4, 2) := d_by (d_at odL_laws9 ofL_laws9 1727) rfl
theorem dL_law_1729 : decode cL_law 1729 = .ok (.iconst 1, 1) := d_by (d_at odL_laws9 ofL_laws9 1729) rfl
theorem dL_law_1730 : decode cL_law 1730 = .ok (.iadd, 1) := d_by (d_at odL_laws9 ofL_laws9 1730) rfl
theorem dL_law_1731 : decode cL_law 1731 = .ok (.iaload, 1) := d_by (d_at odL_laws9 ofL_laws9 1731) rfl
theorem dL_law_1732 : decode cL_law 1732 = .ok (.invokevirtual 216, 3) := d_by (d_at odL_laws9 ofL_laws9 1732) rfl
theorem dL_law_1735 : decode cL_law 1735 = .ok (.pop, 1) := d_by (d_at odL_laws9 ofL_laws9 1735) rfl
theorem dL_law_1736 : decode cL_law 1736 = .ok (.goto 69, 3) := d_by (d_at odL_laws9 ofL_laws9 1736) rfl
theorem dL_law_1739 : decode cL_law 1739 = .ok (.aload_n 1, 1) := d_by (d_at odL_laws9 ofL_laws9 1739) rfl
theorem dL_law_1740 : decode cL_law 1740 = .ok (.aload_n 0, 1) := d_by (d_at odL_laws9 ofL_laws9 1740) rfl
theorem dL_law_1741 : decode cL_law 1741 = .ok (.iload 4, 2) := d_by (d_at odL_laws9 ofL_laws9 1741) rfl
theorem dL_law_1743 : decode cL_law 1743 = .ok (.iconst 1, 1) := d_by (d_at odL_laws9 ofL_laws9 1743) rfl
theorem dL_law_1744 : decode cL_law 1744 = .ok (.iadd, 1) := d_by (d_at odL_laws9 ofL_laws9 1744) rfl
theorem dL_law_1745 : decode cL_law 1745 = .ok (.iaload, 1) := d_by (d_at odL_laws9 ofL_laws9 1745) rfl
theorem dL_law_1746 : decode cL_law 1746 = .ok (.aload_n 3, 1) := d_by (d_at odL_laws9 ofL_laws9 1746) rfl
theorem dL_law_1747 : decode cL_law 1747 = .ok (.invokestatic 217, 3) := d_by (d_at odL_laws9 ofL_laws9 1747) rfl
theorem dL_law_1750 : decode cL_law 1750 = .ok (.istore 5, 2) := d_by (d_at odL_laws9 ofL_laws9 1750) rfl
theorem dL_law_1752 : decode cL_law 1752 = .ok (.aload_n 2, 1) := d_by (d_at odL_laws9 ofL_laws9 1752) rfl
theorem dL_law_1753 : decode cL_law 1753 = .ok (.aload_n 0, 1) := d_by (d_at odL_laws9 ofL_laws9 1753) rfl
theorem dL_law_1754 : decode cL_law 1754 = .ok (.iload 4, 2) := d_by (d_at odL_laws9 ofL_laws9 1754) rfl
theorem dL_law_1756 : decode cL_law 1756 = .ok (.iconst 1, 1) := d_by (d_at odL_laws9 ofL_laws9 1756) rfl
theorem dL_law_1757 : decode cL_law 1757 = .ok (.iadd, 1) := d_by (d_at odL_laws9 ofL_laws9 1757) rfl
theorem dL_law_1758 : decode cL_law 1758 = .ok (.iaload, 1) := d_by (d_at odL_laws9 ofL_laws9 1758) rfl
theorem dL_law_1759 : decode cL_law 1759 = .ok (.invokevirtual 222, 3) := d_by (d_at odL_laws9 ofL_laws9 1759) rfl
theorem dL_law_1762 : decode cL_law 1762 = .ok (.istore 6, 2) := d_by (d_at odL_laws9 ofL_laws9 1762) rfl
theorem dL_law_1764 : decode cL_law 1764 = .ok (.goto 41, 3) := d_by (d_at odL_laws9 ofL_laws9 1764) rfl
theorem dL_law_1767 : decode cL_law 1767 = .ok (.aload_n 1, 1) := d_by (d_at odL_laws9 ofL_laws9 1767) rfl
theorem dL_law_1768 : decode cL_law 1768 = .ok (.aload_n 0, 1) := d_by (d_at odL_laws9 ofL_laws9 1768) rfl
theorem dL_law_1769 : decode cL_law 1769 = .ok (.iload 4, 2) := d_by (d_at odL_laws9 ofL_laws9 1769) rfl
theorem dL_law_1771 : decode cL_law 1771 = .ok (.iconst 1, 1) := d_by (d_at odL_laws9 ofL_laws9 1771) rfl
theorem dL_law_1772 : decode cL_law 1772 = .ok (.iadd, 1) := d_by (d_at odL_laws9 ofL_laws9 1772) rfl
theorem dL_law_1773 : decode cL_law 1773 = .ok (.iaload, 1) := d_by (d_at odL_laws9 ofL_laws9 1773) rfl
theorem dL_law_1774 : decode cL_law 1774 = .ok (.invokevirtual 223, 3) := d_by (d_at odL_laws9 ofL_laws9 1774) rfl
theorem dL_law_1777 : decode cL_law 1777 = .ok (.pop, 1) := d_by (d_at odL_laws9 ofL_laws9 1777) rfl
theorem dL_law_1778 : decode cL_law 1778 = .ok (.aload_n 2, 1) := d_by (d_at odL_laws9 ofL_laws9 1778) rfl
theorem dL_law_1779 : decode cL_law 1779 = .ok (.aload_n 0, 1) := d_by (d_at odL_laws9 ofL_laws9 1779) rfl
theorem dL_law_1780 : decode cL_law 1780 = .ok (.iload 4, 2) := d_by (d_at odL_laws9 ofL_laws9 1780) rfl
theorem dL_law_1782 : decode cL_law 1782 = .ok (.iconst 1, 1) := d_by (d_at odL_laws9 ofL_laws9 1782) rfl
theorem dL_law_1783 : decode cL_law 1783 = .ok (.iadd, 1) := d_by (d_at odL_laws9 ofL_laws9 1783) rfl
theorem dL_law_1784 : decode cL_law 1784 = .ok (.iaload, 1) := d_by (d_at odL_laws9 ofL_laws9 1784) rfl
theorem dL_law_1785 : decode cL_law 1785 = .ok (.invokevirtual 226, 3) := d_by (d_at odL_laws9 ofL_laws9 1785) rfl
theorem dL_law_1788 : decode cL_law 1788 = .ok (.pop, 1) := d_by (d_at odL_laws9 ofL_laws9 1788) rfl
theorem dL_law_1789 : decode cL_law 1789 = .ok (.goto 16, 3) := d_by (d_at odL_laws9 ofL_laws9 1789) rfl
theorem dL_law_1792 : decode cL_law 1792 = .ok (.aload_n 1, 1) := d_by (d_at odL_laws9 ofL_laws9 1792) rfl
theorem dL_law_1793 : decode cL_law 1793 = .ok (.invokevirtual 227, 3) := d_by (d_at odL_laws9 ofL_laws9 1793) rfl
theorem dL_law_1796 : decode cL_law 1796 = .ok (.pop, 1) := d_by (d_at odL_laws9 ofL_laws9 1796) rfl
theorem dL_law_1797 : decode cL_law 1797 = .ok (.aload_n 2, 1) := d_by (d_at odL_laws9 ofL_laws9 1797) rfl
theorem dL_law_1798 : decode cL_law 1798 = .ok (.invokevirtual 230, 3) := d_by (d_at odL_laws9 ofL_laws9 1798) rfl
theorem dL_law_1801 : decode cL_law 1801 = .ok (.pop, 1) := d_by (d_at odL_laws9 ofL_laws9 1801) rfl
theorem dL_law_1802 : decode cL_law 1802 = .ok (.goto 3, 3) := d_by (d_at odL_laws9 ofL_laws9 1802) rfl
theorem dL_law_1805 : decode cL_law 1805 = .ok (.iinc 4 6, 3) := d_by (d_at odL_laws9 ofL_laws9 1805) rfl
theorem dL_law_1808 : decode cL_law 1808 = .ok (.goto (-1785), 3) := d_by (d_at odL_laws9 ofL_laws9 1808) rfl
theorem dL_law_1811 : decode cL_law 1811 = .ok (.iconst 1, 1) := d_by (d_at odL_laws9 ofL_laws9 1811) rfl
theorem dL_law_1812 : decode cL_law 1812 = .ok (.ireturn, 1) := d_by (d_at odL_laws9 ofL_laws9 1812) rfl
set_option maxRecDepth 100000 in
def bL_led : List Nat := [44, 3, 42, 27, 182, 0, 7, 133, 80, 167, 0, 6, 78, 4, 172, 3, 172]
set_option maxRecDepth 100000 in
theorem bbL_led : cL_led.data.toList.map UInt8.toNat = bL_led := by decide +kernel
set_option maxRecDepth 100000 in
def tL_led : Lean.RArray dLf := .branch 8 (.branch 3 (.branch 1 (.leaf (0, .aload_n 2, 1)) (.branch 2 (.leaf (1, .iconst 0, 1)) (.leaf (2, .aload_n 0, 1)))) (.branch 4 (.leaf (3, .iload_n 1, 1)) (.branch 7 (.leaf (4, .invokevirtual 7, 3)) (.leaf (7, .i2l, 1))))) (.branch 13 (.branch 9 (.leaf (8, .lastore, 1)) (.branch 12 (.leaf (9, .goto 6, 3)) (.leaf (12, .astore_n 3, 1)))) (.branch 15 (.branch 14 (.leaf (13, .iconst 1, 1)) (.leaf (14, .ireturn, 1))) (.branch 16 (.leaf (15, .iconst 0, 1)) (.leaf (16, .ireturn, 1)))))
noncomputable def oL_led : List dLf := dFl tL_led
theorem ofL_led : dFl tL_led = oL_led := rfl
set_option maxRecDepth 100000 in
theorem odL_led : ∀ q ∈ oL_led, decode cL_led q.1 = .ok (q.2.1, q.2.2) := q_go qT_ok bbL_led oL_led 0 (by decide +kernel)
theorem dL_led_0 : decode cL_led 0 = .ok (.aload_n 2, 1) := d_by (d_at odL_led ofL_led 0) rfl
theorem dL_led_1 : decode cL_led 1 = .ok (.iconst 0, 1) := d_by (d_at odL_led ofL_led 1) rfl
theorem dL_led_2 : decode cL_led 2 = .ok (.aload_n 0, 1) := d_by (d_at odL_led ofL_led 2) rfl
theorem dL_led_3 : decode cL_led 3 = .ok (.iload_n 1, 1) := d_by (d_at odL_led ofL_led 3) rfl
theorem dL_led_4 : decode cL_led 4 = .ok (.invokevirtual 7, 3) := d_by (d_at odL_led ofL_led 4) rfl
theorem dL_led_7 : decode cL_led 7 = .ok (.i2l, 1) := d_by (d_at odL_led ofL_led 7) rfl
theorem dL_led_8 : decode cL_led 8 = .ok (.lastore, 1) := d_by (d_at odL_led ofL_led 8) rfl
theorem dL_led_9 : decode cL_led 9 = .ok (.goto 6, 3) := d_by (d_at odL_led ofL_led 9) rfl
theorem dL_led_12 : decode cL_led 12 = .ok (.astore_n 3, 1) := d_by (d_at odL_led ofL_led 12) rfl
theorem dL_led_13 : decode cL_led 13 = .ok (.iconst 1, 1) := d_by (d_at odL_led ofL_led 13) rfl
theorem dL_led_14 : decode cL_led 14 = .ok (.ireturn, 1) := d_by (d_at odL_led ofL_led 14) rfl
theorem dL_led_15 : decode cL_led 15 = .ok (.iconst 0, 1) := d_by (d_at odL_led ofL_led 15) rfl
theorem dL_led_16 : decode cL_led 16 = .ok (.ireturn, 1) := d_by (d_at odL_led ofL_led 16) rfl
end Pk1
section Pk2
theorem fl_1_9 : zfld 1 9 = some (1, 0) := by decide +kernel
theorem fl_1_15 : zfld 1 15 = some (1, 1) := by decide +kernel
theorem fl_1_18 : zfld 1 18 = some (1, 2) := by decide +kernel
theorem fl_1_22 : zfld 1 22 = some (1, 3) := by decide +kernel
theorem fl_1_25 : zfld 1 25 = some (1, 4) := by decide +kernel
theorem fl_2_9 : zfld 2 9 = some (2, 0) := by decide +kernel
theorem fl_2_15 : zfld 2 15 = some (2, 1) := by decide +kernel
theorem fl_2_18 : zfld 2 18 = some (2, 2) := by decide +kernel
theorem fl_2_22 : zfld 2 22 = some (2, 3) := by decide +kernel
theorem fl_2_25 : zfld 2 25 = some (2, 4) := by decide +kernel
theorem fl_2_28 : zfld 2 28 = some (2, 5) := by decide +kernel
theorem fl_2_31 : zfld 2 31 = some (2, 6) := by decide +kernel
theorem fl_2_34 : zfld 2 34 = some (4, 6) := by decide +kernel
theorem fl_2_39 : zfld 2 39 = some (4, 12) := by decide +kernel
theorem fl_2_43 : zfld 2 43 = some (10, 1) := by decide +kernel
theorem fl_2_48 : zfld 2 48 = some (4, 7) := by decide +kernel
theorem fl_2_51 : zfld 2 51 = some (4, 9) := by decide +kernel
theorem fl_2_54 : zfld 2 54 = some (4, 13) := by decide +kernel
theorem fl_2_58 : zfld 2 58 = some (0, 1) := by decide +kernel
theorem fl_3_9 : zfld 3 9 = some (3, 1) := by decide +kernel
theorem fl_3_15 : zfld 3 15 = some (3, 2) := by decide +kernel
theorem fl_3_18 : zfld 3 18 = some (3, 3) := by decide +kernel
theorem fl_3_21 : zfld 3 21 = some (3, 0) := by decide +kernel
theorem fl_3_25 : zfld 3 25 = some (4, 4) := by decide +kernel
theorem fl_3_40 : zfld 3 40 = some (4, 5) := by decide +kernel
theorem fl_3_43 : zfld 3 43 = some (4, 11) := by decide +kernel
theorem fl_3_47 : zfld 3 47 = some (9, 0) := by decide +kernel
theorem fl_3_52 : zfld 3 52 = some (9, 1) := by decide +kernel
theorem fl_3_73 : zfld 3 73 = some (9, 2) := by decide +kernel
theorem fl_4_9 : zfld 4 9 = some (4, 9) := by decide +kernel
theorem fl_4_15 : zfld 4 15 = some (4, 10) := by decide +kernel
theorem fl_4_20 : zfld 4 20 = some (4, 11) := by decide +kernel
theorem fl_4_26 : zfld 4 26 = some (4, 12) := by decide +kernel
theorem fl_4_32 : zfld 4 32 = some (4, 13) := by decide +kernel
theorem fl_4_38 : zfld 4 38 = some (4, 14) := by decide +kernel
theorem fl_4_46 : zfld 4 46 = some (4, 0) := by decide +kernel
theorem fl_4_50 : zfld 4 50 = some (4, 1) := by decide +kernel
theorem fl_4_53 : zfld 4 53 = some (4, 2) := by decide +kernel
theorem fl_4_56 : zfld 4 56 = some (4, 3) := by decide +kernel
theorem fl_4_59 : zfld 4 59 = some (4, 4) := by decide +kernel
theorem fl_4_62 : zfld 4 62 = some (4, 5) := by decide +kernel
theorem fl_4_65 : zfld 4 65 = some (4, 6) := by decide +kernel
theorem fl_4_68 : zfld 4 68 = some (4, 7) := by decide +kernel
theorem fl_4_71 : zfld 4 71 = some (4, 8) := by decide +kernel
theorem fl_4_74 : zfld 4 74 = some (0, 1) := by decide +kernel
theorem fl_4_77 : zfld 4 77 = some (9, 0) := by decide +kernel
theorem fl_4_80 : zfld 4 80 = some (9, 1) := by decide +kernel
theorem fl_4_83 : zfld 4 83 = some (8, 0) := by decide +kernel
theorem fl_5_9 : zfld 5 9 = some (5, 1) := by decide +kernel
theorem fl_5_15 : zfld 5 15 = some (5, 2) := by decide +kernel
theorem fl_5_18 : zfld 5 18 = some (5, 3) := by decide +kernel
theorem fl_5_21 : zfld 5 21 = some (5, 4) := by decide +kernel
theorem fl_5_24 : zfld 5 24 = some (5, 5) := by decide +kernel
theorem fl_5_27 : zfld 5 27 = some (5, 7) := by decide +kernel
theorem fl_5_31 : zfld 5 31 = some (5, 8) := by decide +kernel
theorem fl_5_35 : zfld 5 35 = some (5, 9) := by decide +kernel
theorem fl_5_38 : zfld 5 38 = some (5, 10) := by decide +kernel
theorem fl_5_41 : zfld 5 41 = some (5, 11) := by decide +kernel
theorem fl_5_44 : zfld 5 44 = some (5, 12) := by decide +kernel
theorem fl_5_47 : zfld 5 47 = some (5, 0) := by decide +kernel
theorem fl_5_51 : zfld 5 51 = some (5, 6) := by decide +kernel
theorem fl_5_73 : zfld 5 73 = some (4, 4) := by decide +kernel
theorem fl_5_84 : zfld 5 84 = some (4, 0) := by decide +kernel
theorem fl_5_93 : zfld 5 93 = some (4, 5) := by decide +kernel
theorem fl_5_96 : zfld 5 96 = some (4, 11) := by decide +kernel
theorem fl_5_104 : zfld 5 104 = some (4, 6) := by decide +kernel
theorem fl_5_107 : zfld 5 107 = some (4, 12) := by decide +kernel
theorem fl_5_115 : zfld 5 115 = some (4, 7) := by decide +kernel
theorem fl_5_118 : zfld 5 118 = some (4, 13) := by decide +kernel
theorem fl_5_126 : zfld 5 126 = some (4, 8) := by decide +kernel
theorem fl_5_129 : zfld 5 129 = some (4, 14) := by decide +kernel
theorem fl_5_148 : zfld 5 148 = some (4, 1) := by decide +kernel
theorem fl_5_152 : zfld 5 152 = some (4, 2) := by decide +kernel
theorem fl_5_156 : zfld 5 156 = some (4, 3) := by decide +kernel
theorem fl_5_167 : zfld 5 167 = some (4, 9) := by decide +kernel
theorem fl_5_170 : zfld 5 170 = some (4, 10) := by decide +kernel
theorem fl_5_176 : zfld 5 176 = some (9, 0) := by decide +kernel
theorem fl_5_181 : zfld 5 181 = some (9, 1) := by decide +kernel
theorem fl_5_189 : zfld 5 189 = some (9, 2) := by decide +kernel
theorem fl_5_193 : zfld 5 193 = some (9, 3) := by decide +kernel
theorem fl_5_198 : zfld 5 198 = some (10, 0) := by decide +kernel
theorem fl_5_204 : zfld 5 204 = some (10, 1) := by decide +kernel
theorem fl_5_209 : zfld 5 209 = some (10, 2) := by decide +kernel
theorem fl_5_213 : zfld 5 213 = some (10, 3) := by decide +kernel
theorem fl_5_217 : zfld 5 217 = some (0, 0) := by decide +kernel
theorem fl_5_223 : zfld 5 223 = some (0, 1) := by decide +kernel
theorem fl_5_227 : zfld 5 227 = some (0, 2) := by decide +kernel
theorem fl_5_231 : zfld 5 231 = some (0, 3) := by decide +kernel
theorem fl_5_233 : zfld 5 233 = some (8, 0) := by decide +kernel
theorem fl_5_237 : zfld 5 237 = some (8, 1) := by decide +kernel
theorem fl_5_244 : zfld 5 244 = some (8, 2) := by decide +kernel
theorem fl_6_9 : zfld 6 9 = some (6, 3) := by decide +kernel
theorem fl_6_15 : zfld 6 15 = some (6, 4) := by decide +kernel
theorem fl_6_19 : zfld 6 19 = some (6, 5) := by decide +kernel
theorem fl_6_22 : zfld 6 22 = some (6, 6) := by decide +kernel
theorem fl_6_25 : zfld 6 25 = some (6, 0) := by decide +kernel
theorem fl_6_29 : zfld 6 29 = some (6, 1) := by decide +kernel
theorem fl_6_33 : zfld 6 33 = some (6, 2) := by decide +kernel
theorem fl_6_44 : zfld 6 44 = some (4, 4) := by decide +kernel
theorem fl_6_49 : zfld 6 49 = some (4, 5) := by decide +kernel
theorem fl_6_52 : zfld 6 52 = some (4, 11) := by decide +kernel
theorem fl_6_56 : zfld 6 56 = some (9, 0) := by decide +kernel
theorem fl_6_61 : zfld 6 61 = some (9, 1) := by decide +kernel
theorem fl_6_74 : zfld 6 74 = some (9, 2) := by decide +kernel
theorem fl_6_77 : zfld 6 77 = some (9, 3) := by decide +kernel
theorem fl_6_88 : zfld 6 88 = some (4, 12) := by decide +kernel
theorem fl_6_92 : zfld 6 92 = some (4, 13) := by decide +kernel
theorem fl_6_99 : zfld 6 99 = some (0, 2) := by decide +kernel
theorem fl_6_107 : zfld 6 107 = some (10, 0) := by decide +kernel
theorem fl_6_112 : zfld 6 112 = some (2, 6) := by decide +kernel
theorem fl_6_119 : zfld 6 119 = some (2, 0) := by decide +kernel
theorem fl_6_127 : zfld 6 127 = some (2, 2) := by decide +kernel
theorem fl_6_130 : zfld 6 130 = some (0, 0) := by decide +kernel
theorem fl_6_133 : zfld 6 133 = some (2, 3) := by decide +kernel
theorem fl_6_140 : zfld 6 140 = some (0, 3) := by decide +kernel
theorem fl_6_149 : zfld 6 149 = some (10, 2) := by decide +kernel
theorem fl_6_152 : zfld 6 152 = some (4, 6) := by decide +kernel
theorem fl_6_158 : zfld 6 158 = some (10, 3) := by decide +kernel
theorem fl_6_167 : zfld 6 167 = some (10, 1) := by decide +kernel
theorem fl_6_170 : zfld 6 170 = some (4, 8) := by decide +kernel
theorem fl_6_173 : zfld 6 173 = some (4, 14) := by decide +kernel
theorem fl_6_177 : zfld 6 177 = some (8, 0) := by decide +kernel
theorem fl_6_181 : zfld 6 181 = some (8, 1) := by decide +kernel
theorem fl_6_184 : zfld 6 184 = some (8, 2) := by decide +kernel
theorem fl_7_9 : zfld 7 9 = some (7, 1) := by decide +kernel
theorem fl_7_15 : zfld 7 15 = some (7, 2) := by decide +kernel
theorem fl_7_18 : zfld 7 18 = some (7, 3) := by decide +kernel
theorem fl_7_21 : zfld 7 21 = some (7, 4) := by decide +kernel
theorem fl_7_24 : zfld 7 24 = some (7, 5) := by decide +kernel
theorem fl_7_28 : zfld 7 28 = some (7, 0) := by decide +kernel
theorem fl_7_32 : zfld 7 32 = some (4, 2) := by decide +kernel
theorem fl_7_37 : zfld 7 37 = some (4, 0) := by decide +kernel
theorem fl_7_44 : zfld 7 44 = some (4, 9) := by decide +kernel
theorem fl_7_47 : zfld 7 47 = some (4, 10) := by decide +kernel
theorem fl_7_57 : zfld 7 57 = some (4, 4) := by decide +kernel
theorem fl_7_64 : zfld 7 64 = some (4, 1) := by decide +kernel
theorem fl_7_89 : zfld 7 89 = some (4, 3) := by decide +kernel
theorem fl_11_9 : zfld 11 9 = some (11, 0) := by decide +kernel
theorem fl_11_13 : zfld 11 13 = some (11, 1) := by decide +kernel
theorem fl_11_17 : zfld 11 17 = some (11, 2) := by decide +kernel
theorem fl_11_23 : zfld 11 23 = some (11, 3) := by decide +kernel
theorem fl_11_27 : zfld 11 27 = some (11, 4) := by decide +kernel
theorem fl_11_35 : zfld 11 35 = some (11, 5) := by decide +kernel
theorem fl_11_42 : zfld 11 42 = some (11, 6) := by decide +kernel
theorem fl_11_51 : zfld 11 51 = some (11, 7) := by decide +kernel
theorem fl_11_60 : zfld 11 60 = some (11, 8) := by decide +kernel
theorem fl_11_67 : zfld 11 67 = some (11, 9) := by decide +kernel
theorem fl_11_74 : zfld 11 74 = some (11, 10) := by decide +kernel
theorem fl_11_78 : zfld 11 78 = some (11, 11) := by decide +kernel
theorem fl_11_82 : zfld 11 82 = some (11, 12) := by decide +kernel
theorem fl_11_85 : zfld 11 85 = some (11, 13) := by decide +kernel
theorem fl_11_88 : zfld 11 88 = some (11, 14) := by decide +kernel
theorem fl_11_91 : zfld 11 91 = some (11, 15) := by decide +kernel
theorem fl_11_109 : zfld 11 109 = some (4, 4) := by decide +kernel
theorem fl_11_115 : zfld 11 115 = some (5, 11) := by decide +kernel
theorem fl_11_118 : zfld 11 118 = some (5, 12) := by decide +kernel
theorem fl_11_125 : zfld 11 125 = some (4, 12) := by decide +kernel
theorem fl_11_129 : zfld 11 129 = some (10, 0) := by decide +kernel
theorem fl_11_134 : zfld 11 134 = some (2, 2) := by decide +kernel
theorem fl_11_138 : zfld 11 138 = some (2, 3) := by decide +kernel
theorem fl_11_141 : zfld 11 141 = some (10, 2) := by decide +kernel
theorem fl_11_144 : zfld 11 144 = some (10, 3) := by decide +kernel
theorem fl_11_150 : zfld 11 150 = some (4, 13) := by decide +kernel
theorem fl_11_154 : zfld 11 154 = some (0, 0) := by decide +kernel
theorem fl_11_159 : zfld 11 159 = some (0, 1) := by decide +kernel
theorem fl_11_162 : zfld 11 162 = some (0, 2) := by decide +kernel
theorem fl_11_165 : zfld 11 165 = some (0, 3) := by decide +kernel
theorem fl_11_168 : zfld 11 168 = some (2, 4) := by decide +kernel
theorem fl_11_171 : zfld 11 171 = some (2, 5) := by decide +kernel
theorem fl_11_177 : zfld 11 177 = some (4, 10) := by decide +kernel
theorem fl_11_180 : zfld 11 180 = some (2, 0) := by decide +kernel
theorem fl_11_195 : zfld 11 195 = some (2, 6) := by decide +kernel
theorem fl_11_213 : zfld 11 213 = some (4, 11) := by decide +kernel
theorem fl_11_217 : zfld 11 217 = some (9, 2) := by decide +kernel
theorem fl_11_233 : zfld 11 233 = some (9, 3) := by decide +kernel
theorem fl_11_239 : zfld 11 239 = some (4, 7) := by decide +kernel
theorem fl_11_265 : zfld 11 265 = some (7, 4) := by decide +kernel
theorem fl_11_268 : zfld 11 268 = some (7, 2) := by decide +kernel
theorem fl_11_271 : zfld 11 271 = some (7, 3) := by decide +kernel
theorem fl_11_274 : zfld 11 274 = some (4, 9) := by decide +kernel
theorem fl_11_301 : zfld 11 301 = some (1, 2) := by decide +kernel
theorem fl_11_304 : zfld 11 304 = some (1, 3) := by decide +kernel
theorem fl_11_307 : zfld 11 307 = some (1, 1) := by decide +kernel
theorem fl_11_322 : zfld 11 322 = some (2, 1) := by decide +kernel
theorem fl_11_331 : zfld 11 331 = some (3, 1) := by decide +kernel
theorem fl_11_335 : zfld 11 335 = some (7, 1) := by decide +kernel
theorem fl_11_344 : zfld 11 344 = some (6, 4) := by decide +kernel
theorem fl_11_350 : zfld 11 350 = some (4, 0) := by decide +kernel
theorem fl_11_370 : zfld 11 370 = some (4, 1) := by decide +kernel
theorem fl_11_373 : zfld 11 373 = some (4, 2) := by decide +kernel
theorem fl_11_376 : zfld 11 376 = some (4, 3) := by decide +kernel
theorem fl_11_379 : zfld 11 379 = some (4, 5) := by decide +kernel
theorem fl_11_382 : zfld 11 382 = some (4, 6) := by decide +kernel
theorem fl_11_385 : zfld 11 385 = some (4, 8) := by decide +kernel
theorem fl_11_388 : zfld 11 388 = some (7, 0) := by decide +kernel
theorem fl_11_389 : zfld 11 389 = some (6, 0) := by decide +kernel
theorem fl_11_390 : zfld 11 390 = some (3, 0) := by decide +kernel
theorem fl_11_402 : zfld 11 402 = some (1, 0) := by decide +kernel
theorem fl_12_7 : zfld 12 7 = some (12, 1) := by decide +kernel
theorem fl_12_13 : zfld 12 13 = some (12, 10) := by decide +kernel
theorem fl_12_17 : zfld 12 17 = some (12, 12) := by decide +kernel
theorem fl_12_20 : zfld 12 20 = some (12, 15) := by decide +kernel
theorem fl_12_23 : zfld 12 23 = some (12, 16) := by decide +kernel
theorem fl_12_26 : zfld 12 26 = some (12, 17) := by decide +kernel
theorem fl_12_29 : zfld 12 29 = some (12, 18) := by decide +kernel
theorem fl_12_32 : zfld 12 32 = some (12, 19) := by decide +kernel
theorem fl_12_35 : zfld 12 35 = some (12, 22) := by decide +kernel
theorem fl_12_38 : zfld 12 38 = some (12, 24) := by decide +kernel
theorem fl_12_41 : zfld 12 41 = some (12, 25) := by decide +kernel
theorem fl_12_44 : zfld 12 44 = some (12, 28) := by decide +kernel
theorem fl_12_47 : zfld 12 47 = some (12, 29) := by decide +kernel
theorem fl_12_50 : zfld 12 50 = some (12, 30) := by decide +kernel
theorem fl_12_53 : zfld 12 53 = some (12, 35) := by decide +kernel
theorem fl_12_56 : zfld 12 56 = some (12, 36) := by decide +kernel
theorem fl_12_59 : zfld 12 59 = some (12, 37) := by decide +kernel
theorem fl_12_62 : zfld 12 62 = some (12, 0) := by decide +kernel
theorem fl_12_65 : zfld 12 65 = some (12, 11) := by decide +kernel
theorem fl_12_68 : zfld 12 68 = some (12, 2) := by decide +kernel
theorem fl_12_71 : zfld 12 71 = some (12, 3) := by decide +kernel
theorem fl_12_74 : zfld 12 74 = some (12, 5) := by decide +kernel
theorem fl_12_81 : zfld 12 81 = some (12, 4) := by decide +kernel
theorem fl_12_84 : zfld 12 84 = some (12, 8) := by decide +kernel
theorem fl_12_87 : zfld 12 87 = some (12, 7) := by decide +kernel
theorem fl_12_90 : zfld 12 90 = some (12, 6) := by decide +kernel
theorem fl_12_100 : zfld 12 100 = some (12, 13) := by decide +kernel
theorem fl_12_104 : zfld 12 104 = some (12, 9) := by decide +kernel
theorem fl_12_180 : zfld 12 180 = some (12, 14) := by decide +kernel
theorem fl_12_183 : zfld 12 183 = some (12, 20) := by decide +kernel
theorem fl_12_186 : zfld 12 186 = some (12, 21) := by decide +kernel
theorem fl_12_315 : zfld 12 315 = some (12, 23) := by decide +kernel
theorem fl_12_358 : zfld 12 358 = some (12, 26) := by decide +kernel
theorem fl_12_361 : zfld 12 361 = some (12, 27) := by decide +kernel
theorem fl_12_379 : zfld 12 379 = some (12, 31) := by decide +kernel
theorem fl_12_382 : zfld 12 382 = some (12, 32) := by decide +kernel
theorem fl_12_392 : zfld 12 392 = some (12, 33) := by decide +kernel
theorem fl_12_395 : zfld 12 395 = some (12, 34) := by decide +kernel
theorem fl_12_410 : zfld 12 410 = some (12, 38) := by decide +kernel
theorem cl_1_48 : zcst 1 48 = some (.inl (10000000)) := by decide +kernel
theorem cl_3_62 : zcst 3 62 = some (.inl (1000000)) := by decide +kernel
theorem cl_5_137 : zcst 5 137 = some (.inr (.inr (some 1000016))) := by decide +kernel
theorem cl_5_146 : zcst 5 146 = some (.inr (.inr (some 1000017))) := by decide +kernel
theorem cl_5_150 : zcst 5 150 = some (.inr (.inr (some 1000018))) := by decide +kernel
theorem cl_5_154 : zcst 5 154 = some (.inr (.inr (some 1000019))) := by decide +kernel
theorem cl_5_187 : zcst 5 187 = some (.inr (.inr (some 1000020))) := by decide +kernel
theorem cl_5_191 : zcst 5 191 = some (.inr (.inr (some 1000021))) := by decide +kernel
theorem cl_5_203 : zcst 5 203 = some (.inr (.inr (some 1000026))) := by decide +kernel
theorem cl_5_207 : zcst 5 207 = some (.inr (.inr (some 1000027))) := by decide +kernel
theorem cl_5_211 : zcst 5 211 = some (.inr (.inr (some 1000028))) := by decide +kernel
theorem cl_5_215 : zcst 5 215 = some (.inr (.inr (some 1000029))) := by decide +kernel
theorem cl_5_221 : zcst 5 221 = some (.inr (.inr (some 1000030))) := by decide +kernel
theorem cl_5_225 : zcst 5 225 = some (.inr (.inr (some 1000031))) := by decide +kernel
theorem cl_5_229 : zcst 5 229 = some (.inr (.inr (some 1000032))) := by decide +kernel
theorem cl_5_255 : zcst 5 255 = some (.inr (.inr (some 1000022))) := by decide +kernel
theorem cl_5_257 : zcst 5 257 = some (.inr (.inr (some 1000023))) := by decide +kernel
theorem cl_5_259 : zcst 5 259 = some (.inr (.inr (some 1000024))) := by decide +kernel
theorem cl_5_261 : zcst 5 261 = some (.inr (.inr (some 1000025))) := by decide +kernel
theorem cl_5_263 : zcst 5 263 = some (.inr (.inr (some 1000010))) := by decide +kernel
theorem cl_5_264 : zcst 5 264 = some (.inr (.inr (some 1000011))) := by decide +kernel
theorem cl_5_265 : zcst 5 265 = some (.inr (.inr (some 1000012))) := by decide +kernel
theorem cl_5_266 : zcst 5 266 = some (.inr (.inr (some 1000013))) := by decide +kernel
theorem cl_5_267 : zcst 5 267 = some (.inr (.inr (some 1000014))) := by decide +kernel
theorem cl_5_268 : zcst 5 268 = some (.inr (.inr (some 1000015))) := by decide +kernel
theorem cl_6_37 : zcst 6 37 = some (.inl (1000000000)) := by decide +kernel
theorem cl_7_84 : zcst 7 84 = some (.inl (65537)) := by decide +kernel
theorem cl_11_226 : zcst 11 226 = some (.inl (99999)) := by decide +kernel
theorem cl_11_334 : zcst 11 334 = some (.inl (65536)) := by decide +kernel
theorem cl_11_365 : zcst 11 365 = some (.inr (.inr (some 1000033))) := by decide +kernel
theorem cl_12_131 : zcst 12 131 = some (.inr (.inr (some 1000034))) := by decide +kernel
theorem cl_12_133 : zcst 12 133 = some (.inr (.inr (some 1000039))) := by decide +kernel
theorem cl_12_135 : zcst 12 135 = some (.inr (.inr (some 1000040))) := by decide +kernel
theorem cl_12_137 : zcst 12 137 = some (.inr (.inr (some 1000041))) := by decide +kernel
theorem cl_12_139 : zcst 12 139 = some (.inr (.inr (some 1000042))) := by decide +kernel
theorem cl_12_141 : zcst 12 141 = some (.inr (.inr (some 1000043))) := by decide +kernel
theorem cl_12_211 : zcst 12 211 = some (.inr (.inr (some 1000035))) := by decide +kernel
theorem cl_12_217 : zcst 12 217 = some (.inr (.inr (some 1000036))) := by decide +kernel
theorem cl_12_219 : zcst 12 219 = some (.inr (.inr (some 1000037))) := by decide +kernel
theorem cl_12_221 : zcst 12 221 = some (.inr (.inr (some 1000038))) := by decide +kernel
theorem cl_12_234 : zcst 12 234 = some (.inr (.inr (some 1000044))) := by decide +kernel
theorem cl_12_235 : zcst 12 235 = some (.inr (.inr (some 1000045))) := by decide +kernel
theorem cl_12_237 : zcst 12 237 = some (.inr (.inr (some 1000046))) := by decide +kernel
theorem cl_12_239 : zcst 12 239 = some (.inr (.inr (some 1000047))) := by decide +kernel
theorem cl_12_241 : zcst 12 241 = some (.inr (.inr (some 1000048))) := by decide +kernel
theorem cl_12_243 : zcst 12 243 = some (.inr (.inr (some 1000049))) := by decide +kernel
theorem cl_12_245 : zcst 12 245 = some (.inr (.inr (some 1000050))) := by decide +kernel
theorem cl_12_250 : zcst 12 250 = some (.inr (.inr (some 1000051))) := by decide +kernel
theorem cl_12_252 : zcst 12 252 = some (.inr (.inr (some 1000052))) := by decide +kernel
theorem cl_12_254 : zcst 12 254 = some (.inr (.inr (some 1000053))) := by decide +kernel
theorem cl_12_256 : zcst 12 256 = some (.inr (.inr (some 1000054))) := by decide +kernel
theorem cl_12_258 : zcst 12 258 = some (.inr (.inr (some 1000055))) := by decide +kernel
theorem cl_12_260 : zcst 12 260 = some (.inr (.inr (some 1000056))) := by decide +kernel
theorem cl_12_340 : zcst 12 340 = some (.inl (99999)) := by decide +kernel
theorem cl_12_341 : zcst 12 341 = some (.inl (1000000)) := by decide +kernel
theorem cl_12_373 : zcst 12 373 = some (.inr (.inl (10000))) := by decide +kernel
theorem cl_12_422 : zcst 12 422 = some (.inl (65536)) := by decide +kernel
theorem cl_12_423 : zcst 12 423 = some (.inl (65537)) := by decide +kernel
theorem cl_16_265 : zcst 16 265 = some (.inl (1431655765)) := by decide +kernel
theorem cl_16_266 : zcst 16 266 = some (.inl (858993459)) := by decide +kernel
theorem cl_16_267 : zcst 16 267 = some (.inl (252645135)) := by decide +kernel
theorem kl_4_18 : zcls 4 18 = some 9 := by decide +kernel
theorem kl_4_24 : zcls 4 24 = some 10 := by decide +kernel
theorem kl_4_30 : zcls 4 30 = some 0 := by decide +kernel
theorem kl_4_36 : zcls 4 36 = some 8 := by decide +kernel
theorem kl_11_20 : zcls 11 20 = some 4 := by decide +kernel
theorem kl_11_30 : zcls 11 30 = some 5 := by decide +kernel
theorem kl_11_39 : zcls 11 39 = some 2 := by decide +kernel
theorem kl_11_46 : zcls 11 46 = some 7 := by decide +kernel
theorem kl_11_55 : zcls 11 55 = some 6 := by decide +kernel
theorem kl_11_64 : zcls 11 64 = some 3 := by decide +kernel
theorem kl_11_71 : zcls 11 71 = some 1 := by decide +kernel
theorem kl_11_363 : zcls 11 363 = some 99 := by decide +kernel
theorem kl_13_8 : zcls 13 8 = some 11 := by decide +kernel
theorem kl_13_13 : zcls 13 13 = some 99 := by decide +kernel
theorem kl_13_16 : zcls 13 16 = some 12 := by decide +kernel
theorem ml_0_1 : zmth 0 1 = some (10, 0, zledM) := rfl
theorem ml_1_3 : zmth 1 3 = some (10, 0, zledM) := rfl
theorem ml_1_28 : zmth 1 28 = some (1, 2, mJ7_fill_53178) := rfl
theorem ml_1_34 : zmth 1 34 = some (0, 4, mX1_worth) := rfl
theorem ml_1_38 : zmth 1 38 = some (11, 0, zledM) := rfl
theorem ml_1_44 : zmth 1 44 = some (0, 3, mX1_choose) := rfl
theorem ml_1_49 : zmth 1 49 = some (0, 4, mX1_firstBest) := rfl
theorem ml_2_3 : zmth 2 3 = some (10, 0, zledM) := rfl
theorem ml_2_63 : zmth 2 63 = some (14, 0, zledM) := rfl
theorem ml_3_3 : zmth 3 3 = some (10, 0, zledM) := rfl
theorem ml_3_31 : zmth 3 31 = some (0, 2, mX3_waysOutOf) := rfl
theorem ml_3_35 : zmth 3 35 = some (1, 1, mJ6_bitCount_0f7a4) := rfl
theorem ml_3_55 : zmth 3 55 = some (0, 2, mX3_findShortest) := rfl
theorem ml_3_59 : zmth 3 59 = some (0, 1, mX3_findRests) := rfl
theorem ml_3_63 : zmth 3 63 = some (0, 3, mX3_nextOf) := rfl
theorem ml_3_67 : zmth 3 67 = some (1, 2, mJ7_fill_53178) := rfl
theorem ml_3_76 : zmth 3 76 = some (12, 0, zledM) := rfl
theorem ml_3_81 : zmth 3 81 = some (0, 4, mX3_daysOver) := rfl
theorem ml_4_3 : zmth 4 3 = some (10, 0, zledM) := rfl
theorem ml_4_42 : zmth 4 42 = some (4, 1, mX9_init) := rfl
theorem ml_4_43 : zmth 4 43 = some (4, 1, mX10_init) := rfl
theorem ml_4_44 : zmth 4 44 = some (4, 1, mX0_init) := rfl
theorem ml_4_45 : zmth 4 45 = some (4, 1, mX8_init) := rfl
theorem ml_5_3 : zmth 5 3 = some (10, 0, zledM) := rfl
theorem ml_5_55 : zmth 5 55 = some (0, 1, mX4_clear) := rfl
theorem ml_5_60 : zmth 5 60 = some (12, 0, zledM) := rfl
theorem ml_5_66 : zmth 5 66 = some (0, 1, mX5_readLine) := rfl
theorem ml_5_70 : zmth 5 70 = some (0, 1, mX5_nextToken) := rfl
theorem ml_5_76 : zmth 5 76 = some (0, 2, mX5_faulty) := rfl
theorem ml_5_80 : zmth 5 80 = some (0, 1, mX5_sortOfLine) := rfl
theorem ml_5_87 : zmth 5 87 = some (0, 1, mX5_readHead) := rfl
theorem ml_5_90 : zmth 5 90 = some (0, 1, mX5_readIsland) := rfl
theorem ml_5_100 : zmth 5 100 = some (0, 2, mX5_readWay) := rfl
theorem ml_5_111 : zmth 5 111 = some (0, 2, mX5_readWhale) := rfl
theorem ml_5_122 : zmth 5 122 = some (0, 2, mX5_readBox) := rfl
theorem ml_5_133 : zmth 5 133 = some (0, 2, mX5_readSpout) := rfl
theorem ml_5_138 : zmth 5 138 = some (0, 2, mX5_word) := rfl
theorem ml_5_142 : zmth 5 142 = some (0, 3, mX5_whole) := rfl
theorem ml_5_158 : zmth 5 158 = some (0, 3, mX5_newName) := rfl
theorem ml_5_161 : zmth 5 161 = some (0, 1, mX5_songOfToken) := rfl
theorem ml_5_164 : zmth 5 164 = some (0, 3, mX4_hasSong) := rfl
theorem ml_5_173 : zmth 5 173 = some (0, 2, mX5_toldName) := rfl
theorem ml_5_184 : zmth 5 184 = some (0, 3, mX4_wayBetween) := rfl
theorem ml_5_195 : zmth 5 195 = some (0, 1, mX5_kindOfToken) := rfl
theorem ml_5_240 : zmth 5 240 = some (0, 2, mX4_lastSpoutOf) := rfl
theorem ml_5_245 : zmth 5 245 = some (0, 2, mX5_isToken) := rfl
theorem ml_5_248 : zmth 5 248 = some (0, 1, mX5_nameOfToken) := rfl
theorem ml_5_251 : zmth 5 251 = some (0, 1, mX5_letters) := rfl
theorem ml_5_269 : zmth 5 269 = some (0, 1, mJ0_length_8abf5) := rfl
theorem ml_5_274 : zmth 5 274 = some (0, 2, mJ0_charAt_5068e) := rfl
theorem ml_5_278 : zmth 5 278 = some (0, 3, mX5_passAll) := rfl
theorem ml_6_3 : zmth 6 3 = some (10, 0, zledM) := rfl
theorem ml_6_38 : zmth 6 38 = some (1, 2, mJ7_fill_53178) := rfl
theorem ml_6_64 : zmth 6 64 = some (0, 2, mX2_isClosed) := rfl
theorem ml_6_70 : zmth 6 70 = some (0, 5, mX6_goes) := rfl
theorem ml_6_80 : zmth 6 80 = some (0, 4, mX6_dayOfLeaving) := rfl
theorem ml_6_84 : zmth 6 84 = some (0, 4, mX6_findFirstDays) := rfl
theorem ml_6_96 : zmth 6 96 = some (0, 2, mX2_isSent) := rfl
theorem ml_6_115 : zmth 6 115 = some (0, 2, mX4_boxLength) := rfl
theorem ml_6_122 : zmth 6 122 = some (0, 4, mX7_hearerOf) := rfl
theorem ml_6_136 : zmth 6 136 = some (0, 5, mX6_firstDayAt) := rfl
theorem ml_6_143 : zmth 6 143 = some (11, 0, zledM) := rfl
theorem ml_6_155 : zmth 6 155 = some (0, 3, mX6_dayOfBringing) := rfl
theorem ml_6_161 : zmth 6 161 = some (12, 0, zledM) := rfl
theorem ml_6_164 : zmth 6 164 = some (0, 2, mX6_isFitting) := rfl
theorem ml_6_185 : zmth 6 185 = some (0, 2, mX4_lastSpoutOf) := rfl
theorem ml_6_188 : zmth 6 188 = some (0, 1, mX6_fittingWhales) := rfl
theorem ml_6_192 : zmth 6 192 = some (1, 1, mJ6_bitCount_0f7a4) := rfl
theorem ml_6_197 : zmth 6 197 = some (0, 3, mX6_whalesReaching) := rfl
theorem ml_6_200 : zmth 6 200 = some (13, 0, zledM) := rfl
theorem ml_6_203 : zmth 6 203 = some (0, 3, mX6_islandsReached) := rfl
theorem ml_7_3 : zmth 7 3 = some (10, 0, zledM) := rfl
theorem ml_7_40 : zmth 7 40 = some (3, 3, mX11_noteAt) := rfl
theorem ml_7_50 : zmth 7 50 = some (0, 2, mX7_fallIn) := rfl
theorem ml_7_54 : zmth 7 54 = some (0, 4, mX7_raised) := rfl
theorem ml_7_60 : zmth 7 60 = some (3, 2, mX11_unlikeNotes) := rfl
theorem ml_7_67 : zmth 7 67 = some (0, 3, mX7_apartness) := rfl
theorem ml_7_70 : zmth 7 70 = some (0, 3, mX7_keepSongsOf) := rfl
theorem ml_7_73 : zmth 7 73 = some (0, 3, mX7_isOfNotes) := rfl
theorem ml_7_77 : zmth 7 77 = some (0, 4, mX7_isFarFromKept) := rfl
theorem ml_7_81 : zmth 7 81 = some (0, 3, mX7_songIn) := rfl
theorem ml_7_85 : zmth 7 85 = some (0, 1, mX7_draw) := rfl
theorem ml_7_92 : zmth 7 92 = some (3, 4, mX11_withNote) := rfl
theorem ml_8_1 : zmth 8 1 = some (10, 0, zledM) := rfl
theorem ml_9_1 : zmth 9 1 = some (10, 0, zledM) := rfl
theorem ml_10_1 : zmth 10 1 = some (10, 0, zledM) := rfl
theorem ml_11_1 : zmth 11 1 = some (10, 0, zledM) := rfl
theorem ml_11_22 : zmth 11 22 = some (2, 1, mX4_init) := rfl
theorem ml_11_32 : zmth 11 32 = some (2, 3, mX5_init) := rfl
theorem ml_11_41 : zmth 11 41 = some (4, 1, mX2_init) := rfl
theorem ml_11_48 : zmth 11 48 = some (2, 2, mX7_init) := rfl
theorem ml_11_57 : zmth 11 57 = some (2, 4, mX6_init) := rfl
theorem ml_11_66 : zmth 11 66 = some (2, 2, mX3_init) := rfl
theorem ml_11_73 : zmth 11 73 = some (4, 1, mX1_init) := rfl
theorem ml_11_94 : zmth 11 94 = some (0, 2, mX11_appendBytes) := rfl
theorem ml_11_98 : zmth 11 98 = some (0, 2, mX11_refused) := rfl
theorem ml_11_102 : zmth 11 102 = some (0, 3, mX5_readPost) := rfl
theorem ml_11_106 : zmth 11 106 = some (0, 1, mX11_takeDraft) := rfl
theorem ml_11_112 : zmth 11 112 = some (0, 2, mX11_granted) := rfl
theorem ml_11_121 : zmth 11 121 = some (0, 2, mX11_isWhale) := rfl
theorem ml_11_147 : zmth 11 147 = some (0, 2, mX11_isBox) := rfl
theorem ml_11_174 : zmth 11 174 = some (0, 2, mX11_isIsland) := rfl
theorem ml_11_183 : zmth 11 183 = some (0, 3, mX7_songIn) := rfl
theorem ml_11_187 : zmth 11 187 = some (1, 3, mX11_noteAt) := rfl
theorem ml_11_191 : zmth 11 191 = some (0, 3, mX11_isNoteOfBox) := rfl
theorem ml_11_198 : zmth 11 198 = some (0, 2, mX4_boxLength) := rfl
theorem ml_11_201 : zmth 11 201 = some (0, 3, mX11_hearerIn) := rfl
theorem ml_11_204 : zmth 11 204 = some (0, 3, mX11_areTwoIslands) := rfl
theorem ml_11_207 : zmth 11 207 = some (0, 3, mX4_wayBetween) := rfl
theorem ml_11_210 : zmth 11 210 = some (0, 2, mX2_isClosed) := rfl
theorem ml_11_222 : zmth 11 222 = some (0, 1, mX11_hasPost) := rfl
theorem ml_11_227 : zmth 11 227 = some (1, 2, mX11_isWithin) := rfl
theorem ml_11_230 : zmth 11 230 = some (0, 2, mX11_isWay) := rfl
theorem ml_11_236 : zmth 11 236 = some (0, 4, mX6_dayOfLeaving) := rfl
theorem ml_11_242 : zmth 11 242 = some (0, 2, mX2_isSent) := rfl
theorem ml_11_245 : zmth 11 245 = some (0, 3, mX11_sentPart) := rfl
theorem ml_11_248 : zmth 11 248 = some (0, 3, mX7_apartness) := rfl
theorem ml_11_251 : zmth 11 251 = some (0, 1, mX7_bearable) := rfl
theorem ml_11_255 : zmth 11 255 = some (0, 1, mX7_mixedPairs) := rfl
theorem ml_11_258 : zmth 11 258 = some (0, 3, mX11_refusalOfNewSong) := rfl
theorem ml_11_261 : zmth 11 261 = some (0, 5, mX7_findNew) := rfl
theorem ml_11_277 : zmth 11 277 = some (0, 4, mX7_hearerOf) := rfl
theorem ml_11_280 : zmth 11 280 = some (0, 5, mX6_firstDayAt) := rfl
theorem ml_11_283 : zmth 11 283 = some (0, 3, mX6_dayOfBringing) := rfl
theorem ml_11_286 : zmth 11 286 = some (0, 2, mX6_soonestBringer) := rfl
theorem ml_11_289 : zmth 11 289 = some (0, 3, mX6_surestBringer) := rfl
theorem ml_11_292 : zmth 11 292 = some (0, 3, mX6_bringersBy) := rfl
theorem ml_11_295 : zmth 11 295 = some (1, 2, mX11_commonDivisor) := rfl
theorem ml_11_298 : zmth 11 298 = some (0, 1, mX11_solveMatch) := rfl
theorem ml_11_310 : zmth 11 310 = some (0, 5, mX6_dayOfMeeting) := rfl
theorem ml_11_313 : zmth 11 313 = some (0, 1, mX6_fittingWhales) := rfl
theorem ml_11_316 : zmth 11 316 = some (0, 3, mX6_islandsReached) := rfl
theorem ml_11_319 : zmth 11 319 = some (0, 2, mX6_bestPier) := rfl
theorem ml_11_325 : zmth 11 325 = some (0, 4, mX3_fewestToWatch) := rfl
theorem ml_11_328 : zmth 11 328 = some (0, 3, mX3_findRound) := rfl
theorem ml_11_338 : zmth 11 338 = some (0, 2, mX11_heardWithSlips) := rfl
theorem ml_11_341 : zmth 11 341 = some (0, 1, mX11_keepForUndo) := rfl
theorem ml_11_347 : zmth 11 347 = some (0, 2, mX11_hasRefused) := rfl
theorem ml_11_353 : zmth 11 353 = some (1, 4, mX11_withNote) := rfl
theorem ml_11_356 : zmth 11 356 = some (0, 1, mX11_hasGranted) := rfl
theorem ml_11_359 : zmth 11 359 = some (0, 2, mX2_copyFrom) := rfl
theorem ml_11_391 : zmth 11 391 = some (0, 2, mX2_begin) := rfl
theorem ml_11_394 : zmth 11 394 = some (12, 0, zledM) := rfl
theorem ml_11_399 : zmth 11 399 = some (0, 3, mX7_slipped) := rfl
theorem ml_11_404 : zmth 11 404 = some (0, 3, mX1_solve) := rfl
theorem ml_11_408 : zmth 11 408 = some (11, 0, zledM) := rfl
theorem ml_11_411 : zmth 11 411 = some (1, 1, mJ6_bitCount_0f7a4) := rfl
theorem ml_12_1 : zmth 12 1 = some (10, 0, zledM) := rfl
theorem ml_12_77 : zmth 12 77 = some (0, 2, mX12_look) := rfl
theorem ml_12_93 : zmth 12 93 = some (1, 1, mX12_isSmall) := rfl
theorem ml_12_97 : zmth 12 97 = some (1, 1, mX12_isDigit) := rfl
theorem ml_12_107 : zmth 12 107 = some (0, 1, mJ0_length_8abf5) := rfl
theorem ml_12_113 : zmth 12 113 = some (0, 2, mJ0_charAt_5068e) := rfl
theorem ml_12_117 : zmth 12 117 = some (0, 2, mX12_isWord) := rfl
theorem ml_12_121 : zmth 12 121 = some (0, 1, mX12_next) := rfl
theorem ml_12_124 : zmth 12 124 = some (0, 2, mX12_takesWord) := rfl
theorem ml_12_127 : zmth 12 127 = some (0, 3, mX12_wrong) := rfl
theorem ml_12_143 : zmth 12 143 = some (0, 1, mX12_mustName) := rfl
theorem ml_12_146 : zmth 12 146 = some (0, 1, mX12_find) := rfl
theorem ml_12_149 : zmth 12 149 = some (1, 3, mX12_in) := rfl
theorem ml_12_153 : zmth 12 153 = some (0, 3, mX12_named) := rfl
theorem ml_12_157 : zmth 12 157 = some (0, 2, mX12_must) := rfl
theorem ml_12_161 : zmth 12 161 = some (0, 1, mX12_islandPassed) := rfl
theorem ml_12_164 : zmth 12 164 = some (0, 3, mX12_number) := rfl
theorem ml_12_167 : zmth 12 167 = some (0, 1, mX12_good) := rfl
theorem ml_12_170 : zmth 12 170 = some (0, 2, mX12_no) := rfl
theorem ml_12_173 : zmth 12 173 = some (0, 1, mX12_readLine) := rfl
theorem ml_12_176 : zmth 12 176 = some (1, 5, mX12_copy) := rfl
theorem ml_12_189 : zmth 12 189 = some (0, 1, mX12_postLine) := rfl
theorem ml_12_192 : zmth 12 192 = some (0, 3, mX12_begins) := rfl
theorem ml_12_196 : zmth 12 196 = some (0, 1, mX12_islandLine) := rfl
theorem ml_12_199 : zmth 12 199 = some (0, 1, mX12_wayLine) := rfl
theorem ml_12_202 : zmth 12 202 = some (0, 1, mX12_whaleLine) := rfl
theorem ml_12_205 : zmth 12 205 = some (0, 1, mX12_boxLine) := rfl
theorem ml_12_208 : zmth 12 208 = some (0, 1, mX12_spoutLine) := rfl
theorem ml_12_213 : zmth 12 213 = some (0, 4, mX12_after) := rfl
theorem ml_12_223 : zmth 12 223 = some (0, 2, mX12_newName) := rfl
theorem ml_12_227 : zmth 12 227 = some (0, 2, mX12_isSong) := rfl
theorem ml_12_230 : zmth 12 230 = some (1, 4, mX12_joins) := rfl
theorem ml_12_246 : zmth 12 246 = some (0, 2, mX12_islandBehind) := rfl
theorem ml_12_262 : zmth 12 262 = some (0, 3, mX12_ofBox) := rfl
theorem ml_12_265 : zmth 12 265 = some (0, 2, mX12_songLong) := rfl
theorem ml_12_268 : zmth 12 268 = some (0, 2, mX12_isWhale) := rfl
theorem ml_12_271 : zmth 12 271 = some (0, 3, mX12_ofWhale) := rfl
theorem ml_12_274 : zmth 12 274 = some (0, 2, mX12_isBox) := rfl
theorem ml_12_277 : zmth 12 277 = some (0, 2, mX12_isIsland) := rfl
theorem ml_12_280 : zmth 12 280 = some (0, 4, mX12_noteIn) := rfl
theorem ml_12_284 : zmth 12 284 = some (0, 2, mX12_boxLong) := rfl
theorem ml_12_287 : zmth 12 287 = some (0, 6, mX12_unlike) := rfl
theorem ml_12_291 : zmth 12 291 = some (0, 5, mX12_hearsIn) := rfl
theorem ml_12_295 : zmth 12 295 = some (0, 2, mX12_heardNow) := rfl
theorem ml_12_298 : zmth 12 298 = some (1, 2, mX12_hasBit) := rfl
theorem ml_12_302 : zmth 12 302 = some (0, 2, mX12_isClosed) := rfl
theorem ml_12_305 : zmth 12 305 = some (0, 3, mX12_wayOf) := rfl
theorem ml_12_308 : zmth 12 308 = some (0, 3, mX12_nearOf) := rfl
theorem ml_12_312 : zmth 12 312 = some (0, 3, mX12_apartOf) := rfl
theorem ml_12_318 : zmth 12 318 = some (0, 2, mX12_power) := rfl
theorem ml_12_321 : zmth 12 321 = some (0, 4, mX12_digitsApart) := rfl
theorem ml_12_324 : zmth 12 324 = some (0, 3, mX12_songWhy) := rfl
theorem ml_12_327 : zmth 12 327 = some (0, 4, mX12_newSongs) := rfl
theorem ml_12_331 : zmth 12 331 = some (0, 3, mX12_hearsItself) := rfl
theorem ml_12_334 : zmth 12 334 = some (0, 4, mX12_setsOut) := rfl
theorem ml_12_337 : zmth 12 337 = some (1, 1, mX12_seasonOf) := rfl
theorem ml_12_342 : zmth 12 342 = some (0, 4, mX12_goesBy) := rfl
theorem ml_12_346 : zmth 12 346 = some (0, 4, mX12_dayBy) := rfl
theorem ml_12_349 : zmth 12 349 = some (0, 4, mX12_layDays) := rfl
theorem ml_12_352 : zmth 12 352 = some (0, 5, mX12_arrivalOf) := rfl
theorem ml_12_355 : zmth 12 355 = some (1, 2, mX12_later) := rfl
theorem ml_12_364 : zmth 12 364 = some (0, 3, mX12_lays) := rfl
theorem ml_12_367 : zmth 12 367 = some (0, 3, mX12_bringsOf) := rfl
theorem ml_12_370 : zmth 12 370 = some (0, 3, mX12_surestBut) := rfl
theorem ml_12_375 : zmth 12 375 = some (1, 3, mX12_lowest) := rfl
theorem ml_12_385 : zmth 12 385 = some (0, 5, mX12_tryMatch) := rfl
theorem ml_12_389 : zmth 12 389 = some (0, 1, mX12_seekMatch) := rfl
theorem ml_12_398 : zmth 12 398 = some (0, 2, mX12_fitsAll) := rfl
theorem ml_12_401 : zmth 12 401 = some (0, 3, mX12_reachOf) := rfl
theorem ml_12_404 : zmth 12 404 = some (1, 1, mX12_ones) := rfl
theorem ml_12_407 : zmth 12 407 = some (0, 4, mX12_doLead) := rfl
theorem ml_12_413 : zmth 12 413 = some (0, 4, mX12_tryRound) := rfl
theorem ml_12_416 : zmth 12 416 = some (0, 1, mX12_layFar) := rfl
theorem ml_12_419 : zmth 12 419 = some (0, 2, mX12_seekRound) := rfl
theorem ml_12_424 : zmth 12 424 = some (0, 1, mX12_note1) := rfl
theorem ml_12_427 : zmth 12 427 = some (0, 2, mX12_isNot) := rfl
theorem ml_13_15 : zmth 13 15 = some (2, 1, mX11_init) := rfl
theorem ml_13_18 : zmth 13 18 = some (2, 1, mX12_init) := rfl
theorem ml_13_19 : zmth 13 19 = some (0, 6, mX11_feed) := rfl
theorem ml_13_23 : zmth 13 23 = some (0, 6, mX12_feed) := rfl
theorem ml_13_24 : zmth 13 24 = some (0, 2, mX11_post) := rfl
theorem ml_13_27 : zmth 13 27 = some (0, 2, mX12_post) := rfl
theorem ml_13_28 : zmth 13 28 = some (0, 1, mX11_fault) := rfl
theorem ml_13_32 : zmth 13 32 = some (0, 1, mX12_fault) := rfl
theorem ml_13_33 : zmth 13 33 = some (0, 1, mX11_where) := rfl
theorem ml_13_36 : zmth 13 36 = some (0, 1, mX12_where) := rfl
theorem ml_13_37 : zmth 13 37 = some (0, 3, mX11_whale) := rfl
theorem ml_13_41 : zmth 13 41 = some (0, 3, mX12_whale) := rfl
theorem ml_13_42 : zmth 13 42 = some (0, 3, mX11_box) := rfl
theorem ml_13_45 : zmth 13 45 = some (0, 3, mX12_box) := rfl
theorem ml_13_46 : zmth 13 46 = some (0, 2, mX11_length) := rfl
theorem ml_13_49 : zmth 13 49 = some (0, 2, mX12_length) := rfl
theorem ml_13_50 : zmth 13 50 = some (0, 3, mX11_note) := rfl
theorem ml_13_53 : zmth 13 53 = some (0, 3, mX12_note) := rfl
theorem ml_13_54 : zmth 13 54 = some (0, 3, mX11_sung) := rfl
theorem ml_13_57 : zmth 13 57 = some (0, 3, mX12_sung) := rfl
theorem ml_13_58 : zmth 13 58 = some (0, 2, mX11_heard) := rfl
theorem ml_13_61 : zmth 13 61 = some (0, 2, mX12_heard) := rfl
theorem ml_13_62 : zmth 13 62 = some (0, 3, mX11_way) := rfl
theorem ml_13_65 : zmth 13 65 = some (0, 3, mX12_way) := rfl
theorem ml_13_66 : zmth 13 66 = some (0, 2, mX11_season) := rfl
theorem ml_13_69 : zmth 13 69 = some (0, 2, mX12_season) := rfl
theorem ml_13_70 : zmth 13 70 = some (0, 4, mX11_sets) := rfl
theorem ml_13_74 : zmth 13 74 = some (0, 4, mX12_sets) := rfl
theorem ml_13_75 : zmth 13 75 = some (0, 2, mX11_sent) := rfl
theorem ml_13_78 : zmth 13 78 = some (0, 2, mX12_sent) := rfl
theorem ml_13_79 : zmth 13 79 = some (0, 3, mX11_apart) := rfl
theorem ml_13_82 : zmth 13 82 = some (0, 3, mX12_apart) := rfl
theorem ml_13_83 : zmth 13 83 = some (0, 1, mX11_bear) := rfl
theorem ml_13_86 : zmth 13 86 = some (0, 1, mX12_bear) := rfl
theorem ml_13_87 : zmth 13 87 = some (0, 1, mX11_mixed) := rfl
theorem ml_13_90 : zmth 13 90 = some (0, 1, mX12_mixed) := rfl
theorem ml_13_91 : zmth 13 91 = some (0, 3, mX11_fresh) := rfl
theorem ml_13_94 : zmth 13 94 = some (0, 3, mX12_fresh) := rfl
theorem ml_13_95 : zmth 13 95 = some (0, 3, mX11_byTurns) := rfl
theorem ml_13_98 : zmth 13 98 = some (0, 3, mX12_byTurns) := rfl
theorem ml_13_99 : zmth 13 99 = some (0, 2, mX11_near) := rfl
theorem ml_13_102 : zmth 13 102 = some (0, 2, mX12_near) := rfl
theorem ml_13_103 : zmth 13 103 = some (0, 2, mX11_asNear) := rfl
theorem ml_13_106 : zmth 13 106 = some (0, 2, mX12_asNear) := rfl
theorem ml_13_107 : zmth 13 107 = some (0, 3, mX11_heardIn) := rfl
theorem ml_13_110 : zmth 13 110 = some (0, 3, mX12_heardIn) := rfl
theorem ml_13_111 : zmth 13 111 = some (0, 2, mX11_strange) := rfl
theorem ml_13_114 : zmth 13 114 = some (0, 2, mX12_strange) := rfl
theorem ml_13_115 : zmth 13 115 = some (0, 5, mX11_arrival) := rfl
theorem ml_13_119 : zmth 13 119 = some (0, 5, mX12_arrival) := rfl
theorem ml_13_120 : zmth 13 120 = some (0, 3, mX11_brings) := rfl
theorem ml_13_123 : zmth 13 123 = some (0, 3, mX12_brings) := rfl
theorem ml_13_124 : zmth 13 124 = some (0, 2, mX11_soonest) := rfl
theorem ml_13_127 : zmth 13 127 = some (0, 2, mX12_soonest) := rfl
theorem ml_13_128 : zmth 13 128 = some (0, 2, mX11_surest) := rfl
theorem ml_13_131 : zmth 13 131 = some (0, 2, mX12_surest) := rfl
theorem ml_13_132 : zmth 13 132 = some (0, 3, mX11_by) := rfl
theorem ml_13_135 : zmth 13 135 = some (0, 3, mX12_by) := rfl
theorem ml_13_136 : zmth 13 136 = some (0, 3, mX11_registered) := rfl
theorem ml_13_140 : zmth 13 140 = some (0, 3, mX12_registered) := rfl
theorem ml_13_141 : zmth 13 141 = some (0, 1, mX11_match) := rfl
theorem ml_13_144 : zmth 13 144 = some (0, 1, mX12_match) := rfl
theorem ml_13_145 : zmth 13 145 = some (0, 1, mX11_matchDays) := rfl
theorem ml_13_148 : zmth 13 148 = some (0, 1, mX12_matchDays) := rfl
theorem ml_13_149 : zmth 13 149 = some (0, 2, mX11_matchOf) := rfl
theorem ml_13_152 : zmth 13 152 = some (0, 2, mX12_matchOf) := rfl
theorem ml_13_153 : zmth 13 153 = some (0, 5, mX11_meet) := rfl
theorem ml_13_156 : zmth 13 156 = some (0, 5, mX12_meet) := rfl
theorem ml_13_157 : zmth 13 157 = some (0, 1, mX11_fits) := rfl
theorem ml_13_160 : zmth 13 160 = some (0, 1, mX12_fits) := rfl
theorem ml_13_161 : zmth 13 161 = some (0, 3, mX11_reach) := rfl
theorem ml_13_164 : zmth 13 164 = some (0, 3, mX12_reach) := rfl
theorem ml_13_165 : zmth 13 165 = some (0, 2, mX11_pier) := rfl
theorem ml_13_168 : zmth 13 168 = some (0, 2, mX12_pier) := rfl
theorem ml_13_169 : zmth 13 169 = some (0, 3, mX11_watch) := rfl
theorem ml_13_172 : zmth 13 172 = some (0, 3, mX12_watch) := rfl
theorem ml_13_173 : zmth 13 173 = some (0, 2, mX11_round) := rfl
theorem ml_13_176 : zmth 13 176 = some (0, 2, mX12_round) := rfl
theorem ml_13_177 : zmth 13 177 = some (0, 3, mX11_roundAt) := rfl
theorem ml_13_180 : zmth 13 180 = some (0, 3, mX12_roundAt) := rfl
theorem ml_13_181 : zmth 13 181 = some (0, 3, mX11_decade) := rfl
theorem ml_13_184 : zmth 13 184 = some (0, 3, mX12_decade) := rfl
theorem ml_13_185 : zmth 13 185 = some (0, 3, mX11_send) := rfl
theorem ml_13_188 : zmth 13 188 = some (0, 3, mX12_send) := rfl
theorem ml_13_189 : zmth 13 189 = some (0, 4, mX11_tune) := rfl
theorem ml_13_193 : zmth 13 193 = some (0, 4, mX12_tune) := rfl
theorem ml_13_194 : zmth 13 194 = some (0, 2, mX11_years) := rfl
theorem ml_13_197 : zmth 13 197 = some (0, 2, mX12_years) := rfl
theorem ml_13_198 : zmth 13 198 = some (0, 3, mX11_close) := rfl
theorem ml_13_202 : zmth 13 202 = some (0, 3, mX12_close) := rfl
theorem ml_13_203 : zmth 13 203 = some (0, 1, mX11_undo) := rfl
theorem ml_13_207 : zmth 13 207 = some (0, 1, mX12_undo) := rfl
theorem ml_13_208 : zmth 13 208 = some (0, 1, mX11_image) := rfl
theorem ml_13_211 : zmth 13 211 = some (0, 1, mX12_image) := rfl
theorem ml_13_212 : zmth 13 212 = some (0, 2, mX11_back) := rfl
theorem ml_13_216 : zmth 13 216 = some (0, 2, mX12_back) := rfl
theorem ml_13_217 : zmth 13 217 = some (16, 0, zledM) := rfl
theorem ml_13_222 : zmth 13 222 = some (0, 2, mX12_led) := rfl
theorem ml_13_223 : zmth 13 223 = some (0, 2, mX11_size) := rfl
theorem ml_13_226 : zmth 13 226 = some (0, 2, mX12_size) := rfl
theorem ml_13_227 : zmth 13 227 = some (0, 1, mX11_trouble) := rfl
theorem ml_13_230 : zmth 13 230 = some (0, 1, mX12_trouble) := rfl
theorem ml_14_335 : zmth 14 335 = some (0, 1, mJ0_coder_7d493) := rfl
theorem ml_14_492 : zmth 14 492 = some (0, 1, mJ0_isLatin1_aae02) := rfl
theorem ml_14_495 : zmth 14 495 = some (1, 2, mJ1_charAt_3b067) := rfl
theorem ml_14_1059 : zmth 14 1059 = some (1, 3, mJ3_checkIndex_8e157) := rfl
theorem ml_15_9 : zmth 15 9 = some (1, 2, mJ0_checkIndex_df160) := rfl
end Pk2
section Pk3
/-! THE SMALL MACHINE: values, heaps, one step, runs. Its tables (zfld, zcst, zmth, zcls, zsta, znf) stand ahead. -/
/-- the heap: kinds and lengths of the cells; ints, longs, references by cell and place; how often led has thrown -/
abbrev zH : Type := (Nat × (Nat → Nat × Nat) × Nat) × (Nat → Nat → Int32) × (Nat → Nat → Int64) × (Nat → Nat → Option Nat) × Nat
abbrev zL : Type := List (Nat × zV)
/-- the kind and length of a cell -/
def zsh (h : zH) (a : Nat) : Option (Nat × Nat) := if a < h.1.1 then some (h.1.2.1 a) else none
def zup {α : Type} (f : Nat → Nat → α) (a k : Nat) (v : α) : Nat → Nat → α := fun b j => if b = a then (if j = k then v else f b j) else f b j
def zrow {α : Type} (f : Nat → Nat → α) (a : Nat) (g : Nat → α) : Nat → Nat → α := fun b j => if b = a then g j else f b j
def zsI (h : zH) (a k : Nat) (v : Int32) : zH := (h.1, zup h.2.1 a k v, h.2.2.1, h.2.2.2.1, h.2.2.2.2)
def zsL (h : zH) (a k : Nat) (v : Int64) : zH := (h.1, h.2.1, zup h.2.2.1 a k v, h.2.2.2.1, h.2.2.2.2)
def zsR (h : zH) (a k : Nat) (v : Option Nat) : zH := (h.1, h.2.1, h.2.2.1, zup h.2.2.2.1 a k v, h.2.2.2.2)
def zsRow (h : zH) (a : Nat) (g : Nat → Int32) : zH := (h.1, zrow h.2.1 a g, h.2.2.1, h.2.2.2.1, h.2.2.2.2)
/-- a new cell: all zero, all null -/
def znew (h : zH) (kind len : Nat) : zH := ((h.1.1 + 1, (fun b => if b = h.1.1 then (kind, len) else h.1.2.1 b), h.1.2.2 + len), zrow h.2.1 h.1.1 (fun _ => 0), zrow h.2.2.1 h.1.1 (fun _ => 0), zrow h.2.2.2.1 h.1.1 (fun _ => none), h.2.2.2.2)
def zthr (h : zH) : zH := (h.1, h.2.1, h.2.2.1, h.2.2.2.1, h.2.2.2.2 + 1)
def zcat (v : zV) : Nat := match v with
  | .inr (.inl _) => 2
  | _ => 1
def zget (ls : zL) (i : Nat) : Option zV := match ls with
  | [] => none
  | q :: t => if q.1 = i then some q.2 else zget t i
def zset1 (ls : zL) (i : Nat) (v : zV) : zL := (i, v) :: ls.filter (fun q => !(q.1 == i) && !(q.1 + 1 == i && zcat q.2 == 2))
def zset2 (ls : zL) (i : Nat) (v : zV) : zL := (i, v) :: ls.filter (fun q => !(q.1 == i) && (!(q.1 == i + 1) && !(q.1 + 1 == i && zcat q.2 == 2)))
def zargs : Nat → List zV → zL
  | _, [] => []
  | i, v :: vs => (i, v) :: zargs (if zcat v = 2 then i + 2 else i + 1) vs
def zwd (vs : List zV) : Nat := (vs.map zcat).sum
def zcond (c : ClassFile.Cond) (x y : Int32) : Bool := match c with
  | .eq => decide (x = y)
  | .ne => decide (¬ x = y)
  | .lt => decide (x < y)
  | .ge => decide (y ≤ x)
  | .gt => decide (y < x)
  | .le => decide (x ≤ y)
abbrev zC : Type := Nat × zL × List zV × zH
abbrev zR : Type := Option zV × zH
/-- on by len, with this stack -/
abbrev zgo (pc : Nat) (ls : zL) (st : List zV) (h : zH) : Option (zC ⊕ zR) := some (.inl (pc, ls, st, h))
def zjump (pc : Nat) (off : Int) (ls : zL) (st : List zV) (h : zH) : Option (zC ⊕ zR) := if 0 ≤ (pc : Int) + off then zgo ((pc : Int) + off).toNat ls st h else none
/-- a branch: to pc + off, or on -/
def zbr (b : Bool) (pc len : Nat) (off : Int) (ls : zL) (st : List zV) (h : zH) : Option (zC ⊕ zR) := if 0 ≤ (pc : Int) + off then (if b then zgo ((pc : Int) + off).toNat ls st h else zgo (pc + len) ls st h) else none
/-- the place in an array of n -/
def zin (i : Int32) (n : Nat) : Bool := decide (¬ (i < 0 ∨ n ≤ i.toNatClampNeg))
/-- what whales can carry: the class's own row -/
def zcc (k : Nat) : Int32 := ([3, 9, 99, 9] : List Int32).getD k 0
def zld (scr : Option (Nat × (Nat → Int32))) (h : zH) (kind a : Nat) (i : Int32) : Option Int32 := match zsh h a with
  | some (k, n) => if k = kind then (if zin i n then some (h.2.1 a i.toNatClampNeg) else none) else none
  | none => if kind = 14 ∧ a = 1000000 then (match scr with
    | some (n, xs) => if zin i n then some (xs i.toNatClampNeg) else none
    | none => none) else (if kind = 14 ∧ a = 1000001 then (if zin i 4 then some (zcc i.toNatClampNeg) else none) else none)
def zst (h : zH) (kind a : Nat) (i : Int32) (v : Int32) : Option zH := match zsh h a with
  | some (k, n) => if k = kind then (if zin i n then some (zsI h a i.toNatClampNeg v) else none) else none
  | none => none
def zlen (scr : Option (Nat × (Nat → Int32))) (h : zH) (a : Nat) : Option Int32 := match zsh h a with
  | some (k, n) => if 13 ≤ k then some (Int32.ofNat n) else none
  | none => if a = 1000000 then scr.map (fun q => Int32.ofNat q.1) else none
def zfv (h : zH) (ci a f : Nat) : zV := if (zft ci).getD f 0 = 3 then .inr (.inr (h.2.2.2.1 a f)) else .inl (h.2.1 a f)
/-- a field's store: an int, a boolean (0, 1), a reference -/
def zput (h : zH) (ci a f : Nat) (v : zV) : Option zH := match v with
  | .inl x => if (zft ci).getD f 9 = 0 ∨ ((zft ci).getD f 9 = 1 ∧ (x = 0 ∨ x = 1)) then some (zsI h a f x) else none
  | .inr (.inr r) => if (zft ci).getD f 9 = 3 then some (zsR h a f r) else none
  | _ => none
def zbin (i : Instr) (x y : Int32) : Option Int32 := match i with
  | .iadd => some (x + y)
  | .isub => some (x - y)
  | .imul => some (x * y)
  | .iand => some (x &&& y)
  | .ior => some (x ||| y)
  | .ixor => some (x ^^^ y)
  | .ishl => some (x <<< (y &&& 31))
  | .ishr => some (x >>> (y &&& 31))
  | .iushr => some (x.toUInt32 >>> (y.toUInt32 &&& Int32.toUInt32 31)).toInt32
  | .idiv => if y = 0 then none else some (x / y)
  | .irem => if y = 0 then none else some (x - x / y * y)
  | _ => none
def zun (i : Instr) (x : Int32) : Option zV := match i with
  | .ineg => some (.inl (-x))
  | .i2b => some (.inl x.toInt8.toInt32)
  | .i2c => some (.inl (x.toUInt32 % 65536).toInt32)
  | .i2l => some (.inr (.inl x.toInt64))
  | _ => none
def zlbin (i : Instr) (x y : Int64) : Option zV := match i with
  | .lor => some (.inr (.inl (x ||| y)))
  | .lcmp => some (.inl (lg_cmp x y))
  | .ldiv => if y = 0 then none else some (.inr (.inl (x / y)))
  | .lrem => if y = 0 then none else some (.inr (.inl (x - x / y * y)))
  | _ => none
def zldv (m : zM) (ca k len pc : Nat) (ls : zL) (st : List zV) (h : zH) : Option (zC ⊕ zR) := match zcst m.2.1 k with
  | some v => if zcat v = ca then zgo (pc + len) ls (v :: st) h else none
  | none => none
/-- load, of a sort: 0 int, 1 long, 2 reference -/
def zload (so i len pc : Nat) (ls : zL) (st : List zV) (h : zH) : Option (zC ⊕ zR) := match zget ls i with
  | some (.inl x) => if so = 0 then zgo (pc + len) ls (.inl x :: st) h else none
  | some (.inr (.inl x)) => if so = 1 then zgo (pc + len) ls (.inr (.inl x) :: st) h else none
  | some (.inr (.inr (some a))) => if so = 2 then zgo (pc + len) ls (.inr (.inr (some a)) :: st) h else none
  | _ => none
def zstore (m : zM) (so i len pc : Nat) (ls : zL) (st : List zV) (h : zH) : Option (zC ⊕ zR) := match st with
  | .inl x :: st => if so = 0 ∧ i < m.2.2.1 then zgo (pc + len) (zset1 ls i (.inl x)) st h else none
  | .inr (.inl x) :: st => if so = 1 ∧ i + 1 < m.2.2.1 then zgo (pc + len) (zset2 ls i (.inr (.inl x))) st h else none
  | .inr (.inr (some a)) :: st => if so = 2 ∧ i < m.2.2.1 then zgo (pc + len) (zset1 ls i (.inr (.inr (some a)))) st h else none
  | _ => none
/-- a call by the tables: kind 0 virtual, 1 static, 2 constructor, 3 static of a nest mate, 4 constructor of a nest mate -/
def zcall (call : zM → List zV → zH → Option zR) (cm : zM) (kd na pc : Nat) (ls : zL) (st : List zV) (h : zH) : Option (zC ⊕ zR) :=
  if na ≤ st.length ∧ zwd (st.drop na) ≤ 8 then
    (if kd = 1 ∨ kd = 3 then (match call cm (st.take na).reverse h with
      | some (r, h') => zgo (pc + 3) ls (r.toList ++ st.drop na) h'
      | none => none)
    else match (st.take na).reverse with
      | .inr (.inr (some a)) :: vs => (match zsh h a with
        | some (k, _) => if k = cm.2.1 ∧ k < 13 then (match call cm (.inr (.inr (some a)) :: vs) h with
          | some (r, h') => zgo (pc + 3) ls (r.toList ++ st.drop na) h'
          | none => none) else none
        | none => none)
      | _ => none)
  else none
/-- System.arraycopy between int arrays -/
def zcopy (pc : Nat) (ls : zL) (st : List zV) (h : zH) : Option (zC ⊕ zR) := match st with
  | .inl n :: .inl dp :: .inr (.inr (some a)) :: .inl sp :: .inr (.inr (some b)) :: st => (match zsh h b, zsh h a with
    | some (k0, n0), some (k1, n1) => if k0 = 14 ∧ k1 = 14 ∧ ¬ sp < 0 ∧ ¬ dp < 0 ∧ ¬ n < 0 ∧ sp.toNatClampNeg + n.toNatClampNeg ≤ n0 ∧ dp.toNatClampNeg + n.toNatClampNeg ≤ n1 ∧ zwd st ≤ 8 then
        zgo (pc + 3) ls st (zsRow h a (va_cpy (h.2.1 b) (h.2.1 a) sp.toNatClampNeg dp.toNatClampNeg n.toNatClampNeg)) else none
    | _, _ => none)
  | _ => none
def zprim (deep : Bool) (kd pc : Nat) (ls : zL) (st : List zV) (h : zH) : Option (zC ⊕ zR) := if deep then
    (if kd = 10 then (match st with
      | .inr (.inr (some _)) :: st => if zwd st ≤ 8 then zgo (pc + 3) ls st h else none
      | _ => none)
    else if kd = 11 then (match st with
      | .inl y :: .inl x :: st => if zwd st ≤ 8 then zgo (pc + 3) ls (.inl (if x < y then y else x) :: st) h else none
      | _ => none)
    else if kd = 12 then (match st with
      | .inl y :: .inl x :: st => if zwd st ≤ 8 then zgo (pc + 3) ls (.inl (if y < x then y else x) :: st) h else none
      | _ => none)
    else if kd = 13 then (match st with
      | .inl x :: st => if zwd st ≤ 8 then zgo (pc + 3) ls (.inl (if 0 ≤ x then x else 0 - x) :: st) h else none
      | _ => none)
    else if kd = 14 then zcopy pc ls st h
    else none) else none
/-- the law's own led: what x.led answers goes into out[0], and 0; a throw is 1 -/
def zled (call : zM → List zV → zH → Option zR) (pc : Nat) (ls : zL) (st : List zV) (h : zH) : Option (zC ⊕ zR) := match st with
  | .inr (.inr (some o)) :: .inl p0 :: .inr (.inr (some a)) :: st => if zwd st ≤ 8 ∧ zsh h a = some (11, 16) ∧ zsh h o = some (15, 1) ∧ h.2.2.2.2 < 1000 then
      (match call zledM [.inr (.inr (some a)), .inl p0] h with
      | some (some (.inl b), h') => zgo (pc + 3) ls (.inl 0 :: st) (zsL h' o 0 b.toInt64)
      | some (some (.inr (.inl _)), h') => zgo (pc + 3) ls (.inl 1 :: st) h'
      | _ => none) else none
  | _ => none
def zarith (i : Instr) (len pc : Nat) (ls : zL) (st : List zV) (h : zH) : Option (zC ⊕ zR) := match st with
  | .inl y :: .inl x :: st' => (match zbin i x y with
    | some v => zgo (pc + len) ls (.inl v :: st') h
    | none => (match zun i y with
      | some v => zgo (pc + len) ls (v :: .inl x :: st') h
      | none => none))
  | .inl x :: st' => (match zun i x with
    | some v => zgo (pc + len) ls (v :: st') h
    | none => none)
  | .inr (.inl y) :: .inr (.inl x) :: st' => (match zlbin i x y with
    | some v => zgo (pc + len) ls (v :: st') h
    | none => none)
  | _ => none
/-- String.length and String.charAt on a constant -/
def zstr (cm : zM) (pc : Nat) (ls : zL) (st : List zV) (h : zH) : Option (zC ⊕ zR) := match st with
  | .inr (.inr (some a)) :: st' => (match zsc a with
    | some bs => if cm = mJ0_length_8abf5 ∧ zwd st' ≤ 8 then zgo (pc + 3) ls (.inl (nI bs.length) :: st') h else none
    | none => none)
  | .inl i :: .inr (.inr (some a)) :: st' => (match zsc a with
    | some bs => if cm = mJ0_charAt_5068e ∧ zwd st' ≤ 8 ∧ zin i bs.length = true then zgo (pc + 3) ls (.inl (bs.getD i.toNatClampNeg 0) :: st') h else none
    | none => none)
  | _ => none
def zexec (scr : Option (Nat × (Nat → Int32))) (call : zM → List zV → zH → Option zR) (deep : Bool) (m : zM) (i : Instr) (len pc : Nat) (ls : zL) (st : List zV) (h : zH) : Option (zC ⊕ zR) := match i with
  | .iconst n => zgo (pc + len) ls (.inl (Int32.ofInt n) :: st) h
  | .bipush n => zgo (pc + len) ls (.inl (Int8.ofInt n).toInt32 :: st) h
  | .sipush n => zgo (pc + len) ls (.inl (Int16.ofInt n).toInt32 :: st) h
  | .lconst n => zgo (pc + len) ls (.inr (.inl (Int64.ofNat (n : Nat))) :: st) h
  | .ldc k => zldv m 1 k len pc ls st h
  | .ldc_w k => zldv m 1 k len pc ls st h
  | .ldc2_w k => zldv m 2 k len pc ls st h
  | .iload k => zload 0 k len pc ls st h
  | .iload_n k => zload 0 k len pc ls st h
  | .lload k => zload 1 k len pc ls st h
  | .lload_n k => zload 1 k len pc ls st h
  | .aload k => zload 2 k len pc ls st h
  | .aload_n k => zload 2 k len pc ls st h
  | .istore k => zstore m 0 k len pc ls st h
  | .istore_n k => zstore m 0 k len pc ls st h
  | .lstore k => zstore m 1 k len pc ls st h
  | .lstore_n k => zstore m 1 k len pc ls st h
  | .astore k => zstore m 2 k len pc ls st h
  | .astore_n k => zstore m 2 k len pc ls st h
  | .iinc k n => (match zget ls k with
    | some (.inl x) => if k < m.2.2.1 then zgo (pc + len) (zset1 ls k (.inl (x + Int32.ofInt n))) st h else none
    | _ => none)
  | .lshl => (match st with
    | .inl y :: .inr (.inl x) :: st => zgo (pc + len) ls (.inr (.inl (x <<< (y.toInt64 &&& 63))) :: st) h
    | _ => none)
  | .ifCond c off => (match st with
    | .inl x :: st => zbr (zcond c x 0) pc len off ls st h
    | _ => none)
  | .if_icmp c off => (match st with
    | .inl y :: .inl x :: st => zbr (zcond c x y) pc len off ls st h
    | _ => none)
  | .goto off => zjump pc off ls st h
  | .tableswitch d lo hi offs => (match st with
    | .inl x :: st => if x.toInt < lo ∨ hi < x.toInt then zjump pc d ls st h else (match offs[(x.toInt - lo).toNat]? with
      | some off => zjump pc off ls st h
      | none => none)
    | _ => none)
  | .getfield k => (match st with
    | .inr (.inr (some a)) :: st => (match zfld m.2.1 k, zsh h a with
      | some (ci, f), some (kd, _) => if kd = ci then zgo (pc + len) ls (zfv h ci a f :: st) h else none
      | _, _ => none)
    | _ => none)
  | .putfield k => (match st with
    | v :: .inr (.inr (some a)) :: st => (match zfld m.2.1 k, zsh h a with
      | some (ci, f), some (kd, _) => if kd = ci ∧ (zfin ci f = false ∨ (m.2.2.2.2.2 = true ∧ m.2.1 = ci)) then (match zput h ci a f v with
        | some h' => zgo (pc + len) ls st h'
        | none => none) else none
      | _, _ => none)
    | _ => none)
  | .getstatic k => if m.2.1 = 6 ∧ k = zgsk then zgo (pc + len) ls (.inr (.inr (some 1000001)) :: st) h else none
  | .iaload => (match st with
    | .inl i :: .inr (.inr (some a)) :: st => (match zld scr h 14 a i with
      | some v => zgo (pc + len) ls (.inl v :: st) h
      | none => none)
    | _ => none)
  | .baload => (match st with
    | .inl i :: .inr (.inr (some a)) :: st => (match zld scr h 13 a i with
      | some v => zgo (pc + len) ls (.inl v :: st) h
      | none => none)
    | _ => none)
  | .laload => (match st with
    | .inl i :: .inr (.inr (some a)) :: st => (match zsh h a with
      | some (k, n) => if k = 15 ∧ zin i n = true then zgo (pc + len) ls (.inr (.inl (h.2.2.1 a i.toNatClampNeg)) :: st) h else none
      | none => none)
    | _ => none)
  | .aaload => (match st with
    | .inl i :: .inr (.inr (some a)) :: st => (match zsh h a with
      | some (k, n) => if 16 ≤ k ∧ k ≤ 20 ∧ zin i n = true then zgo (pc + len) ls (.inr (.inr (h.2.2.2.1 a i.toNatClampNeg)) :: st) h else none
      | none => none)
    | _ => none)
  | .iastore => (match st with
    | .inl v :: .inl i :: .inr (.inr (some a)) :: st => (match zst h 14 a i v with
      | some h' => zgo (pc + len) ls st h'
      | none => none)
    | _ => none)
  | .bastore => (match st with
    | .inl v :: .inl i :: .inr (.inr (some a)) :: st => (match zst h 13 a i (vp_nar .byte v) with
      | some h' => zgo (pc + len) ls st h'
      | none => none)
    | _ => none)
  | .lastore => (match st with
    | .inr (.inl v) :: .inl i :: .inr (.inr (some a)) :: st => (match zsh h a with
      | some (k, n) => if k = 15 ∧ zin i n = true then zgo (pc + len) ls st (zsL h a i.toNatClampNeg v) else none
      | none => none)
    | _ => none)
  | .aastore => (match st with
    | .inr (.inr (some v)) :: .inl i :: .inr (.inr (some a)) :: st => (match zsh h a, zsh h v with
      | some (k, n), some (kv, _) => if 16 ≤ k ∧ k ≤ 20 ∧ zin i n = true ∧ zrc k = kv then zgo (pc + len) ls st (zsR h a i.toNatClampNeg (some v)) else none
      | _, _ => none)
    | _ => none)
  | .arraylength => (match st with
    | .inr (.inr (some a)) :: st => (match zlen scr h a with
      | some v => zgo (pc + len) ls (.inl v :: st) h
      | none => none)
    | _ => none)
  | .new k => (match zcls m.2.1 k with
    | some ci => if ci < 13 then (if h.2.2.2.2 = 0 ∧ h.1.1 < 900000 then zgo (pc + len) ls (.inr (.inr (some h.1.1)) :: st) (znew h ci (zft ci).length) else none) else (if st = [] ∧ m.2.2.2.2.1 = yX11_led ∧ pc = 45 ∧ h.2.2.2.2 < 1000 then some (.inr (some (.inr (.inl (-1))), zthr h)) else none)
    | none => none)
  | .newarray t => (match st with
    | .inl n :: st => if h.2.2.2.2 = 0 ∧ h.1.1 < 900000 ∧ ¬ n < 0 ∧ n.toNatClampNeg ≤ 100000 then (match t with
      | .byte => zgo (pc + len) ls (.inr (.inr (some h.1.1)) :: st) (znew h 13 n.toNatClampNeg)
      | .int => zgo (pc + len) ls (.inr (.inr (some h.1.1)) :: st) (znew h 14 n.toNatClampNeg)
      | .long => zgo (pc + len) ls (.inr (.inr (some h.1.1)) :: st) (znew h 15 n.toNatClampNeg)
      | _ => none) else none
    | _ => none)
  | .anewarray k => (match st with
    | .inl n :: st => if h.2.2.2.2 = 0 ∧ h.1.1 < 900000 ∧ ¬ n < 0 ∧ n.toNatClampNeg ≤ 100000 then (match zcls m.2.1 k with
      | some ci => if 16 ≤ zak ci ∧ zak ci ≤ 20 then zgo (pc + len) ls (.inr (.inr (some h.1.1)) :: st) (znew h (zak ci) n.toNatClampNeg) else none
      | none => none) else none
    | _ => none)
  | .dup => (match st with
    | v :: st => if zcat v = 1 then zgo (pc + len) ls (v :: v :: st) h else none
    | _ => none)
  | .dup2 => (match st with
    | v :: w :: st => if zcat v = 1 ∧ zcat w = 1 then zgo (pc + len) ls (v :: w :: v :: w :: st) h else none
    | _ => none)
  | .pop => (match st with
    | v :: st => if zcat v = 1 then zgo (pc + len) ls st h else none
    | _ => none)
  | .pop2 => (match st with
    | v :: st => if zcat v = 2 then zgo (pc + len) ls st h else none
    | _ => none)
  | .invokevirtual k => (match zmth m.2.1 k with
    | some (kd, na, cm) => if kd = 0 then (if cm.2.1 = 14 then zstr cm pc ls st h else zcall call cm kd na pc ls st h) else none
    | none => none)
  | .invokestatic k => (match zmth m.2.1 k with
    | some (kd, na, cm) => if kd = 1 ∨ kd = 3 then zcall call cm kd na pc ls st h else if kd = 16 then (if scr.isSome = true ∧ deep = true then zled call pc ls st h else none) else if kd = 10 then none else zprim deep kd pc ls st h
    | none => none)
  | .invokespecial k => (match zmth m.2.1 k with
    | some (kd, na, cm) => if kd = 2 ∨ kd = 4 then zcall call cm kd na pc ls st h else if kd = 10 then zprim deep kd pc ls st h else none
    | none => none)
  | .ireturn => (match st with
    | [.inl x] => (match m.2.2.2.1 with
      | some ty => if narrow ty (.int x) = .int x then some (.inr (some (.inl x), h)) else none
      | none => none)
    | _ => none)
  | .lreturn => (match st with
    | [.inr (.inl x)] => if m.2.2.2.1 = some .long then some (.inr (some (.inr (.inl x)), h)) else none
    | _ => none)
  | .return_ => (match st with
    | [] => if m.2.2.2.1 = none then some (.inr (none, h)) else none
    | _ => none)
  | i => zarith i len pc ls st h
/-- how long an instruction is (0: not asked) -/
def zilen (i : Instr) : Nat := match i with
  | .bipush _ => 2
  | .iload _ => 2
  | .lload _ => 2
  | .aload _ => 2
  | .istore _ => 2
  | .lstore _ => 2
  | .astore _ => 2
  | .ldc _ => 2
  | .newarray _ => 2
  | .sipush _ => 3
  | .ldc_w _ => 3
  | .ldc2_w _ => 3
  | .iinc _ _ => 3
  | .ifCond _ _ => 3
  | .if_icmp _ _ => 3
  | .goto _ => 3
  | .getfield _ => 3
  | .getstatic _ => 3
  | .putfield _ => 3
  | .invokevirtual _ => 3
  | .invokestatic _ => 3
  | .invokespecial _ => 3
  | .new _ => 3
  | .anewarray _ => 3
  | .tableswitch _ _ _ _ => 0
  | _ => 1
def zstep (scr : Option (Nat × (Nat → Int32))) (call : zM → List zV → zH → Option zR) (deep : Bool) (m : zM) (c : zC) : Option (zC ⊕ zR) := match decode m.1 c.1 with
  | .ok (i, len) => if zilen i = 0 ∨ len = zilen i then zexec scr call deep m i len c.1 c.2.1 c.2.2.1 c.2.2.2 else none
  | .error _ => none
def zrun : Nat → Option (Nat × (Nat → Int32)) → Nat → zM → zC → Option zR
  | 0, _, _, _, _ => none
  | n + 1, scr, d, m, c => (match zstep scr (fun k vs h => (match d with
      | 0 => none
      | d' + 1 => if zwd vs ≤ k.2.2.1 then zrun n none d' k (0, zargs 0 vs, [], h) else none)) (decide (0 < d)) m c with
    | some (.inl c') => zrun n scr d m c'
    | some (.inr r) => some r
    | none => none)
end Pk3
section Pk4
/-! THE SMALL MACHINE OVER THE LARGE ONE: the world of a small heap -/
def zad (B : Nat) (sp : Nat → Nat) (a : Nat) : Nat := if a < 1000000 then B + a else sp a
def zcv (B : Nat) (sp : Nat → Nat) (v : zV) : Value := match v with
  | .inl x => .int x
  | .inr (.inl x) => .long x
  | .inr (.inr r) => va_rf (r.map (zad B sp))
def zE (B : Nat) (sp : Nat → Nat) (cA : Nat → ClassId) (h : zH) (a kind len : Nat) : va_E :=
  if kind < 13 then .inr (kind, (List.range (zft kind).length).map (fun f => zcv B sp (zfv h kind a f)))
  else if kind < 15 then .inl (cA kind, len, .inl (h.2.1 a))
  else if kind = 15 then .inl (cA kind, len, .inr (.inl (h.2.2.1 a)))
  else .inl (cA kind, len, .inr (.inr (.inr (.inr (fun k => (h.2.2.2.1 a k).map (zad B sp))))))
def zW (B : Nat) (sp : Nat → Nat) (cA : Nat → ClassId) (h : zH) : va_W := (List.range h.1.1).map (fun a => (B + a, zE B sp cA h a (h.1.2.1 a).1 (h.1.2.1 a).2))
def zAr (B : Nat) : Nat → Prop := fun q => B ≤ q
def zok (h : zH) : Prop := h.1.1 ≤ 900000 ∧ ∀ (a : Nat) (q : Nat × Nat), zsh h a = some q → q.1 ≤ 20
def ztys (cA : Nat → ClassId) : List (ClassId × FieldType) := [(cA 13, .byte), (cA 14, .int), (cA 15, .long), (cA 16, .object RX0), (cA 17, .object RX2), (cA 18, .object RX8), (cA 19, .object RX9), (cA 20, .object RX10)]
def zRel (B : Nat) (sp : Nat → Nat) (cA : Nat → ClassId) (D : va_G) (h : zH) (H : Heap) : Prop := va_P D vwCl (zW B sp cA h) H ∧ zok h ∧ (h.2.2.2.2 = 0 → H.size = B + h.1.1)
section ZW
variable {B : Nat} {sp : Nat → Nat} {cA : Nat → ClassId} {D : va_G} {h h' : zH} {H : Heap}
theorem zsh_lt {a : Nat} {q : Nat × Nat} (hq : zsh h a = some q) : a < h.1.1 := by
  unfold zsh at hq
  split at hq
  · next q => exact q
  · cases hq
theorem zsh_eq {a : Nat} {q : Nat × Nat} (hq : zsh h a = some q) : h.1.2.1 a = q := by
  unfold zsh at hq
  split at hq
  · cases hq; rfl
  · cases hq
theorem zW_get {a : Nat} {q : Nat × Nat} (hq : zsh h a = some q) : (zW B sp cA h)[a]? = some (B + a, zE B sp cA h a q.1 q.2) := by
  have h1 := zsh_lt hq
  have h2 := zsh_eq hq
  simp [zW, h1, h2]
theorem zW_some {a : Nat} {x : Nat × va_E} (hq : (zW B sp cA h)[a]? = some x) : ∃ q : Nat × Nat, zsh h a = some q ∧ x = (B + a, zE B sp cA h a q.1 q.2) := by
  simp only [zW, List.getElem?_map, Option.map_eq_some_iff] at hq
  obtain ⟨b, h1, h2⟩ := hq
  have hl : a < h.1.1 := by simpa using (List.getElem?_eq_some_iff.mp h1).1
  have hb : b = a := by
    have := (List.getElem?_eq_some_iff.mp h1).2
    simpa using this.symm
  subst hb
  exact ⟨h.1.2.1 b, by unfold zsh; rw [if_pos hl], h2.symm⟩
theorem zW_len : (zW B sp cA h).length = h.1.1 := by simp [zW]
theorem zW_D : va_D (zAr B) (zW B sp cA h) := by
  refine ⟨fun i j x y hi hj hxy => ?_, fun k q hk => ?_⟩
  · obtain ⟨q1, -, rfl⟩ := zW_some hi
    obtain ⟨q2, -, rfl⟩ := zW_some hj
    have : B + i = B + j := hxy
    omega
  · obtain ⟨q1, -, rfl⟩ := zW_some hk
    exact Nat.le_add_right B k
/-- one cell has changed -/
theorem zW_set {a k n : Nat} (hq : zsh h a = some (k, n)) (h1 : h'.1 = h.1) (ho : ∀ b, b ≠ a → ∀ k n, zE B sp cA h' b k n = zE B sp cA h b k n) : zW B sp cA h' = (zW B sp cA h).set a (B + a, zE B sp cA h' a k n) := by
  have hla := zsh_lt hq
  have hea := zsh_eq hq
  refine List.ext_getElem? fun i => ?_
  by_cases hi : i = a
  · subst hi
    rw [List.getElem?_set_self (by rw [zW_len]; exact hla)]
    simp [zW, h1, hla, hea]
  · rw [List.getElem?_set_ne (Ne.symm hi)]
    by_cases hl : i < h.1.1
    · simp [zW, h1, hl, ho i hi]
    · simp [zW, h1, hl]
/-- one cell more -/
theorem zW_new {k n : Nat} (ho : ∀ b, b < h.1.1 → ∀ k0 n0, zE B sp cA (znew h k n) b k0 n0 = zE B sp cA h b k0 n0) : zW B sp cA (znew h k n) = zW B sp cA h ++ [(B + h.1.1, zE B sp cA (znew h k n) h.1.1 k n)] := by
  unfold zW
  have e1 : (znew h k n).1.1 = h.1.1 + 1 := rfl
  rw [e1, List.range_succ, List.map_append]
  congr 1
  · refine List.map_congr_left fun a ha => ?_
    have hl : a < h.1.1 := List.mem_range.mp ha
    have e2 : (znew h k n).1.2.1 a = h.1.2.1 a := by simp [znew, Nat.ne_of_lt hl]
    rw [e2, ho a hl]
  · simp [znew]
theorem zfv_I {b a k ci f : Nat} {v : Int32} (hb : b ≠ a) : zfv (zsI h a k v) ci b f = zfv h ci b f := by simp [zfv, zsI, zup, hb]
theorem zE_sI {b a k kd n : Nat} {v : Int32} (hb : b ≠ a) : zE B sp cA (zsI h a k v) b kd n = zE B sp cA h b kd n := by
  have e : (fun j => (zsI h a k v).2.1 b j) = (fun j => h.2.1 b j) := by funext j; simp [zsI, zup, hb]
  have e2 : (zsI h a k v).2.1 b = h.2.1 b := e
  unfold zE
  simp only [zfv_I hb, e2]
  rfl
theorem zE_sR {b a k kd n : Nat} {v : Option Nat} (hb : b ≠ a) : zE B sp cA (zsR h a k v) b kd n = zE B sp cA h b kd n := by
  have e : ∀ j, (zsR h a k v).2.2.2.1 b j = h.2.2.2.1 b j := fun j => by simp [zsR, zup, hb]
  have e1 : ∀ ci f, zfv (zsR h a k v) ci b f = zfv h ci b f := fun ci f => by unfold zfv; rw [e]; rfl
  unfold zE
  simp only [e1, e]
  rfl
theorem zE_sL {b a k kd n : Nat} {v : Int64} (hb : b ≠ a) : zE B sp cA (zsL h a k v) b kd n = zE B sp cA h b kd n := by
  have e : (zsL h a k v).2.2.1 b = h.2.2.1 b := by funext j; simp [zsL, zup, hb]
  unfold zE
  simp only [e]
  rfl
theorem zE_sRow {b a kd n : Nat} {g : Nat → Int32} (hb : b ≠ a) : zE B sp cA (zsRow h a g) b kd n = zE B sp cA h b kd n := by
  have e2 : (zsRow h a g).2.1 b = h.2.1 b := by funext j; simp [zsRow, zrow, hb]
  have e1 : ∀ ci f, zfv (zsRow h a g) ci b f = zfv h ci b f := fun ci f => by unfold zfv; rw [e2]; rfl
  unfold zE
  simp only [e1, e2]
  rfl
theorem zE_new {b kd n k0 n0 : Nat} (hb : b < h.1.1) : zE B sp cA (znew h k0 n0) b kd n = zE B sp cA h b kd n := by
  have hb' : b ≠ h.1.1 := by omega
  have e2 : (znew h k0 n0).2.1 b = h.2.1 b := by funext j; simp [znew, zrow, hb']
  have e3 : (znew h k0 n0).2.2.1 b = h.2.2.1 b := by funext j; simp [znew, zrow, hb']
  have e4 : (znew h k0 n0).2.2.2.1 b = h.2.2.2.1 b := by funext j; simp [znew, zrow, hb']
  have e1 : ∀ ci f, zfv (znew h k0 n0) ci b f = zfv h ci b f := fun ci f => by unfold zfv; rw [e2, e4]
  unfold zE
  simp only [e1, e2, e3, e4]
theorem zcv_rf (r : Option Nat) : zcv B sp (.inr (.inr r)) = va_rf (r.map (zad B sp)) := rfl
theorem zcv_ref {a : Nat} (ha : a < 1000000) : zcv B sp (.inr (.inr (some a))) = .ref (B + a) := by
  show va_rf (some (zad B sp a)) = _
  rw [zad, if_pos ha]
  rfl
theorem zcat_cv (v : zV) : (zcv B sp v).category = zcat v := by
  match v with
  | .inl x => rfl
  | .inr (.inl x) => rfl
  | .inr (.inr none) => rfl
  | .inr (.inr (some a)) => rfl
theorem zwd_cv (vs : List zV) : ((vs.map (zcv B sp)).map fun v => v.category).sum = zwd vs := by
  rw [List.map_map]
  exact congrArg List.sum (List.map_congr_left fun v _ => zcat_cv v)
/-- locals -/
def zlv (B : Nat) (sp : Nat → Nat) (ls : zL) : List (Nat × Value) := ls.map (fun q => (q.1, zcv B sp q.2))
theorem zget_mem {ls : zL} {i : Nat} {v : zV} (hg : zget ls i = some v) : (i, v) ∈ ls := by
  induction ls with
  | nil => cases hg
  | cons q t ih =>
    unfold zget at hg
    split at hg
    · next e => cases hg; subst e; exact List.mem_cons_self
    · exact List.mem_cons_of_mem _ (ih hg)
theorem zget_at {ls : zL} {i n : Nat} {v : zV} {lA : Array Slot} (hl : lv_has lA n (zlv B sp ls)) (hg : zget ls i = some v) : lA[i]? = some (.val (zcv B sp v)) :=
  hl.2.2 (i, zcv B sp v) (List.mem_map.mpr ⟨(i, v), zget_mem hg, rfl⟩)
theorem zget_place {ls : zL} {i : Nat} {v : zV} (hg : zget ls i = some v) : ∃ k : Nat, (zlv B sp ls)[k]? = some (i, zcv B sp v) :=
  List.getElem?_of_mem (List.mem_map.mpr ⟨(i, v), zget_mem hg, rfl⟩)
theorem zset1_lv {ls : zL} {i : Nat} {v : zV} : (i, zcv B sp v) :: (zlv B sp ls).filter (fun q => !(q.1 == i) && !(q.1 + 1 == i && q.2.category == 2)) = zlv B sp (zset1 ls i v) := by
  show _ = (i, zcv B sp v) :: zlv B sp (ls.filter _)
  congr 1
  unfold zlv
  rw [List.filter_map]
  refine congrArg _ (List.filter_congr fun q _ => ?_)
  simp [zcat_cv]
theorem zset2_lv {ls : zL} {i : Nat} {v : zV} : (i, zcv B sp v) :: (zlv B sp ls).filter (fun q => !(q.1 == i) && (!(q.1 == i + 1) && !(q.1 + 1 == i && q.2.category == 2))) = zlv B sp (zset2 ls i v) := by
  show _ = (i, zcv B sp v) :: zlv B sp (ls.filter _)
  congr 1
  unfold zlv
  rw [List.filter_map]
  refine congrArg _ (List.filter_congr fun q _ => ?_)
  simp [zcat_cv]
theorem zargs_lv (vs : List zV) : ∀ i : Nat, lv_args i (vs.map (zcv B sp)) = zlv B sp (zargs i vs) := by
  induction vs with
  | nil => intro i; rfl
  | cons v vs ih =>
    intro i
    show (i, zcv B sp v) :: lv_args (if (zcv B sp v).category = 2 then i + 2 else i + 1) (vs.map (zcv B sp)) = (i, zcv B sp v) :: zlv B sp (zargs (if zcat v = 2 then i + 2 else i + 1) vs)
    rw [zcat_cv, ih]
end ZW
end Pk4
section Pk5
/-! the context of a method of the small machine, and the judgement at one of its states -/
def zws : List Cond := lw_tbl.filter goodWord
def zwsM (mi : zM) : List Cond := Cond.code mi.2.2.2.2.1 mi.1 mi.2.2.1 mi.2.2.2.1 :: zws
def zc (h : zH) : Nat := h.1.1 + h.2.2.2.2
def zt (h : zH) : Nat := h.1.2.2 + 6 * h.2.2.2.2
/-- a constant text: an object of String, its bytes -/
def zSf (sp : Nat → Nat) (A : Nat → Prop) (a : Nat) (bs : List Int32) (U : State) (H : Heap) : Prop := ∃ t : Nat, va_O "java/lang/String" (sp a) A U H ∧ va_OF "java/lang/String" "coder" "B" (.int 0) (sp a) A U H ∧ va_OF "java/lang/String" "value" "[B" (.ref t) (sp a) A U H ∧ va_T .byte t bs.length (fun j => .int (bs.getD j 0)) A U H
def zSg (B : Nat) (sp : Nat → Nat) (U : State) (H : Heap) : Prop :=
  (∀ (a : Nat) (bs : List Int32), zsc a = some bs → zSf sp (zAr B) a bs U H) ∧ va_Z "java/lang/String" "COMPACT_STRINGS" "Z" (.int 1) (zAr B) U H ∧ va_Zq "jdk/internal/util/Preconditions" "SIOOBE_FORMATTER" "Ljava/util/function/BiFunction;" (zAr B) U H ∧ va_Z "WhalePost" "CAN_CARRY" "[I" (.ref (sp 1000001)) (zAr B) U H ∧ va_T .int (sp 1000001) 4 (fun j => .int (zcc j)) (zAr B) U H
theorem zSg.kept {B : Nat} {sp : Nat → Nat} {U : State} {H H1 : Heap} (h : zSg B sp U H) (hq : ∀ a : Nat, a < H.size → ¬ zAr B a → H1[a]? = H[a]?) : zSg B sp U H1 :=
  ⟨fun a bs e => (by
    obtain ⟨t, q1, q2, q3, q4⟩ := h.1 a bs e
    exact ⟨t, q1.kept hq, q2.kept hq, q3.kept hq, q4.kept hq⟩), h.2.1.kept hq, h.2.2.1.kept hq, h.2.2.2.1.kept hq, h.2.2.2.2.kept hq⟩
theorem zSg.moved {B : Nat} {sp : Nat → Nat} {u U : State} {H : Heap} (hvm : u.vm.Alike U.vm) (h : zSg B sp u H) : zSg B sp U H :=
  ⟨fun a bs e => (by
    obtain ⟨t, q1, q2, q3, q4⟩ := h.1 a bs e
    exact ⟨t, va_O.moved hvm q1, va_OF.moved hvm q2, va_OF.moved hvm q3, va_T.moved hvm q4⟩), va_Z.moved hvm h.2.1, va_Zq.moved hvm h.2.2.1, va_Z.moved hvm h.2.2.2.1, va_T.moved hvm h.2.2.2.2⟩
def zCx (B : Nat) (sp : Nat → Nat) (cA : Nat → ClassId) (D : va_G) (U : State) : Prop :=
  va_K D vwCl (ztys cA) U ∧ (∀ q ∈ znm, va_Nw (.methodLinkNest (zRn q.1) q.2.1 q.2.2.1.2.2.2.2.1 q.2.2.2.1) U) ∧ (∀ q ∈ zsr, vk_R (zRn q.1) q.2.1 q.2.2.1 (sp q.2.2.2.1) U) ∧ (∀ k, 16 ≤ k → k ≤ 20 → va_AO (zRn (zrc k)) U) ∧ B ≤ U.heap.size ∧ zSg B sp U U.heap ∧ va_Nw (.fieldLinkNest "WhalePost$Sea" zgsk "WhalePost" "CAN_CARRY" "[I" "WhalePost") U
theorem zCx.warm {B : Nat} {sp : Nat → Nat} {cA : Nat → ClassId} {D : va_G} {s U : State} (h : zCx B sp cA D s) (hW : s.WarmedH U.vm) (hB : B ≤ U.heap.size) (hk : ∀ a : Nat, a < s.heap.size → ¬ zAr B a → U.heap[a]? = s.heap[a]?) : zCx B sp cA D U :=
  ⟨va_K.moved hW.alike h.1, fun q hq => va_Nw.warmM hW (h.2.1 q hq), fun q hq => vk_R.warm hW (h.2.2.1 q hq), fun k h1 h2 => va_AO.moved hW.alike (h.2.2.2.1 k h1 h2), hB, zSg.moved hW.alike (h.2.2.2.2.2.1.kept hk), va_Nw.warmF hW h.2.2.2.2.2.2⟩
def zX (p : Program) (s : State) (m : MethodId) (args : Array Value) (meth : Method) (c : Code) (B : Nat) (sp : Nat → Nat) (cA : Nat → ClassId) (D : va_G) (mi : zM) : Prop :=
  p.tables.exec = Jvm.exec ∧ c.code = mi.1 ∧ c.maxLocals = mi.2.2.1 ∧ s.vm.findClass (zRn mi.2.1) = some m.cls ∧ (∀ w ∈ zws, w.before args s = true) ∧ (mi.2.2.2.2.2 = true → meth.name = "<init>") ∧ zCx B sp cA D s
def zK (p : Program) (l : Launch) (e : Env) (R : Room) (s : State) (m : MethodId) (args : Array Value) (below : List Frame) (meth : Method) (c : Code) (Q : State → Prop) (B : Nat) (sp : Nat → Nat) (cA : Nat → ClassId) (D : va_G) (mi : zM) (c0 s0 : Nat) (g : zC) : Prop :=
  ∀ (H : Heap) (locs : List Loc) (lA : Array Slot) (cells slots : Nat), zRel B sp cA D g.2.2.2 H → va_S (zAr B) s.heap H locs → lv_has lA mi.2.2.1 (zlv B sp g.2.1) → c0 + cells = zc g.2.2.2 → s0 + slots = zt g.2.2.2 →
    W p l e R s m args below meth c H locs cells slots Q (F0 m g.1 lA (g.2.2.1.map (zcv B sp)))
section ZS
variable {p : Program} {l : Launch} {e : Env} {R : Room} {s : State} {m : MethodId} {args : Array Value} {below : List Frame} {meth : Method} {c : Code} {Q : State → Prop} {B : Nat} {sp : Nat → Nat} {cA : Nat → ClassId} {D : va_G} {mi : zM} {c0 s0 : Nat}
variable {pc len : Nat} {ls : zL} {st : List zV} {h : zH}
theorem zs_iconst {n : Int} (cx : zX p s m args meth c B sp cA D mi) (hd : decode mi.1 pc = .ok (.iconst n, 1)) (k : zK p l e R s m args below meth c Q B sp cA D mi c0 s0 (pc + 1, ls, .inl (Int32.ofInt n) :: st, h)) : zK p l e R s m args below meth c Q B sp cA D mi c0 s0 (pc, ls, st, h) :=
  fun H locs lA cells slots hR hS hl h1 h2 => lv_iconst cx.1 cx.2.1 hd rfl (k H locs lA cells slots hR hS hl h1 h2)
theorem zs_bipush {n : Int} (cx : zX p s m args meth c B sp cA D mi) (hd : decode mi.1 pc = .ok (.bipush n, 2)) (k : zK p l e R s m args below meth c Q B sp cA D mi c0 s0 (pc + 2, ls, .inl (Int8.ofInt n).toInt32 :: st, h)) : zK p l e R s m args below meth c Q B sp cA D mi c0 s0 (pc, ls, st, h) :=
  fun H locs lA cells slots hR hS hl h1 h2 => lv_bipush cx.1 cx.2.1 hd rfl (k H locs lA cells slots hR hS hl h1 h2)
theorem zs_sipush {n : Int} (cx : zX p s m args meth c B sp cA D mi) (hd : decode mi.1 pc = .ok (.sipush n, 3)) (k : zK p l e R s m args below meth c Q B sp cA D mi c0 s0 (pc + 3, ls, .inl (Int16.ofInt n).toInt32 :: st, h)) : zK p l e R s m args below meth c Q B sp cA D mi c0 s0 (pc, ls, st, h) :=
  fun H locs lA cells slots hR hS hl h1 h2 => lv_sipush cx.1 cx.2.1 hd rfl (k H locs lA cells slots hR hS hl h1 h2)
theorem zs_lconst {n : Fin 2} (cx : zX p s m args meth c B sp cA D mi) (hd : decode mi.1 pc = .ok (.lconst n, 1)) (k : zK p l e R s m args below meth c Q B sp cA D mi c0 s0 (pc + 1, ls, .inr (.inl (Int64.ofNat (n : Nat))) :: st, h)) : zK p l e R s m args below meth c Q B sp cA D mi c0 s0 (pc, ls, st, h) :=
  fun H locs lA cells slots hR hS hl h1 h2 => lv_lconst cx.1 cx.2.1 hd rfl (k H locs lA cells slots hR hS hl h1 h2)
/-- loads -/
theorem zs_load {i : Instr} {so j : Nat} {g : zC} (cx : zX p s m args meth c B sp cA D mi) (hd : decode mi.1 pc = .ok (i, len)) (hi : (i = .iload j ∧ len = 2 ∧ so = 0) ∨ (∃ f : Fin 4, i = .iload_n f ∧ (f : Nat) = j ∧ len = 1 ∧ so = 0) ∨ (i = .lload j ∧ len = 2 ∧ so = 1) ∨ (∃ f : Fin 4, i = .lload_n f ∧ (f : Nat) = j ∧ len = 1 ∧ so = 1) ∨ (i = .aload j ∧ len = 2 ∧ so = 2) ∨ (∃ f : Fin 4, i = .aload_n f ∧ (f : Nat) = j ∧ len = 1 ∧ so = 2))
    (hz : zload so j len pc ls st h = some (.inl g)) (k : zK p l e R s m args below meth c Q B sp cA D mi c0 s0 g) : zK p l e R s m args below meth c Q B sp cA D mi c0 s0 (pc, ls, st, h) := by
  intro H locs lA cells slots hR hS hl h1 h2
  unfold zload at hz
  split at hz
  · next x hg =>
    split at hz
    · next hso =>
      subst hso
      cases hz
      have k' := k H locs lA cells slots hR hS hl h1 h2
      have ha := zget_at hl hg
      rcases hi with ⟨rfl, rfl, -⟩ | ⟨f, rfl, rfl, rfl, -⟩ | ⟨-, -, q⟩ | ⟨f, -, -, -, q⟩ | ⟨-, -, q⟩ | ⟨f, -, -, -, q⟩
      · exact lv_iload cx.1 cx.2.1 hd ha k'
      · exact lv_iload_n cx.1 cx.2.1 hd rfl ha k'
      all_goals cases q
    · cases hz
  · next x hg =>
    split at hz
    · next hso =>
      subst hso
      cases hz
      have k' := k H locs lA cells slots hR hS hl h1 h2
      have ha := zget_at hl hg
      rcases hi with ⟨-, -, q⟩ | ⟨f, -, -, -, q⟩ | ⟨rfl, rfl, -⟩ | ⟨f, rfl, rfl, rfl, -⟩ | ⟨-, -, q⟩ | ⟨f, -, -, -, q⟩
      · cases q
      · cases q
      · exact lv_lload cx.1 cx.2.1 hd ha k'
      · exact lv_lload_n cx.1 cx.2.1 hd rfl ha k'
      all_goals cases q
    · cases hz
  · next x hg =>
    split at hz
    · next hso =>
      subst hso
      cases hz
      have k' := k H locs lA cells slots hR hS hl h1 h2
      have ha := zget_at hl hg
      rcases hi with ⟨-, -, q⟩ | ⟨f, -, -, -, q⟩ | ⟨-, -, q⟩ | ⟨f, -, -, -, q⟩ | ⟨rfl, rfl, -⟩ | ⟨f, rfl, rfl, rfl, -⟩
      · cases q
      · cases q
      · cases q
      · cases q
      · exact lv_aload cx.1 cx.2.1 hd ha k'
      · exact lv_aload_n cx.1 cx.2.1 hd rfl ha k'
    · cases hz
  · cases hz
/-- stores -/
theorem zs_store {i : Instr} {so j : Nat} {g : zC} (cx : zX p s m args meth c B sp cA D mi) (hd : decode mi.1 pc = .ok (i, len)) (hi : (i = .istore j ∧ len = 2 ∧ so = 0) ∨ (∃ f : Fin 4, i = .istore_n f ∧ (f : Nat) = j ∧ len = 1 ∧ so = 0) ∨ (i = .lstore j ∧ len = 2 ∧ so = 1) ∨ (∃ f : Fin 4, i = .lstore_n f ∧ (f : Nat) = j ∧ len = 1 ∧ so = 1) ∨ (i = .astore j ∧ len = 2 ∧ so = 2) ∨ (∃ f : Fin 4, i = .astore_n f ∧ (f : Nat) = j ∧ len = 1 ∧ so = 2))
    (hz : zstore mi so j len pc ls st h = some (.inl g)) (k : zK p l e R s m args below meth c Q B sp cA D mi c0 s0 g) : zK p l e R s m args below meth c Q B sp cA D mi c0 s0 (pc, ls, st, h) := by
  intro H locs lA cells slots hR hS hl h1 h2
  unfold zstore at hz
  split at hz
  · next x st' =>
    split at hz
    · next hso =>
      obtain ⟨rfl, hj⟩ := hso
      cases hz
      have k' := fun lA' hl' => k H locs lA' cells slots hR hS hl' h1 h2
      rcases hi with ⟨rfl, rfl, -⟩ | ⟨f, rfl, rfl, rfl, -⟩ | ⟨-, -, q⟩ | ⟨f, -, -, -, q⟩ | ⟨-, -, q⟩ | ⟨f, -, -, -, q⟩
      · exact lv_istore cx.1 cx.2.1 hd hl hj (zset1_lv (v := .inl x)) k'
      · exact lv_istore_n cx.1 cx.2.1 hd rfl hl hj (zset1_lv (v := .inl x)) k'
      all_goals cases q
    · cases hz
  · next x st' =>
    split at hz
    · next hso =>
      obtain ⟨rfl, hj⟩ := hso
      cases hz
      have k' := fun lA' hl' => k H locs lA' cells slots hR hS hl' h1 h2
      rcases hi with ⟨-, -, q⟩ | ⟨f, -, -, -, q⟩ | ⟨rfl, rfl, -⟩ | ⟨f, rfl, rfl, rfl, -⟩ | ⟨-, -, q⟩ | ⟨f, -, -, -, q⟩
      · cases q
      · cases q
      · exact lv_lstore cx.1 cx.2.1 hd hl hj (zset2_lv (v := .inr (.inl x))) k'
      · exact lv_lstore_n cx.1 cx.2.1 hd rfl hl hj (zset2_lv (v := .inr (.inl x))) k'
      all_goals cases q
    · cases hz
  · next x st' =>
    split at hz
    · next hso =>
      obtain ⟨rfl, hj⟩ := hso
      cases hz
      have k' := fun lA' hl' => k H locs lA' cells slots hR hS hl' h1 h2
      rcases hi with ⟨-, -, q⟩ | ⟨f, -, -, -, q⟩ | ⟨-, -, q⟩ | ⟨f, -, -, -, q⟩ | ⟨rfl, rfl, -⟩ | ⟨f, rfl, rfl, rfl, -⟩
      · cases q
      · cases q
      · cases q
      · cases q
      · exact lv_astore cx.1 cx.2.1 hd hl hj (zset1_lv (v := .inr (.inr (some x)))) k'
      · exact lv_astore_n cx.1 cx.2.1 hd rfl hl hj (zset1_lv (v := .inr (.inr (some x)))) k'
    · cases hz
  · cases hz
theorem zs_iinc {j : Nat} {n : Int} {x : Int32} (cx : zX p s m args meth c B sp cA D mi) (hd : decode mi.1 pc = .ok (.iinc j n, 3)) (hg : zget ls j = some (.inl x)) (hj : j < mi.2.2.1) (k : zK p l e R s m args below meth c Q B sp cA D mi c0 s0 (pc + 3, zset1 ls j (.inl (x + Int32.ofInt n)), st, h)) : zK p l e R s m args below meth c Q B sp cA D mi c0 s0 (pc, ls, st, h) := by
  intro H locs lA cells slots hR hS hl h1 h2
  obtain ⟨q, hq⟩ := zget_place (B := B) (sp := sp) hg
  exact lv_iinc cx.1 cx.2.1 hd hl hq rfl hj (zset1_lv (v := .inl (x + Int32.ofInt n))) (fun lA' hl' => k H locs lA' cells slots hR hS hl' h1 h2)
/-- two ints to one -/
theorem zs_bin {i : Instr} {x y v : Int32} (cx : zX p s m args meth c B sp cA D mi) (hd : decode mi.1 pc = .ok (i, 1)) (hz : zbin i x y = some v) (k : zK p l e R s m args below meth c Q B sp cA D mi c0 s0 (pc + 1, ls, .inl v :: st, h)) : zK p l e R s m args below meth c Q B sp cA D mi c0 s0 (pc, ls, .inl y :: .inl x :: st, h) := by
  intro H locs lA cells slots hR hS hl h1 h2
  have k' := k H locs lA cells slots hR hS hl h1 h2
  unfold zbin at hz
  split at hz
  · cases hz; exact lv_iadd cx.1 cx.2.1 hd k'
  · cases hz; exact lv_isub cx.1 cx.2.1 hd k'
  · cases hz; exact lv_imul cx.1 cx.2.1 hd k'
  · cases hz; exact lv_iand cx.1 cx.2.1 hd k'
  · cases hz; exact lv_ior cx.1 cx.2.1 hd k'
  · cases hz; exact lv_ixor cx.1 cx.2.1 hd k'
  · cases hz; exact lv_ishl cx.1 cx.2.1 hd k'
  · cases hz; exact lv_ishr cx.1 cx.2.1 hd k'
  · cases hz; exact lv_iushr cx.1 cx.2.1 hd rfl k'
  · split at hz
    · cases hz
    · next hy => cases hz; exact lv_idiv cx.1 cx.2.1 hd hy k'
  · split at hz
    · cases hz
    · next hy => cases hz; exact lv_irem cx.1 cx.2.1 hd hy k'
  · cases hz
theorem zs_un {i : Instr} {x : Int32} {v : zV} (cx : zX p s m args meth c B sp cA D mi) (hd : decode mi.1 pc = .ok (i, 1)) (hz : zun i x = some v) (k : zK p l e R s m args below meth c Q B sp cA D mi c0 s0 (pc + 1, ls, v :: st, h)) : zK p l e R s m args below meth c Q B sp cA D mi c0 s0 (pc, ls, .inl x :: st, h) := by
  intro H locs lA cells slots hR hS hl h1 h2
  have k' := k H locs lA cells slots hR hS hl h1 h2
  unfold zun at hz
  split at hz
  · cases hz; exact lv_ineg cx.1 cx.2.1 hd k'
  · cases hz; exact lv_i2b cx.1 cx.2.1 hd rfl k'
  · cases hz; exact lv_i2c cx.1 cx.2.1 hd rfl k'
  · cases hz; exact lv_i2l cx.1 cx.2.1 hd rfl k'
  · cases hz
theorem zs_lbin {i : Instr} {x y : Int64} {v : zV} (cx : zX p s m args meth c B sp cA D mi) (hd : decode mi.1 pc = .ok (i, 1)) (hz : zlbin i x y = some v) (k : zK p l e R s m args below meth c Q B sp cA D mi c0 s0 (pc + 1, ls, v :: st, h)) : zK p l e R s m args below meth c Q B sp cA D mi c0 s0 (pc, ls, .inr (.inl y) :: .inr (.inl x) :: st, h) := by
  intro H locs lA cells slots hR hS hl h1 h2
  have k' := k H locs lA cells slots hR hS hl h1 h2
  unfold zlbin at hz
  split at hz
  · cases hz; exact lv_lor cx.1 cx.2.1 hd k'
  · cases hz; exact W.lcmp cx.1 cx.2.1 hd k'
  · split at hz
    · cases hz
    · next hy => cases hz; exact lv_ldiv cx.1 cx.2.1 hd hy k'
  · split at hz
    · cases hz
    · next hy => cases hz; exact lv_lrem cx.1 cx.2.1 hd hy k'
  · cases hz
theorem zs_lshl {x : Int64} {y : Int32} (cx : zX p s m args meth c B sp cA D mi) (hd : decode mi.1 pc = .ok (.lshl, 1)) (k : zK p l e R s m args below meth c Q B sp cA D mi c0 s0 (pc + 1, ls, .inr (.inl (x <<< (y.toInt64 &&& 63))) :: st, h)) : zK p l e R s m args below meth c Q B sp cA D mi c0 s0 (pc, ls, .inl y :: .inr (.inl x) :: st, h) :=
  fun H locs lA cells slots hR hS hl h1 h2 => lv_lshl cx.1 cx.2.1 hd rfl (k H locs lA cells slots hR hS hl h1 h2)
/-- jumps -/
theorem zjump_at {off : Int} {g : zC} (hz : zjump pc off ls st h = some (.inl g)) : (pc : Int) + off = ((g.1 : Nat) : Int) ∧ g = (g.1, ls, st, h) := by
  unfold zjump at hz
  split at hz
  · next h0 =>
    cases hz
    exact ⟨(Int.toNat_of_nonneg h0).symm, rfl⟩
  · cases hz
theorem zs_goto {off : Int} {g : zC} (cx : zX p s m args meth c B sp cA D mi) (hd : decode mi.1 pc = .ok (.goto off, 3)) (hz : zjump pc off ls st h = some (.inl g)) (k : zK p l e R s m args below meth c Q B sp cA D mi c0 s0 g) : zK p l e R s m args below meth c Q B sp cA D mi c0 s0 (pc, ls, st, h) := by
  obtain ⟨e1, e2⟩ := zjump_at hz
  rw [e2] at k
  exact fun H locs lA cells slots hR hS hl h1 h2 => lv_goto cx.1 cx.2.1 hd e1 (k H locs lA cells slots hR hS hl h1 h2)
theorem zs_if {cd : ClassFile.Cond} {off : Int} {x : Int32} {g : zC} (cx : zX p s m args meth c B sp cA D mi) (hd : decode mi.1 pc = .ok (.ifCond cd off, 3)) (hz : zbr (zcond cd x 0) pc 3 off ls st h = some (.inl g)) (k : zK p l e R s m args below meth c Q B sp cA D mi c0 s0 g) : zK p l e R s m args below meth c Q B sp cA D mi c0 s0 (pc, ls, .inl x :: st, h) := by
  intro H locs lA cells slots hR hS hl h1 h2
  unfold zbr at hz
  split at hz
  · next h0 =>
    have e1 : (pc : Int) + off = (((pc : Int) + off).toNat : Int) := (Int.toNat_of_nonneg h0).symm
    by_cases hc : zcond cd x 0 = true
    · rw [if_pos hc] at hz
      cases hz
      have k' := k H locs lA cells slots hR hS hl h1 h2
      cases cd <;> simp only [zcond, decide_eq_true_eq] at hc
      · exact lv_if_eq cx.1 cx.2.1 hd e1 (fun _ => k') (fun q => absurd hc q)
      · exact lv_if_ne cx.1 cx.2.1 hd e1 (fun _ => k') (fun q => absurd q hc)
      · exact lv_if_lt cx.1 cx.2.1 hd e1 (fun _ => k') (fun q => absurd hc q)
      · exact lv_if_ge cx.1 cx.2.1 hd e1 (fun _ => k') (fun q => absurd hc q)
      · exact lv_if_gt cx.1 cx.2.1 hd e1 (fun _ => k') (fun q => absurd hc q)
      · exact lv_if_le cx.1 cx.2.1 hd e1 (fun _ => k') (fun q => absurd hc q)
    · rw [if_neg hc] at hz
      cases hz
      have k' := k H locs lA cells slots hR hS hl h1 h2
      cases cd <;> simp only [zcond, decide_eq_true_eq] at hc
      · exact lv_if_eq cx.1 cx.2.1 hd e1 (fun q => absurd q hc) (fun _ => k')
      · exact lv_if_ne cx.1 cx.2.1 hd e1 (fun q => absurd q hc) (fun _ => k')
      · exact lv_if_lt cx.1 cx.2.1 hd e1 (fun q => absurd q hc) (fun _ => k')
      · exact lv_if_ge cx.1 cx.2.1 hd e1 (fun q => absurd q hc) (fun _ => k')
      · exact lv_if_gt cx.1 cx.2.1 hd e1 (fun q => absurd q hc) (fun _ => k')
      · exact lv_if_le cx.1 cx.2.1 hd e1 (fun q => absurd q hc) (fun _ => k')
  · cases hz
theorem zs_icmp {cd : ClassFile.Cond} {off : Int} {x y : Int32} {g : zC} (cx : zX p s m args meth c B sp cA D mi) (hd : decode mi.1 pc = .ok (.if_icmp cd off, 3)) (hz : zbr (zcond cd x y) pc 3 off ls st h = some (.inl g)) (k : zK p l e R s m args below meth c Q B sp cA D mi c0 s0 g) : zK p l e R s m args below meth c Q B sp cA D mi c0 s0 (pc, ls, .inl y :: .inl x :: st, h) := by
  intro H locs lA cells slots hR hS hl h1 h2
  unfold zbr at hz
  split at hz
  · next h0 =>
    have e1 : (pc : Int) + off = (((pc : Int) + off).toNat : Int) := (Int.toNat_of_nonneg h0).symm
    by_cases hc : zcond cd x y = true
    · rw [if_pos hc] at hz
      cases hz
      have k' := k H locs lA cells slots hR hS hl h1 h2
      cases cd <;> simp only [zcond, decide_eq_true_eq] at hc
      · exact lv_icmp_eq cx.1 cx.2.1 hd e1 (fun _ => k') (fun q => absurd hc q)
      · exact lv_icmp_ne cx.1 cx.2.1 hd e1 (fun _ => k') (fun q => absurd q hc)
      · exact lv_icmp_lt cx.1 cx.2.1 hd e1 (fun _ => k') (fun q => absurd hc q)
      · exact lv_icmp_ge cx.1 cx.2.1 hd e1 (fun _ => k') (fun q => absurd hc q)
      · exact lv_icmp_gt cx.1 cx.2.1 hd e1 (fun _ => k') (fun q => absurd hc q)
      · exact lv_icmp_le cx.1 cx.2.1 hd e1 (fun _ => k') (fun q => absurd hc q)
    · rw [if_neg hc] at hz
      cases hz
      have k' := k H locs lA cells slots hR hS hl h1 h2
      cases cd <;> simp only [zcond, decide_eq_true_eq] at hc
      · exact lv_icmp_eq cx.1 cx.2.1 hd e1 (fun q => absurd q hc) (fun _ => k')
      · exact lv_icmp_ne cx.1 cx.2.1 hd e1 (fun q => absurd q hc) (fun _ => k')
      · exact lv_icmp_lt cx.1 cx.2.1 hd e1 (fun q => absurd q hc) (fun _ => k')
      · exact lv_icmp_ge cx.1 cx.2.1 hd e1 (fun q => absurd q hc) (fun _ => k')
      · exact lv_icmp_gt cx.1 cx.2.1 hd e1 (fun q => absurd q hc) (fun _ => k')
      · exact lv_icmp_le cx.1 cx.2.1 hd e1 (fun q => absurd q hc) (fun _ => k')
  · cases hz
theorem zs_switch {d lo hi : Int} {offs : Array Int} {x : Int32} {g : zC} (cx : zX p s m args meth c B sp cA D mi) (hd : decode mi.1 pc = .ok (.tableswitch d lo hi offs, len)) (hz : (if x.toInt < lo ∨ hi < x.toInt then zjump pc d ls st h else (match offs[(x.toInt - lo).toNat]? with
      | some off => zjump pc off ls st h
      | none => none)) = some (.inl g)) (k : zK p l e R s m args below meth c Q B sp cA D mi c0 s0 g) : zK p l e R s m args below meth c Q B sp cA D mi c0 s0 (pc, ls, .inl x :: st, h) := by
  intro H locs lA cells slots hR hS hl h1 h2
  split at hz
  · next ho =>
    obtain ⟨e1, e2⟩ := zjump_at hz
    rw [e2] at k
    exact lv_tableOut cx.1 cx.2.1 hd ho e1 (k H locs lA cells slots hR hS hl h1 h2)
  · next ho =>
    split at hz
    · next off hoff =>
      obtain ⟨e1, e2⟩ := zjump_at hz
      rw [e2] at k
      exact lv_tableIn cx.1 cx.2.1 hd (fun q => ho (Or.inl q)) (fun q => ho (Or.inr q)) hoff e1 (k H locs lA cells slots hR hS hl h1 h2)
    · cases hz
theorem zs_dup {v : zV} (cx : zX p s m args meth c B sp cA D mi) (hd : decode mi.1 pc = .ok (.dup, 1)) (hv : zcat v = 1) (k : zK p l e R s m args below meth c Q B sp cA D mi c0 s0 (pc + 1, ls, v :: v :: st, h)) : zK p l e R s m args below meth c Q B sp cA D mi c0 s0 (pc, ls, v :: st, h) :=
  fun H locs lA cells slots hR hS hl h1 h2 => lv_dup cx.1 cx.2.1 hd (by rw [zcat_cv]; exact hv) (k H locs lA cells slots hR hS hl h1 h2)
theorem zs_dup2 {v w : zV} (cx : zX p s m args meth c B sp cA D mi) (hd : decode mi.1 pc = .ok (.dup2, 1)) (hv : zcat v = 1) (hw : zcat w = 1) (k : zK p l e R s m args below meth c Q B sp cA D mi c0 s0 (pc + 1, ls, v :: w :: v :: w :: st, h)) : zK p l e R s m args below meth c Q B sp cA D mi c0 s0 (pc, ls, v :: w :: st, h) :=
  fun H locs lA cells slots hR hS hl h1 h2 => lv_dup2_11 cx.1 cx.2.1 hd (by rw [zcat_cv]; exact hv) (by rw [zcat_cv]; exact hw) (k H locs lA cells slots hR hS hl h1 h2)
theorem zs_pop {v : zV} (cx : zX p s m args meth c B sp cA D mi) (hd : decode mi.1 pc = .ok (.pop, 1)) (hv : zcat v = 1) (k : zK p l e R s m args below meth c Q B sp cA D mi c0 s0 (pc + 1, ls, st, h)) : zK p l e R s m args below meth c Q B sp cA D mi c0 s0 (pc, ls, v :: st, h) :=
  fun H locs lA cells slots hR hS hl h1 h2 => lv_pop cx.1 cx.2.1 hd (by rw [zcat_cv]; exact hv) (k H locs lA cells slots hR hS hl h1 h2)
theorem zs_pop2 {v : zV} (cx : zX p s m args meth c B sp cA D mi) (hd : decode mi.1 pc = .ok (.pop2, 1)) (hv : zcat v = 2) (k : zK p l e R s m args below meth c Q B sp cA D mi c0 s0 (pc + 1, ls, st, h)) : zK p l e R s m args below meth c Q B sp cA D mi c0 s0 (pc, ls, v :: st, h) :=
  fun H locs lA cells slots hR hS hl h1 h2 => lv_pop2_2 cx.1 cx.2.1 hd (by rw [zcat_cv]; exact hv) (k H locs lA cells slots hR hS hl h1 h2)
end ZS
end Pk5
section Pk6
/-! what the kernel decides of the tables -/
def zpc (p : Nat) : Option Cond := match p / 1000 with
  | 0 => (k2_sels lw_privs)[p % 1000]?
  | 1 => tables_1_1[p % 1000]?
  | 2 => tables_1_2[p % 1000]?
  | 3 => tables_1_3[p % 1000]?
  | 4 => tables_1_4[p % 1000]?
  | 5 => tables_1_5[p % 1000]?
  | 6 => tables_1_6[p % 1000]?
  | 7 => tables_1_7[p % 1000]?
  | _ => tables_1_8[p % 1000]?
theorem zpc_in {p : Nat} {w : Cond} (h : zpc p = some w) : w ∈ lw_tbl := by
  unfold zpc at h
  unfold lw_tbl tables_1
  split at h
  · exact List.mem_append_left _ (List.mem_of_getElem? h)
  · exact List.mem_append_right _ (List.mem_append_left _ (List.mem_of_getElem? h))
  · exact List.mem_append_right _ (List.mem_append_right _ (List.mem_append_left _ (List.mem_of_getElem? h)))
  · exact List.mem_append_right _ (List.mem_append_right _ (List.mem_append_right _ (List.mem_append_left _ (List.mem_of_getElem? h))))
  · exact List.mem_append_right _ (List.mem_append_right _ (List.mem_append_right _ (List.mem_append_right _ (List.mem_append_left _ (List.mem_of_getElem? h)))))
  · exact List.mem_append_right _ (List.mem_append_right _ (List.mem_append_right _ (List.mem_append_right _ (List.mem_append_right _ (List.mem_append_left _ (List.mem_of_getElem? h))))))
  · exact List.mem_append_right _ (List.mem_append_right _ (List.mem_append_right _ (List.mem_append_right _ (List.mem_append_right _ (List.mem_append_right _ (List.mem_append_left _ (List.mem_of_getElem? h)))))))
  · exact List.mem_append_right _ (List.mem_append_right _ (List.mem_append_right _ (List.mem_append_right _ (List.mem_append_right _ (List.mem_append_right _ (List.mem_append_right _ (List.mem_append_left _ (List.mem_of_getElem? h))))))))
  · exact List.mem_append_right _ (List.mem_append_right _ (List.mem_append_right _ (List.mem_append_right _ (List.mem_append_right _ (List.mem_append_right _ (List.mem_append_right _ (List.mem_append_right _ (List.mem_of_getElem? h))))))))
theorem zws_in {i : Nat} {w : Cond} (h1 : zpc i = some w) (h2 : goodWord w = true) : w ∈ zws := List.mem_filter.mpr ⟨zpc_in h1, h2⟩
theorem zws_of {ws : List Cond} (ps : List Nat) (h1 : ps.map (fun i => zpc i) = ws.map some) (h2 : ws.all goodWord = true) : ∀ w ∈ ws, w ∈ zws := by
  intro w hw
  have h3 : some w ∈ ps.map (fun i => zpc i) := by rw [h1]; exact List.mem_map.mpr ⟨w, hw, rfl⟩
  obtain ⟨i, -, hi⟩ := List.mem_map.mp h3
  exact zws_in hi (List.all_eq_true.mp h2 w hw)
theorem zws_good : ∀ w ∈ zws, (w.onTables && w.keeps) = true ∨ ∃ ty, w = .arrayClass ty := fun w hw => good_of_word (List.mem_filter.mp hw).2
theorem zws_tbl : ∀ w ∈ zws, w ∈ lw_tbl := fun w hw => (List.mem_filter.mp hw).1
theorem zlook_mem {α : Type} {l : List (Nat × α)} {i : Nat} {v : α} (h : zlook l i = some v) : (i, v) ∈ l := by
  induction l with
  | nil => cases h
  | cons q t ih =>
    unfold zlook at h
    split at h
    · next e => cases h; subst e; exact List.mem_cons_self
    · exact List.mem_cons_of_mem _ (ih h)
set_option maxRecDepth 20000 in
theorem zcw0 : ∀ w ∈ u_ws RX0 TX0 4, w ∈ zws := zws_of [1123, 1125, 1127, 1129] (by decide +kernel) (by decide +kernel)
set_option maxRecDepth 20000 in
theorem zcw1 : ∀ w ∈ u_ws RX1 TX1 5, w ∈ zws := zws_of [2193, 2195, 2197, 2199, 2201] (by decide +kernel) (by decide +kernel)
set_option maxRecDepth 20000 in
theorem zcw2 : ∀ w ∈ u_ws RX2 TX2 7, w ∈ zws := zws_of [2082, 2084, 2086, 2088, 2090, 2092, 2094] (by decide +kernel) (by decide +kernel)
set_option maxRecDepth 20000 in
theorem zcw3 : ∀ w ∈ u_ws RX3 TX3 4, w ∈ zws := zws_of [2169, 2171, 2173, 2175] (by decide +kernel) (by decide +kernel)
set_option maxRecDepth 20000 in
theorem zcw4 : ∀ w ∈ u_ws RX4 TX4 15, w ∈ zws := zws_of [1218, 1220, 1222, 1224, 1226, 1228, 1230, 1232, 1234, 1236, 1238, 2000, 2002, 2004, 2006] (by decide +kernel) (by decide +kernel)
set_option maxRecDepth 20000 in
theorem zcw5 : ∀ w ∈ u_ws RX5 TX5 13, w ∈ zws := zws_of [2030, 2032, 2034, 2036, 2038, 2040, 2042, 2044, 2046, 2048, 2050, 2052, 2054] (by decide +kernel) (by decide +kernel)
set_option maxRecDepth 20000 in
theorem zcw6 : ∀ w ∈ u_ws RX6 TX6 7, w ∈ zws := zws_of [2142, 2144, 2146, 2148, 2150, 2152, 2154] (by decide +kernel) (by decide +kernel)
set_option maxRecDepth 20000 in
theorem zcw7 : ∀ w ∈ u_ws RX7 TX7 6, w ∈ zws := zws_of [2114, 2116, 2118, 2120, 2122, 2124] (by decide +kernel) (by decide +kernel)
set_option maxRecDepth 20000 in
theorem zcw8 : ∀ w ∈ u_ws RX8 TX8 3, w ∈ zws := zws_of [1144, 1146, 1148] (by decide +kernel) (by decide +kernel)
set_option maxRecDepth 20000 in
theorem zcw9 : ∀ w ∈ u_ws RX9 TX9 4, w ∈ zws := zws_of [1068, 1070, 1072, 1074] (by decide +kernel) (by decide +kernel)
set_option maxRecDepth 20000 in
theorem zcw10 : ∀ w ∈ u_ws RX10 TX10 4, w ∈ zws := zws_of [1096, 1098, 1100, 1102] (by decide +kernel) (by decide +kernel)
set_option maxRecDepth 20000 in
theorem zcw11 : ∀ w ∈ u_ws RX11 TX11 16, w ∈ zws := zws_of [2221, 2223, 2225, 2227, 2229, 2231, 2233, 2235, 2237, 2239, 3001, 3003, 3005, 3007, 3009, 3011] (by decide +kernel) (by decide +kernel)
set_option maxRecDepth 20000 in
theorem zcw12 : ∀ w ∈ u_ws RX12 TX12 39, w ∈ zws := zws_of [6095, 6097, 6099, 6101, 6103, 6105, 6107, 6109, 6111, 6113, 6115, 6117, 6119, 6121, 6123, 6125, 6127, 6129, 6131, 6133, 6135, 6137, 6139, 6141, 6143, 6145, 6147, 6149, 6151, 6153, 6155, 6157, 6159, 6161, 6163, 6165, 6167, 6169, 6171] (by decide +kernel) (by decide +kernel)
theorem zcl_cl {ci : Nat} (h : ci < 13) : vwCl[ci]? = some (zRn ci, zTT ci, (zft ci).length) := by
  match ci, h with
  | 0, _ => exact rfl
  | 1, _ => exact rfl
  | 2, _ => exact rfl
  | 3, _ => exact rfl
  | 4, _ => exact rfl
  | 5, _ => exact rfl
  | 6, _ => exact rfl
  | 7, _ => exact rfl
  | 8, _ => exact rfl
  | 9, _ => exact rfl
  | 10, _ => exact rfl
  | 11, _ => exact rfl
  | 12, _ => exact rfl
theorem zcl_ws {ci : Nat} (h : ci < 13) : ∀ w ∈ u_ws (zRn ci) (zTT ci) (zft ci).length, w ∈ zws := by
  match ci, h with
  | 0, _ => exact zcw0
  | 1, _ => exact zcw1
  | 2, _ => exact zcw2
  | 3, _ => exact zcw3
  | 4, _ => exact zcw4
  | 5, _ => exact zcw5
  | 6, _ => exact zcw6
  | 7, _ => exact zcw7
  | 8, _ => exact zcw8
  | 9, _ => exact zcw9
  | 10, _ => exact zcw10
  | 11, _ => exact zcw11
  | 12, _ => exact zcw12
theorem zcl_ty {ci : Nat} (h : ci < 13) : ∀ k, k < (zft ci).length → parseFieldDescriptor (zTT ci k).2.2.1 = some (zty ci k) := by
  match ci, h with
  | 0, _ => exact tyX0_ok
  | 1, _ => exact tyX1_ok
  | 2, _ => exact tyX2_ok
  | 3, _ => exact tyX3_ok
  | 4, _ => exact tyX4_ok
  | 5, _ => exact tyX5_ok
  | 6, _ => exact tyX6_ok
  | 7, _ => exact tyX7_ok
  | 8, _ => exact tyX8_ok
  | 9, _ => exact tyX9_ok
  | 10, _ => exact tyX10_ok
  | 11, _ => exact tyX11_ok
  | 12, _ => exact tyX12_ok
theorem zcl_nm {ci : Nat} (h : ci < 13) : ∀ a, a < (zft ci).length → ∀ b, b < (zft ci).length → a ≠ b → (zTT ci a).2.1 ≠ (zTT ci b).2.1 := by
  match ci, h with
  | 0, _ => exact nmX0
  | 1, _ => exact nmX1
  | 2, _ => exact nmX2
  | 3, _ => exact nmX3
  | 4, _ => exact nmX4
  | 5, _ => exact nmX5
  | 6, _ => exact nmX6
  | 7, _ => exact nmX7
  | 8, _ => exact nmX8
  | 9, _ => exact nmX9
  | 10, _ => exact nmX10
  | 11, _ => exact nmX11
  | 12, _ => exact nmX12
def zrefT (t : FieldType) : Bool := match t with
  | .object _ => true
  | .array _ => true
  | _ => false
def zftok (ci f : Nat) : Bool := match (zft ci).getD f 9 with
  | 0 => decide (zty ci f = .int)
  | 1 => decide (zty ci f = .boolean)
  | 3 => zrefT (zty ci f)
  | _ => false
theorem zft_ok : (List.range 13).all (fun ci => (List.range (zft ci).length).all (fun f => zftok ci f && decide ((zTT ci f).1 = zRn ci))) = true := by decide +kernel
def zfldC (o : Nat) (q : Nat × Nat × Nat × Nat) : Bool := decide (q.2.1 < 13) && decide (q.2.2.1 < (zft q.2.1).length) && decide (zpc q.2.2.2 = some (Cond.fieldLink (zRn o) q.1 (zRn q.2.1) (zTT q.2.1 q.2.2.1).2.1 (zTT q.2.1 q.2.2.1).2.2.1)) && goodWord (Cond.fieldLink (zRn o) q.1 (zRn q.2.1) (zTT q.2.1 q.2.2.1).2.1 (zTT q.2.1 q.2.2.1).2.2.1)
set_option maxRecDepth 20000 in
theorem zfldK0 : (zfldTT.getD 0 []).all (zfldC 0) = true := by decide +kernel
set_option maxRecDepth 20000 in
theorem zfldK1 : (zfldTT.getD 1 []).all (zfldC 1) = true := by decide +kernel
set_option maxRecDepth 20000 in
theorem zfldK2 : (zfldTT.getD 2 []).all (zfldC 2) = true := by decide +kernel
set_option maxRecDepth 20000 in
theorem zfldK3 : (zfldTT.getD 3 []).all (zfldC 3) = true := by decide +kernel
set_option maxRecDepth 20000 in
theorem zfldK4 : (zfldTT.getD 4 []).all (zfldC 4) = true := by decide +kernel
set_option maxRecDepth 20000 in
theorem zfldK5 : (zfldTT.getD 5 []).all (zfldC 5) = true := by decide +kernel
set_option maxRecDepth 20000 in
theorem zfldK6 : (zfldTT.getD 6 []).all (zfldC 6) = true := by decide +kernel
set_option maxRecDepth 20000 in
theorem zfldK7 : (zfldTT.getD 7 []).all (zfldC 7) = true := by decide +kernel
set_option maxRecDepth 20000 in
theorem zfldK8 : (zfldTT.getD 8 []).all (zfldC 8) = true := by decide +kernel
set_option maxRecDepth 20000 in
theorem zfldK9 : (zfldTT.getD 9 []).all (zfldC 9) = true := by decide +kernel
set_option maxRecDepth 20000 in
theorem zfldK10 : (zfldTT.getD 10 []).all (zfldC 10) = true := by decide +kernel
set_option maxRecDepth 20000 in
theorem zfldK11 : (zfldTT.getD 11 []).all (zfldC 11) = true := by decide +kernel
set_option maxRecDepth 20000 in
theorem zfldK12 : (zfldTT.getD 12 []).all (zfldC 12) = true := by decide +kernel
set_option maxRecDepth 20000 in
theorem zfldK13 : (zfldTT.getD 13 []).all (zfldC 13) = true := by decide +kernel
set_option maxRecDepth 20000 in
theorem zfldK14 : (zfldTT.getD 14 []).all (zfldC 14) = true := by decide +kernel
set_option maxRecDepth 20000 in
theorem zfldK15 : (zfldTT.getD 15 []).all (zfldC 15) = true := by decide +kernel
set_option maxRecDepth 20000 in
theorem zfldK16 : (zfldTT.getD 16 []).all (zfldC 16) = true := by decide +kernel
set_option maxRecDepth 20000 in
theorem zfldK17 : (zfldTT.getD 17 []).all (zfldC 17) = true := by decide +kernel
set_option maxRecDepth 20000 in
theorem zfldK18 : (zfldTT.getD 18 []).all (zfldC 18) = true := by decide +kernel
theorem zfldK : ∀ o, o < 19 → (zfldTT.getD o []).all (zfldC o) = true
  | 0, _ => zfldK0
  | 1, _ => zfldK1
  | 2, _ => zfldK2
  | 3, _ => zfldK3
  | 4, _ => zfldK4
  | 5, _ => zfldK5
  | 6, _ => zfldK6
  | 7, _ => zfldK7
  | 8, _ => zfldK8
  | 9, _ => zfldK9
  | 10, _ => zfldK10
  | 11, _ => zfldK11
  | 12, _ => zfldK12
  | 13, _ => zfldK13
  | 14, _ => zfldK14
  | 15, _ => zfldK15
  | 16, _ => zfldK16
  | 17, _ => zfldK17
  | 18, _ => zfldK18
  | _ + 19, h => absurd h (by omega)
def zcstC (o : Nat) (q : Nat × zV × Nat) : Bool := match q.2.1 with
  | .inl x => decide (zpc q.2.2 = some (Cond.constant (zRn o) q.1 x)) && goodWord (Cond.constant (zRn o) q.1 x)
  | .inr (.inl x) => decide (zpc q.2.2 = some (Cond.constantLong (zRn o) q.1 x)) && goodWord (Cond.constantLong (zRn o) q.1 x)
  | .inr (.inr (some a)) => zsr.any (fun r => decide (r.1 = o) && decide (r.2.1 = q.1) && decide (r.2.2.2.1 = a)) && decide (1000000 ≤ a)
  | _ => false
set_option maxRecDepth 20000 in
theorem zcstK : (List.range 19).all (fun o => (zcstTT.getD o []).all (zcstC o)) = true := by decide +kernel
def zclsC (o : Nat) (q : Nat × Nat × Nat) : Bool := if q.2.1 < 13 then decide (zpc q.2.2 = some (Cond.classLink (zRn o) q.1 (zRn q.2.1))) && goodWord (Cond.classLink (zRn o) q.1 (zRn q.2.1)) else decide (q.2.1 = 99)
set_option maxRecDepth 20000 in
theorem zclsK : (List.range 19).all (fun o => (zclsTT.getD o []).all (zclsC o)) = true := by decide +kernel
def zinsP : List (Nat × Nat) := [(1105, 1005), (2179, 1012), (2059, 1008), (2158, 1011), (1035, 1002), (2010, 1007), (2128, 1010), (2098, 1009), (1132, 1006), (1048, 1003), (1079, 1004), (1027, 1001), (6051, 1013)]
set_option maxRecDepth 20000 in
theorem zinsK : (List.range 13).all (fun ci => decide (zpc (zinsP.getD ci (0, 0)).1 = some (Cond.instantiable (zRn ci) (zft ci).length)) && goodWord (Cond.instantiable (zRn ci) (zft ci).length) && decide (zpc (zinsP.getD ci (0, 0)).2 = some (Cond.initialized (zRn ci))) && goodWord (Cond.initialized (zRn ci))) = true := by decide +kernel
set_option maxRecDepth 20000 in
theorem zarrK : Cond.arrayClass .byte ∈ zws ∧ Cond.arrayClass .int ∈ zws ∧ Cond.arrayClass .long ∈ zws := ⟨zws_in (i := 1077) (by decide +kernel) rfl, zws_in (i := 1078) (by decide +kernel) rfl, zws_in (i := 2057) (by decide +kernel) rfl⟩
def zMok (q : zM) : Prop := Cond.code q.2.2.2.2.1 q.1 q.2.2.1 q.2.2.2.1 ∈ zws ∧ zRn q.2.1 = q.2.2.2.2.1.cls ∧ plainName q.2.2.2.2.1.cls = true ∧ (q.2.2.2.2.1.cls ≠ "java/lang/invoke/MethodHandle" ∧ q.2.2.2.2.1.cls ≠ "java/lang/invoke/VarHandle") ∧ q.2.2.1 ≤ 30 ∧ (q.2.2.2.2.2 = true → q.2.2.2.2.1.name = "<init>") ∧ q.2.2.2.2.1 ≠ yX11_led
def zMb (q : zM) : Bool := decide (zRn q.2.1 = q.2.2.2.2.1.cls) && (plainName q.2.2.2.2.1.cls && (decide (q.2.2.2.2.1.cls ≠ "java/lang/invoke/MethodHandle" ∧ q.2.2.2.2.1.cls ≠ "java/lang/invoke/VarHandle") && (decide (q.2.2.1 ≤ 30) && (decide (q.2.2.2.2.2 = true → q.2.2.2.2.1.name = "<init>") && decide (q.2.2.2.2.1 ≠ yX11_led)))))
theorem zMo {q : zM} (h1 : Cond.code q.2.2.2.2.1 q.1 q.2.2.1 q.2.2.2.1 ∈ zws) (h2 : zMb q = true) : zMok q := by
  unfold zMb at h2
  rw [Bool.and_eq_true, Bool.and_eq_true, Bool.and_eq_true, Bool.and_eq_true, Bool.and_eq_true] at h2
  exact ⟨h1, of_decide_eq_true h2.1, h2.2.1, of_decide_eq_true h2.2.2.1, of_decide_eq_true h2.2.2.2.1, of_decide_eq_true h2.2.2.2.2.1, of_decide_eq_true h2.2.2.2.2.2⟩
def zCk (c : String) : Bool := plainName c && decide (c ≠ "java/lang/invoke/MethodHandle" ∧ c ≠ "java/lang/invoke/VarHandle")
theorem zMc {q : zM} (c : String) (hc : zCk c = true) (h1 : Cond.code q.2.2.2.2.1 q.1 q.2.2.1 q.2.2.2.1 ∈ zws) (e1 : zRn q.2.1 = c) (e2 : q.2.2.2.2.1.cls = c) (h3 : Nat.ble q.2.2.1 30 = true) (h4 : q.2.2.2.2.2 = true → q.2.2.2.2.1.name = "<init>") (h5 : q.2.2.2.2.1 ≠ yX11_led) : zMok q := by
  unfold zCk at hc
  rw [Bool.and_eq_true] at hc
  have hc2 := of_decide_eq_true hc.2
  exact ⟨h1, e1.trans e2.symm, by rw [e2]; exact hc.1, by rw [e2]; exact hc2, Nat.le_of_ble_eq_true h3, h4, h5⟩
theorem zck0 : zCk (zRn 0) = true := by decide +kernel
theorem zcn0 : ¬ zRn 0 = yX11_led.cls := by decide +kernel
theorem zck1 : zCk (zRn 1) = true := by decide +kernel
theorem zcn1 : ¬ zRn 1 = yX11_led.cls := by decide +kernel
theorem zck2 : zCk (zRn 2) = true := by decide +kernel
theorem zcn2 : ¬ zRn 2 = yX11_led.cls := by decide +kernel
theorem zck3 : zCk (zRn 3) = true := by decide +kernel
theorem zcn3 : ¬ zRn 3 = yX11_led.cls := by decide +kernel
theorem zck4 : zCk (zRn 4) = true := by decide +kernel
theorem zcn4 : ¬ zRn 4 = yX11_led.cls := by decide +kernel
theorem zck5 : zCk (zRn 5) = true := by decide +kernel
theorem zcn5 : ¬ zRn 5 = yX11_led.cls := by decide +kernel
theorem zck6 : zCk (zRn 6) = true := by decide +kernel
theorem zcn6 : ¬ zRn 6 = yX11_led.cls := by decide +kernel
theorem zck7 : zCk (zRn 7) = true := by decide +kernel
theorem zcn7 : ¬ zRn 7 = yX11_led.cls := by decide +kernel
theorem zck8 : zCk (zRn 8) = true := by decide +kernel
theorem zcn8 : ¬ zRn 8 = yX11_led.cls := by decide +kernel
theorem zck9 : zCk (zRn 9) = true := by decide +kernel
theorem zcn9 : ¬ zRn 9 = yX11_led.cls := by decide +kernel
theorem zck10 : zCk (zRn 10) = true := by decide +kernel
theorem zcn10 : ¬ zRn 10 = yX11_led.cls := by decide +kernel
theorem zck11 : zCk (zRn 11) = true := by decide +kernel
theorem zck12 : zCk (zRn 12) = true := by decide +kernel
theorem zcn12 : ¬ zRn 12 = yX11_led.cls := by decide +kernel
theorem zck14 : zCk (zRn 14) = true := by decide +kernel
theorem zcn14 : ¬ zRn 14 = yX11_led.cls := by decide +kernel
theorem zck15 : zCk (zRn 15) = true := by decide +kernel
theorem zcn15 : ¬ zRn 15 = yX11_led.cls := by decide +kernel
theorem zck16 : zCk (zRn 16) = true := by decide +kernel
theorem zcn16 : ¬ zRn 16 = yX11_led.cls := by decide +kernel
theorem zck17 : zCk (zRn 17) = true := by decide +kernel
theorem zcn17 : ¬ zRn 17 = yX11_led.cls := by decide +kernel
theorem zck18 : zCk (zRn 18) = true := by decide +kernel
theorem zcn18 : ¬ zRn 18 = yX11_led.cls := by decide +kernel
theorem zoX0_init : zMok mX0_init := zMc (zRn 0) zck0 (zws_in (i := 1108) rfl rfl) rfl rfl rfl (fun _ => rfl) (fun h => zcn0 (congrArg (fun y => y.cls) h))
theorem zoX1_init : zMok mX1_init := zMc (zRn 1) zck1 (zws_in (i := 2182) rfl rfl) rfl rfl rfl (fun _ => rfl) (fun h => zcn1 (congrArg (fun y => y.cls) h))
theorem zoX1_solve : zMok mX1_solve := zMc (zRn 1) zck1 (zws_in (i := 5023) rfl rfl) rfl rfl rfl (fun h => Bool.noConfusion h) (fun h => zcn1 (congrArg (fun y => y.cls) h))
theorem zoX1_worth : zMok mX1_worth := zMc (zRn 1) zck1 (zws_in (i := 5028) rfl rfl) rfl rfl rfl (fun h => Bool.noConfusion h) (fun h => zcn1 (congrArg (fun y => y.cls) h))
theorem zoX1_choose : zMok mX1_choose := zMc (zRn 1) zck1 (zws_in (i := 5034) rfl rfl) rfl rfl rfl (fun h => Bool.noConfusion h) (fun h => zcn1 (congrArg (fun y => y.cls) h))
theorem zoX1_firstBest : zMok mX1_firstBest := zMc (zRn 1) zck1 (zws_in (i := 5038) rfl rfl) rfl rfl rfl (fun h => Bool.noConfusion h) (fun h => zcn1 (congrArg (fun y => y.cls) h))
theorem zoX2_init : zMok mX2_init := zMc (zRn 2) zck2 (zws_in (i := 2062) rfl rfl) rfl rfl rfl (fun _ => rfl) (fun h => zcn2 (congrArg (fun y => y.cls) h))
theorem zoX2_begin : zMok mX2_begin := zMc (zRn 2) zck2 (zws_in (i := 3211) rfl rfl) rfl rfl rfl (fun h => Bool.noConfusion h) (fun h => zcn2 (congrArg (fun y => y.cls) h))
theorem zoX2_copyFrom : zMok mX2_copyFrom := zMc (zRn 2) zck2 (zws_in (i := 5171) rfl rfl) rfl rfl rfl (fun h => Bool.noConfusion h) (fun h => zcn2 (congrArg (fun y => y.cls) h))
theorem zoX2_isClosed : zMok mX2_isClosed := zMc (zRn 2) zck2 (zws_in (i := 4073) rfl rfl) rfl rfl rfl (fun h => Bool.noConfusion h) (fun h => zcn2 (congrArg (fun y => y.cls) h))
theorem zoX2_isSent : zMok mX2_isSent := zMc (zRn 2) zck2 (zws_in (i := 4105) rfl rfl) rfl rfl rfl (fun h => Bool.noConfusion h) (fun h => zcn2 (congrArg (fun y => y.cls) h))
theorem zoX3_init : zMok mX3_init := zMc (zRn 3) zck3 (zws_in (i := 2161) rfl rfl) rfl rfl rfl (fun _ => rfl) (fun h => zcn3 (congrArg (fun y => y.cls) h))
theorem zoX3_fewestToWatch : zMok mX3_fewestToWatch := zMc (zRn 3) zck3 (zws_in (i := 5102) rfl rfl) rfl rfl rfl (fun h => Bool.noConfusion h) (fun h => zcn3 (congrArg (fun y => y.cls) h))
theorem zoX3_waysOutOf : zMok mX3_waysOutOf := zMc (zRn 3) zck3 (zws_in (i := 5106) rfl rfl) rfl rfl rfl (fun h => Bool.noConfusion h) (fun h => zcn3 (congrArg (fun y => y.cls) h))
theorem zoX3_findRound : zMok mX3_findRound := zMc (zRn 3) zck3 (zws_in (i := 5115) rfl rfl) rfl rfl rfl (fun h => Bool.noConfusion h) (fun h => zcn3 (congrArg (fun y => y.cls) h))
theorem zoX3_findShortest : zMok mX3_findShortest := zMc (zRn 3) zck3 (zws_in (i := 5119) rfl rfl) rfl rfl rfl (fun h => Bool.noConfusion h) (fun h => zcn3 (congrArg (fun y => y.cls) h))
theorem zoX3_findRests : zMok mX3_findRests := zMc (zRn 3) zck3 (zws_in (i := 5126) rfl rfl) rfl rfl rfl (fun h => Bool.noConfusion h) (fun h => zcn3 (congrArg (fun y => y.cls) h))
theorem zoX3_daysOver : zMok mX3_daysOver := zMc (zRn 3) zck3 (zws_in (i := 5130) rfl rfl) rfl rfl rfl (fun h => Bool.noConfusion h) (fun h => zcn3 (congrArg (fun y => y.cls) h))
theorem zoX3_nextOf : zMok mX3_nextOf := zMc (zRn 3) zck3 (zws_in (i := 5134) rfl rfl) rfl rfl rfl (fun h => Bool.noConfusion h) (fun h => zcn3 (congrArg (fun y => y.cls) h))
theorem zoX4_init : zMok mX4_init := zMc (zRn 4) zck4 (zws_in (i := 1038) rfl rfl) rfl rfl rfl (fun _ => rfl) (fun h => zcn4 (congrArg (fun y => y.cls) h))
theorem zoX4_clear : zMok mX4_clear := zMc (zRn 4) zck4 (zws_in (i := 3037) rfl rfl) rfl rfl rfl (fun h => Bool.noConfusion h) (fun h => zcn4 (congrArg (fun y => y.cls) h))
theorem zoX4_boxLength : zMok mX4_boxLength := zMc (zRn 4) zck4 (zws_in (i := 4039) rfl rfl) rfl rfl rfl (fun h => Bool.noConfusion h) (fun h => zcn4 (congrArg (fun y => y.cls) h))
theorem zoX4_wayBetween : zMok mX4_wayBetween := zMc (zRn 4) zck4 (zws_in (i := 3170) rfl rfl) rfl rfl rfl (fun h => Bool.noConfusion h) (fun h => zcn4 (congrArg (fun y => y.cls) h))
theorem zoX4_hasSong : zMok mX4_hasSong := zMc (zRn 4) zck4 (zws_in (i := 3158) rfl rfl) rfl rfl rfl (fun h => Bool.noConfusion h) (fun h => zcn4 (congrArg (fun y => y.cls) h))
theorem zoX4_lastSpoutOf : zMok mX4_lastSpoutOf := zMc (zRn 4) zck4 (zws_in (i := 3203) rfl rfl) rfl rfl rfl (fun h => Bool.noConfusion h) (fun h => zcn4 (congrArg (fun y => y.cls) h))
theorem zoX5_init : zMok mX5_init := zMc (zRn 5) zck5 (zws_in (i := 2013) rfl rfl) rfl rfl rfl (fun _ => rfl) (fun h => zcn5 (congrArg (fun y => y.cls) h))
theorem zoX5_readPost : zMok mX5_readPost := zMc (zRn 5) zck5 (zws_in (i := 3033) rfl rfl) rfl rfl rfl (fun h => Bool.noConfusion h) (fun h => zcn5 (congrArg (fun y => y.cls) h))
theorem zoX5_faulty : zMok mX5_faulty := zMc (zRn 5) zck5 (zws_in (i := 3118) rfl rfl) rfl rfl rfl (fun h => Bool.noConfusion h) (fun h => zcn5 (congrArg (fun y => y.cls) h))
theorem zoX5_readLine : zMok mX5_readLine := zMc (zRn 5) zck5 (zws_in (i := 3044) rfl rfl) rfl rfl rfl (fun h => Bool.noConfusion h) (fun h => zcn5 (congrArg (fun y => y.cls) h))
theorem zoX5_readHead : zMok mX5_readHead := zMc (zRn 5) zck5 (zws_in (i := 3122) rfl rfl) rfl rfl rfl (fun h => Bool.noConfusion h) (fun h => zcn5 (congrArg (fun y => y.cls) h))
theorem zoX5_readIsland : zMok mX5_readIsland := zMc (zRn 5) zck5 (zws_in (i := 3138) rfl rfl) rfl rfl rfl (fun h => Bool.noConfusion h) (fun h => zcn5 (congrArg (fun y => y.cls) h))
theorem zoX5_readWay : zMok mX5_readWay := zMc (zRn 5) zck5 (zws_in (i := 3162) rfl rfl) rfl rfl rfl (fun h => Bool.noConfusion h) (fun h => zcn5 (congrArg (fun y => y.cls) h))
theorem zoX5_readWhale : zMok mX5_readWhale := zMc (zRn 5) zck5 (zws_in (i := 3176) rfl rfl) rfl rfl rfl (fun h => Bool.noConfusion h) (fun h => zcn5 (congrArg (fun y => y.cls) h))
theorem zoX5_readBox : zMok mX5_readBox := zMc (zRn 5) zck5 (zws_in (i := 3191) rfl rfl) rfl rfl rfl (fun h => Bool.noConfusion h) (fun h => zcn5 (congrArg (fun y => y.cls) h))
theorem zoX5_readSpout : zMok mX5_readSpout := zMc (zRn 5) zck5 (zws_in (i := 3199) rfl rfl) rfl rfl rfl (fun h => Bool.noConfusion h) (fun h => zcn5 (congrArg (fun y => y.cls) h))
theorem zoX5_word : zMok mX5_word := zMc (zRn 5) zck5 (zws_in (i := 3127) rfl rfl) rfl rfl rfl (fun h => Bool.noConfusion h) (fun h => zcn5 (congrArg (fun y => y.cls) h))
theorem zoX5_whole : zMok mX5_whole := zMc (zRn 5) zck5 (zws_in (i := 3131) rfl rfl) rfl rfl rfl (fun h => Bool.noConfusion h) (fun h => zcn5 (congrArg (fun y => y.cls) h))
theorem zoX5_newName : zMok mX5_newName := zMc (zRn 5) zck5 (zws_in (i := 3142) rfl rfl) rfl rfl rfl (fun h => Bool.noConfusion h) (fun h => zcn5 (congrArg (fun y => y.cls) h))
theorem zoX5_toldName : zMok mX5_toldName := zMc (zRn 5) zck5 (zws_in (i := 3166) rfl rfl) rfl rfl rfl (fun h => Bool.noConfusion h) (fun h => zcn5 (congrArg (fun y => y.cls) h))
theorem zoX5_nameOfToken : zMok mX5_nameOfToken := zMc (zRn 5) zck5 (zws_in (i := 3146) rfl rfl) rfl rfl rfl (fun h => Bool.noConfusion h) (fun h => zcn5 (congrArg (fun y => y.cls) h))
theorem zoX5_letters : zMok mX5_letters := zMc (zRn 5) zck5 (zws_in (i := 3150) rfl rfl) rfl rfl rfl (fun h => Bool.noConfusion h) (fun h => zcn5 (congrArg (fun y => y.cls) h))
theorem zoX5_songOfToken : zMok mX5_songOfToken := zMc (zRn 5) zck5 (zws_in (i := 3154) rfl rfl) rfl rfl rfl (fun h => Bool.noConfusion h) (fun h => zcn5 (congrArg (fun y => y.cls) h))
theorem zoX5_kindOfToken : zMok mX5_kindOfToken := zMc (zRn 5) zck5 (zws_in (i := 3180) rfl rfl) rfl rfl rfl (fun h => Bool.noConfusion h) (fun h => zcn5 (congrArg (fun y => y.cls) h))
theorem zoX5_sortOfLine : zMok mX5_sortOfLine := zMc (zRn 5) zck5 (zws_in (i := 3056) rfl rfl) rfl rfl rfl (fun h => Bool.noConfusion h) (fun h => zcn5 (congrArg (fun y => y.cls) h))
theorem zoX5_isToken : zMok mX5_isToken := zMc (zRn 5) zck5 (zws_in (i := 3061) rfl rfl) rfl rfl rfl (fun h => Bool.noConfusion h) (fun h => zcn5 (congrArg (fun y => y.cls) h))
theorem zoX5_nextToken : zMok mX5_nextToken := zMc (zRn 5) zck5 (zws_in (i := 3048) rfl rfl) rfl rfl rfl (fun h => Bool.noConfusion h) (fun h => zcn5 (congrArg (fun y => y.cls) h))
theorem zoX5_passAll : zMok mX5_passAll := zMc (zRn 5) zck5 (zws_in (i := 3052) rfl rfl) rfl rfl rfl (fun h => Bool.noConfusion h) (fun h => zcn5 (congrArg (fun y => y.cls) h))
theorem zoX6_init : zMok mX6_init := zMc (zRn 6) zck6 (zws_in (i := 2131) rfl rfl) rfl rfl rfl (fun _ => rfl) (fun h => zcn6 (congrArg (fun y => y.cls) h))
theorem zoX6_dayOfLeaving : zMok mX6_dayOfLeaving := zMc (zRn 6) zck6 (zws_in (i := 4097) rfl rfl) rfl rfl rfl (fun h => Bool.noConfusion h) (fun h => zcn6 (congrArg (fun y => y.cls) h))
theorem zoX6_findFirstDays : zMok mX6_findFirstDays := zMc (zRn 6) zck6 (zws_in (i := 4191) rfl rfl) rfl rfl rfl (fun h => Bool.noConfusion h) (fun h => zcn6 (congrArg (fun y => y.cls) h))
theorem zoX6_goes : zMok mX6_goes := zMc (zRn 6) zck6 (zws_in (i := 4200) rfl rfl) rfl rfl rfl (fun h => Bool.noConfusion h) (fun h => zcn6 (congrArg (fun y => y.cls) h))
theorem zoX6_firstDayAt : zMok mX6_firstDayAt := zMc (zRn 6) zck6 (zws_in (i := 4187) rfl rfl) rfl rfl rfl (fun h => Bool.noConfusion h) (fun h => zcn6 (congrArg (fun y => y.cls) h))
theorem zoX6_dayOfBringing : zMok mX6_dayOfBringing := zMc (zRn 6) zck6 (zws_in (i := 4209) rfl rfl) rfl rfl rfl (fun h => Bool.noConfusion h) (fun h => zcn6 (congrArg (fun y => y.cls) h))
theorem zoX6_soonestBringer : zMok mX6_soonestBringer := zMc (zRn 6) zck6 (zws_in (i := 4226) rfl rfl) rfl rfl rfl (fun h => Bool.noConfusion h) (fun h => zcn6 (congrArg (fun y => y.cls) h))
theorem zoX6_surestBringer : zMok mX6_surestBringer := zMc (zRn 6) zck6 (zws_in (i := 4235) rfl rfl) rfl rfl rfl (fun h => Bool.noConfusion h) (fun h => zcn6 (congrArg (fun y => y.cls) h))
theorem zoX6_bringersBy : zMok mX6_bringersBy := zMc (zRn 6) zck6 (zws_in (i := 5003) rfl rfl) rfl rfl rfl (fun h => Bool.noConfusion h) (fun h => zcn6 (congrArg (fun y => y.cls) h))
theorem zoX6_dayOfMeeting : zMok mX6_dayOfMeeting := zMc (zRn 6) zck6 (zws_in (i := 5054) rfl rfl) rfl rfl rfl (fun h => Bool.noConfusion h) (fun h => zcn6 (congrArg (fun y => y.cls) h))
theorem zoX6_fittingWhales : zMok mX6_fittingWhales := zMc (zRn 6) zck6 (zws_in (i := 5063) rfl rfl) rfl rfl rfl (fun h => Bool.noConfusion h) (fun h => zcn6 (congrArg (fun y => y.cls) h))
theorem zoX6_isFitting : zMok mX6_isFitting := zMc (zRn 6) zck6 (zws_in (i := 5067) rfl rfl) rfl rfl rfl (fun h => Bool.noConfusion h) (fun h => zcn6 (congrArg (fun y => y.cls) h))
theorem zoX6_islandsReached : zMok mX6_islandsReached := zMc (zRn 6) zck6 (zws_in (i := 5075) rfl rfl) rfl rfl rfl (fun h => Bool.noConfusion h) (fun h => zcn6 (congrArg (fun y => y.cls) h))
theorem zoX6_bestPier : zMok mX6_bestPier := zMc (zRn 6) zck6 (zws_in (i := 5084) rfl rfl) rfl rfl rfl (fun h => Bool.noConfusion h) (fun h => zcn6 (congrArg (fun y => y.cls) h))
theorem zoX6_whalesReaching : zMok mX6_whalesReaching := zMc (zRn 6) zck6 (zws_in (i := 5090) rfl rfl) rfl rfl rfl (fun h => Bool.noConfusion h) (fun h => zcn6 (congrArg (fun y => y.cls) h))
theorem zoX7_init : zMok mX7_init := zMc (zRn 7) zck7 (zws_in (i := 2101) rfl rfl) rfl rfl rfl (fun _ => rfl) (fun h => zcn7 (congrArg (fun y => y.cls) h))
theorem zoX7_fallIn : zMok mX7_fallIn := zMc (zRn 7) zck7 (zws_in (i := 4019) rfl rfl) rfl rfl rfl (fun h => Bool.noConfusion h) (fun h => zcn7 (congrArg (fun y => y.cls) h))
theorem zoX7_raised : zMok mX7_raised := zMc (zRn 7) zck7 (zws_in (i := 4023) rfl rfl) rfl rfl rfl (fun h => Bool.noConfusion h) (fun h => zcn7 (congrArg (fun y => y.cls) h))
theorem zoX7_songIn : zMok mX7_songIn := zMc (zRn 7) zck7 (zws_in (i := 4015) rfl rfl) rfl rfl rfl (fun h => Bool.noConfusion h) (fun h => zcn7 (congrArg (fun y => y.cls) h))
theorem zoX7_hearerOf : zMok mX7_hearerOf := zMc (zRn 7) zck7 (zws_in (i := 4051) rfl rfl) rfl rfl rfl (fun h => Bool.noConfusion h) (fun h => zcn7 (congrArg (fun y => y.cls) h))
theorem zoX7_apartness : zMok mX7_apartness := zMc (zRn 7) zck7 (zws_in (i := 4117) rfl rfl) rfl rfl rfl (fun h => Bool.noConfusion h) (fun h => zcn7 (congrArg (fun y => y.cls) h))
theorem zoX7_bearable : zMok mX7_bearable := zMc (zRn 7) zck7 (zws_in (i := 4125) rfl rfl) rfl rfl rfl (fun h => Bool.noConfusion h) (fun h => zcn7 (congrArg (fun y => y.cls) h))
theorem zoX7_mixedPairs : zMok mX7_mixedPairs := zMc (zRn 7) zck7 (zws_in (i := 4134) rfl rfl) rfl rfl rfl (fun h => Bool.noConfusion h) (fun h => zcn7 (congrArg (fun y => y.cls) h))
theorem zoX7_findNew : zMok mX7_findNew := zMc (zRn 7) zck7 (zws_in (i := 4146) rfl rfl) rfl rfl rfl (fun h => Bool.noConfusion h) (fun h => zcn7 (congrArg (fun y => y.cls) h))
theorem zoX7_keepSongsOf : zMok mX7_keepSongsOf := zMc (zRn 7) zck7 (zws_in (i := 4150) rfl rfl) rfl rfl rfl (fun h => Bool.noConfusion h) (fun h => zcn7 (congrArg (fun y => y.cls) h))
theorem zoX7_isOfNotes : zMok mX7_isOfNotes := zMc (zRn 7) zck7 (zws_in (i := 4155) rfl rfl) rfl rfl rfl (fun h => Bool.noConfusion h) (fun h => zcn7 (congrArg (fun y => y.cls) h))
theorem zoX7_isFarFromKept : zMok mX7_isFarFromKept := zMc (zRn 7) zck7 (zws_in (i := 4159) rfl rfl) rfl rfl rfl (fun h => Bool.noConfusion h) (fun h => zcn7 (congrArg (fun y => y.cls) h))
theorem zoX7_draw : zMok mX7_draw := zMc (zRn 7) zck7 (zws_in (i := 5155) rfl rfl) rfl rfl rfl (fun h => Bool.noConfusion h) (fun h => zcn7 (congrArg (fun y => y.cls) h))
theorem zoX7_slipped : zMok mX7_slipped := zMc (zRn 7) zck7 (zws_in (i := 5151) rfl rfl) rfl rfl rfl (fun h => Bool.noConfusion h) (fun h => zcn7 (congrArg (fun y => y.cls) h))
theorem zoX8_init : zMok mX8_init := zMc (zRn 8) zck8 (zws_in (i := 1135) rfl rfl) rfl rfl rfl (fun _ => rfl) (fun h => zcn8 (congrArg (fun y => y.cls) h))
theorem zoX9_init : zMok mX9_init := zMc (zRn 9) zck9 (zws_in (i := 1051) rfl rfl) rfl rfl rfl (fun _ => rfl) (fun h => zcn9 (congrArg (fun y => y.cls) h))
theorem zoX10_init : zMok mX10_init := zMc (zRn 10) zck10 (zws_in (i := 1082) rfl rfl) rfl rfl rfl (fun _ => rfl) (fun h => zcn10 (congrArg (fun y => y.cls) h))
theorem zoX11_init : zMok mX11_init := zMc (zRn 11) zck11 (zws_in (i := 1030) rfl rfl) rfl rfl rfl (fun _ => rfl) (fun h => absurd (congrArg (fun y => y.name) h) (by decide +kernel))
theorem zoX11_feed : zMok mX11_feed := zMc (zRn 11) zck11 (zws_in (i := 3017) rfl rfl) rfl rfl rfl (fun h => Bool.noConfusion h) (fun h => absurd (congrArg (fun y => y.name) h) (by decide +kernel))
theorem zoX11_post : zMok mX11_post := zMc (zRn 11) zck11 (zws_in (i := 3025) rfl rfl) rfl rfl rfl (fun h => Bool.noConfusion h) (fun h => absurd (congrArg (fun y => y.name) h) (by decide +kernel))
theorem zoX11_fault : zMok mX11_fault := zMc (zRn 11) zck11 (zws_in (i := 3219) rfl rfl) rfl rfl rfl (fun h => Bool.noConfusion h) (fun h => absurd (congrArg (fun y => y.name) h) (by decide +kernel))
theorem zoX11_where : zMok mX11_where := zMc (zRn 11) zck11 (zws_in (i := 3223) rfl rfl) rfl rfl rfl (fun h => Bool.noConfusion h) (fun h => absurd (congrArg (fun y => y.name) h) (by decide +kernel))
theorem zoX11_whale : zMok mX11_whale := zMc (zRn 11) zck11 (zws_in (i := 3227) rfl rfl) rfl rfl rfl (fun h => Bool.noConfusion h) (fun h => absurd (congrArg (fun y => y.name) h) (by decide +kernel))
theorem zoX11_box : zMok mX11_box := zMc (zRn 11) zck11 (zws_in (i := 3235) rfl rfl) rfl rfl rfl (fun h => Bool.noConfusion h) (fun h => absurd (congrArg (fun y => y.name) h) (by decide +kernel))
theorem zoX11_length : zMok mX11_length := zMc (zRn 11) zck11 (zws_in (i := 4003) rfl rfl) rfl rfl rfl (fun h => Bool.noConfusion h) (fun h => absurd (congrArg (fun y => y.name) h) (by decide +kernel))
theorem zoX11_note : zMok mX11_note := zMc (zRn 11) zck11 (zws_in (i := 4011) rfl rfl) rfl rfl rfl (fun h => Bool.noConfusion h) (fun h => absurd (congrArg (fun y => y.name) h) (by decide +kernel))
theorem zoX11_sung : zMok mX11_sung := zMc (zRn 11) zck11 (zws_in (i := 4031) rfl rfl) rfl rfl rfl (fun h => Bool.noConfusion h) (fun h => absurd (congrArg (fun y => y.name) h) (by decide +kernel))
theorem zoX11_heard : zMok mX11_heard := zMc (zRn 11) zck11 (zws_in (i := 4043) rfl rfl) rfl rfl rfl (fun h => Bool.noConfusion h) (fun h => absurd (congrArg (fun y => y.name) h) (by decide +kernel))
theorem zoX11_way : zMok mX11_way := zMc (zRn 11) zck11 (zws_in (i := 4064) rfl rfl) rfl rfl rfl (fun h => Bool.noConfusion h) (fun h => absurd (congrArg (fun y => y.name) h) (by decide +kernel))
theorem zoX11_season : zMok mX11_season := zMc (zRn 11) zck11 (zws_in (i := 4077) rfl rfl) rfl rfl rfl (fun h => Bool.noConfusion h) (fun h => absurd (congrArg (fun y => y.name) h) (by decide +kernel))
theorem zoX11_sets : zMok mX11_sets := zMc (zRn 11) zck11 (zws_in (i := 4089) rfl rfl) rfl rfl rfl (fun h => Bool.noConfusion h) (fun h => absurd (congrArg (fun y => y.name) h) (by decide +kernel))
theorem zoX11_sent : zMok mX11_sent := zMc (zRn 11) zck11 (zws_in (i := 4101) rfl rfl) rfl rfl rfl (fun h => Bool.noConfusion h) (fun h => absurd (congrArg (fun y => y.name) h) (by decide +kernel))
theorem zoX11_apart : zMok mX11_apart := zMc (zRn 11) zck11 (zws_in (i := 4113) rfl rfl) rfl rfl rfl (fun h => Bool.noConfusion h) (fun h => absurd (congrArg (fun y => y.name) h) (by decide +kernel))
theorem zoX11_bear : zMok mX11_bear := zMc (zRn 11) zck11 (zws_in (i := 4121) rfl rfl) rfl rfl rfl (fun h => Bool.noConfusion h) (fun h => absurd (congrArg (fun y => y.name) h) (by decide +kernel))
theorem zoX11_mixed : zMok mX11_mixed := zMc (zRn 11) zck11 (zws_in (i := 4130) rfl rfl) rfl rfl rfl (fun h => Bool.noConfusion h) (fun h => absurd (congrArg (fun y => y.name) h) (by decide +kernel))
theorem zoX11_fresh : zMok mX11_fresh := zMc (zRn 11) zck11 (zws_in (i := 4138) rfl rfl) rfl rfl rfl (fun h => Bool.noConfusion h) (fun h => absurd (congrArg (fun y => y.name) h) (by decide +kernel))
theorem zoX11_byTurns : zMok mX11_byTurns := zMc (zRn 11) zck11 (zws_in (i := 4163) rfl rfl) rfl rfl rfl (fun h => Bool.noConfusion h) (fun h => absurd (congrArg (fun y => y.name) h) (by decide +kernel))
theorem zoX11_near : zMok mX11_near := zMc (zRn 11) zck11 (zws_in (i := 4167) rfl rfl) rfl rfl rfl (fun h => Bool.noConfusion h) (fun h => absurd (congrArg (fun y => y.name) h) (by decide +kernel))
theorem zoX11_asNear : zMok mX11_asNear := zMc (zRn 11) zck11 (zws_in (i := 4171) rfl rfl) rfl rfl rfl (fun h => Bool.noConfusion h) (fun h => absurd (congrArg (fun y => y.name) h) (by decide +kernel))
theorem zoX11_heardIn : zMok mX11_heardIn := zMc (zRn 11) zck11 (zws_in (i := 4175) rfl rfl) rfl rfl rfl (fun h => Bool.noConfusion h) (fun h => absurd (congrArg (fun y => y.name) h) (by decide +kernel))
theorem zoX11_strange : zMok mX11_strange := zMc (zRn 11) zck11 (zws_in (i := 4179) rfl rfl) rfl rfl rfl (fun h => Bool.noConfusion h) (fun h => absurd (congrArg (fun y => y.name) h) (by decide +kernel))
theorem zoX11_arrival : zMok mX11_arrival := zMc (zRn 11) zck11 (zws_in (i := 4183) rfl rfl) rfl rfl rfl (fun h => Bool.noConfusion h) (fun h => absurd (congrArg (fun y => y.name) h) (by decide +kernel))
theorem zoX11_brings : zMok mX11_brings := zMc (zRn 11) zck11 (zws_in (i := 4205) rfl rfl) rfl rfl rfl (fun h => Bool.noConfusion h) (fun h => absurd (congrArg (fun y => y.name) h) (by decide +kernel))
theorem zoX11_soonest : zMok mX11_soonest := zMc (zRn 11) zck11 (zws_in (i := 4222) rfl rfl) rfl rfl rfl (fun h => Bool.noConfusion h) (fun h => absurd (congrArg (fun y => y.name) h) (by decide +kernel))
theorem zoX11_surest : zMok mX11_surest := zMc (zRn 11) zck11 (zws_in (i := 4231) rfl rfl) rfl rfl rfl (fun h => Bool.noConfusion h) (fun h => absurd (congrArg (fun y => y.name) h) (by decide +kernel))
theorem zoX11_by : zMok mX11_by := zMc (zRn 11) zck11 (zws_in (i := 4239) rfl rfl) rfl rfl rfl (fun h => Bool.noConfusion h) (fun h => absurd (congrArg (fun y => y.name) h) (by decide +kernel))
theorem zoX11_registered : zMok mX11_registered := zMc (zRn 11) zck11 (zws_in (i := 5007) rfl rfl) rfl rfl rfl (fun h => Bool.noConfusion h) (fun h => absurd (congrArg (fun y => y.name) h) (by decide +kernel))
theorem zoX11_match : zMok mX11_match := zMc (zRn 11) zck11 (zws_in (i := 5015) rfl rfl) rfl rfl rfl (fun h => Bool.noConfusion h) (fun h => absurd (congrArg (fun y => y.name) h) (by decide +kernel))
theorem zoX11_matchDays : zMok mX11_matchDays := zMc (zRn 11) zck11 (zws_in (i := 5042) rfl rfl) rfl rfl rfl (fun h => Bool.noConfusion h) (fun h => absurd (congrArg (fun y => y.name) h) (by decide +kernel))
theorem zoX11_matchOf : zMok mX11_matchOf := zMc (zRn 11) zck11 (zws_in (i := 5046) rfl rfl) rfl rfl rfl (fun h => Bool.noConfusion h) (fun h => absurd (congrArg (fun y => y.name) h) (by decide +kernel))
theorem zoX11_meet : zMok mX11_meet := zMc (zRn 11) zck11 (zws_in (i := 5050) rfl rfl) rfl rfl rfl (fun h => Bool.noConfusion h) (fun h => absurd (congrArg (fun y => y.name) h) (by decide +kernel))
theorem zoX11_fits : zMok mX11_fits := zMc (zRn 11) zck11 (zws_in (i := 5059) rfl rfl) rfl rfl rfl (fun h => Bool.noConfusion h) (fun h => absurd (congrArg (fun y => y.name) h) (by decide +kernel))
theorem zoX11_reach : zMok mX11_reach := zMc (zRn 11) zck11 (zws_in (i := 5071) rfl rfl) rfl rfl rfl (fun h => Bool.noConfusion h) (fun h => absurd (congrArg (fun y => y.name) h) (by decide +kernel))
theorem zoX11_pier : zMok mX11_pier := zMc (zRn 11) zck11 (zws_in (i := 5080) rfl rfl) rfl rfl rfl (fun h => Bool.noConfusion h) (fun h => absurd (congrArg (fun y => y.name) h) (by decide +kernel))
theorem zoX11_watch : zMok mX11_watch := zMc (zRn 11) zck11 (zws_in (i := 5098) rfl rfl) rfl rfl rfl (fun h => Bool.noConfusion h) (fun h => absurd (congrArg (fun y => y.name) h) (by decide +kernel))
theorem zoX11_round : zMok mX11_round := zMc (zRn 11) zck11 (zws_in (i := 5111) rfl rfl) rfl rfl rfl (fun h => Bool.noConfusion h) (fun h => absurd (congrArg (fun y => y.name) h) (by decide +kernel))
theorem zoX11_roundAt : zMok mX11_roundAt := zMc (zRn 11) zck11 (zws_in (i := 5138) rfl rfl) rfl rfl rfl (fun h => Bool.noConfusion h) (fun h => absurd (congrArg (fun y => y.name) h) (by decide +kernel))
theorem zoX11_decade : zMok mX11_decade := zMc (zRn 11) zck11 (zws_in (i := 5142) rfl rfl) rfl rfl rfl (fun h => Bool.noConfusion h) (fun h => absurd (congrArg (fun y => y.name) h) (by decide +kernel))
theorem zoX11_send : zMok mX11_send := zMc (zRn 11) zck11 (zws_in (i := 5163) rfl rfl) rfl rfl rfl (fun h => Bool.noConfusion h) (fun h => absurd (congrArg (fun y => y.name) h) (by decide +kernel))
theorem zoX11_tune : zMok mX11_tune := zMc (zRn 11) zck11 (zws_in (i := 5179) rfl rfl) rfl rfl rfl (fun h => Bool.noConfusion h) (fun h => absurd (congrArg (fun y => y.name) h) (by decide +kernel))
theorem zoX11_years : zMok mX11_years := zMc (zRn 11) zck11 (zws_in (i := 5192) rfl rfl) rfl rfl rfl (fun h => Bool.noConfusion h) (fun h => absurd (congrArg (fun y => y.name) h) (by decide +kernel))
theorem zoX11_close : zMok mX11_close := zMc (zRn 11) zck11 (zws_in (i := 5196) rfl rfl) rfl rfl rfl (fun h => Bool.noConfusion h) (fun h => absurd (congrArg (fun y => y.name) h) (by decide +kernel))
theorem zoX11_undo : zMok mX11_undo := zMc (zRn 11) zck11 (zws_in (i := 5200) rfl rfl) rfl rfl rfl (fun h => Bool.noConfusion h) (fun h => absurd (congrArg (fun y => y.name) h) (by decide +kernel))
theorem zoX11_image : zMok mX11_image := zMc (zRn 11) zck11 (zws_in (i := 5204) rfl rfl) rfl rfl rfl (fun h => Bool.noConfusion h) (fun h => absurd (congrArg (fun y => y.name) h) (by decide +kernel))
theorem zoX11_back : zMok mX11_back := zMc (zRn 11) zck11 (zws_in (i := 5208) rfl rfl) rfl rfl rfl (fun h => Bool.noConfusion h) (fun h => absurd (congrArg (fun y => y.name) h) (by decide +kernel))
theorem zoX11_size : zMok mX11_size := zMc (zRn 11) zck11 (zws_in (i := 5212) rfl rfl) rfl rfl rfl (fun h => Bool.noConfusion h) (fun h => absurd (congrArg (fun y => y.name) h) (by decide +kernel))
theorem zoX11_trouble : zMok mX11_trouble := zMc (zRn 11) zck11 (zws_in (i := 5216) rfl rfl) rfl rfl rfl (fun h => Bool.noConfusion h) (fun h => absurd (congrArg (fun y => y.name) h) (by decide +kernel))
theorem zoX11_granted : zMok mX11_granted := zMc (zRn 11) zck11 (zws_in (i := 3215) rfl rfl) rfl rfl rfl (fun h => Bool.noConfusion h) (fun h => absurd (congrArg (fun y => y.name) h) (by decide +kernel))
theorem zoX11_refused : zMok mX11_refused := zMc (zRn 11) zck11 (zws_in (i := 3029) rfl rfl) rfl rfl rfl (fun h => Bool.noConfusion h) (fun h => absurd (congrArg (fun y => y.name) h) (by decide +kernel))
theorem zoX11_hasGranted : zMok mX11_hasGranted := zMc (zRn 11) zck11 (zws_in (i := 5188) rfl rfl) rfl rfl rfl (fun h => Bool.noConfusion h) (fun h => absurd (congrArg (fun y => y.name) h) (by decide +kernel))
theorem zoX11_hasRefused : zMok mX11_hasRefused := zMc (zRn 11) zck11 (zws_in (i := 5183) rfl rfl) rfl rfl rfl (fun h => Bool.noConfusion h) (fun h => absurd (congrArg (fun y => y.name) h) (by decide +kernel))
theorem zoX11_hasPost : zMok mX11_hasPost := zMc (zRn 11) zck11 (zws_in (i := 4081) rfl rfl) rfl rfl rfl (fun h => Bool.noConfusion h) (fun h => absurd (congrArg (fun y => y.name) h) (by decide +kernel))
theorem zoX11_isIsland : zMok mX11_isIsland := zMc (zRn 11) zck11 (zws_in (i := 4007) rfl rfl) rfl rfl rfl (fun h => Bool.noConfusion h) (fun h => absurd (congrArg (fun y => y.name) h) (by decide +kernel))
theorem zoX11_areTwoIslands : zMok mX11_areTwoIslands := zMc (zRn 11) zck11 (zws_in (i := 4068) rfl rfl) rfl rfl rfl (fun h => Bool.noConfusion h) (fun h => absurd (congrArg (fun y => y.name) h) (by decide +kernel))
theorem zoX11_isWay : zMok mX11_isWay := zMc (zRn 11) zck11 (zws_in (i := 4093) rfl rfl) rfl rfl rfl (fun h => Bool.noConfusion h) (fun h => absurd (congrArg (fun y => y.name) h) (by decide +kernel))
theorem zoX11_isWhale : zMok mX11_isWhale := zMc (zRn 11) zck11 (zws_in (i := 3231) rfl rfl) rfl rfl rfl (fun h => Bool.noConfusion h) (fun h => absurd (congrArg (fun y => y.name) h) (by decide +kernel))
theorem zoX11_isBox : zMok mX11_isBox := zMc (zRn 11) zck11 (zws_in (i := 3239) rfl rfl) rfl rfl rfl (fun h => Bool.noConfusion h) (fun h => absurd (congrArg (fun y => y.name) h) (by decide +kernel))
theorem zoX11_isNoteOfBox : zMok mX11_isNoteOfBox := zMc (zRn 11) zck11 (zws_in (i := 4035) rfl rfl) rfl rfl rfl (fun h => Bool.noConfusion h) (fun h => absurd (congrArg (fun y => y.name) h) (by decide +kernel))
theorem zoX11_isWithin : zMok mX11_isWithin := zMc (zRn 11) zck11 (zws_in (i := 4085) rfl rfl) rfl rfl rfl (fun h => Bool.noConfusion h) (fun h => absurd (congrArg (fun y => y.name) h) (by decide +kernel))
theorem zoX11_refusalOfNewSong : zMok mX11_refusalOfNewSong := zMc (zRn 11) zck11 (zws_in (i := 4142) rfl rfl) rfl rfl rfl (fun h => Bool.noConfusion h) (fun h => absurd (congrArg (fun y => y.name) h) (by decide +kernel))
theorem zoX11_appendBytes : zMok mX11_appendBytes := zMc (zRn 11) zck11 (zws_in (i := 3021) rfl rfl) rfl rfl rfl (fun h => Bool.noConfusion h) (fun h => absurd (congrArg (fun y => y.name) h) (by decide +kernel))
theorem zoX11_takeDraft : zMok mX11_takeDraft := zMc (zRn 11) zck11 (zws_in (i := 3207) rfl rfl) rfl rfl rfl (fun h => Bool.noConfusion h) (fun h => absurd (congrArg (fun y => y.name) h) (by decide +kernel))
theorem zoX11_keepForUndo : zMok mX11_keepForUndo := zMc (zRn 11) zck11 (zws_in (i := 5167) rfl rfl) rfl rfl rfl (fun h => Bool.noConfusion h) (fun h => absurd (congrArg (fun y => y.name) h) (by decide +kernel))
theorem zoX11_hearerIn : zMok mX11_hearerIn := zMc (zRn 11) zck11 (zws_in (i := 4047) rfl rfl) rfl rfl rfl (fun h => Bool.noConfusion h) (fun h => absurd (congrArg (fun y => y.name) h) (by decide +kernel))
theorem zoX11_sentPart : zMok mX11_sentPart := zMc (zRn 11) zck11 (zws_in (i := 4109) rfl rfl) rfl rfl rfl (fun h => Bool.noConfusion h) (fun h => absurd (congrArg (fun y => y.name) h) (by decide +kernel))
theorem zoX11_heardWithSlips : zMok mX11_heardWithSlips := zMc (zRn 11) zck11 (zws_in (i := 5147) rfl rfl) rfl rfl rfl (fun h => Bool.noConfusion h) (fun h => absurd (congrArg (fun y => y.name) h) (by decide +kernel))
theorem zoX11_solveMatch : zMok mX11_solveMatch := zMc (zRn 11) zck11 (zws_in (i := 5019) rfl rfl) rfl rfl rfl (fun h => Bool.noConfusion h) (fun h => absurd (congrArg (fun y => y.name) h) (by decide +kernel))
theorem zoX11_commonDivisor : zMok mX11_commonDivisor := zMc (zRn 11) zck11 (zws_in (i := 5010) rfl rfl) rfl rfl rfl (fun h => Bool.noConfusion h) (fun h => absurd (congrArg (fun y => y.name) h) (by decide +kernel))
theorem zoX11_noteAt : zMok mX11_noteAt := zMc (zRn 11) zck11 (zws_in (i := 4026) rfl rfl) rfl rfl rfl (fun h => Bool.noConfusion h) (fun h => absurd (congrArg (fun y => y.name) h) (by decide +kernel))
theorem zoX11_withNote : zMok mX11_withNote := zMc (zRn 11) zck11 (zws_in (i := 5159) rfl rfl) rfl rfl rfl (fun h => Bool.noConfusion h) (fun h => absurd (congrArg (fun y => y.name) h) (by decide +kernel))
theorem zoX11_unlikeNotes : zMok mX11_unlikeNotes := zMc (zRn 11) zck11 (zws_in (i := 4054) rfl rfl) rfl rfl rfl (fun h => Bool.noConfusion h) (fun h => absurd (congrArg (fun y => y.name) h) (by decide +kernel))
theorem zoX12_init : zMok mX12_init := zMc (zRn 12) zck12 (zws_in (i := 6054) rfl rfl) rfl rfl rfl (fun _ => rfl) (fun h => zcn12 (congrArg (fun y => y.cls) h))
theorem zoX12_good : zMok mX12_good := zMc (zRn 12) zck12 (zws_in (i := 6185) rfl rfl) rfl rfl rfl (fun h => Bool.noConfusion h) (fun h => zcn12 (congrArg (fun y => y.cls) h))
theorem zoX12_no : zMok mX12_no := zMc (zRn 12) zck12 (zws_in (i := 6192) rfl rfl) rfl rfl rfl (fun h => Bool.noConfusion h) (fun h => zcn12 (congrArg (fun y => y.cls) h))
theorem zoX12_isNot : zMok mX12_isNot := zMc (zRn 12) zck12 (zws_in (i := 8173) rfl rfl) rfl rfl rfl (fun h => Bool.noConfusion h) (fun h => zcn12 (congrArg (fun y => y.cls) h))
theorem zoX12_in : zMok mX12_in := zMc (zRn 12) zck12 (zws_in (i := 6188) rfl rfl) rfl rfl rfl (fun h => Bool.noConfusion h) (fun h => zcn12 (congrArg (fun y => y.cls) h))
theorem zoX12_hasBit : zMok mX12_hasBit := zMc (zRn 12) zck12 (zws_in (i := 7172) rfl rfl) rfl rfl rfl (fun h => Bool.noConfusion h) (fun h => zcn12 (congrArg (fun y => y.cls) h))
theorem zoX12_ones : zMok mX12_ones := zMc (zRn 12) zck12 (zws_in (i := 8127) rfl rfl) rfl rfl rfl (fun h => Bool.noConfusion h) (fun h => zcn12 (congrArg (fun y => y.cls) h))
theorem zoX12_copy : zMok mX12_copy := zMc (zRn 12) zck12 (zws_in (i := 7081) rfl rfl) rfl rfl rfl (fun h => Bool.noConfusion h) (fun h => zcn12 (congrArg (fun y => y.cls) h))
theorem zoX12_later : zMok mX12_later := zMc (zRn 12) zck12 (zws_in (i := 8052) rfl rfl) rfl rfl rfl (fun h => Bool.noConfusion h) (fun h => zcn12 (congrArg (fun y => y.cls) h))
theorem zoX12_feed : zMok mX12_feed := zMc (zRn 12) zck12 (zws_in (i := 6177) rfl rfl) rfl rfl rfl (fun h => Bool.noConfusion h) (fun h => zcn12 (congrArg (fun y => y.cls) h))
theorem zoX12_look : zMok mX12_look := zMc (zRn 12) zck12 (zws_in (i := 6200) rfl rfl) rfl rfl rfl (fun h => Bool.noConfusion h) (fun h => zcn12 (congrArg (fun y => y.cls) h))
theorem zoX12_isSmall : zMok mX12_isSmall := zMc (zRn 12) zck12 (zws_in (i := 6203) rfl rfl) rfl rfl rfl (fun h => Bool.noConfusion h) (fun h => zcn12 (congrArg (fun y => y.cls) h))
theorem zoX12_isDigit : zMok mX12_isDigit := zMc (zRn 12) zck12 (zws_in (i := 6206) rfl rfl) rfl rfl rfl (fun h => Bool.noConfusion h) (fun h => zcn12 (congrArg (fun y => y.cls) h))
theorem zoX12_next : zMok mX12_next := zMc (zRn 12) zck12 (zws_in (i := 6196) rfl rfl) rfl rfl rfl (fun h => Bool.noConfusion h) (fun h => zcn12 (congrArg (fun y => y.cls) h))
theorem zoX12_wrong : zMok mX12_wrong := zMc (zRn 12) zck12 (zws_in (i := 6225) rfl rfl) rfl rfl rfl (fun h => Bool.noConfusion h) (fun h => zcn12 (congrArg (fun y => y.cls) h))
theorem zoX12_isWord : zMok mX12_isWord := zMc (zRn 12) zck12 (zws_in (i := 6215) rfl rfl) rfl rfl rfl (fun h => Bool.noConfusion h) (fun h => zcn12 (congrArg (fun y => y.cls) h))
theorem zoX12_takesWord : zMok mX12_takesWord := zMc (zRn 12) zck12 (zws_in (i := 6238) rfl rfl) rfl rfl rfl (fun h => Bool.noConfusion h) (fun h => zcn12 (congrArg (fun y => y.cls) h))
theorem zoX12_must : zMok mX12_must := zMc (zRn 12) zck12 (zws_in (i := 6234) rfl rfl) rfl rfl rfl (fun h => Bool.noConfusion h) (fun h => zcn12 (congrArg (fun y => y.cls) h))
theorem zoX12_mustName : zMok mX12_mustName := zMc (zRn 12) zck12 (zws_in (i := 7022) rfl rfl) rfl rfl rfl (fun h => Bool.noConfusion h) (fun h => zcn12 (congrArg (fun y => y.cls) h))
theorem zoX12_find : zMok mX12_find := zMc (zRn 12) zck12 (zws_in (i := 7030) rfl rfl) rfl rfl rfl (fun h => Bool.noConfusion h) (fun h => zcn12 (congrArg (fun y => y.cls) h))
theorem zoX12_newName : zMok mX12_newName := zMc (zRn 12) zck12 (zws_in (i := 7018) rfl rfl) rfl rfl rfl (fun h => Bool.noConfusion h) (fun h => zcn12 (congrArg (fun y => y.cls) h))
theorem zoX12_named : zMok mX12_named := zMc (zRn 12) zck12 (zws_in (i := 7046) rfl rfl) rfl rfl rfl (fun h => Bool.noConfusion h) (fun h => zcn12 (congrArg (fun y => y.cls) h))
theorem zoX12_islandPassed : zMok mX12_islandPassed := zMc (zRn 12) zck12 (zws_in (i := 7042) rfl rfl) rfl rfl rfl (fun h => Bool.noConfusion h) (fun h => zcn12 (congrArg (fun y => y.cls) h))
theorem zoX12_islandBehind : zMok mX12_islandBehind := zMc (zRn 12) zck12 (zws_in (i := 7064) rfl rfl) rfl rfl rfl (fun h => Bool.noConfusion h) (fun h => zcn12 (congrArg (fun y => y.cls) h))
theorem zoX12_number : zMok mX12_number := zMc (zRn 12) zck12 (zws_in (i := 7002) rfl rfl) rfl rfl rfl (fun h => Bool.noConfusion h) (fun h => zcn12 (congrArg (fun y => y.cls) h))
theorem zoX12_after : zMok mX12_after := zMc (zRn 12) zck12 (zws_in (i := 6230) rfl rfl) rfl rfl rfl (fun h => Bool.noConfusion h) (fun h => zcn12 (congrArg (fun y => y.cls) h))
theorem zoX12_post : zMok mX12_post := zMc (zRn 12) zck12 (zws_in (i := 6181) rfl rfl) rfl rfl rfl (fun h => Bool.noConfusion h) (fun h => zcn12 (congrArg (fun y => y.cls) h))
theorem zoX12_begins : zMok mX12_begins := zMc (zRn 12) zck12 (zws_in (i := 7010) rfl rfl) rfl rfl rfl (fun h => Bool.noConfusion h) (fun h => zcn12 (congrArg (fun y => y.cls) h))
theorem zoX12_readLine : zMok mX12_readLine := zMc (zRn 12) zck12 (zws_in (i := 6210) rfl rfl) rfl rfl rfl (fun h => Bool.noConfusion h) (fun h => zcn12 (congrArg (fun y => y.cls) h))
theorem zoX12_postLine : zMok mX12_postLine := zMc (zRn 12) zck12 (zws_in (i := 6221) rfl rfl) rfl rfl rfl (fun h => Bool.noConfusion h) (fun h => zcn12 (congrArg (fun y => y.cls) h))
theorem zoX12_islandLine : zMok mX12_islandLine := zMc (zRn 12) zck12 (zws_in (i := 7014) rfl rfl) rfl rfl rfl (fun h => Bool.noConfusion h) (fun h => zcn12 (congrArg (fun y => y.cls) h))
theorem zoX12_isSong : zMok mX12_isSong := zMc (zRn 12) zck12 (zws_in (i := 7034) rfl rfl) rfl rfl rfl (fun h => Bool.noConfusion h) (fun h => zcn12 (congrArg (fun y => y.cls) h))
theorem zoX12_wayLine : zMok mX12_wayLine := zMc (zRn 12) zck12 (zws_in (i := 7038) rfl rfl) rfl rfl rfl (fun h => Bool.noConfusion h) (fun h => zcn12 (congrArg (fun y => y.cls) h))
theorem zoX12_joins : zMok mX12_joins := zMc (zRn 12) zck12 (zws_in (i := 7049) rfl rfl) rfl rfl rfl (fun h => Bool.noConfusion h) (fun h => zcn12 (congrArg (fun y => y.cls) h))
theorem zoX12_whaleLine : zMok mX12_whaleLine := zMc (zRn 12) zck12 (zws_in (i := 7055) rfl rfl) rfl rfl rfl (fun h => Bool.noConfusion h) (fun h => zcn12 (congrArg (fun y => y.cls) h))
theorem zoX12_boxLine : zMok mX12_boxLine := zMc (zRn 12) zck12 (zws_in (i := 7070) rfl rfl) rfl rfl rfl (fun h => Bool.noConfusion h) (fun h => zcn12 (congrArg (fun y => y.cls) h))
theorem zoX12_spoutLine : zMok mX12_spoutLine := zMc (zRn 12) zck12 (zws_in (i := 7078) rfl rfl) rfl rfl rfl (fun h => Bool.noConfusion h) (fun h => zcn12 (congrArg (fun y => y.cls) h))
theorem zoX12_fault : zMok mX12_fault := zMc (zRn 12) zck12 (zws_in (i := 7085) rfl rfl) rfl rfl rfl (fun h => Bool.noConfusion h) (fun h => zcn12 (congrArg (fun y => y.cls) h))
theorem zoX12_where : zMok mX12_where := zMc (zRn 12) zck12 (zws_in (i := 7089) rfl rfl) rfl rfl rfl (fun h => Bool.noConfusion h) (fun h => zcn12 (congrArg (fun y => y.cls) h))
theorem zoX12_isIsland : zMok mX12_isIsland := zMc (zRn 12) zck12 (zws_in (i := 7121) rfl rfl) rfl rfl rfl (fun h => Bool.noConfusion h) (fun h => zcn12 (congrArg (fun y => y.cls) h))
theorem zoX12_isWhale : zMok mX12_isWhale := zMc (zRn 12) zck12 (zws_in (i := 7097) rfl rfl) rfl rfl rfl (fun h => Bool.noConfusion h) (fun h => zcn12 (congrArg (fun y => y.cls) h))
theorem zoX12_isBox : zMok mX12_isBox := zMc (zRn 12) zck12 (zws_in (i := 7109) rfl rfl) rfl rfl rfl (fun h => Bool.noConfusion h) (fun h => zcn12 (congrArg (fun y => y.cls) h))
theorem zoX12_ofWhale : zMok mX12_ofWhale := zMc (zRn 12) zck12 (zws_in (i := 7101) rfl rfl) rfl rfl rfl (fun h => Bool.noConfusion h) (fun h => zcn12 (congrArg (fun y => y.cls) h))
theorem zoX12_ofBox : zMok mX12_ofBox := zMc (zRn 12) zck12 (zws_in (i := 7113) rfl rfl) rfl rfl rfl (fun h => Bool.noConfusion h) (fun h => zcn12 (congrArg (fun y => y.cls) h))
theorem zoX12_songLong : zMok mX12_songLong := zMc (zRn 12) zck12 (zws_in (i := 7125) rfl rfl) rfl rfl rfl (fun h => Bool.noConfusion h) (fun h => zcn12 (congrArg (fun y => y.cls) h))
theorem zoX12_boxLong : zMok mX12_boxLong := zMc (zRn 12) zck12 (zws_in (i := 7141) rfl rfl) rfl rfl rfl (fun h => Bool.noConfusion h) (fun h => zcn12 (congrArg (fun y => y.cls) h))
theorem zoX12_noteIn : zMok mX12_noteIn := zMc (zRn 12) zck12 (zws_in (i := 7133) rfl rfl) rfl rfl rfl (fun h => Bool.noConfusion h) (fun h => zcn12 (congrArg (fun y => y.cls) h))
theorem zoX12_whale : zMok mX12_whale := zMc (zRn 12) zck12 (zws_in (i := 7093) rfl rfl) rfl rfl rfl (fun h => Bool.noConfusion h) (fun h => zcn12 (congrArg (fun y => y.cls) h))
theorem zoX12_box : zMok mX12_box := zMc (zRn 12) zck12 (zws_in (i := 7105) rfl rfl) rfl rfl rfl (fun h => Bool.noConfusion h) (fun h => zcn12 (congrArg (fun y => y.cls) h))
theorem zoX12_length : zMok mX12_length := zMc (zRn 12) zck12 (zws_in (i := 7117) rfl rfl) rfl rfl rfl (fun h => Bool.noConfusion h) (fun h => zcn12 (congrArg (fun y => y.cls) h))
theorem zoX12_note : zMok mX12_note := zMc (zRn 12) zck12 (zws_in (i := 7129) rfl rfl) rfl rfl rfl (fun h => Bool.noConfusion h) (fun h => zcn12 (congrArg (fun y => y.cls) h))
theorem zoX12_sung : zMok mX12_sung := zMc (zRn 12) zck12 (zws_in (i := 7137) rfl rfl) rfl rfl rfl (fun h => Bool.noConfusion h) (fun h => zcn12 (congrArg (fun y => y.cls) h))
theorem zoX12_unlike : zMok mX12_unlike := zMc (zRn 12) zck12 (zws_in (i := 7157) rfl rfl) rfl rfl rfl (fun h => Bool.noConfusion h) (fun h => zcn12 (congrArg (fun y => y.cls) h))
theorem zoX12_hearsIn : zMok mX12_hearsIn := zMc (zRn 12) zck12 (zws_in (i := 7153) rfl rfl) rfl rfl rfl (fun h => Bool.noConfusion h) (fun h => zcn12 (congrArg (fun y => y.cls) h))
theorem zoX12_heardNow : zMok mX12_heardNow := zMc (zRn 12) zck12 (zws_in (i := 7149) rfl rfl) rfl rfl rfl (fun h => Bool.noConfusion h) (fun h => zcn12 (congrArg (fun y => y.cls) h))
theorem zoX12_heard : zMok mX12_heard := zMc (zRn 12) zck12 (zws_in (i := 7145) rfl rfl) rfl rfl rfl (fun h => Bool.noConfusion h) (fun h => zcn12 (congrArg (fun y => y.cls) h))
theorem zoX12_isClosed : zMok mX12_isClosed := zMc (zRn 12) zck12 (zws_in (i := 7169) rfl rfl) rfl rfl rfl (fun h => Bool.noConfusion h) (fun h => zcn12 (congrArg (fun y => y.cls) h))
theorem zoX12_wayOf : zMok mX12_wayOf := zMc (zRn 12) zck12 (zws_in (i := 7165) rfl rfl) rfl rfl rfl (fun h => Bool.noConfusion h) (fun h => zcn12 (congrArg (fun y => y.cls) h))
theorem zoX12_way : zMok mX12_way := zMc (zRn 12) zck12 (zws_in (i := 7161) rfl rfl) rfl rfl rfl (fun h => Bool.noConfusion h) (fun h => zcn12 (congrArg (fun y => y.cls) h))
theorem zoX12_nearOf : zMok mX12_nearOf := zMc (zRn 12) zck12 (zws_in (i := 7180) rfl rfl) rfl rfl rfl (fun h => Bool.noConfusion h) (fun h => zcn12 (congrArg (fun y => y.cls) h))
theorem zoX12_near : zMok mX12_near := zMc (zRn 12) zck12 (zws_in (i := 7176) rfl rfl) rfl rfl rfl (fun h => Bool.noConfusion h) (fun h => zcn12 (congrArg (fun y => y.cls) h))
theorem zoX12_asNear : zMok mX12_asNear := zMc (zRn 12) zck12 (zws_in (i := 7184) rfl rfl) rfl rfl rfl (fun h => Bool.noConfusion h) (fun h => zcn12 (congrArg (fun y => y.cls) h))
theorem zoX12_sent : zMok mX12_sent := zMc (zRn 12) zck12 (zws_in (i := 7188) rfl rfl) rfl rfl rfl (fun h => Bool.noConfusion h) (fun h => zcn12 (congrArg (fun y => y.cls) h))
theorem zoX12_apartOf : zMok mX12_apartOf := zMc (zRn 12) zck12 (zws_in (i := 7196) rfl rfl) rfl rfl rfl (fun h => Bool.noConfusion h) (fun h => zcn12 (congrArg (fun y => y.cls) h))
theorem zoX12_apart : zMok mX12_apart := zMc (zRn 12) zck12 (zws_in (i := 7192) rfl rfl) rfl rfl rfl (fun h => Bool.noConfusion h) (fun h => zcn12 (congrArg (fun y => y.cls) h))
theorem zoX12_bear : zMok mX12_bear := zMc (zRn 12) zck12 (zws_in (i := 7200) rfl rfl) rfl rfl rfl (fun h => Bool.noConfusion h) (fun h => zcn12 (congrArg (fun y => y.cls) h))
theorem zoX12_mixed : zMok mX12_mixed := zMc (zRn 12) zck12 (zws_in (i := 7204) rfl rfl) rfl rfl rfl (fun h => Bool.noConfusion h) (fun h => zcn12 (congrArg (fun y => y.cls) h))
theorem zoX12_power : zMok mX12_power := zMc (zRn 12) zck12 (zws_in (i := 7220) rfl rfl) rfl rfl rfl (fun h => Bool.noConfusion h) (fun h => zcn12 (congrArg (fun y => y.cls) h))
theorem zoX12_digitsApart : zMok mX12_digitsApart := zMc (zRn 12) zck12 (zws_in (i := 7224) rfl rfl) rfl rfl rfl (fun h => Bool.noConfusion h) (fun h => zcn12 (congrArg (fun y => y.cls) h))
theorem zoX12_newSongs : zMok mX12_newSongs := zMc (zRn 12) zck12 (zws_in (i := 7216) rfl rfl) rfl rfl rfl (fun h => Bool.noConfusion h) (fun h => zcn12 (congrArg (fun y => y.cls) h))
theorem zoX12_songWhy : zMok mX12_songWhy := zMc (zRn 12) zck12 (zws_in (i := 7212) rfl rfl) rfl rfl rfl (fun h => Bool.noConfusion h) (fun h => zcn12 (congrArg (fun y => y.cls) h))
theorem zoX12_fresh : zMok mX12_fresh := zMc (zRn 12) zck12 (zws_in (i := 7208) rfl rfl) rfl rfl rfl (fun h => Bool.noConfusion h) (fun h => zcn12 (congrArg (fun y => y.cls) h))
theorem zoX12_byTurns : zMok mX12_byTurns := zMc (zRn 12) zck12 (zws_in (i := 7228) rfl rfl) rfl rfl rfl (fun h => Bool.noConfusion h) (fun h => zcn12 (congrArg (fun y => y.cls) h))
theorem zoX12_heardIn : zMok mX12_heardIn := zMc (zRn 12) zck12 (zws_in (i := 7232) rfl rfl) rfl rfl rfl (fun h => Bool.noConfusion h) (fun h => zcn12 (congrArg (fun y => y.cls) h))
theorem zoX12_hearsItself : zMok mX12_hearsItself := zMc (zRn 12) zck12 (zws_in (i := 8000) rfl rfl) rfl rfl rfl (fun h => Bool.noConfusion h) (fun h => zcn12 (congrArg (fun y => y.cls) h))
theorem zoX12_strange : zMok mX12_strange := zMc (zRn 12) zck12 (zws_in (i := 7236) rfl rfl) rfl rfl rfl (fun h => Bool.noConfusion h) (fun h => zcn12 (congrArg (fun y => y.cls) h))
theorem zoX12_dayBy : zMok mX12_dayBy := zMc (zRn 12) zck12 (zws_in (i := 8037) rfl rfl) rfl rfl rfl (fun h => Bool.noConfusion h) (fun h => zcn12 (congrArg (fun y => y.cls) h))
theorem zoX12_setsOut : zMok mX12_setsOut := zMc (zRn 12) zck12 (zws_in (i := 8016) rfl rfl) rfl rfl rfl (fun h => Bool.noConfusion h) (fun h => zcn12 (congrArg (fun y => y.cls) h))
theorem zoX12_seasonOf : zMok mX12_seasonOf := zMc (zRn 12) zck12 (zws_in (i := 8008) rfl rfl) rfl rfl rfl (fun h => Bool.noConfusion h) (fun h => zcn12 (congrArg (fun y => y.cls) h))
theorem zoX12_season : zMok mX12_season := zMc (zRn 12) zck12 (zws_in (i := 8004) rfl rfl) rfl rfl rfl (fun h => Bool.noConfusion h) (fun h => zcn12 (congrArg (fun y => y.cls) h))
theorem zoX12_sets : zMok mX12_sets := zMc (zRn 12) zck12 (zws_in (i := 8012) rfl rfl) rfl rfl rfl (fun h => Bool.noConfusion h) (fun h => zcn12 (congrArg (fun y => y.cls) h))
theorem zoX12_layDays : zMok mX12_layDays := zMc (zRn 12) zck12 (zws_in (i := 8028) rfl rfl) rfl rfl rfl (fun h => Bool.noConfusion h) (fun h => zcn12 (congrArg (fun y => y.cls) h))
theorem zoX12_goesBy : zMok mX12_goesBy := zMc (zRn 12) zck12 (zws_in (i := 8033) rfl rfl) rfl rfl rfl (fun h => Bool.noConfusion h) (fun h => zcn12 (congrArg (fun y => y.cls) h))
theorem zoX12_arrivalOf : zMok mX12_arrivalOf := zMc (zRn 12) zck12 (zws_in (i := 8024) rfl rfl) rfl rfl rfl (fun h => Bool.noConfusion h) (fun h => zcn12 (congrArg (fun y => y.cls) h))
theorem zoX12_arrival : zMok mX12_arrival := zMc (zRn 12) zck12 (zws_in (i := 8020) rfl rfl) rfl rfl rfl (fun h => Bool.noConfusion h) (fun h => zcn12 (congrArg (fun y => y.cls) h))
theorem zoX12_lays : zMok mX12_lays := zMc (zRn 12) zck12 (zws_in (i := 8049) rfl rfl) rfl rfl rfl (fun h => Bool.noConfusion h) (fun h => zcn12 (congrArg (fun y => y.cls) h))
theorem zoX12_bringsOf : zMok mX12_bringsOf := zMc (zRn 12) zck12 (zws_in (i := 8045) rfl rfl) rfl rfl rfl (fun h => Bool.noConfusion h) (fun h => zcn12 (congrArg (fun y => y.cls) h))
theorem zoX12_brings : zMok mX12_brings := zMc (zRn 12) zck12 (zws_in (i := 8041) rfl rfl) rfl rfl rfl (fun h => Bool.noConfusion h) (fun h => zcn12 (congrArg (fun y => y.cls) h))
theorem zoX12_soonest : zMok mX12_soonest := zMc (zRn 12) zck12 (zws_in (i := 8056) rfl rfl) rfl rfl rfl (fun h => Bool.noConfusion h) (fun h => zcn12 (congrArg (fun y => y.cls) h))
theorem zoX12_surestBut : zMok mX12_surestBut := zMc (zRn 12) zck12 (zws_in (i := 8064) rfl rfl) rfl rfl rfl (fun h => Bool.noConfusion h) (fun h => zcn12 (congrArg (fun y => y.cls) h))
theorem zoX12_surest : zMok mX12_surest := zMc (zRn 12) zck12 (zws_in (i := 8060) rfl rfl) rfl rfl rfl (fun h => Bool.noConfusion h) (fun h => zcn12 (congrArg (fun y => y.cls) h))
theorem zoX12_by : zMok mX12_by := zMc (zRn 12) zck12 (zws_in (i := 8068) rfl rfl) rfl rfl rfl (fun h => Bool.noConfusion h) (fun h => zcn12 (congrArg (fun y => y.cls) h))
theorem zoX12_lowest : zMok mX12_lowest := zMc (zRn 12) zck12 (zws_in (i := 8076) rfl rfl) rfl rfl rfl (fun h => Bool.noConfusion h) (fun h => zcn12 (congrArg (fun y => y.cls) h))
theorem zoX12_registered : zMok mX12_registered := zMc (zRn 12) zck12 (zws_in (i := 8072) rfl rfl) rfl rfl rfl (fun h => Bool.noConfusion h) (fun h => zcn12 (congrArg (fun y => y.cls) h))
theorem zoX12_tryMatch : zMok mX12_tryMatch := zMc (zRn 12) zck12 (zws_in (i := 8088) rfl rfl) rfl rfl rfl (fun h => Bool.noConfusion h) (fun h => zcn12 (congrArg (fun y => y.cls) h))
theorem zoX12_seekMatch : zMok mX12_seekMatch := zMc (zRn 12) zck12 (zws_in (i := 8084) rfl rfl) rfl rfl rfl (fun h => Bool.noConfusion h) (fun h => zcn12 (congrArg (fun y => y.cls) h))
theorem zoX12_match : zMok mX12_match := zMc (zRn 12) zck12 (zws_in (i := 8080) rfl rfl) rfl rfl rfl (fun h => Bool.noConfusion h) (fun h => zcn12 (congrArg (fun y => y.cls) h))
theorem zoX12_matchDays : zMok mX12_matchDays := zMc (zRn 12) zck12 (zws_in (i := 8092) rfl rfl) rfl rfl rfl (fun h => Bool.noConfusion h) (fun h => zcn12 (congrArg (fun y => y.cls) h))
theorem zoX12_matchOf : zMok mX12_matchOf := zMc (zRn 12) zck12 (zws_in (i := 8096) rfl rfl) rfl rfl rfl (fun h => Bool.noConfusion h) (fun h => zcn12 (congrArg (fun y => y.cls) h))
theorem zoX12_meet : zMok mX12_meet := zMc (zRn 12) zck12 (zws_in (i := 8100) rfl rfl) rfl rfl rfl (fun h => Bool.noConfusion h) (fun h => zcn12 (congrArg (fun y => y.cls) h))
theorem zoX12_fitsAll : zMok mX12_fitsAll := zMc (zRn 12) zck12 (zws_in (i := 8108) rfl rfl) rfl rfl rfl (fun h => Bool.noConfusion h) (fun h => zcn12 (congrArg (fun y => y.cls) h))
theorem zoX12_fits : zMok mX12_fits := zMc (zRn 12) zck12 (zws_in (i := 8104) rfl rfl) rfl rfl rfl (fun h => Bool.noConfusion h) (fun h => zcn12 (congrArg (fun y => y.cls) h))
theorem zoX12_reachOf : zMok mX12_reachOf := zMc (zRn 12) zck12 (zws_in (i := 8116) rfl rfl) rfl rfl rfl (fun h => Bool.noConfusion h) (fun h => zcn12 (congrArg (fun y => y.cls) h))
theorem zoX12_reach : zMok mX12_reach := zMc (zRn 12) zck12 (zws_in (i := 8112) rfl rfl) rfl rfl rfl (fun h => Bool.noConfusion h) (fun h => zcn12 (congrArg (fun y => y.cls) h))
theorem zoX12_pier : zMok mX12_pier := zMc (zRn 12) zck12 (zws_in (i := 8120) rfl rfl) rfl rfl rfl (fun h => Bool.noConfusion h) (fun h => zcn12 (congrArg (fun y => y.cls) h))
theorem zoX12_doLead : zMok mX12_doLead := zMc (zRn 12) zck12 (zws_in (i := 8131) rfl rfl) rfl rfl rfl (fun h => Bool.noConfusion h) (fun h => zcn12 (congrArg (fun y => y.cls) h))
theorem zoX12_watch : zMok mX12_watch := zMc (zRn 12) zck12 (zws_in (i := 8124) rfl rfl) rfl rfl rfl (fun h => Bool.noConfusion h) (fun h => zcn12 (congrArg (fun y => y.cls) h))
theorem zoX12_layFar : zMok mX12_layFar := zMc (zRn 12) zck12 (zws_in (i := 8143) rfl rfl) rfl rfl rfl (fun h => Bool.noConfusion h) (fun h => zcn12 (congrArg (fun y => y.cls) h))
theorem zoX12_tryRound : zMok mX12_tryRound := zMc (zRn 12) zck12 (zws_in (i := 8147) rfl rfl) rfl rfl rfl (fun h => Bool.noConfusion h) (fun h => zcn12 (congrArg (fun y => y.cls) h))
theorem zoX12_seekRound : zMok mX12_seekRound := zMc (zRn 12) zck12 (zws_in (i := 8139) rfl rfl) rfl rfl rfl (fun h => Bool.noConfusion h) (fun h => zcn12 (congrArg (fun y => y.cls) h))
theorem zoX12_round : zMok mX12_round := zMc (zRn 12) zck12 (zws_in (i := 8135) rfl rfl) rfl rfl rfl (fun h => Bool.noConfusion h) (fun h => zcn12 (congrArg (fun y => y.cls) h))
theorem zoX12_roundAt : zMok mX12_roundAt := zMc (zRn 12) zck12 (zws_in (i := 8151) rfl rfl) rfl rfl rfl (fun h => Bool.noConfusion h) (fun h => zcn12 (congrArg (fun y => y.cls) h))
theorem zoX12_decade : zMok mX12_decade := zMc (zRn 12) zck12 (zws_in (i := 8155) rfl rfl) rfl rfl rfl (fun h => Bool.noConfusion h) (fun h => zcn12 (congrArg (fun y => y.cls) h))
theorem zoX12_note1 : zMok mX12_note1 := zMc (zRn 12) zck12 (zws_in (i := 8165) rfl rfl) rfl rfl rfl (fun h => Bool.noConfusion h) (fun h => zcn12 (congrArg (fun y => y.cls) h))
theorem zoX12_send : zMok mX12_send := zMc (zRn 12) zck12 (zws_in (i := 8161) rfl rfl) rfl rfl rfl (fun h => Bool.noConfusion h) (fun h => zcn12 (congrArg (fun y => y.cls) h))
theorem zoX12_tune : zMok mX12_tune := zMc (zRn 12) zck12 (zws_in (i := 8169) rfl rfl) rfl rfl rfl (fun h => Bool.noConfusion h) (fun h => zcn12 (congrArg (fun y => y.cls) h))
theorem zoX12_years : zMok mX12_years := zMc (zRn 12) zck12 (zws_in (i := 8177) rfl rfl) rfl rfl rfl (fun h => Bool.noConfusion h) (fun h => zcn12 (congrArg (fun y => y.cls) h))
theorem zoX12_close : zMok mX12_close := zMc (zRn 12) zck12 (zws_in (i := 8181) rfl rfl) rfl rfl rfl (fun h => Bool.noConfusion h) (fun h => zcn12 (congrArg (fun y => y.cls) h))
theorem zoX12_undo : zMok mX12_undo := zMc (zRn 12) zck12 (zws_in (i := 8185) rfl rfl) rfl rfl rfl (fun h => Bool.noConfusion h) (fun h => zcn12 (congrArg (fun y => y.cls) h))
theorem zoX12_image : zMok mX12_image := zMc (zRn 12) zck12 (zws_in (i := 8189) rfl rfl) rfl rfl rfl (fun h => Bool.noConfusion h) (fun h => zcn12 (congrArg (fun y => y.cls) h))
theorem zoX12_back : zMok mX12_back := zMc (zRn 12) zck12 (zws_in (i := 8193) rfl rfl) rfl rfl rfl (fun h => Bool.noConfusion h) (fun h => zcn12 (congrArg (fun y => y.cls) h))
theorem zoX12_led : zMok mX12_led := zMc (zRn 12) zck12 (zws_in (i := 8197) rfl rfl) rfl rfl rfl (fun h => Bool.noConfusion h) (fun h => zcn12 (congrArg (fun y => y.cls) h))
theorem zoX12_size : zMok mX12_size := zMc (zRn 12) zck12 (zws_in (i := 8201) rfl rfl) rfl rfl rfl (fun h => Bool.noConfusion h) (fun h => zcn12 (congrArg (fun y => y.cls) h))
theorem zoX12_trouble : zMok mX12_trouble := zMc (zRn 12) zck12 (zws_in (i := 8205) rfl rfl) rfl rfl rfl (fun h => Bool.noConfusion h) (fun h => zcn12 (congrArg (fun y => y.cls) h))
theorem zoJ0_length_8abf5 : zMok mJ0_length_8abf5 := zMc (zRn 14) zck14 (zws_in (i := 3065) rfl rfl) rfl rfl rfl (fun h => Bool.noConfusion h) (fun h => zcn14 (congrArg (fun y => y.cls) h))
theorem zoJ0_charAt_5068e : zMok mJ0_charAt_5068e := zMc (zRn 14) zck14 (zws_in (i := 3075) rfl rfl) rfl rfl rfl (fun h => Bool.noConfusion h) (fun h => zcn14 (congrArg (fun y => y.cls) h))
theorem zoJ0_coder_7d493 : zMok mJ0_coder_7d493 := zMc (zRn 14) zck14 (zws_in (i := 3069) rfl rfl) rfl rfl rfl (fun h => Bool.noConfusion h) (fun h => zcn14 (congrArg (fun y => y.cls) h))
theorem zoJ0_isLatin1_aae02 : zMok mJ0_isLatin1_aae02 := zMc (zRn 14) zck14 (zws_in (i := 3079) rfl rfl) rfl rfl rfl (fun h => Bool.noConfusion h) (fun h => zcn14 (congrArg (fun y => y.cls) h))
theorem zoJ0_checkIndex_df160 : zMok mJ0_checkIndex_df160 := zMc (zRn 14) zck14 (zws_in (i := 3085) rfl rfl) rfl rfl rfl (fun h => Bool.noConfusion h) (fun h => zcn14 (congrArg (fun y => y.cls) h))
theorem zoJ1_charAt_3b067 : zMok mJ1_charAt_3b067 := zMc (zRn 15) zck15 (zws_in (i := 3082) rfl rfl) rfl rfl rfl (fun h => Bool.noConfusion h) (fun h => zcn15 (congrArg (fun y => y.cls) h))
theorem zoJ3_checkIndex_8e157 : zMok mJ3_checkIndex_8e157 := zMc (zRn 18) zck18 (zws_in (i := 3090) rfl rfl) rfl rfl rfl (fun h => Bool.noConfusion h) (fun h => zcn18 (congrArg (fun y => y.cls) h))
theorem zoJ7_fill_53178 : zMok mJ7_fill_53178 := zMc (zRn 17) zck17 (zws_in (i := 4195) rfl rfl) rfl rfl rfl (fun h => Bool.noConfusion h) (fun h => zcn17 (congrArg (fun y => y.cls) h))
theorem zoJ6_bitCount_0f7a4 : zMok mJ6_bitCount_0f7a4 := zMc (zRn 16) zck16 (zws_in (i := 4057) rfl rfl) rfl rfl rfl (fun h => Bool.noConfusion h) (fun h => zcn16 (congrArg (fun y => y.cls) h))
theorem zledc : Cond.code yX11_led cX11_led 4 (some .int) ∈ zws := zws_in (i := 5224) rfl rfl
def zmthC (o : Nat) (q : Nat × Nat × Nat × zM × Nat × Nat × Nat × Nat) : Bool := match q with
  | (k, kd, na, cm, pl, pi, ps, pn) => match kd with
    | 0 => decide (zpc pl = some (Cond.methodLink (zRn o) k cm.2.2.2.2.1)) && goodWord (Cond.methodLink (zRn o) k cm.2.2.2.2.1) && decide (zpc pi = some (Cond.instanceMethod cm.2.2.2.2.1)) && goodWord (Cond.instanceMethod cm.2.2.2.2.1) && decide (zpc ps = some (Cond.selects (zRn cm.2.1) cm.2.2.2.2.1 cm.2.2.2.2.1)) && goodWord (Cond.selects (zRn cm.2.1) cm.2.2.2.2.1 cm.2.2.2.2.1) && decide (zpc pn = some (Cond.initialized cm.2.2.2.2.1.cls)) && goodWord (Cond.initialized cm.2.2.2.2.1.cls) && decide ((parseMethodDescriptor cm.2.2.2.2.1.desc).map (fun d => d.parameters.length + 1) = some na)
    | 1 => decide (zpc pl = some (Cond.methodLink (zRn o) k cm.2.2.2.2.1)) && goodWord (Cond.methodLink (zRn o) k cm.2.2.2.2.1) && decide (zpc pi = some (Cond.static cm.2.2.2.2.1)) && goodWord (Cond.static cm.2.2.2.2.1) && decide (zpc pn = some (Cond.initialized cm.2.2.2.2.1.cls)) && goodWord (Cond.initialized cm.2.2.2.2.1.cls) && decide ((parseMethodDescriptor cm.2.2.2.2.1.desc).map (fun d => d.parameters.length) = some na)
    | 2 => decide (zpc pl = some (Cond.methodLink (zRn o) k cm.2.2.2.2.1)) && goodWord (Cond.methodLink (zRn o) k cm.2.2.2.2.1) && decide (zpc pi = some (Cond.instanceMethod cm.2.2.2.2.1)) && goodWord (Cond.instanceMethod cm.2.2.2.2.1) && decide (zpc pn = some (Cond.initialized cm.2.2.2.2.1.cls)) && goodWord (Cond.initialized cm.2.2.2.2.1.cls) && decide ((parseMethodDescriptor cm.2.2.2.2.1.desc).map (fun d => d.parameters.length + 1) = some na) && decide (cm.2.2.2.2.1.name = "<init>") && decide (cm.2.2.2.1 = none)
    | 3 => znm.any (fun r => decide (r.1 = o) && decide (r.2.1 = k) && decide (r.2.2.1.2.2.2.2.1 = cm.2.2.2.2.1)) && decide (zpc pi = some (Cond.static cm.2.2.2.2.1)) && goodWord (Cond.static cm.2.2.2.2.1) && decide (zpc pn = some (Cond.initialized cm.2.2.2.2.1.cls)) && goodWord (Cond.initialized cm.2.2.2.2.1.cls) && decide ((parseMethodDescriptor cm.2.2.2.2.1.desc).map (fun d => d.parameters.length) = some na)
    | 4 => znm.any (fun r => decide (r.1 = o) && decide (r.2.1 = k) && decide (r.2.2.1.2.2.2.2.1 = cm.2.2.2.2.1)) && decide (zpc pi = some (Cond.instanceMethod cm.2.2.2.2.1)) && goodWord (Cond.instanceMethod cm.2.2.2.2.1) && decide (zpc pn = some (Cond.initialized cm.2.2.2.2.1.cls)) && goodWord (Cond.initialized cm.2.2.2.2.1.cls) && decide ((parseMethodDescriptor cm.2.2.2.2.1.desc).map (fun d => d.parameters.length + 1) = some na) && decide (cm.2.2.2.2.1.name = "<init>") && decide (cm.2.2.2.1 = none)
    | 10 => decide (zpc pl = some (Cond.methodLink (zRn o) k Lib.objectInit)) && goodWord (Cond.methodLink (zRn o) k Lib.objectInit)
    | 11 => decide (zpc pl = some (Cond.methodLink (zRn o) k Lib.Math.max.name)) && goodWord (Cond.methodLink (zRn o) k Lib.Math.max.name)
    | 12 => decide (zpc pl = some (Cond.methodLink (zRn o) k Lib.Math.min.name)) && goodWord (Cond.methodLink (zRn o) k Lib.Math.min.name)
    | 13 => decide (zpc pl = some (Cond.methodLink (zRn o) k Lib.Math.abs.name)) && goodWord (Cond.methodLink (zRn o) k Lib.Math.abs.name)
    | 14 => decide (zpc pl = some (Cond.methodLink (zRn o) k arraycopyName)) && goodWord (Cond.methodLink (zRn o) k arraycopyName)
    | _ => decide (kd = 16)
set_option maxRecDepth 20000 in
theorem zmthK0 : (zmthTT.getD 0 []).all (zmthC 0) = true := by decide +kernel
set_option maxRecDepth 20000 in
theorem zmthK1 : (zmthTT.getD 1 []).all (zmthC 1) = true := by decide +kernel
set_option maxRecDepth 20000 in
theorem zmthK2 : (zmthTT.getD 2 []).all (zmthC 2) = true := by decide +kernel
set_option maxRecDepth 20000 in
theorem zmthK3 : (zmthTT.getD 3 []).all (zmthC 3) = true := by decide +kernel
set_option maxRecDepth 20000 in
theorem zmthK4 : (zmthTT.getD 4 []).all (zmthC 4) = true := by decide +kernel
set_option maxRecDepth 20000 in
theorem zmthK5 : (zmthTT.getD 5 []).all (zmthC 5) = true := by decide +kernel
set_option maxRecDepth 20000 in
theorem zmthK6 : (zmthTT.getD 6 []).all (zmthC 6) = true := by decide +kernel
set_option maxRecDepth 20000 in
theorem zmthK7 : (zmthTT.getD 7 []).all (zmthC 7) = true := by decide +kernel
set_option maxRecDepth 20000 in
theorem zmthK8 : (zmthTT.getD 8 []).all (zmthC 8) = true := by decide +kernel
set_option maxRecDepth 20000 in
theorem zmthK9 : (zmthTT.getD 9 []).all (zmthC 9) = true := by decide +kernel
set_option maxRecDepth 20000 in
theorem zmthK10 : (zmthTT.getD 10 []).all (zmthC 10) = true := by decide +kernel
set_option maxRecDepth 20000 in
theorem zmthK11 : (zmthTT.getD 11 []).all (zmthC 11) = true := by decide +kernel
set_option maxRecDepth 20000 in
theorem zmthK12 : (zmthTT.getD 12 []).all (zmthC 12) = true := by decide +kernel
set_option maxRecDepth 20000 in
theorem zmthK13 : (zmthTT.getD 13 []).all (zmthC 13) = true := by decide +kernel
set_option maxRecDepth 20000 in
theorem zmthK14 : (zmthTT.getD 14 []).all (zmthC 14) = true := by decide +kernel
set_option maxRecDepth 20000 in
theorem zmthK15 : (zmthTT.getD 15 []).all (zmthC 15) = true := by decide +kernel
set_option maxRecDepth 20000 in
theorem zmthK16 : (zmthTT.getD 16 []).all (zmthC 16) = true := by decide +kernel
set_option maxRecDepth 20000 in
theorem zmthK17 : (zmthTT.getD 17 []).all (zmthC 17) = true := by decide +kernel
set_option maxRecDepth 20000 in
theorem zmthK18 : (zmthTT.getD 18 []).all (zmthC 18) = true := by decide +kernel
theorem zmthK : ∀ o, o < 19 → (zmthTT.getD o []).all (zmthC o) = true
  | 0, _ => zmthK0
  | 1, _ => zmthK1
  | 2, _ => zmthK2
  | 3, _ => zmthK3
  | 4, _ => zmthK4
  | 5, _ => zmthK5
  | 6, _ => zmthK6
  | 7, _ => zmthK7
  | 8, _ => zmthK8
  | 9, _ => zmthK9
  | 10, _ => zmthK10
  | 11, _ => zmthK11
  | 12, _ => zmthK12
  | 13, _ => zmthK13
  | 14, _ => zmthK14
  | 15, _ => zmthK15
  | 16, _ => zmthK16
  | 17, _ => zmthK17
  | 18, _ => zmthK18
  | _ + 19, h => absurd h (by omega)
set_option maxRecDepth 20000 in
theorem zmM0 : ∀ q ∈ zmthT0, q.2.1 < 5 → zMok q.2.2.2.1 := List.forall_mem_cons.mpr ⟨fun h => absurd h (by decide), fun _ h => absurd h List.not_mem_nil⟩
set_option maxRecDepth 20000 in
theorem zmM1 : ∀ q ∈ zmthT1, q.2.1 < 5 → zMok q.2.2.2.1 := List.forall_mem_cons.mpr ⟨fun h => absurd h (by decide), List.forall_mem_cons.mpr ⟨fun _ => zoJ7_fill_53178, List.forall_mem_cons.mpr ⟨fun _ => zoX1_worth, List.forall_mem_cons.mpr ⟨fun h => absurd h (by decide), List.forall_mem_cons.mpr ⟨fun _ => zoX1_choose, List.forall_mem_cons.mpr ⟨fun _ => zoX1_firstBest, fun _ h => absurd h List.not_mem_nil⟩⟩⟩⟩⟩⟩
set_option maxRecDepth 20000 in
theorem zmM2 : ∀ q ∈ zmthT2, q.2.1 < 5 → zMok q.2.2.2.1 := List.forall_mem_cons.mpr ⟨fun h => absurd h (by decide), List.forall_mem_cons.mpr ⟨fun h => absurd h (by decide), fun _ h => absurd h List.not_mem_nil⟩⟩
set_option maxRecDepth 20000 in
theorem zmM3 : ∀ q ∈ zmthT3, q.2.1 < 5 → zMok q.2.2.2.1 := List.forall_mem_cons.mpr ⟨fun h => absurd h (by decide), List.forall_mem_cons.mpr ⟨fun _ => zoX3_waysOutOf, List.forall_mem_cons.mpr ⟨fun _ => zoJ6_bitCount_0f7a4, List.forall_mem_cons.mpr ⟨fun _ => zoX3_findShortest, List.forall_mem_cons.mpr ⟨fun _ => zoX3_findRests, List.forall_mem_cons.mpr ⟨fun _ => zoX3_nextOf, List.forall_mem_cons.mpr ⟨fun _ => zoJ7_fill_53178, List.forall_mem_cons.mpr ⟨fun h => absurd h (by decide), List.forall_mem_cons.mpr ⟨fun _ => zoX3_daysOver, fun _ h => absurd h List.not_mem_nil⟩⟩⟩⟩⟩⟩⟩⟩⟩
set_option maxRecDepth 20000 in
theorem zmM4 : ∀ q ∈ zmthT4, q.2.1 < 5 → zMok q.2.2.2.1 := List.forall_mem_cons.mpr ⟨fun h => absurd h (by decide), List.forall_mem_cons.mpr ⟨fun _ => zoX9_init, List.forall_mem_cons.mpr ⟨fun _ => zoX10_init, List.forall_mem_cons.mpr ⟨fun _ => zoX0_init, List.forall_mem_cons.mpr ⟨fun _ => zoX8_init, fun _ h => absurd h List.not_mem_nil⟩⟩⟩⟩⟩
set_option maxRecDepth 20000 in
theorem zmM5 : ∀ q ∈ zmthT5, q.2.1 < 5 → zMok q.2.2.2.1 := List.forall_mem_cons.mpr ⟨fun h => absurd h (by decide), List.forall_mem_cons.mpr ⟨fun _ => zoX4_clear, List.forall_mem_cons.mpr ⟨fun h => absurd h (by decide), List.forall_mem_cons.mpr ⟨fun _ => zoX5_readLine, List.forall_mem_cons.mpr ⟨fun _ => zoX5_nextToken, List.forall_mem_cons.mpr ⟨fun _ => zoX5_faulty, List.forall_mem_cons.mpr ⟨fun _ => zoX5_sortOfLine, List.forall_mem_cons.mpr ⟨fun _ => zoX5_readHead, List.forall_mem_cons.mpr ⟨fun _ => zoX5_readIsland, List.forall_mem_cons.mpr ⟨fun _ => zoX5_readWay, List.forall_mem_cons.mpr ⟨fun _ => zoX5_readWhale, List.forall_mem_cons.mpr ⟨fun _ => zoX5_readBox, List.forall_mem_cons.mpr ⟨fun _ => zoX5_readSpout, List.forall_mem_cons.mpr ⟨fun _ => zoX5_word, List.forall_mem_cons.mpr ⟨fun _ => zoX5_whole, List.forall_mem_cons.mpr ⟨fun _ => zoX5_newName, List.forall_mem_cons.mpr ⟨fun _ => zoX5_songOfToken, List.forall_mem_cons.mpr ⟨fun _ => zoX4_hasSong, List.forall_mem_cons.mpr ⟨fun _ => zoX5_toldName, List.forall_mem_cons.mpr ⟨fun _ => zoX4_wayBetween, List.forall_mem_cons.mpr ⟨fun _ => zoX5_kindOfToken, List.forall_mem_cons.mpr ⟨fun _ => zoX4_lastSpoutOf, List.forall_mem_cons.mpr ⟨fun _ => zoX5_isToken, List.forall_mem_cons.mpr ⟨fun _ => zoX5_nameOfToken, List.forall_mem_cons.mpr ⟨fun _ => zoX5_letters, List.forall_mem_cons.mpr ⟨fun _ => zoJ0_length_8abf5, List.forall_mem_cons.mpr ⟨fun _ => zoJ0_charAt_5068e, List.forall_mem_cons.mpr ⟨fun _ => zoX5_passAll, fun _ h => absurd h List.not_mem_nil⟩⟩⟩⟩⟩⟩⟩⟩⟩⟩⟩⟩⟩⟩⟩⟩⟩⟩⟩⟩⟩⟩⟩⟩⟩⟩⟩⟩
set_option maxRecDepth 20000 in
theorem zmM6 : ∀ q ∈ zmthT6, q.2.1 < 5 → zMok q.2.2.2.1 := List.forall_mem_cons.mpr ⟨fun h => absurd h (by decide), List.forall_mem_cons.mpr ⟨fun _ => zoJ7_fill_53178, List.forall_mem_cons.mpr ⟨fun _ => zoX2_isClosed, List.forall_mem_cons.mpr ⟨fun _ => zoX6_goes, List.forall_mem_cons.mpr ⟨fun _ => zoX6_dayOfLeaving, List.forall_mem_cons.mpr ⟨fun _ => zoX6_findFirstDays, List.forall_mem_cons.mpr ⟨fun _ => zoX2_isSent, List.forall_mem_cons.mpr ⟨fun _ => zoX4_boxLength, List.forall_mem_cons.mpr ⟨fun _ => zoX7_hearerOf, List.forall_mem_cons.mpr ⟨fun _ => zoX6_firstDayAt, List.forall_mem_cons.mpr ⟨fun h => absurd h (by decide), List.forall_mem_cons.mpr ⟨fun _ => zoX6_dayOfBringing, List.forall_mem_cons.mpr ⟨fun h => absurd h (by decide), List.forall_mem_cons.mpr ⟨fun _ => zoX6_isFitting, List.forall_mem_cons.mpr ⟨fun _ => zoX4_lastSpoutOf, List.forall_mem_cons.mpr ⟨fun _ => zoX6_fittingWhales, List.forall_mem_cons.mpr ⟨fun _ => zoJ6_bitCount_0f7a4, List.forall_mem_cons.mpr ⟨fun _ => zoX6_whalesReaching, List.forall_mem_cons.mpr ⟨fun h => absurd h (by decide), List.forall_mem_cons.mpr ⟨fun _ => zoX6_islandsReached, fun _ h => absurd h List.not_mem_nil⟩⟩⟩⟩⟩⟩⟩⟩⟩⟩⟩⟩⟩⟩⟩⟩⟩⟩⟩⟩
set_option maxRecDepth 20000 in
theorem zmM7 : ∀ q ∈ zmthT7, q.2.1 < 5 → zMok q.2.2.2.1 := List.forall_mem_cons.mpr ⟨fun h => absurd h (by decide), List.forall_mem_cons.mpr ⟨fun _ => zoX11_noteAt, List.forall_mem_cons.mpr ⟨fun _ => zoX7_fallIn, List.forall_mem_cons.mpr ⟨fun _ => zoX7_raised, List.forall_mem_cons.mpr ⟨fun _ => zoX11_unlikeNotes, List.forall_mem_cons.mpr ⟨fun _ => zoX7_apartness, List.forall_mem_cons.mpr ⟨fun _ => zoX7_keepSongsOf, List.forall_mem_cons.mpr ⟨fun _ => zoX7_isOfNotes, List.forall_mem_cons.mpr ⟨fun _ => zoX7_isFarFromKept, List.forall_mem_cons.mpr ⟨fun _ => zoX7_songIn, List.forall_mem_cons.mpr ⟨fun _ => zoX7_draw, List.forall_mem_cons.mpr ⟨fun _ => zoX11_withNote, fun _ h => absurd h List.not_mem_nil⟩⟩⟩⟩⟩⟩⟩⟩⟩⟩⟩⟩
set_option maxRecDepth 20000 in
theorem zmM8 : ∀ q ∈ zmthT8, q.2.1 < 5 → zMok q.2.2.2.1 := List.forall_mem_cons.mpr ⟨fun h => absurd h (by decide), fun _ h => absurd h List.not_mem_nil⟩
set_option maxRecDepth 20000 in
theorem zmM9 : ∀ q ∈ zmthT9, q.2.1 < 5 → zMok q.2.2.2.1 := List.forall_mem_cons.mpr ⟨fun h => absurd h (by decide), fun _ h => absurd h List.not_mem_nil⟩
set_option maxRecDepth 20000 in
theorem zmM10 : ∀ q ∈ zmthT10, q.2.1 < 5 → zMok q.2.2.2.1 := List.forall_mem_cons.mpr ⟨fun h => absurd h (by decide), fun _ h => absurd h List.not_mem_nil⟩
set_option maxRecDepth 20000 in
theorem zmM11 : ∀ q ∈ zmthT11, q.2.1 < 5 → zMok q.2.2.2.1 := List.forall_mem_cons.mpr ⟨fun h => absurd h (by decide), List.forall_mem_cons.mpr ⟨fun _ => zoX4_init, List.forall_mem_cons.mpr ⟨fun _ => zoX5_init, List.forall_mem_cons.mpr ⟨fun _ => zoX2_init, List.forall_mem_cons.mpr ⟨fun _ => zoX7_init, List.forall_mem_cons.mpr ⟨fun _ => zoX6_init, List.forall_mem_cons.mpr ⟨fun _ => zoX3_init, List.forall_mem_cons.mpr ⟨fun _ => zoX1_init, List.forall_mem_cons.mpr ⟨fun _ => zoX11_appendBytes, List.forall_mem_cons.mpr ⟨fun _ => zoX11_refused, List.forall_mem_cons.mpr ⟨fun _ => zoX5_readPost, List.forall_mem_cons.mpr ⟨fun _ => zoX11_takeDraft, List.forall_mem_cons.mpr ⟨fun _ => zoX11_granted, List.forall_mem_cons.mpr ⟨fun _ => zoX11_isWhale, List.forall_mem_cons.mpr ⟨fun _ => zoX11_isBox, List.forall_mem_cons.mpr ⟨fun _ => zoX11_isIsland, List.forall_mem_cons.mpr ⟨fun _ => zoX7_songIn, List.forall_mem_cons.mpr ⟨fun _ => zoX11_noteAt, List.forall_mem_cons.mpr ⟨fun _ => zoX11_isNoteOfBox, List.forall_mem_cons.mpr ⟨fun _ => zoX4_boxLength, List.forall_mem_cons.mpr ⟨fun _ => zoX11_hearerIn, List.forall_mem_cons.mpr ⟨fun _ => zoX11_areTwoIslands, List.forall_mem_cons.mpr ⟨fun _ => zoX4_wayBetween, List.forall_mem_cons.mpr ⟨fun _ => zoX2_isClosed, List.forall_mem_cons.mpr ⟨fun _ => zoX11_hasPost, List.forall_mem_cons.mpr ⟨fun _ => zoX11_isWithin, List.forall_mem_cons.mpr ⟨fun _ => zoX11_isWay, List.forall_mem_cons.mpr ⟨fun _ => zoX6_dayOfLeaving, List.forall_mem_cons.mpr ⟨fun _ => zoX2_isSent, List.forall_mem_cons.mpr ⟨fun _ => zoX11_sentPart, List.forall_mem_cons.mpr ⟨fun _ => zoX7_apartness, List.forall_mem_cons.mpr ⟨fun _ => zoX7_bearable, List.forall_mem_cons.mpr ⟨fun _ => zoX7_mixedPairs, List.forall_mem_cons.mpr ⟨fun _ => zoX11_refusalOfNewSong, List.forall_mem_cons.mpr ⟨fun _ => zoX7_findNew, List.forall_mem_cons.mpr ⟨fun _ => zoX7_hearerOf, List.forall_mem_cons.mpr ⟨fun _ => zoX6_firstDayAt, List.forall_mem_cons.mpr ⟨fun _ => zoX6_dayOfBringing, List.forall_mem_cons.mpr ⟨fun _ => zoX6_soonestBringer, List.forall_mem_cons.mpr ⟨fun _ => zoX6_surestBringer, List.forall_mem_cons.mpr ⟨fun _ => zoX6_bringersBy, List.forall_mem_cons.mpr ⟨fun _ => zoX11_commonDivisor, List.forall_mem_cons.mpr ⟨fun _ => zoX11_solveMatch, List.forall_mem_cons.mpr ⟨fun _ => zoX6_dayOfMeeting, List.forall_mem_cons.mpr ⟨fun _ => zoX6_fittingWhales, List.forall_mem_cons.mpr ⟨fun _ => zoX6_islandsReached, List.forall_mem_cons.mpr ⟨fun _ => zoX6_bestPier, List.forall_mem_cons.mpr ⟨fun _ => zoX3_fewestToWatch, List.forall_mem_cons.mpr ⟨fun _ => zoX3_findRound, List.forall_mem_cons.mpr ⟨fun _ => zoX11_heardWithSlips, List.forall_mem_cons.mpr ⟨fun _ => zoX11_keepForUndo, List.forall_mem_cons.mpr ⟨fun _ => zoX11_hasRefused, List.forall_mem_cons.mpr ⟨fun _ => zoX11_withNote, List.forall_mem_cons.mpr ⟨fun _ => zoX11_hasGranted, List.forall_mem_cons.mpr ⟨fun _ => zoX2_copyFrom, List.forall_mem_cons.mpr ⟨fun _ => zoX2_begin, List.forall_mem_cons.mpr ⟨fun h => absurd h (by decide), List.forall_mem_cons.mpr ⟨fun _ => zoX7_slipped, List.forall_mem_cons.mpr ⟨fun _ => zoX1_solve, List.forall_mem_cons.mpr ⟨fun h => absurd h (by decide), List.forall_mem_cons.mpr ⟨fun _ => zoJ6_bitCount_0f7a4, fun _ h => absurd h List.not_mem_nil⟩⟩⟩⟩⟩⟩⟩⟩⟩⟩⟩⟩⟩⟩⟩⟩⟩⟩⟩⟩⟩⟩⟩⟩⟩⟩⟩⟩⟩⟩⟩⟩⟩⟩⟩⟩⟩⟩⟩⟩⟩⟩⟩⟩⟩⟩⟩⟩⟩⟩⟩⟩⟩⟩⟩⟩⟩⟩⟩⟩⟩
set_option maxRecDepth 20000 in
theorem zmM12 : ∀ q ∈ zmthT12, q.2.1 < 5 → zMok q.2.2.2.1 := List.forall_mem_cons.mpr ⟨fun h => absurd h (by decide), List.forall_mem_cons.mpr ⟨fun _ => zoX12_look, List.forall_mem_cons.mpr ⟨fun _ => zoX12_isSmall, List.forall_mem_cons.mpr ⟨fun _ => zoX12_isDigit, List.forall_mem_cons.mpr ⟨fun _ => zoJ0_length_8abf5, List.forall_mem_cons.mpr ⟨fun _ => zoJ0_charAt_5068e, List.forall_mem_cons.mpr ⟨fun _ => zoX12_isWord, List.forall_mem_cons.mpr ⟨fun _ => zoX12_next, List.forall_mem_cons.mpr ⟨fun _ => zoX12_takesWord, List.forall_mem_cons.mpr ⟨fun _ => zoX12_wrong, List.forall_mem_cons.mpr ⟨fun _ => zoX12_mustName, List.forall_mem_cons.mpr ⟨fun _ => zoX12_find, List.forall_mem_cons.mpr ⟨fun _ => zoX12_in, List.forall_mem_cons.mpr ⟨fun _ => zoX12_named, List.forall_mem_cons.mpr ⟨fun _ => zoX12_must, List.forall_mem_cons.mpr ⟨fun _ => zoX12_islandPassed, List.forall_mem_cons.mpr ⟨fun _ => zoX12_number, List.forall_mem_cons.mpr ⟨fun _ => zoX12_good, List.forall_mem_cons.mpr ⟨fun _ => zoX12_no, List.forall_mem_cons.mpr ⟨fun _ => zoX12_readLine, List.forall_mem_cons.mpr ⟨fun _ => zoX12_copy, List.forall_mem_cons.mpr ⟨fun _ => zoX12_postLine, List.forall_mem_cons.mpr ⟨fun _ => zoX12_begins, List.forall_mem_cons.mpr ⟨fun _ => zoX12_islandLine, List.forall_mem_cons.mpr ⟨fun _ => zoX12_wayLine, List.forall_mem_cons.mpr ⟨fun _ => zoX12_whaleLine, List.forall_mem_cons.mpr ⟨fun _ => zoX12_boxLine, List.forall_mem_cons.mpr ⟨fun _ => zoX12_spoutLine, List.forall_mem_cons.mpr ⟨fun _ => zoX12_after, List.forall_mem_cons.mpr ⟨fun _ => zoX12_newName, List.forall_mem_cons.mpr ⟨fun _ => zoX12_isSong, List.forall_mem_cons.mpr ⟨fun _ => zoX12_joins, List.forall_mem_cons.mpr ⟨fun _ => zoX12_islandBehind, List.forall_mem_cons.mpr ⟨fun _ => zoX12_ofBox, List.forall_mem_cons.mpr ⟨fun _ => zoX12_songLong, List.forall_mem_cons.mpr ⟨fun _ => zoX12_isWhale, List.forall_mem_cons.mpr ⟨fun _ => zoX12_ofWhale, List.forall_mem_cons.mpr ⟨fun _ => zoX12_isBox, List.forall_mem_cons.mpr ⟨fun _ => zoX12_isIsland, List.forall_mem_cons.mpr ⟨fun _ => zoX12_noteIn, List.forall_mem_cons.mpr ⟨fun _ => zoX12_boxLong, List.forall_mem_cons.mpr ⟨fun _ => zoX12_unlike, List.forall_mem_cons.mpr ⟨fun _ => zoX12_hearsIn, List.forall_mem_cons.mpr ⟨fun _ => zoX12_heardNow, List.forall_mem_cons.mpr ⟨fun _ => zoX12_hasBit, List.forall_mem_cons.mpr ⟨fun _ => zoX12_isClosed, List.forall_mem_cons.mpr ⟨fun _ => zoX12_wayOf, List.forall_mem_cons.mpr ⟨fun _ => zoX12_nearOf, List.forall_mem_cons.mpr ⟨fun _ => zoX12_apartOf, List.forall_mem_cons.mpr ⟨fun _ => zoX12_power, List.forall_mem_cons.mpr ⟨fun _ => zoX12_digitsApart, List.forall_mem_cons.mpr ⟨fun _ => zoX12_songWhy, List.forall_mem_cons.mpr ⟨fun _ => zoX12_newSongs, List.forall_mem_cons.mpr ⟨fun _ => zoX12_hearsItself, List.forall_mem_cons.mpr ⟨fun _ => zoX12_setsOut, List.forall_mem_cons.mpr ⟨fun _ => zoX12_seasonOf, List.forall_mem_cons.mpr ⟨fun _ => zoX12_goesBy, List.forall_mem_cons.mpr ⟨fun _ => zoX12_dayBy, List.forall_mem_cons.mpr ⟨fun _ => zoX12_layDays, List.forall_mem_cons.mpr ⟨fun _ => zoX12_arrivalOf, List.forall_mem_cons.mpr ⟨fun _ => zoX12_later, List.forall_mem_cons.mpr ⟨fun _ => zoX12_lays, List.forall_mem_cons.mpr ⟨fun _ => zoX12_bringsOf, List.forall_mem_cons.mpr ⟨fun _ => zoX12_surestBut, List.forall_mem_cons.mpr ⟨fun _ => zoX12_lowest, List.forall_mem_cons.mpr ⟨fun _ => zoX12_tryMatch, List.forall_mem_cons.mpr ⟨fun _ => zoX12_seekMatch, List.forall_mem_cons.mpr ⟨fun _ => zoX12_fitsAll, List.forall_mem_cons.mpr ⟨fun _ => zoX12_reachOf, List.forall_mem_cons.mpr ⟨fun _ => zoX12_ones, List.forall_mem_cons.mpr ⟨fun _ => zoX12_doLead, List.forall_mem_cons.mpr ⟨fun _ => zoX12_tryRound, List.forall_mem_cons.mpr ⟨fun _ => zoX12_layFar, List.forall_mem_cons.mpr ⟨fun _ => zoX12_seekRound, List.forall_mem_cons.mpr ⟨fun _ => zoX12_note1, List.forall_mem_cons.mpr ⟨fun _ => zoX12_isNot, fun _ h => absurd h List.not_mem_nil⟩⟩⟩⟩⟩⟩⟩⟩⟩⟩⟩⟩⟩⟩⟩⟩⟩⟩⟩⟩⟩⟩⟩⟩⟩⟩⟩⟩⟩⟩⟩⟩⟩⟩⟩⟩⟩⟩⟩⟩⟩⟩⟩⟩⟩⟩⟩⟩⟩⟩⟩⟩⟩⟩⟩⟩⟩⟩⟩⟩⟩⟩⟩⟩⟩⟩⟩⟩⟩⟩⟩⟩⟩⟩⟩⟩
set_option maxRecDepth 20000 in
theorem zmM13 : ∀ q ∈ zmthT13, q.2.1 < 5 → zMok q.2.2.2.1 := List.forall_mem_cons.mpr ⟨fun _ => zoX11_init, List.forall_mem_cons.mpr ⟨fun _ => zoX12_init, List.forall_mem_cons.mpr ⟨fun _ => zoX11_feed, List.forall_mem_cons.mpr ⟨fun _ => zoX12_feed, List.forall_mem_cons.mpr ⟨fun _ => zoX11_post, List.forall_mem_cons.mpr ⟨fun _ => zoX12_post, List.forall_mem_cons.mpr ⟨fun _ => zoX11_fault, List.forall_mem_cons.mpr ⟨fun _ => zoX12_fault, List.forall_mem_cons.mpr ⟨fun _ => zoX11_where, List.forall_mem_cons.mpr ⟨fun _ => zoX12_where, List.forall_mem_cons.mpr ⟨fun _ => zoX11_whale, List.forall_mem_cons.mpr ⟨fun _ => zoX12_whale, List.forall_mem_cons.mpr ⟨fun _ => zoX11_box, List.forall_mem_cons.mpr ⟨fun _ => zoX12_box, List.forall_mem_cons.mpr ⟨fun _ => zoX11_length, List.forall_mem_cons.mpr ⟨fun _ => zoX12_length, List.forall_mem_cons.mpr ⟨fun _ => zoX11_note, List.forall_mem_cons.mpr ⟨fun _ => zoX12_note, List.forall_mem_cons.mpr ⟨fun _ => zoX11_sung, List.forall_mem_cons.mpr ⟨fun _ => zoX12_sung, List.forall_mem_cons.mpr ⟨fun _ => zoX11_heard, List.forall_mem_cons.mpr ⟨fun _ => zoX12_heard, List.forall_mem_cons.mpr ⟨fun _ => zoX11_way, List.forall_mem_cons.mpr ⟨fun _ => zoX12_way, List.forall_mem_cons.mpr ⟨fun _ => zoX11_season, List.forall_mem_cons.mpr ⟨fun _ => zoX12_season, List.forall_mem_cons.mpr ⟨fun _ => zoX11_sets, List.forall_mem_cons.mpr ⟨fun _ => zoX12_sets, List.forall_mem_cons.mpr ⟨fun _ => zoX11_sent, List.forall_mem_cons.mpr ⟨fun _ => zoX12_sent, List.forall_mem_cons.mpr ⟨fun _ => zoX11_apart, List.forall_mem_cons.mpr ⟨fun _ => zoX12_apart, List.forall_mem_cons.mpr ⟨fun _ => zoX11_bear, List.forall_mem_cons.mpr ⟨fun _ => zoX12_bear, List.forall_mem_cons.mpr ⟨fun _ => zoX11_mixed, List.forall_mem_cons.mpr ⟨fun _ => zoX12_mixed, List.forall_mem_cons.mpr ⟨fun _ => zoX11_fresh, List.forall_mem_cons.mpr ⟨fun _ => zoX12_fresh, List.forall_mem_cons.mpr ⟨fun _ => zoX11_byTurns, List.forall_mem_cons.mpr ⟨fun _ => zoX12_byTurns, List.forall_mem_cons.mpr ⟨fun _ => zoX11_near, List.forall_mem_cons.mpr ⟨fun _ => zoX12_near, List.forall_mem_cons.mpr ⟨fun _ => zoX11_asNear, List.forall_mem_cons.mpr ⟨fun _ => zoX12_asNear, List.forall_mem_cons.mpr ⟨fun _ => zoX11_heardIn, List.forall_mem_cons.mpr ⟨fun _ => zoX12_heardIn, List.forall_mem_cons.mpr ⟨fun _ => zoX11_strange, List.forall_mem_cons.mpr ⟨fun _ => zoX12_strange, List.forall_mem_cons.mpr ⟨fun _ => zoX11_arrival, List.forall_mem_cons.mpr ⟨fun _ => zoX12_arrival, List.forall_mem_cons.mpr ⟨fun _ => zoX11_brings, List.forall_mem_cons.mpr ⟨fun _ => zoX12_brings, List.forall_mem_cons.mpr ⟨fun _ => zoX11_soonest, List.forall_mem_cons.mpr ⟨fun _ => zoX12_soonest, List.forall_mem_cons.mpr ⟨fun _ => zoX11_surest, List.forall_mem_cons.mpr ⟨fun _ => zoX12_surest, List.forall_mem_cons.mpr ⟨fun _ => zoX11_by, List.forall_mem_cons.mpr ⟨fun _ => zoX12_by, List.forall_mem_cons.mpr ⟨fun _ => zoX11_registered, List.forall_mem_cons.mpr ⟨fun _ => zoX12_registered, List.forall_mem_cons.mpr ⟨fun _ => zoX11_match, List.forall_mem_cons.mpr ⟨fun _ => zoX12_match, List.forall_mem_cons.mpr ⟨fun _ => zoX11_matchDays, List.forall_mem_cons.mpr ⟨fun _ => zoX12_matchDays, List.forall_mem_cons.mpr ⟨fun _ => zoX11_matchOf, List.forall_mem_cons.mpr ⟨fun _ => zoX12_matchOf, List.forall_mem_cons.mpr ⟨fun _ => zoX11_meet, List.forall_mem_cons.mpr ⟨fun _ => zoX12_meet, List.forall_mem_cons.mpr ⟨fun _ => zoX11_fits, List.forall_mem_cons.mpr ⟨fun _ => zoX12_fits, List.forall_mem_cons.mpr ⟨fun _ => zoX11_reach, List.forall_mem_cons.mpr ⟨fun _ => zoX12_reach, List.forall_mem_cons.mpr ⟨fun _ => zoX11_pier, List.forall_mem_cons.mpr ⟨fun _ => zoX12_pier, List.forall_mem_cons.mpr ⟨fun _ => zoX11_watch, List.forall_mem_cons.mpr ⟨fun _ => zoX12_watch, List.forall_mem_cons.mpr ⟨fun _ => zoX11_round, List.forall_mem_cons.mpr ⟨fun _ => zoX12_round, List.forall_mem_cons.mpr ⟨fun _ => zoX11_roundAt, List.forall_mem_cons.mpr ⟨fun _ => zoX12_roundAt, List.forall_mem_cons.mpr ⟨fun _ => zoX11_decade, List.forall_mem_cons.mpr ⟨fun _ => zoX12_decade, List.forall_mem_cons.mpr ⟨fun _ => zoX11_send, List.forall_mem_cons.mpr ⟨fun _ => zoX12_send, List.forall_mem_cons.mpr ⟨fun _ => zoX11_tune, List.forall_mem_cons.mpr ⟨fun _ => zoX12_tune, List.forall_mem_cons.mpr ⟨fun _ => zoX11_years, List.forall_mem_cons.mpr ⟨fun _ => zoX12_years, List.forall_mem_cons.mpr ⟨fun _ => zoX11_close, List.forall_mem_cons.mpr ⟨fun _ => zoX12_close, List.forall_mem_cons.mpr ⟨fun _ => zoX11_undo, List.forall_mem_cons.mpr ⟨fun _ => zoX12_undo, List.forall_mem_cons.mpr ⟨fun _ => zoX11_image, List.forall_mem_cons.mpr ⟨fun _ => zoX12_image, List.forall_mem_cons.mpr ⟨fun _ => zoX11_back, List.forall_mem_cons.mpr ⟨fun _ => zoX12_back, List.forall_mem_cons.mpr ⟨fun h => absurd h (by decide), List.forall_mem_cons.mpr ⟨fun _ => zoX12_led, List.forall_mem_cons.mpr ⟨fun _ => zoX11_size, List.forall_mem_cons.mpr ⟨fun _ => zoX12_size, List.forall_mem_cons.mpr ⟨fun _ => zoX11_trouble, List.forall_mem_cons.mpr ⟨fun _ => zoX12_trouble, fun _ h => absurd h List.not_mem_nil⟩⟩⟩⟩⟩⟩⟩⟩⟩⟩⟩⟩⟩⟩⟩⟩⟩⟩⟩⟩⟩⟩⟩⟩⟩⟩⟩⟩⟩⟩⟩⟩⟩⟩⟩⟩⟩⟩⟩⟩⟩⟩⟩⟩⟩⟩⟩⟩⟩⟩⟩⟩⟩⟩⟩⟩⟩⟩⟩⟩⟩⟩⟩⟩⟩⟩⟩⟩⟩⟩⟩⟩⟩⟩⟩⟩⟩⟩⟩⟩⟩⟩⟩⟩⟩⟩⟩⟩⟩⟩⟩⟩⟩⟩⟩⟩⟩⟩⟩⟩⟩⟩
set_option maxRecDepth 20000 in
theorem zmM14 : ∀ q ∈ zmthT14, q.2.1 < 5 → zMok q.2.2.2.1 := List.forall_mem_cons.mpr ⟨fun _ => zoJ0_coder_7d493, List.forall_mem_cons.mpr ⟨fun _ => zoJ0_isLatin1_aae02, List.forall_mem_cons.mpr ⟨fun _ => zoJ1_charAt_3b067, List.forall_mem_cons.mpr ⟨fun _ => zoJ3_checkIndex_8e157, fun _ h => absurd h List.not_mem_nil⟩⟩⟩⟩
set_option maxRecDepth 20000 in
theorem zmM15 : ∀ q ∈ zmthT15, q.2.1 < 5 → zMok q.2.2.2.1 := List.forall_mem_cons.mpr ⟨fun _ => zoJ0_checkIndex_df160, fun _ h => absurd h List.not_mem_nil⟩
set_option maxRecDepth 20000 in
theorem zmM16 : ∀ q ∈ zmthT16, q.2.1 < 5 → zMok q.2.2.2.1 := fun _ h => absurd h List.not_mem_nil
set_option maxRecDepth 20000 in
theorem zmM17 : ∀ q ∈ zmthT17, q.2.1 < 5 → zMok q.2.2.2.1 := fun _ h => absurd h List.not_mem_nil
set_option maxRecDepth 20000 in
theorem zmM18 : ∀ q ∈ zmthT18, q.2.1 < 5 → zMok q.2.2.2.1 := fun _ h => absurd h List.not_mem_nil
theorem zmM : ∀ o, o < 19 → ∀ q ∈ zmthTT.getD o [], q.2.1 < 5 → zMok q.2.2.2.1
  | 0, _ => zmM0
  | 1, _ => zmM1
  | 2, _ => zmM2
  | 3, _ => zmM3
  | 4, _ => zmM4
  | 5, _ => zmM5
  | 6, _ => zmM6
  | 7, _ => zmM7
  | 8, _ => zmM8
  | 9, _ => zmM9
  | 10, _ => zmM10
  | 11, _ => zmM11
  | 12, _ => zmM12
  | 13, _ => zmM13
  | 14, _ => zmM14
  | 15, _ => zmM15
  | 16, _ => zmM16
  | 17, _ => zmM17
  | 18, _ => zmM18
  | _ + 19, h => absurd h (by omega)
set_option maxRecDepth 20000 in
theorem zobjK : Cond.instanceMethod Lib.objectInit ∈ zws ∧ Cond.code Lib.objectInit ⟨#[0xb1]⟩ 1 none ∈ zws := ⟨zws_in (i := 1032) (by decide +kernel) (by decide +kernel), zws_in (i := 1033) (by decide +kernel) (by decide +kernel)⟩
set_option maxRecDepth 20000 in
theorem zmaxK : Cond.static Lib.Math.max.name ∈ zws ∧ Cond.initialized "java/lang/Math" ∈ zws ∧ Cond.code Lib.Math.max.name Lib.Math.max.code 2 (some .int) ∈ zws := ⟨zws_in (i := 4217) (by decide +kernel) (by decide +kernel), zws_in (i := 1014) (by decide +kernel) (by decide +kernel), zws_in (i := 4218) (by decide +kernel) (by decide +kernel)⟩
set_option maxRecDepth 20000 in
theorem zminK : Cond.static Lib.Math.min.name ∈ zws ∧ Cond.initialized "java/lang/Math" ∈ zws ∧ Cond.code Lib.Math.min.name Lib.Math.min.code 2 (some .int) ∈ zws := ⟨zws_in (i := 3039) (by decide +kernel) (by decide +kernel), zws_in (i := 1014) (by decide +kernel) (by decide +kernel), zws_in (i := 3040) (by decide +kernel) (by decide +kernel)⟩
set_option maxRecDepth 20000 in
theorem zabsK : Cond.static Lib.Math.abs.name ∈ zws ∧ Cond.initialized "java/lang/Math" ∈ zws ∧ Cond.code Lib.Math.abs.name Lib.Math.abs.code 1 (some .int) ∈ zws := ⟨zws_in (i := 5093) (by decide +kernel) (by decide +kernel), zws_in (i := 1014) (by decide +kernel) (by decide +kernel), zws_in (i := 5094) (by decide +kernel) (by decide +kernel)⟩
set_option maxRecDepth 20000 in
theorem zcpyK : Cond.native arraycopyName ∈ zws ∧ Cond.static arraycopyName ∈ zws ∧ Cond.initialized "java/lang/System" ∈ zws := ⟨zws_in (i := 5174) (by decide +kernel) (by decide +kernel), zws_in (i := 5173) (by decide +kernel) (by decide +kernel), zws_in (i := 1021) (by decide +kernel) (by decide +kernel)⟩
end Pk6
