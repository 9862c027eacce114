set_option maxRecDepth 100000 in
def bX6_fittingWhales : List Nat := [3, 60, 3, 61, 28, 42, 180, 0, 25, 180, 0, 152, 162, 0, 23, 42, 28, 182, 0, 164, 153, 0, 9, 27, 4, 28, 120, 128, 60, 132, 2, 1, 167, 255, 228, 27, 172]
set_option maxRecDepth 100000 in
theorem bbX6_fittingWhales : cX6_fittingWhales.data.toList.map UInt8.toNat = bX6_fittingWhales := by decide +kernel
set_option maxRecDepth 100000 in
def tX6_fittingWhales : Lean.RArray dLf := .branch 17 (.branch 5 (.branch 2 (.branch 1 (.leaf (0, .iconst 0, 1)) (.leaf (1, .istore_n 1, 1))) (.branch 3 (.leaf (2, .iconst 0, 1)) (.branch 4 (.leaf (3, .istore_n 2, 1)) (.leaf (4, .iload_n 2, 1))))) (.branch 12 (.branch 6 (.leaf (5, .aload_n 0, 1)) (.branch 9 (.leaf (6, .getfield 25, 3)) (.leaf (9, .getfield 152, 3)))) (.branch 15 (.leaf (12, .if_icmp .ge 23, 3)) (.branch 16 (.leaf (15, .aload_n 0, 1)) (.leaf (16, .iload_n 2, 1)))))) (.branch 27 (.branch 24 (.branch 20 (.leaf (17, .invokevirtual 164, 3)) (.branch 23 (.leaf (20, .ifCond .eq 9, 3)) (.leaf (23, .iload_n 1, 1)))) (.branch 25 (.leaf (24, .iconst 1, 1)) (.branch 26 (.leaf (25, .iload_n 2, 1)) (.leaf (26, .ishl, 1))))) (.branch 32 (.branch 28 (.leaf (27, .ior, 1)) (.branch 29 (.leaf (28, .istore_n 1, 1)) (.leaf (29, .iinc 2 1, 3)))) (.branch 35 (.leaf (32, .goto (-28), 3)) (.branch 36 (.leaf (35, .iload_n 1, 1)) (.leaf (36, .ireturn, 1))))))
noncomputable def oX6_fittingWhales : List dLf := dFl tX6_fittingWhales
theorem ofX6_fittingWhales : dFl tX6_fittingWhales = oX6_fittingWhales := rfl
set_option maxRecDepth 100000 in
theorem odX6_fittingWhales : ∀ q ∈ oX6_fittingWhales, decode cX6_fittingWhales q.1 = .ok (q.2.1, q.2.2) := q_go qT_ok bbX6_fittingWhales oX6_fittingWhales 0 (by decide +kernel)
set_option maxRecDepth 100000 in
def bX6_isFitting : List Nat := [42, 180, 0, 25, 180, 0, 88, 27, 50, 180, 0, 167, 61, 3, 62, 3, 54, 4, 21, 4, 42, 180, 0, 25, 180, 0, 170, 162, 0, 80, 42, 180, 0, 25, 180, 0, 173, 21, 4, 50, 58, 5, 25, 5, 180, 0, 177, 27, 160, 0, 53, 42, 42, 180, 0, 25, 180, 0, 88, 27, 50, 180, 0, 107, 28, 29, 182, 0, 84, 42, 180, 0, 9, 25, 5, 180, 0, 181, 46, 25, 5, 180, 0, 184, 164, 0, 5, 3, 172, 25, 5, 180, 0, 181, 61, 25, 5, 180, 0, 184, 62, 132, 4, 1, 167, 255, 170, 4, 172]
set_option maxRecDepth 100000 in
theorem bbX6_isFitting : cX6_isFitting.data.toList.map UInt8.toNat = bX6_isFitting := by decide +kernel
set_option maxRecDepth 100000 in
def tX6_isFitting : Lean.RArray dLf := .branch 53 (.branch 24 (.branch 13 (.branch 7 (.branch 1 (.leaf (0, .aload_n 0, 1)) (.branch 4 (.leaf (1, .getfield 25, 3)) (.leaf (4, .getfield 88, 3)))) (.branch 9 (.branch 8 (.leaf (7, .iload_n 1, 1)) (.leaf (8, .aaload, 1))) (.branch 12 (.leaf (9, .getfield 167, 3)) (.leaf (12, .istore_n 2, 1))))) (.branch 16 (.branch 14 (.leaf (13, .iconst 0, 1)) (.branch 15 (.leaf (14, .istore_n 3, 1)) (.leaf (15, .iconst 0, 1)))) (.branch 20 (.branch 18 (.leaf (16, .istore 4, 2)) (.leaf (18, .iload 4, 2))) (.branch 21 (.leaf (20, .aload_n 0, 1)) (.leaf (21, .getfield 25, 3)))))) (.branch 40 (.branch 31 (.branch 27 (.leaf (24, .getfield 170, 3)) (.branch 30 (.leaf (27, .if_icmp .ge 80, 3)) (.leaf (30, .aload_n 0, 1)))) (.branch 37 (.branch 34 (.leaf (31, .getfield 25, 3)) (.leaf (34, .getfield 173, 3))) (.branch 39 (.leaf (37, .iload 4, 2)) (.leaf (39, .aaload, 1))))) (.branch 47 (.branch 42 (.leaf (40, .astore 5, 2)) (.branch 44 (.leaf (42, .aload 5, 2)) (.leaf (44, .getfield 177, 3)))) (.branch 51 (.branch 48 (.leaf (47, .iload_n 1, 1)) (.leaf (48, .if_icmp .ne 53, 3))) (.branch 52 (.leaf (51, .aload_n 0, 1)) (.leaf (52, .aload_n 0, 1))))))) (.branch 81 (.branch 66 (.branch 60 (.branch 56 (.leaf (53, .getfield 25, 3)) (.branch 59 (.leaf (56, .getfield 88, 3)) (.leaf (59, .iload_n 1, 1)))) (.branch 64 (.branch 61 (.leaf (60, .aaload, 1)) (.leaf (61, .getfield 107, 3))) (.branch 65 (.leaf (64, .iload_n 2, 1)) (.leaf (65, .iload_n 3, 1))))) (.branch 73 (.branch 69 (.leaf (66, .invokevirtual 84, 3)) (.branch 70 (.leaf (69, .aload_n 0, 1)) (.leaf (70, .getfield 9, 3)))) (.branch 78 (.branch 75 (.leaf (73, .aload 5, 2)) (.leaf (75, .getfield 181, 3))) (.branch 79 (.leaf (78, .iaload, 1)) (.leaf (79, .aload 5, 2)))))) (.branch 95 (.branch 88 (.branch 84 (.leaf (81, .getfield 184, 3)) (.branch 87 (.leaf (84, .if_icmp .le 5, 3)) (.leaf (87, .iconst 0, 1)))) (.branch 91 (.branch 89 (.leaf (88, .ireturn, 1)) (.leaf (89, .aload 5, 2))) (.branch 94 (.leaf (91, .getfield 181, 3)) (.leaf (94, .istore_n 2, 1))))) (.branch 101 (.branch 97 (.leaf (95, .aload 5, 2)) (.branch 100 (.leaf (97, .getfield 184, 3)) (.leaf (100, .istore_n 3, 1)))) (.branch 107 (.branch 104 (.leaf (101, .iinc 4 1, 3)) (.leaf (104, .goto (-86), 3))) (.branch 108 (.leaf (107, .iconst 1, 1)) (.leaf (108, .ireturn, 1)))))))
noncomputable def oX6_isFitting : List dLf := dFl tX6_isFitting
theorem ofX6_isFitting : dFl tX6_isFitting = oX6_isFitting := rfl
set_option maxRecDepth 100000 in
theorem odX6_isFitting : ∀ q ∈ oX6_isFitting, decode cX6_isFitting q.1 = .ok (q.2.1, q.2.2) := q_go qT_ok bbX6_isFitting oX6_isFitting 0 (by decide +kernel)
set_option maxRecDepth 100000 in
def bX6_islandsReached : List Nat := [42, 180, 0, 25, 27, 182, 0, 185, 62, 29, 16, 254, 160, 0, 18, 42, 180, 0, 25, 180, 0, 88, 27, 50, 180, 0, 167, 167, 0, 15, 42, 180, 0, 25, 180, 0, 173, 29, 50, 180, 0, 181, 54, 4, 42, 42, 180, 0, 25, 180, 0, 88, 27, 50, 180, 0, 107, 21, 4, 29, 16, 254, 160, 0, 7, 3, 167, 0, 15, 42, 180, 0, 25, 180, 0, 173, 29, 50, 180, 0, 184, 182, 0, 84, 3, 54, 5, 3, 54, 6, 21, 6, 42, 180, 0, 25, 180, 0, 44, 162, 0, 29, 42, 180, 0, 9, 21, 6, 46, 28, 163, 0, 12, 21, 5, 4, 21, 6, 120, 128, 54, 5, 132, 6, 1, 167, 255, 221, 21, 5, 172]
set_option maxRecDepth 100000 in
theorem bbX6_islandsReached : cX6_islandsReached.data.toList.map UInt8.toNat = bX6_islandsReached := by decide +kernel
set_option maxRecDepth 100000 in
def tX6_islandsReached : Lean.RArray dLf := .branch 65 (.branch 31 (.branch 15 (.branch 8 (.branch 4 (.branch 1 (.leaf (0, .aload_n 0, 1)) (.leaf (1, .getfield 25, 3))) (.branch 5 (.leaf (4, .iload_n 1, 1)) (.leaf (5, .invokevirtual 185, 3)))) (.branch 10 (.branch 9 (.leaf (8, .istore_n 3, 1)) (.leaf (9, .iload_n 3, 1))) (.branch 12 (.leaf (10, .bipush (-2), 2)) (.leaf (12, .if_icmp .ne 18, 3))))) (.branch 23 (.branch 19 (.branch 16 (.leaf (15, .aload_n 0, 1)) (.leaf (16, .getfield 25, 3))) (.branch 22 (.leaf (19, .getfield 88, 3)) (.leaf (22, .iload_n 1, 1)))) (.branch 27 (.branch 24 (.leaf (23, .aaload, 1)) (.leaf (24, .getfield 167, 3))) (.branch 30 (.leaf (27, .goto 15, 3)) (.leaf (30, .aload_n 0, 1)))))) (.branch 46 (.branch 39 (.branch 37 (.branch 34 (.leaf (31, .getfield 25, 3)) (.leaf (34, .getfield 173, 3))) (.branch 38 (.leaf (37, .iload_n 3, 1)) (.leaf (38, .aaload, 1)))) (.branch 44 (.branch 42 (.leaf (39, .getfield 181, 3)) (.leaf (42, .istore 4, 2))) (.branch 45 (.leaf (44, .aload_n 0, 1)) (.leaf (45, .aload_n 0, 1))))) (.branch 54 (.branch 52 (.branch 49 (.leaf (46, .getfield 25, 3)) (.leaf (49, .getfield 88, 3))) (.branch 53 (.leaf (52, .iload_n 1, 1)) (.leaf (53, .aaload, 1)))) (.branch 59 (.branch 57 (.leaf (54, .getfield 107, 3)) (.leaf (57, .iload 4, 2))) (.branch 60 (.leaf (59, .iload_n 3, 1)) (.branch 62 (.leaf (60, .bipush (-2), 2)) (.leaf (62, .if_icmp .ne 7, 3)))))))) (.branch 99 (.branch 81 (.branch 73 (.branch 69 (.branch 66 (.leaf (65, .iconst 0, 1)) (.leaf (66, .goto 15, 3))) (.branch 70 (.leaf (69, .aload_n 0, 1)) (.leaf (70, .getfield 25, 3)))) (.branch 77 (.branch 76 (.leaf (73, .getfield 173, 3)) (.leaf (76, .iload_n 3, 1))) (.branch 78 (.leaf (77, .aaload, 1)) (.leaf (78, .getfield 184, 3))))) (.branch 88 (.branch 85 (.branch 84 (.leaf (81, .invokevirtual 84, 3)) (.leaf (84, .iconst 0, 1))) (.branch 87 (.leaf (85, .istore 5, 2)) (.leaf (87, .iconst 0, 1)))) (.branch 92 (.branch 90 (.leaf (88, .istore 6, 2)) (.leaf (90, .iload 6, 2))) (.branch 93 (.leaf (92, .aload_n 0, 1)) (.branch 96 (.leaf (93, .getfield 25, 3)) (.leaf (96, .getfield 44, 3))))))) (.branch 115 (.branch 108 (.branch 103 (.branch 102 (.leaf (99, .if_icmp .ge 29, 3)) (.leaf (102, .aload_n 0, 1))) (.branch 106 (.leaf (103, .getfield 9, 3)) (.leaf (106, .iload 6, 2)))) (.branch 110 (.branch 109 (.leaf (108, .iaload, 1)) (.leaf (109, .iload_n 2, 1))) (.branch 113 (.leaf (110, .if_icmp .gt 12, 3)) (.leaf (113, .iload 5, 2))))) (.branch 120 (.branch 118 (.branch 116 (.leaf (115, .iconst 1, 1)) (.leaf (116, .iload 6, 2))) (.branch 119 (.leaf (118, .ishl, 1)) (.leaf (119, .ior, 1)))) (.branch 125 (.branch 122 (.leaf (120, .istore 5, 2)) (.leaf (122, .iinc 6 1, 3))) (.branch 128 (.leaf (125, .goto (-35), 3)) (.branch 130 (.leaf (128, .iload 5, 2)) (.leaf (130, .ireturn, 1))))))))
noncomputable def oX6_islandsReached : List dLf := dFl tX6_islandsReached
theorem ofX6_islandsReached : dFl tX6_islandsReached = oX6_islandsReached := rfl
set_option maxRecDepth 100000 in
theorem odX6_islandsReached : ∀ q ∈ oX6_islandsReached, decode cX6_islandsReached q.1 = .ok (q.2.1, q.2.2) := q_go qT_ok bbX6_islandsReached oX6_islandsReached 0 (by decide +kernel)
set_option maxRecDepth 100000 in
def bX6_bestPier : List Nat := [42, 182, 0, 188, 184, 0, 192, 61, 16, 254, 62, 3, 54, 4, 3, 54, 5, 21, 5, 42, 180, 0, 25, 180, 0, 44, 162, 0, 45, 5, 42, 21, 5, 27, 182, 0, 197, 104, 28, 100, 184, 0, 200, 54, 6, 29, 16, 254, 159, 0, 10, 21, 6, 21, 4, 162, 0, 10, 21, 5, 62, 21, 6, 54, 4, 132, 5, 1, 167, 255, 205, 29, 172]
set_option maxRecDepth 100000 in
theorem bbX6_bestPier : cX6_bestPier.data.toList.map UInt8.toNat = bX6_bestPier := by decide +kernel
set_option maxRecDepth 100000 in
def tX6_bestPier : Lean.RArray dLf := .branch 34 (.branch 15 (.branch 8 (.branch 4 (.branch 1 (.leaf (0, .aload_n 0, 1)) (.leaf (1, .invokevirtual 188, 3))) (.branch 7 (.leaf (4, .invokestatic 192, 3)) (.leaf (7, .istore_n 2, 1)))) (.branch 11 (.branch 10 (.leaf (8, .bipush (-2), 2)) (.leaf (10, .istore_n 3, 1))) (.branch 12 (.leaf (11, .iconst 0, 1)) (.branch 14 (.leaf (12, .istore 4, 2)) (.leaf (14, .iconst 0, 1)))))) (.branch 26 (.branch 19 (.branch 17 (.leaf (15, .istore 5, 2)) (.leaf (17, .iload 5, 2))) (.branch 20 (.leaf (19, .aload_n 0, 1)) (.branch 23 (.leaf (20, .getfield 25, 3)) (.leaf (23, .getfield 44, 3))))) (.branch 30 (.branch 29 (.leaf (26, .if_icmp .ge 45, 3)) (.leaf (29, .iconst 2, 1))) (.branch 31 (.leaf (30, .aload_n 0, 1)) (.branch 33 (.leaf (31, .iload 5, 2)) (.leaf (33, .iload_n 1, 1))))))) (.branch 53 (.branch 43 (.branch 38 (.branch 37 (.leaf (34, .invokevirtual 197, 3)) (.leaf (37, .imul, 1))) (.branch 39 (.leaf (38, .iload_n 2, 1)) (.branch 40 (.leaf (39, .isub, 1)) (.leaf (40, .invokestatic 200, 3))))) (.branch 46 (.branch 45 (.leaf (43, .istore 6, 2)) (.leaf (45, .iload_n 3, 1))) (.branch 48 (.leaf (46, .bipush (-2), 2)) (.branch 51 (.leaf (48, .if_icmp .eq 10, 3)) (.leaf (51, .iload 6, 2)))))) (.branch 63 (.branch 58 (.branch 55 (.leaf (53, .iload 4, 2)) (.leaf (55, .if_icmp .ge 10, 3))) (.branch 60 (.leaf (58, .iload 5, 2)) (.branch 61 (.leaf (60, .istore_n 3, 1)) (.leaf (61, .iload 6, 2))))) (.branch 68 (.branch 65 (.leaf (63, .istore 4, 2)) (.leaf (65, .iinc 5 1, 3))) (.branch 71 (.leaf (68, .goto (-51), 3)) (.branch 72 (.leaf (71, .iload_n 3, 1)) (.leaf (72, .ireturn, 1)))))))
noncomputable def oX6_bestPier : List dLf := dFl tX6_bestPier
theorem ofX6_bestPier : dFl tX6_bestPier = oX6_bestPier := rfl
set_option maxRecDepth 100000 in
theorem odX6_bestPier : ∀ q ∈ oX6_bestPier, decode cX6_bestPier q.1 = .ok (q.2.1, q.2.2) := q_go qT_ok bbX6_bestPier oX6_bestPier 0 (by decide +kernel)
set_option maxRecDepth 100000 in
def bX6_whalesReaching : List Nat := [3, 62, 3, 54, 4, 21, 4, 42, 180, 0, 25, 180, 0, 152, 162, 0, 23, 29, 42, 21, 4, 28, 182, 0, 203, 27, 122, 4, 126, 96, 62, 132, 4, 1, 167, 255, 227, 29, 172]
set_option maxRecDepth 100000 in
theorem bbX6_whalesReaching : cX6_whalesReaching.data.toList.map UInt8.toNat = bX6_whalesReaching := by decide +kernel
set_option maxRecDepth 100000 in
def tX6_whalesReaching : Lean.RArray dLf := .branch 21 (.branch 8 (.branch 3 (.branch 1 (.leaf (0, .iconst 0, 1)) (.branch 2 (.leaf (1, .istore_n 3, 1)) (.leaf (2, .iconst 0, 1)))) (.branch 5 (.leaf (3, .istore 4, 2)) (.branch 7 (.leaf (5, .iload 4, 2)) (.leaf (7, .aload_n 0, 1))))) (.branch 17 (.branch 11 (.leaf (8, .getfield 25, 3)) (.branch 14 (.leaf (11, .getfield 152, 3)) (.leaf (14, .if_icmp .ge 23, 3)))) (.branch 18 (.leaf (17, .iload_n 3, 1)) (.branch 19 (.leaf (18, .aload_n 0, 1)) (.leaf (19, .iload 4, 2)))))) (.branch 29 (.branch 26 (.branch 22 (.leaf (21, .iload_n 2, 1)) (.branch 25 (.leaf (22, .invokevirtual 203, 3)) (.leaf (25, .iload_n 1, 1)))) (.branch 27 (.leaf (26, .ishr, 1)) (.branch 28 (.leaf (27, .iconst 1, 1)) (.leaf (28, .iand, 1))))) (.branch 34 (.branch 30 (.leaf (29, .iadd, 1)) (.branch 31 (.leaf (30, .istore_n 3, 1)) (.leaf (31, .iinc 4 1, 3)))) (.branch 37 (.leaf (34, .goto (-29), 3)) (.branch 38 (.leaf (37, .iload_n 3, 1)) (.leaf (38, .ireturn, 1))))))
noncomputable def oX6_whalesReaching : List dLf := dFl tX6_whalesReaching
theorem ofX6_whalesReaching : dFl tX6_whalesReaching = oX6_whalesReaching := rfl
set_option maxRecDepth 100000 in
theorem odX6_whalesReaching : ∀ q ∈ oX6_whalesReaching, decode cX6_whalesReaching q.1 = .ok (q.2.1, q.2.2) := q_go qT_ok bbX6_whalesReaching oX6_whalesReaching 0 (by decide +kernel)
set_option maxRecDepth 100000 in
def bX7_init : List Nat := [42, 183, 0, 3, 42, 3, 181, 0, 9, 42, 3, 181, 0, 15, 42, 3, 181, 0, 18, 42, 16, 254, 181, 0, 21, 42, 17, 4, 7, 188, 10, 181, 0, 24, 42, 43, 181, 0, 28, 177]
set_option maxRecDepth 100000 in
theorem bbX7_init : cX7_init.data.toList.map UInt8.toNat = bX7_init := by decide +kernel
theorem eX7_init_29 : decode cX7_init 29 = .ok (.newarray .int, 2) := by decide +kernel
set_option maxRecDepth 100000 in
def oX7_inits0 : List dLf := [(0, .aload_n 0, 1), (1, .invokespecial 3, 3), (4, .aload_n 0, 1), (5, .iconst 0, 1), (6, .putfield 9, 3), (9, .aload_n 0, 1), (10, .iconst 0, 1), (11, .putfield 15, 3), (14, .aload_n 0, 1), (15, .iconst 0, 1), (16, .putfield 18, 3), (19, .aload_n 0, 1), (20, .bipush (-2), 2), (22, .putfield 21, 3), (25, .aload_n 0, 1), (26, .sipush 1031, 3)]
set_option maxRecDepth 100000 in
theorem odX7_inits0 : ∀ q ∈ oX7_inits0, decode cX7_init q.1 = .ok (q.2.1, q.2.2) := q_go qT_ok bbX7_init oX7_inits0 0 (by decide +kernel)
set_option maxRecDepth 100000 in
def oX7_inits2 : List dLf := [(31, .putfield 24, 3), (34, .aload_n 0, 1), (35, .aload_n 1, 1), (36, .putfield 28, 3), (39, .return_, 1)]
set_option maxRecDepth 100000 in
theorem odX7_inits2 : ∀ q ∈ oX7_inits2, decode cX7_init q.1 = .ok (q.2.1, q.2.2) := q_go qT_ok bbX7_init oX7_inits2 31 (by decide +kernel)
set_option maxRecDepth 100000 in
def oX7_init : List dLf := [(0, .aload_n 0, 1), (1, .invokespecial 3, 3), (4, .aload_n 0, 1), (5, .iconst 0, 1), (6, .putfield 9, 3), (9, .aload_n 0, 1), (10, .iconst 0, 1), (11, .putfield 15, 3), (14, .aload_n 0, 1), (15, .iconst 0, 1), (16, .putfield 18, 3), (19, .aload_n 0, 1), (20, .bipush (-2), 2), (22, .putfield 21, 3), (25, .aload_n 0, 1), (26, .sipush 1031, 3), (29, .newarray .int, 2), (31, .putfield 24, 3), (34, .aload_n 0, 1), (35, .aload_n 1, 1), (36, .putfield 28, 3), (39, .return_, 1)]
set_option maxRecDepth 100000 in
theorem odX7_init : ∀ q ∈ oX7_init, decode cX7_init q.1 = .ok (q.2.1, q.2.2) := by
  have e : oX7_init = oX7_inits0 ++ ([(29, .newarray .int, 2)] ++ (oX7_inits2)) := rfl
  rw [e]
  exact List.forall_mem_append.mpr ⟨odX7_inits0, List.forall_mem_append.mpr ⟨(List.forall_mem_singleton.mpr eX7_init_29), odX7_inits2⟩⟩
set_option maxRecDepth 100000 in
def tX7_init : Lean.RArray dLf := .branch 19 (.branch 9 (.branch 4 (.branch 1 (.leaf (0, .aload_n 0, 1)) (.leaf (1, .invokespecial 3, 3))) (.branch 5 (.leaf (4, .aload_n 0, 1)) (.branch 6 (.leaf (5, .iconst 0, 1)) (.leaf (6, .putfield 9, 3))))) (.branch 14 (.branch 10 (.leaf (9, .aload_n 0, 1)) (.branch 11 (.leaf (10, .iconst 0, 1)) (.leaf (11, .putfield 15, 3)))) (.branch 15 (.leaf (14, .aload_n 0, 1)) (.branch 16 (.leaf (15, .iconst 0, 1)) (.leaf (16, .putfield 18, 3)))))) (.branch 29 (.branch 22 (.branch 20 (.leaf (19, .aload_n 0, 1)) (.leaf (20, .bipush (-2), 2))) (.branch 25 (.leaf (22, .putfield 21, 3)) (.branch 26 (.leaf (25, .aload_n 0, 1)) (.leaf (26, .sipush 1031, 3))))) (.branch 35 (.branch 31 (.leaf (29, .newarray .int, 2)) (.branch 34 (.leaf (31, .putfield 24, 3)) (.leaf (34, .aload_n 0, 1)))) (.branch 36 (.leaf (35, .aload_n 1, 1)) (.branch 39 (.leaf (36, .putfield 28, 3)) (.leaf (39, .return_, 1))))))
set_option maxRecDepth 100000 in
theorem ofX7_init : dFl tX7_init = oX7_init := rfl
theorem dX7_init_0 : decode cX7_init 0 = .ok (.aload_n 0, 1) := d_by (d_at odX7_init ofX7_init 0) rfl
theorem dX7_init_1 : decode cX7_init 1 = .ok (.invokespecial 3, 3) := d_by (d_at odX7_init ofX7_init 1) rfl
theorem dX7_init_4 : decode cX7_init 4 = .ok (.aload_n 0, 1) := d_by (d_at odX7_init ofX7_init 4) rfl
theorem dX7_init_5 : decode cX7_init 5 = .ok (.iconst 0, 1) := d_by (d_at odX7_init ofX7_init 5) rfl
theorem dX7_init_6 : decode cX7_init 6 = .ok (.putfield 9, 3) := d_by (d_at odX7_init ofX7_init 6) rfl
theorem dX7_init_9 : decode cX7_init 9 = .ok (.aload_n 0, 1) := d_by (d_at odX7_init ofX7_init 9) rfl
theorem dX7_init_10 : decode cX7_init 10 = .ok (.iconst 0, 1) := d_by (d_at odX7_init ofX7_init 10) rfl
theorem dX7_init_11 : decode cX7_init 11 = .ok (.putfield 15, 3) := d_by (d_at odX7_init ofX7_init 11) rfl
theorem dX7_init_14 : decode cX7_init 14 = .ok (.aload_n 0, 1) := d_by (d_at odX7_init ofX7_init 14) rfl
theorem dX7_init_15 : decode cX7_init 15 = .ok (.iconst 0, 1) := d_by (d_at odX7_init ofX7_init 15) rfl
theorem dX7_init_16 : decode cX7_init 16 = .ok (.putfield 18, 3) := d_by (d_at odX7_init ofX7_init 16) rfl
theorem dX7_init_19 : decode cX7_init 19 = .ok (.aload_n 0, 1) := d_by (d_at odX7_init ofX7_init 19) rfl
theorem dX7_init_20 : decode cX7_init 20 = .ok (.bipush (-2), 2) := d_by (d_at odX7_init ofX7_init 20) rfl
theorem dX7_init_22 : decode cX7_init 22 = .ok (.putfield 21, 3) := d_by (d_at odX7_init ofX7_init 22) rfl
theorem dX7_init_25 : decode cX7_init 25 = .ok (.aload_n 0, 1) := d_by (d_at odX7_init ofX7_init 25) rfl
theorem dX7_init_26 : decode cX7_init 26 = .ok (.sipush 1031, 3) := d_by (d_at odX7_init ofX7_init 26) rfl
theorem dX7_init_29 : decode cX7_init 29 = .ok (.newarray .int, 2) := d_by (d_at odX7_init ofX7_init 29) rfl
theorem dX7_init_31 : decode cX7_init 31 = .ok (.putfield 24, 3) := d_by (d_at odX7_init ofX7_init 31) rfl
theorem dX7_init_34 : decode cX7_init 34 = .ok (.aload_n 0, 1) := d_by (d_at odX7_init ofX7_init 34) rfl
theorem dX7_init_35 : decode cX7_init 35 = .ok (.aload_n 1, 1) := d_by (d_at odX7_init ofX7_init 35) rfl
theorem dX7_init_36 : decode cX7_init 36 = .ok (.putfield 28, 3) := d_by (d_at odX7_init ofX7_init 36) rfl
theorem dX7_init_39 : decode cX7_init 39 = .ok (.return_, 1) := d_by (d_at odX7_init ofX7_init 39) rfl
set_option maxRecDepth 100000 in
def bX7_fallIn : List Nat := [42, 180, 0, 28, 180, 0, 32, 158, 0, 33, 42, 180, 0, 28, 180, 0, 37, 158, 0, 23, 27, 42, 180, 0, 28, 180, 0, 32, 108, 42, 180, 0, 28, 180, 0, 37, 112, 167, 0, 4, 3, 172]
set_option maxRecDepth 100000 in
theorem bbX7_fallIn : cX7_fallIn.data.toList.map UInt8.toNat = bX7_fallIn := by decide +kernel
set_option maxRecDepth 100000 in
def tX7_fallIn : Lean.RArray dLf := .branch 22 (.branch 11 (.branch 4 (.branch 1 (.leaf (0, .aload_n 0, 1)) (.leaf (1, .getfield 28, 3))) (.branch 7 (.leaf (4, .getfield 32, 3)) (.branch 10 (.leaf (7, .ifCond .le 33, 3)) (.leaf (10, .aload_n 0, 1))))) (.branch 17 (.branch 14 (.leaf (11, .getfield 28, 3)) (.leaf (14, .getfield 37, 3))) (.branch 20 (.leaf (17, .ifCond .le 23, 3)) (.branch 21 (.leaf (20, .iload_n 1, 1)) (.leaf (21, .aload_n 0, 1)))))) (.branch 33 (.branch 28 (.branch 25 (.leaf (22, .getfield 28, 3)) (.leaf (25, .getfield 32, 3))) (.branch 29 (.leaf (28, .idiv, 1)) (.branch 30 (.leaf (29, .aload_n 0, 1)) (.leaf (30, .getfield 28, 3))))) (.branch 37 (.branch 36 (.leaf (33, .getfield 37, 3)) (.leaf (36, .irem, 1))) (.branch 40 (.leaf (37, .goto 4, 3)) (.branch 41 (.leaf (40, .iconst 0, 1)) (.leaf (41, .ireturn, 1))))))
noncomputable def oX7_fallIn : List dLf := dFl tX7_fallIn
theorem ofX7_fallIn : dFl tX7_fallIn = oX7_fallIn := rfl
set_option maxRecDepth 100000 in
theorem odX7_fallIn : ∀ q ∈ oX7_fallIn, decode cX7_fallIn q.1 = .ok (q.2.1, q.2.2) := q_go qT_ok bbX7_fallIn oX7_fallIn 0 (by decide +kernel)
theorem dX7_fallIn_0 : decode cX7_fallIn 0 = .ok (.aload_n 0, 1) := d_by (d_at odX7_fallIn ofX7_fallIn 0) rfl
theorem dX7_fallIn_1 : decode cX7_fallIn 1 = .ok (.getfield 28, 3) := d_by (d_at odX7_fallIn ofX7_fallIn 1) rfl
theorem dX7_fallIn_4 : decode cX7_fallIn 4 = .ok (.getfield 32, 3) := d_by (d_at odX7_fallIn ofX7_fallIn 4) rfl
theorem dX7_fallIn_7 : decode cX7_fallIn 7 = .ok (.ifCond .le 33, 3) := d_by (d_at odX7_fallIn ofX7_fallIn 7) rfl
theorem dX7_fallIn_10 : decode cX7_fallIn 10 = .ok (.aload_n 0, 1) := d_by (d_at odX7_fallIn ofX7_fallIn 10) rfl
theorem dX7_fallIn_11 : decode cX7_fallIn 11 = .ok (.getfield 28, 3) := d_by (d_at odX7_fallIn ofX7_fallIn 11) rfl
theorem dX7_fallIn_14 : decode cX7_fallIn 14 = .ok (.getfield 37, 3) := d_by (d_at odX7_fallIn ofX7_fallIn 14) rfl
theorem dX7_fallIn_17 : decode cX7_fallIn 17 = .ok (.ifCond .le 23, 3) := d_by (d_at odX7_fallIn ofX7_fallIn 17) rfl
theorem dX7_fallIn_20 : decode cX7_fallIn 20 = .ok (.iload_n 1, 1) := d_by (d_at odX7_fallIn ofX7_fallIn 20) rfl
theorem dX7_fallIn_21 : decode cX7_fallIn 21 = .ok (.aload_n 0, 1) := d_by (d_at odX7_fallIn ofX7_fallIn 21) rfl
theorem dX7_fallIn_22 : decode cX7_fallIn 22 = .ok (.getfield 28, 3) := d_by (d_at odX7_fallIn ofX7_fallIn 22) rfl
theorem dX7_fallIn_25 : decode cX7_fallIn 25 = .ok (.getfield 32, 3) := d_by (d_at odX7_fallIn ofX7_fallIn 25) rfl
theorem dX7_fallIn_28 : decode cX7_fallIn 28 = .ok (.idiv, 1) := d_by (d_at odX7_fallIn ofX7_fallIn 28) rfl
theorem dX7_fallIn_29 : decode cX7_fallIn 29 = .ok (.aload_n 0, 1) := d_by (d_at odX7_fallIn ofX7_fallIn 29) rfl
theorem dX7_fallIn_30 : decode cX7_fallIn 30 = .ok (.getfield 28, 3) := d_by (d_at odX7_fallIn ofX7_fallIn 30) rfl
theorem dX7_fallIn_33 : decode cX7_fallIn 33 = .ok (.getfield 37, 3) := d_by (d_at odX7_fallIn ofX7_fallIn 33) rfl
theorem dX7_fallIn_36 : decode cX7_fallIn 36 = .ok (.irem, 1) := d_by (d_at odX7_fallIn ofX7_fallIn 36) rfl
theorem dX7_fallIn_37 : decode cX7_fallIn 37 = .ok (.goto 4, 3) := d_by (d_at odX7_fallIn ofX7_fallIn 37) rfl
theorem dX7_fallIn_40 : decode cX7_fallIn 40 = .ok (.iconst 0, 1) := d_by (d_at odX7_fallIn ofX7_fallIn 40) rfl
theorem dX7_fallIn_41 : decode cX7_fallIn 41 = .ok (.ireturn, 1) := d_by (d_at odX7_fallIn ofX7_fallIn 41) rfl
set_option maxRecDepth 100000 in
def bX7_raised : List Nat := [29, 153, 0, 13, 42, 180, 0, 28, 180, 0, 37, 157, 0, 5, 27, 172, 3, 54, 4, 3, 54, 5, 21, 5, 28, 162, 0, 33, 21, 4, 5, 120, 27, 28, 21, 5, 184, 0, 40, 29, 96, 42, 180, 0, 28, 180, 0, 37, 112, 128, 54, 4, 132, 5, 1, 167, 255, 223, 21, 4, 172]
set_option maxRecDepth 100000 in
theorem bbX7_raised : cX7_raised.data.toList.map UInt8.toNat = bX7_raised := by decide +kernel
set_option maxRecDepth 100000 in
def tX7_raised : Lean.RArray dLf := .branch 31 (.branch 16 (.branch 8 (.branch 4 (.branch 1 (.leaf (0, .iload_n 3, 1)) (.leaf (1, .ifCond .eq 13, 3))) (.branch 5 (.leaf (4, .aload_n 0, 1)) (.leaf (5, .getfield 28, 3)))) (.branch 14 (.branch 11 (.leaf (8, .getfield 37, 3)) (.leaf (11, .ifCond .gt 5, 3))) (.branch 15 (.leaf (14, .iload_n 1, 1)) (.leaf (15, .ireturn, 1))))) (.branch 22 (.branch 19 (.branch 17 (.leaf (16, .iconst 0, 1)) (.leaf (17, .istore 4, 2))) (.branch 20 (.leaf (19, .iconst 0, 1)) (.leaf (20, .istore 5, 2)))) (.branch 25 (.branch 24 (.leaf (22, .iload 5, 2)) (.leaf (24, .iload_n 2, 1))) (.branch 28 (.leaf (25, .if_icmp .ge 33, 3)) (.branch 30 (.leaf (28, .iload 4, 2)) (.leaf (30, .iconst 2, 1))))))) (.branch 42 (.branch 36 (.branch 33 (.branch 32 (.leaf (31, .ishl, 1)) (.leaf (32, .iload_n 1, 1))) (.branch 34 (.leaf (33, .iload_n 2, 1)) (.leaf (34, .iload 5, 2)))) (.branch 40 (.branch 39 (.leaf (36, .invokestatic 40, 3)) (.leaf (39, .iload_n 3, 1))) (.branch 41 (.leaf (40, .iadd, 1)) (.leaf (41, .aload_n 0, 1))))) (.branch 50 (.branch 48 (.branch 45 (.leaf (42, .getfield 28, 3)) (.leaf (45, .getfield 37, 3))) (.branch 49 (.leaf (48, .irem, 1)) (.leaf (49, .ior, 1)))) (.branch 55 (.branch 52 (.leaf (50, .istore 4, 2)) (.leaf (52, .iinc 5 1, 3))) (.branch 58 (.leaf (55, .goto (-33), 3)) (.branch 60 (.leaf (58, .iload 4, 2)) (.leaf (60, .ireturn, 1)))))))
noncomputable def oX7_raised : List dLf := dFl tX7_raised
theorem ofX7_raised : dFl tX7_raised = oX7_raised := rfl
set_option maxRecDepth 100000 in
theorem odX7_raised : ∀ q ∈ oX7_raised, decode cX7_raised q.1 = .ok (q.2.1, q.2.2) := q_go qT_ok bbX7_raised oX7_raised 0 (by decide +kernel)
theorem dX7_raised_0 : decode cX7_raised 0 = .ok (.iload_n 3, 1) := d_by (d_at odX7_raised ofX7_raised 0) rfl
theorem dX7_raised_1 : decode cX7_raised 1 = .ok (.ifCond .eq 13, 3) := d_by (d_at odX7_raised ofX7_raised 1) rfl
theorem dX7_raised_4 : decode cX7_raised 4 = .ok (.aload_n 0, 1) := d_by (d_at odX7_raised ofX7_raised 4) rfl
theorem dX7_raised_5 : decode cX7_raised 5 = .ok (.getfield 28, 3) := d_by (d_at odX7_raised ofX7_raised 5) rfl
theorem dX7_raised_8 : decode cX7_raised 8 = .ok (.getfield 37, 3) := d_by (d_at odX7_raised ofX7_raised 8) rfl
theorem dX7_raised_11 : decode cX7_raised 11 = .ok (.ifCond .gt 5, 3) := d_by (d_at odX7_raised ofX7_raised 11) rfl
theorem dX7_raised_14 : decode cX7_raised 14 = .ok (.iload_n 1, 1) := d_by (d_at odX7_raised ofX7_raised 14) rfl
theorem dX7_raised_15 : decode cX7_raised 15 = .ok (.ireturn, 1) := d_by (d_at odX7_raised ofX7_raised 15) rfl
theorem dX7_raised_16 : decode cX7_raised 16 = .ok (.iconst 0, 1) := d_by (d_at odX7_raised ofX7_raised 16) rfl
theorem dX7_raised_17 : decode cX7_raised 17 = .ok (.istore 4, 2) := d_by (d_at odX7_raised ofX7_raised 17) rfl
theorem dX7_raised_19 : decode cX7_raised 19 = .ok (.iconst 0, 1) := d_by (d_at odX7_raised ofX7_raised 19) rfl
theorem dX7_raised_20 : decode cX7_raised 20 = .ok (.istore 5, 2) := d_by (d_at odX7_raised ofX7_raised 20) rfl
theorem dX7_raised_22 : decode cX7_raised 22 = .ok (.iload 5, 2) := d_by (d_at odX7_raised ofX7_raised 22) rfl
theorem dX7_raised_24 : decode cX7_raised 24 = .ok (.iload_n 2, 1) := d_by (d_at odX7_raised ofX7_raised 24) rfl
theorem dX7_raised_25 : decode cX7_raised 25 = .ok (.if_icmp .ge 33, 3) := d_by (d_at odX7_raised ofX7_raised 25) rfl
theorem dX7_raised_28 : decode cX7_raised 28 = .ok (.iload 4, 2) := d_by (d_at odX7_raised ofX7_raised 28) rfl
theorem dX7_raised_30 : decode cX7_raised 30 = .ok (.iconst 2, 1) := d_by (d_at odX7_raised ofX7_raised 30) rfl
theorem dX7_raised_31 : decode cX7_raised 31 = .ok (.ishl, 1) := d_by (d_at odX7_raised ofX7_raised 31) rfl
theorem dX7_raised_32 : decode cX7_raised 32 = .ok (.iload_n 1, 1) := d_by (d_at odX7_raised ofX7_raised 32) rfl
theorem dX7_raised_33 : decode cX7_raised 33 = .ok (.iload_n 2, 1) := d_by (d_at odX7_raised ofX7_raised 33) rfl
theorem dX7_raised_34 : decode cX7_raised 34 = .ok (.iload 5, 2) := d_by (d_at odX7_raised ofX7_raised 34) rfl
theorem dX7_raised_36 : decode cX7_raised 36 = .ok (.invokestatic 40, 3) := d_by (d_at odX7_raised ofX7_raised 36) rfl
theorem dX7_raised_39 : decode cX7_raised 39 = .ok (.iload_n 3, 1) := d_by (d_at odX7_raised ofX7_raised 39) rfl
theorem dX7_raised_40 : decode cX7_raised 40 = .ok (.iadd, 1) := d_by (d_at odX7_raised ofX7_raised 40) rfl
theorem dX7_raised_41 : decode cX7_raised 41 = .ok (.aload_n 0, 1) := d_by (d_at odX7_raised ofX7_raised 41) rfl
theorem dX7_raised_42 : decode cX7_raised 42 = .ok (.getfield 28, 3) := d_by (d_at odX7_raised ofX7_raised 42) rfl
theorem dX7_raised_45 : decode cX7_raised 45 = .ok (.getfield 37, 3) := d_by (d_at odX7_raised ofX7_raised 45) rfl
theorem dX7_raised_48 : decode cX7_raised 48 = .ok (.irem, 1) := d_by (d_at odX7_raised ofX7_raised 48) rfl
theorem dX7_raised_49 : decode cX7_raised 49 = .ok (.ior, 1) := d_by (d_at odX7_raised ofX7_raised 49) rfl
theorem dX7_raised_50 : decode cX7_raised 50 = .ok (.istore 4, 2) := d_by (d_at odX7_raised ofX7_raised 50) rfl
theorem dX7_raised_52 : decode cX7_raised 52 = .ok (.iinc 5 1, 3) := d_by (d_at odX7_raised ofX7_raised 52) rfl
theorem dX7_raised_55 : decode cX7_raised 55 = .ok (.goto (-33), 3) := d_by (d_at odX7_raised ofX7_raised 55) rfl
theorem dX7_raised_58 : decode cX7_raised 58 = .ok (.iload 4, 2) := d_by (d_at odX7_raised ofX7_raised 58) rfl
theorem dX7_raised_60 : decode cX7_raised 60 = .ok (.ireturn, 1) := d_by (d_at odX7_raised ofX7_raised 60) rfl
set_option maxRecDepth 100000 in
def bX7_songIn : List Nat := [42, 42, 180, 0, 28, 180, 0, 44, 27, 46, 42, 180, 0, 28, 180, 0, 47, 27, 46, 42, 180, 0, 28, 180, 0, 37, 42, 28, 182, 0, 50, 100, 182, 0, 54, 172]
set_option maxRecDepth 100000 in
theorem bbX7_songIn : cX7_songIn.data.toList.map UInt8.toNat = bX7_songIn := by decide +kernel
set_option maxRecDepth 100000 in
def tX7_songIn : Lean.RArray dLf := .branch 18 (.branch 9 (.branch 2 (.branch 1 (.leaf (0, .aload_n 0, 1)) (.leaf (1, .aload_n 0, 1))) (.branch 5 (.leaf (2, .getfield 28, 3)) (.branch 8 (.leaf (5, .getfield 44, 3)) (.leaf (8, .iload_n 1, 1))))) (.branch 11 (.branch 10 (.leaf (9, .iaload, 1)) (.leaf (10, .aload_n 0, 1))) (.branch 14 (.leaf (11, .getfield 28, 3)) (.branch 17 (.leaf (14, .getfield 47, 3)) (.leaf (17, .iload_n 1, 1)))))) (.branch 27 (.branch 20 (.branch 19 (.leaf (18, .iaload, 1)) (.leaf (19, .aload_n 0, 1))) (.branch 23 (.leaf (20, .getfield 28, 3)) (.branch 26 (.leaf (23, .getfield 37, 3)) (.leaf (26, .aload_n 0, 1))))) (.branch 31 (.branch 28 (.leaf (27, .iload_n 2, 1)) (.leaf (28, .invokevirtual 50, 3))) (.branch 32 (.leaf (31, .isub, 1)) (.branch 35 (.leaf (32, .invokevirtual 54, 3)) (.leaf (35, .ireturn, 1))))))
noncomputable def oX7_songIn : List dLf := dFl tX7_songIn
theorem ofX7_songIn : dFl tX7_songIn = oX7_songIn := rfl
set_option maxRecDepth 100000 in
theorem odX7_songIn : ∀ q ∈ oX7_songIn, decode cX7_songIn q.1 = .ok (q.2.1, q.2.2) := q_go qT_ok bbX7_songIn oX7_songIn 0 (by decide +kernel)
theorem dX7_songIn_0 : decode cX7_songIn 0 = .ok (.aload_n 0, 1) := d_by (d_at odX7_songIn ofX7_songIn 0) rfl
theorem dX7_songIn_1 : decode cX7_songIn 1 = .ok (.aload_n 0, 1) := d_by (d_at odX7_songIn ofX7_songIn 1) rfl
theorem dX7_songIn_2 : decode cX7_songIn 2 = .ok (.getfield 28, 3) := d_by (d_at odX7_songIn ofX7_songIn 2) rfl
theorem dX7_songIn_5 : decode cX7_songIn 5 = .ok (.getfield 44, 3) := d_by (d_at odX7_songIn ofX7_songIn 5) rfl
theorem dX7_songIn_8 : decode cX7_songIn 8 = .ok (.iload_n 1, 1) := d_by (d_at odX7_songIn ofX7_songIn 8) rfl
theorem dX7_songIn_9 : decode cX7_songIn 9 = .ok (.iaload, 1) := d_by (d_at odX7_songIn ofX7_songIn 9) rfl
theorem dX7_songIn_10 : decode cX7_songIn 10 = .ok (.aload_n 0, 1) := d_by (d_at odX7_songIn ofX7_songIn 10) rfl
theorem dX7_songIn_11 : decode cX7_songIn 11 = .ok (.getfield 28, 3) := d_by (d_at odX7_songIn ofX7_songIn 11) rfl
theorem dX7_songIn_14 : decode cX7_songIn 14 = .ok (.getfield 47, 3) := d_by (d_at odX7_songIn ofX7_songIn 14) rfl
theorem dX7_songIn_17 : decode cX7_songIn 17 = .ok (.iload_n 1, 1) := d_by (d_at odX7_songIn ofX7_songIn 17) rfl
theorem dX7_songIn_18 : decode cX7_songIn 18 = .ok (.iaload, 1) := d_by (d_at odX7_songIn ofX7_songIn 18) rfl
theorem dX7_songIn_19 : decode cX7_songIn 19 = .ok (.aload_n 0, 1) := d_by (d_at odX7_songIn ofX7_songIn 19) rfl
theorem dX7_songIn_20 : decode cX7_songIn 20 = .ok (.getfield 28, 3) := d_by (d_at odX7_songIn ofX7_songIn 20) rfl
theorem dX7_songIn_23 : decode cX7_songIn 23 = .ok (.getfield 37, 3) := d_by (d_at odX7_songIn ofX7_songIn 23) rfl
theorem dX7_songIn_26 : decode cX7_songIn 26 = .ok (.aload_n 0, 1) := d_by (d_at odX7_songIn ofX7_songIn 26) rfl
theorem dX7_songIn_27 : decode cX7_songIn 27 = .ok (.iload_n 2, 1) := d_by (d_at odX7_songIn ofX7_songIn 27) rfl
theorem dX7_songIn_28 : decode cX7_songIn 28 = .ok (.invokevirtual 50, 3) := d_by (d_at odX7_songIn ofX7_songIn 28) rfl
theorem dX7_songIn_31 : decode cX7_songIn 31 = .ok (.isub, 1) := d_by (d_at odX7_songIn ofX7_songIn 31) rfl
theorem dX7_songIn_32 : decode cX7_songIn 32 = .ok (.invokevirtual 54, 3) := d_by (d_at odX7_songIn ofX7_songIn 32) rfl
theorem dX7_songIn_35 : decode cX7_songIn 35 = .ok (.ireturn, 1) := d_by (d_at odX7_songIn ofX7_songIn 35) rfl
set_option maxRecDepth 100000 in
def bX7_hearerOf : List Nat := [42, 27, 28, 42, 29, 182, 0, 50, 182, 0, 54, 54, 4, 16, 254, 54, 5, 42, 28, 4, 96, 181, 0, 15, 42, 3, 181, 0, 18, 3, 54, 6, 21, 6, 42, 180, 0, 28, 180, 0, 57, 162, 0, 83, 42, 180, 0, 28, 180, 0, 47, 21, 6, 46, 28, 160, 0, 63, 21, 4, 42, 180, 0, 28, 180, 0, 44, 21, 6, 46, 184, 0, 60, 54, 7, 21, 7, 42, 180, 0, 15, 162, 0, 18, 42, 21, 7, 181, 0, 15, 42, 3, 181, 0, 18, 21, 6, 54, 5, 21, 7, 42, 180, 0, 15, 160, 0, 13, 42, 89, 180, 0, 18, 4, 96, 181, 0, 18, 132, 6, 1, 167, 255, 167, 42, 180, 0, 18, 4, 160, 0, 22, 42, 180, 0, 15, 42, 180, 0, 28, 180, 0, 64, 163, 0, 8, 21, 5, 167, 0, 5, 16, 254, 172]
set_option maxRecDepth 100000 in
theorem bbX7_hearerOf : cX7_hearerOf.data.toList.map UInt8.toNat = bX7_hearerOf := by decide +kernel
set_option maxRecDepth 100000 in
def tX7_hearerOf : Lean.RArray dLf := .branch 73 (.branch 30 (.branch 15 (.branch 4 (.branch 2 (.branch 1 (.leaf (0, .aload_n 0, 1)) (.leaf (1, .iload_n 1, 1))) (.branch 3 (.leaf (2, .iload_n 2, 1)) (.leaf (3, .aload_n 0, 1)))) (.branch 8 (.branch 5 (.leaf (4, .iload_n 3, 1)) (.leaf (5, .invokevirtual 50, 3))) (.branch 11 (.leaf (8, .invokevirtual 54, 3)) (.branch 13 (.leaf (11, .istore 4, 2)) (.leaf (13, .bipush (-2), 2)))))) (.branch 21 (.branch 18 (.branch 17 (.leaf (15, .istore 5, 2)) (.leaf (17, .aload_n 0, 1))) (.branch 19 (.leaf (18, .iload_n 2, 1)) (.branch 20 (.leaf (19, .iconst 1, 1)) (.leaf (20, .iadd, 1))))) (.branch 25 (.branch 24 (.leaf (21, .putfield 15, 3)) (.leaf (24, .aload_n 0, 1))) (.branch 26 (.leaf (25, .iconst 0, 1)) (.branch 29 (.leaf (26, .putfield 18, 3)) (.leaf (29, .iconst 0, 1))))))) (.branch 53 (.branch 41 (.branch 34 (.branch 32 (.leaf (30, .istore 6, 2)) (.leaf (32, .iload 6, 2))) (.branch 35 (.leaf (34, .aload_n 0, 1)) (.branch 38 (.leaf (35, .getfield 28, 3)) (.leaf (38, .getfield 57, 3))))) (.branch 45 (.branch 44 (.leaf (41, .if_icmp .ge 83, 3)) (.leaf (44, .aload_n 0, 1))) (.branch 48 (.leaf (45, .getfield 28, 3)) (.branch 51 (.leaf (48, .getfield 47, 3)) (.leaf (51, .iload 6, 2)))))) (.branch 61 (.branch 55 (.branch 54 (.leaf (53, .iaload, 1)) (.leaf (54, .iload_n 2, 1))) (.branch 58 (.leaf (55, .if_icmp .ne 63, 3)) (.branch 60 (.leaf (58, .iload 4, 2)) (.leaf (60, .aload_n 0, 1))))) (.branch 67 (.branch 64 (.leaf (61, .getfield 28, 3)) (.leaf (64, .getfield 44, 3))) (.branch 69 (.leaf (67, .iload 6, 2)) (.branch 70 (.leaf (69, .iaload, 1)) (.leaf (70, .invokestatic 60, 3)))))))) (.branch 110 (.branch 91 (.branch 81 (.branch 77 (.branch 75 (.leaf (73, .istore 7, 2)) (.leaf (75, .iload 7, 2))) (.branch 78 (.leaf (77, .aload_n 0, 1)) (.leaf (78, .getfield 15, 3)))) (.branch 85 (.branch 84 (.leaf (81, .if_icmp .ge 18, 3)) (.leaf (84, .aload_n 0, 1))) (.branch 87 (.leaf (85, .iload 7, 2)) (.branch 90 (.leaf (87, .putfield 15, 3)) (.leaf (90, .aload_n 0, 1)))))) (.branch 101 (.branch 95 (.branch 92 (.leaf (91, .iconst 0, 1)) (.leaf (92, .putfield 18, 3))) (.branch 97 (.leaf (95, .iload 6, 2)) (.branch 99 (.leaf (97, .istore 5, 2)) (.leaf (99, .iload 7, 2))))) (.branch 105 (.branch 102 (.leaf (101, .aload_n 0, 1)) (.leaf (102, .getfield 15, 3))) (.branch 108 (.leaf (105, .if_icmp .ne 13, 3)) (.branch 109 (.leaf (108, .aload_n 0, 1)) (.leaf (109, .dup, 1))))))) (.branch 132 (.branch 121 (.branch 114 (.branch 113 (.leaf (110, .getfield 18, 3)) (.leaf (113, .iconst 1, 1))) (.branch 115 (.leaf (114, .iadd, 1)) (.branch 118 (.leaf (115, .putfield 18, 3)) (.leaf (118, .iinc 6 1, 3))))) (.branch 125 (.branch 124 (.leaf (121, .goto (-89), 3)) (.leaf (124, .aload_n 0, 1))) (.branch 128 (.leaf (125, .getfield 18, 3)) (.branch 129 (.leaf (128, .iconst 1, 1)) (.leaf (129, .if_icmp .ne 22, 3)))))) (.branch 143 (.branch 136 (.branch 133 (.leaf (132, .aload_n 0, 1)) (.leaf (133, .getfield 15, 3))) (.branch 137 (.leaf (136, .aload_n 0, 1)) (.branch 140 (.leaf (137, .getfield 28, 3)) (.leaf (140, .getfield 64, 3))))) (.branch 148 (.branch 146 (.leaf (143, .if_icmp .gt 8, 3)) (.leaf (146, .iload 5, 2))) (.branch 151 (.leaf (148, .goto 5, 3)) (.branch 153 (.leaf (151, .bipush (-2), 2)) (.leaf (153, .ireturn, 1))))))))
noncomputable def oX7_hearerOf : List dLf := dFl tX7_hearerOf
theorem ofX7_hearerOf : dFl tX7_hearerOf = oX7_hearerOf := rfl
set_option maxRecDepth 100000 in
theorem odX7_hearerOf : ∀ q ∈ oX7_hearerOf, decode cX7_hearerOf q.1 = .ok (q.2.1, q.2.2) := q_go qT_ok bbX7_hearerOf oX7_hearerOf 0 (by decide +kernel)
theorem dX7_hearerOf_0 : decode cX7_hearerOf 0 = .ok (.aload_n 0, 1) := d_by (d_at odX7_hearerOf ofX7_hearerOf 0) rfl
theorem dX7_hearerOf_1 : decode cX7_hearerOf 1 = .ok (.iload_n 1, 1) := d_by (d_at odX7_hearerOf ofX7_hearerOf 1) rfl
theorem dX7_hearerOf_2 : decode cX7_hearerOf 2 = .ok (.iload_n 2, 1) := d_by (d_at odX7_hearerOf ofX7_hearerOf 2) rfl
theorem dX7_hearerOf_3 : decode cX7_hearerOf 3 = .ok (.aload_n 0, 1) := d_by (d_at odX7_hearerOf ofX7_hearerOf 3) rfl
theorem dX7_hearerOf_4 : decode cX7_hearerOf 4 = .ok (.iload_n 3, 1) := d_by (d_at odX7_hearerOf ofX7_hearerOf 4) rfl
theorem dX7_hearerOf_5 : decode cX7_hearerOf 5 = .ok (.invokevirtual 50, 3) := d_by (d_at odX7_hearerOf ofX7_hearerOf 5) rfl
theorem dX7_hearerOf_8 : decode cX7_hearerOf 8 = .ok (.invokevirtual 54, 3) := d_by (d_at odX7_hearerOf ofX7_hearerOf 8) rfl
theorem dX7_hearerOf_11 : decode cX7_hearerOf 11 = .ok (.istore 4, 2) := d_by (d_at odX7_hearerOf ofX7_hearerOf 11) rfl
theorem dX7_hearerOf_13 : decode cX7_hearerOf 13 = .ok (.bipush (-2), 2) := d_by (d_at odX7_hearerOf ofX7_hearerOf 13) rfl
theorem dX7_hearerOf_15 : decode cX7_hearerOf 15 = .ok (.istore 5, 2) := d_by (d_at odX7_hearerOf ofX7_hearerOf 15) rfl
theorem dX7_hearerOf_17 : decode cX7_hearerOf 17 = .ok (.aload_n 0, 1) := d_by (d_at odX7_hearerOf ofX7_hearerOf 17) rfl
theorem dX7_hearerOf_18 : decode cX7_hearerOf 18 = .ok (.iload_n 2, 1) := d_by (d_at odX7_hearerOf ofX7_hearerOf 18) rfl
theorem dX7_hearerOf_19 : decode cX7_hearerOf 19 = .ok (.iconst 1, 1) := d_by (d_at odX7_hearerOf ofX7_hearerOf 19) rfl
theorem dX7_hearerOf_20 : decode cX7_hearerOf 20 = .ok (.iadd, 1) := d_by (d_at odX7_hearerOf ofX7_hearerOf 20) rfl
theorem dX7_hearerOf_21 : decode cX7_hearerOf 21 = .ok (.putfield 15, 3) := d_by (d_at odX7_hearerOf ofX7_hearerOf 21) rfl
theorem dX7_hearerOf_24 : decode cX7_hearerOf 24 = .ok (.aload_n 0, 1) := d_by (d_at odX7_hearerOf ofX7_hearerOf 24) rfl
theorem dX7_hearerOf_25 : decode cX7_hearerOf 25 = .ok (.iconst 0, 1) := d_by (d_at odX7_hearerOf ofX7_hearerOf 25) rfl
theorem dX7_hearerOf_26 : decode cX7_hearerOf 26 = .ok (.putfield 18, 3) := d_by (d_at odX7_hearerOf ofX7_hearerOf 26) rfl
theorem dX7_hearerOf_29 : decode cX7_hearerOf 29 = .ok (.iconst 0, 1) := d_by (d_at odX7_hearerOf ofX7_hearerOf 29) rfl
theorem dX7_hearerOf_30 : decode cX7_hearerOf 30 = .ok (.istore 6, 2) := d_by (d_at odX7_hearerOf ofX7_hearerOf 30) rfl
theorem dX7_hearerOf_32 : decode cX7_hearerOf 32 = .ok (.iload 6, 2) := d_by (d_at odX7_hearerOf ofX7_hearerOf 32) rfl
theorem dX7_hearerOf_34 : decode cX7_hearerOf 34 = .ok (.aload_n 0, 1) := d_by (d_at odX7_hearerOf ofX7_hearerOf 34) rfl
theorem dX7_hearerOf_35 : decode cX7_hearerOf 35 = .ok (.getfield 28, 3) := d_by (d_at odX7_hearerOf ofX7_hearerOf 35) rfl
theorem dX7_hearerOf_38 : decode cX7_hearerOf 38 = .ok (.getfield 57, 3) := d_by (d_at odX7_hearerOf ofX7_hearerOf 38) rfl
theorem dX7_hearerOf_41 : decode cX7_hearerOf 41 = .ok (.if_icmp .ge 83, 3) := d_by (d_at odX7_hearerOf ofX7_hearerOf 41) rfl
theorem dX7_hearerOf_44 : decode cX7_hearerOf 44 = .ok (.aload_n 0, 1) := d_by (d_at odX7_hearerOf ofX7_hearerOf 44) rfl
theorem dX7_hearerOf_45 : decode cX7_hearerOf 45 = .ok (.getfield 28, 3) := d_by (d_at odX7_hearerOf ofX7_hearerOf 45) rfl
theorem dX7_hearerOf_48 : decode cX7_hearerOf 48 = .ok (.getfield 47, 3) := d_by (d_at odX7_hearerOf ofX7_hearerOf 48) rfl
theorem dX7_hearerOf_51 : decode cX7_hearerOf 51 = .ok (.iload 6, 2) := d_by (d_at odX7_hearerOf ofX7_hearerOf 51) rfl
theorem dX7_hearerOf_53 : decode cX7_hearerOf 53 = .ok (.iaload, 1) := d_by (d_at odX7_hearerOf ofX7_hearerOf 53) rfl
theorem dX7_hearerOf_54 : decode cX7_hearerOf 54 = .ok (.iload_n 2, 1) := d_by (d_at odX7_hearerOf ofX7_hearerOf 54) rfl
theorem dX7_hearerOf_55 : decode cX7_hearerOf 55 = .ok (.if_icmp .ne 63, 3) := d_by (d_at odX7_hearerOf ofX7_hearerOf 55) rfl
theorem dX7_hearerOf_58 : decode cX7_hearerOf 58 = .ok (.iload 4, 2) := d_by (d_at odX7_hearerOf ofX7_hearerOf 58) rfl
theorem dX7_hearerOf_60 : decode cX7_hearerOf 60 = .ok (.aload_n 0, 1) := d_by (d_at odX7_hearerOf ofX7_hearerOf 60) rfl
theorem dX7_hearerOf_61 : decode cX7_hearerOf 61 = .ok (.getfield 28, 3) := d_by (d_at odX7_hearerOf ofX7_hearerOf 61) rfl
theorem dX7_hearerOf_64 : decode cX7_hearerOf 64 = .ok (.getfield 44, 3) := d_by (d_at odX7_hearerOf ofX7_hearerOf 64) rfl
theorem dX7_hearerOf_67 : decode cX7_hearerOf 67 = .ok (.iload 6, 2) := d_by (d_at odX7_hearerOf ofX7_hearerOf 67) rfl
theorem dX7_hearerOf_69 : decode cX7_hearerOf 69 = .ok (.iaload, 1) := d_by (d_at odX7_hearerOf ofX7_hearerOf 69) rfl
theorem dX7_hearerOf_70 : decode cX7_hearerOf 70 = .ok (.invokestatic 60, 3) := d_by (d_at odX7_hearerOf ofX7_hearerOf 70) rfl
theorem dX7_hearerOf_73 : decode cX7_hearerOf 73 = .ok (.istore 7, 2) := d_by (d_at odX7_hearerOf ofX7_hearerOf 73) rfl
theorem dX7_hearerOf_75 : decode cX7_hearerOf 75 = .ok (.iload 7, 2) := d_by (d_at odX7_hearerOf ofX7_hearerOf 75) rfl
theorem dX7_hearerOf_77 : decode cX7_hearerOf 77 = .ok (.aload_n 0, 1) := d_by (d_at odX7_hearerOf ofX7_hearerOf 77) rfl
theorem dX7_hearerOf_78 : decode cX7_hearerOf 78 = .ok (.getfield 15, 3) := d_by (d_at odX7_hearerOf ofX7_hearerOf 78) rfl
theorem dX7_hearerOf_81 : decode cX7_hearerOf 81 = .ok (.if_icmp .ge 18, 3) := d_by (d_at odX7_hearerOf ofX7_hearerOf 81) rfl
theorem dX7_hearerOf_84 : decode cX7_hearerOf 84 = .ok (.aload_n 0, 1) := d_by (d_at odX7_hearerOf ofX7_hearerOf 84) rfl
theorem dX7_hearerOf_85 : decode cX7_hearerOf 85 = .ok (.iload 7, 2) := d_by (d_at odX7_hearerOf ofX7_hearerOf 85) rfl
theorem dX7_hearerOf_87 : decode cX7_hearerOf 87 = .ok (.putfield 15, 3) := d_by (d_at odX7_hearerOf ofX7_hearerOf 87) rfl
theorem dX7_hearerOf_90 : decode cX7_hearerOf 90 = .ok (.aload_n 0, 1) := d_by (d_at odX7_hearerOf ofX7_hearerOf 90) rfl
theorem dX7_hearerOf_91 : decode cX7_hearerOf 91 = .ok (.iconst 0, 1) := d_by (d_at odX7_hearerOf ofX7_hearerOf 91) rfl
theorem dX7_hearerOf_92 : decode cX7_hearerOf 92 = .ok (.putfield 18, 3) := d_by (d_at odX7_hearerOf ofX7_hearerOf 92) rfl
theorem dX7_hearerOf_95 : decode cX7_hearerOf 95 = .ok (.iload 6, 2) := d_by (d_at odX7_hearerOf ofX7_hearerOf 95) rfl
theorem dX7_hearerOf_97 : decode cX7_hearerOf 97 = .ok (.istore 5, 2) := d_by (d_at odX7_hearerOf ofX7_hearerOf 97) rfl
theorem dX7_hearerOf_99 : decode cX7_hearerOf 99 = .ok (.iload 7, 2) := d_by (d_at odX7_hearerOf ofX7_hearerOf 99) rfl
theorem dX7_hearerOf_101 : decode cX7_hearerOf 101 = .ok (.aload_n 0, 1) := d_by (d_at odX7_hearerOf ofX7_hearerOf 101) rfl
theorem dX7_hearerOf_102 : decode cX7_hearerOf 102 = .ok (.getfield 15, 3) := d_by (d_at odX7_hearerOf ofX7_hearerOf 102) rfl
theorem dX7_hearerOf_105 : decode cX7_hearerOf 105 = .ok (.if_icmp .ne 13, 3) := d_by (d_at odX7_hearerOf ofX7_hearerOf 105) rfl
theorem dX7_hearerOf_108 : decode cX7_hearerOf 108 = .ok (.aload_n 0, 1) := d_by (d_at odX7_hearerOf ofX7_hearerOf 108) rfl
theorem dX7_hearerOf_109 : decode cX7_hearerOf 109 = .ok (.dup, 1) := d_by (d_at odX7_hearerOf ofX7_hearerOf 109) rfl
theorem dX7_hearerOf_110 : decode cX7_hearerOf 110 = .ok (.getfield 18, 3) := d_by (d_at odX7_hearerOf ofX7_hearerOf 110) rfl
theorem dX7_hearerOf_113 : decode cX7_hearerOf 113 = .ok (.iconst 1, 1) := d_by (d_at odX7_hearerOf ofX7_hearerOf 113) rfl
theorem dX7_hearerOf_114 : decode cX7_hearerOf 114 = .ok (.iadd, 1) := d_by (d_at odX7_hearerOf ofX7_hearerOf 114) rfl
theorem dX7_hearerOf_115 : decode cX7_hearerOf 115 = .ok (.putfield 18, 3) := d_by (d_at odX7_hearerOf ofX7_hearerOf 115) rfl
theorem dX7_hearerOf_118 : decode cX7_hearerOf 118 = .ok (.iinc 6 1, 3) := d_by (d_at odX7_hearerOf ofX7_hearerOf 118) rfl
theorem dX7_hearerOf_121 : decode cX7_hearerOf 121 = .ok (.goto (-89), 3) := d_by (d_at odX7_hearerOf ofX7_hearerOf 121) rfl
theorem dX7_hearerOf_124 : decode cX7_hearerOf 124 = .ok (.aload_n 0, 1) := d_by (d_at odX7_hearerOf ofX7_hearerOf 124) rfl
theorem dX7_hearerOf_125 : decode cX7_hearerOf 125 = .ok (.getfield 18, 3) := d_by (d_at odX7_hearerOf ofX7_hearerOf 125) rfl
theorem dX7_hearerOf_128 : decode cX7_hearerOf 128 = .ok (.iconst 1, 1) := d_by (d_at odX7_hearerOf ofX7_hearerOf 128) rfl
theorem dX7_hearerOf_129 : decode cX7_hearerOf 129 = .ok (.if_icmp .ne 22, 3) := d_by (d_at odX7_hearerOf ofX7_hearerOf 129) rfl
theorem dX7_hearerOf_132 : decode cX7_hearerOf 132 = .ok (.aload_n 0, 1) := d_by (d_at odX7_hearerOf ofX7_hearerOf 132) rfl
theorem dX7_hearerOf_133 : decode cX7_hearerOf 133 = .ok (.getfield 15, 3) := d_by (d_at odX7_hearerOf ofX7_hearerOf 133) rfl
theorem dX7_hearerOf_136 : decode cX7_hearerOf 136 = .ok (.aload_n 0, 1) := d_by (d_at odX7_hearerOf ofX7_hearerOf 136) rfl
theorem dX7_hearerOf_137 : decode cX7_hearerOf 137 = .ok (.getfield 28, 3) := d_by (d_at odX7_hearerOf ofX7_hearerOf 137) rfl
theorem dX7_hearerOf_140 : decode cX7_hearerOf 140 = .ok (.getfield 64, 3) := d_by (d_at odX7_hearerOf ofX7_hearerOf 140) rfl
theorem dX7_hearerOf_143 : decode cX7_hearerOf 143 = .ok (.if_icmp .gt 8, 3) := d_by (d_at odX7_hearerOf ofX7_hearerOf 143) rfl
theorem dX7_hearerOf_146 : decode cX7_hearerOf 146 = .ok (.iload 5, 2) := d_by (d_at odX7_hearerOf ofX7_hearerOf 146) rfl
theorem dX7_hearerOf_148 : decode cX7_hearerOf 148 = .ok (.goto 5, 3) := d_by (d_at odX7_hearerOf ofX7_hearerOf 148) rfl
theorem dX7_hearerOf_151 : decode cX7_hearerOf 151 = .ok (.bipush (-2), 2) := d_by (d_at odX7_hearerOf ofX7_hearerOf 151) rfl
theorem dX7_hearerOf_153 : decode cX7_hearerOf 153 = .ok (.ireturn, 1) := d_by (d_at odX7_hearerOf ofX7_hearerOf 153) rfl
set_option maxRecDepth 100000 in
def bX7_apartness : List Nat := [42, 180, 0, 28, 180, 0, 47, 27, 46, 42, 180, 0, 28, 180, 0, 47, 28, 46, 160, 0, 27, 42, 180, 0, 28, 180, 0, 44, 27, 46, 42, 180, 0, 28, 180, 0, 44, 28, 46, 184, 0, 60, 167, 0, 5, 16, 254, 172]
set_option maxRecDepth 100000 in
theorem bbX7_apartness : cX7_apartness.data.toList.map UInt8.toNat = bX7_apartness := by decide +kernel
set_option maxRecDepth 100000 in
def tX7_apartness : Lean.RArray dLf := .branch 22 (.branch 10 (.branch 7 (.branch 1 (.leaf (0, .aload_n 0, 1)) (.branch 4 (.leaf (1, .getfield 28, 3)) (.leaf (4, .getfield 47, 3)))) (.branch 8 (.leaf (7, .iload_n 1, 1)) (.branch 9 (.leaf (8, .iaload, 1)) (.leaf (9, .aload_n 0, 1))))) (.branch 17 (.branch 13 (.leaf (10, .getfield 28, 3)) (.branch 16 (.leaf (13, .getfield 47, 3)) (.leaf (16, .iload_n 2, 1)))) (.branch 18 (.leaf (17, .iaload, 1)) (.branch 21 (.leaf (18, .if_icmp .ne 27, 3)) (.leaf (21, .aload_n 0, 1)))))) (.branch 34 (.branch 29 (.branch 25 (.leaf (22, .getfield 28, 3)) (.branch 28 (.leaf (25, .getfield 44, 3)) (.leaf (28, .iload_n 1, 1)))) (.branch 30 (.leaf (29, .iaload, 1)) (.branch 31 (.leaf (30, .aload_n 0, 1)) (.leaf (31, .getfield 28, 3))))) (.branch 39 (.branch 37 (.leaf (34, .getfield 44, 3)) (.branch 38 (.leaf (37, .iload_n 2, 1)) (.leaf (38, .iaload, 1)))) (.branch 45 (.branch 42 (.leaf (39, .invokestatic 60, 3)) (.leaf (42, .goto 5, 3))) (.branch 47 (.leaf (45, .bipush (-2), 2)) (.leaf (47, .ireturn, 1))))))
noncomputable def oX7_apartness : List dLf := dFl tX7_apartness
theorem ofX7_apartness : dFl tX7_apartness = oX7_apartness := rfl
set_option maxRecDepth 100000 in
theorem odX7_apartness : ∀ q ∈ oX7_apartness, decode cX7_apartness q.1 = .ok (q.2.1, q.2.2) := q_go qT_ok bbX7_apartness oX7_apartness 0 (by decide +kernel)
theorem dX7_apartness_0 : decode cX7_apartness 0 = .ok (.aload_n 0, 1) := d_by (d_at odX7_apartness ofX7_apartness 0) rfl
theorem dX7_apartness_1 : decode cX7_apartness 1 = .ok (.getfield 28, 3) := d_by (d_at odX7_apartness ofX7_apartness 1) rfl
theorem dX7_apartness_4 : decode cX7_apartness 4 = .ok (.getfield 47, 3) := d_by (d_at odX7_apartness ofX7_apartness 4) rfl
theorem dX7_apartness_7 : decode cX7_apartness 7 = .ok (.iload_n 1, 1) := d_by (d_at odX7_apartness ofX7_apartness 7) rfl
theorem dX7_apartness_8 : decode cX7_apartness 8 = .ok (.iaload, 1) := d_by (d_at odX7_apartness ofX7_apartness 8) rfl
theorem dX7_apartness_9 : decode cX7_apartness 9 = .ok (.aload_n 0, 1) := d_by (d_at odX7_apartness ofX7_apartness 9) rfl
theorem dX7_apartness_10 : decode cX7_apartness 10 = .ok (.getfield 28, 3) := d_by (d_at odX7_apartness ofX7_apartness 10) rfl
theorem dX7_apartness_13 : decode cX7_apartness 13 = .ok (.getfield 47, 3) := d_by (d_at odX7_apartness ofX7_apartness 13) rfl
theorem dX7_apartness_16 : decode cX7_apartness 16 = .ok (.iload_n 2, 1) := d_by (d_at odX7_apartness ofX7_apartness 16) rfl
theorem dX7_apartness_17 : decode cX7_apartness 17 = .ok (.iaload, 1) := d_by (d_at odX7_apartness ofX7_apartness 17) rfl
theorem dX7_apartness_18 : decode cX7_apartness 18 = .ok (.if_icmp .ne 27, 3) := d_by (d_at odX7_apartness ofX7_apartness 18) rfl
theorem dX7_apartness_21 : decode cX7_apartness 21 = .ok (.aload_n 0, 1) := d_by (d_at odX7_apartness ofX7_apartness 21) rfl
theorem dX7_apartness_22 : decode cX7_apartness 22 = .ok (.getfield 28, 3) := d_by (d_at odX7_apartness ofX7_apartness 22) rfl
theorem dX7_apartness_25 : decode cX7_apartness 25 = .ok (.getfield 44, 3) := d_by (d_at odX7_apartness ofX7_apartness 25) rfl
theorem dX7_apartness_28 : decode cX7_apartness 28 = .ok (.iload_n 1, 1) := d_by (d_at odX7_apartness ofX7_apartness 28) rfl
theorem dX7_apartness_29 : decode cX7_apartness 29 = .ok (.iaload, 1) := d_by (d_at odX7_apartness ofX7_apartness 29) rfl
theorem dX7_apartness_30 : decode cX7_apartness 30 = .ok (.aload_n 0, 1) := d_by (d_at odX7_apartness ofX7_apartness 30) rfl
theorem dX7_apartness_31 : decode cX7_apartness 31 = .ok (.getfield 28, 3) := d_by (d_at odX7_apartness ofX7_apartness 31) rfl
theorem dX7_apartness_34 : decode cX7_apartness 34 = .ok (.getfield 44, 3) := d_by (d_at odX7_apartness ofX7_apartness 34) rfl
theorem dX7_apartness_37 : decode cX7_apartness 37 = .ok (.iload_n 2, 1) := d_by (d_at odX7_apartness ofX7_apartness 37) rfl
theorem dX7_apartness_38 : decode cX7_apartness 38 = .ok (.iaload, 1) := d_by (d_at odX7_apartness ofX7_apartness 38) rfl
theorem dX7_apartness_39 : decode cX7_apartness 39 = .ok (.invokestatic 60, 3) := d_by (d_at odX7_apartness ofX7_apartness 39) rfl
theorem dX7_apartness_42 : decode cX7_apartness 42 = .ok (.goto 5, 3) := d_by (d_at odX7_apartness ofX7_apartness 42) rfl
theorem dX7_apartness_45 : decode cX7_apartness 45 = .ok (.bipush (-2), 2) := d_by (d_at odX7_apartness ofX7_apartness 45) rfl
theorem dX7_apartness_47 : decode cX7_apartness 47 = .ok (.ireturn, 1) := d_by (d_at odX7_apartness ofX7_apartness 47) rfl
set_option maxRecDepth 100000 in
def bX7_bearable : List Nat := [16, 254, 60, 3, 61, 28, 42, 180, 0, 28, 180, 0, 57, 162, 0, 60, 3, 62, 29, 28, 162, 0, 47, 42, 28, 29, 182, 0, 67, 54, 4, 21, 4, 16, 254, 159, 0, 26, 27, 16, 254, 159, 0, 13, 21, 4, 4, 100, 5, 108, 27, 162, 0, 10, 21, 4, 4, 100, 5, 108, 60, 132, 3, 1, 167, 255, 210, 132, 2, 1, 167, 255, 191, 27, 172]
set_option maxRecDepth 100000 in
theorem bbX7_bearable : cX7_bearable.data.toList.map UInt8.toNat = bX7_bearable := by decide +kernel
set_option maxRecDepth 100000 in
def tX7_bearable : Lean.RArray dLf := .branch 38 (.branch 18 (.branch 6 (.branch 3 (.branch 2 (.leaf (0, .bipush (-2), 2)) (.leaf (2, .istore_n 1, 1))) (.branch 4 (.leaf (3, .iconst 0, 1)) (.branch 5 (.leaf (4, .istore_n 2, 1)) (.leaf (5, .iload_n 2, 1))))) (.branch 13 (.branch 7 (.leaf (6, .aload_n 0, 1)) (.branch 10 (.leaf (7, .getfield 28, 3)) (.leaf (10, .getfield 57, 3)))) (.branch 16 (.leaf (13, .if_icmp .ge 60, 3)) (.branch 17 (.leaf (16, .iconst 0, 1)) (.leaf (17, .istore_n 3, 1)))))) (.branch 25 (.branch 20 (.branch 19 (.leaf (18, .iload_n 3, 1)) (.leaf (19, .iload_n 2, 1))) (.branch 23 (.leaf (20, .if_icmp .ge 47, 3)) (.branch 24 (.leaf (23, .aload_n 0, 1)) (.leaf (24, .iload_n 2, 1))))) (.branch 31 (.branch 26 (.leaf (25, .iload_n 3, 1)) (.branch 29 (.leaf (26, .invokevirtual 67, 3)) (.leaf (29, .istore 4, 2)))) (.branch 33 (.leaf (31, .iload 4, 2)) (.branch 35 (.leaf (33, .bipush (-2), 2)) (.leaf (35, .if_icmp .eq 26, 3))))))) (.branch 56 (.branch 47 (.branch 41 (.branch 39 (.leaf (38, .iload_n 1, 1)) (.leaf (39, .bipush (-2), 2))) (.branch 44 (.leaf (41, .if_icmp .eq 13, 3)) (.branch 46 (.leaf (44, .iload 4, 2)) (.leaf (46, .iconst 1, 1))))) (.branch 50 (.branch 48 (.leaf (47, .isub, 1)) (.branch 49 (.leaf (48, .iconst 2, 1)) (.leaf (49, .idiv, 1)))) (.branch 51 (.leaf (50, .iload_n 1, 1)) (.branch 54 (.leaf (51, .if_icmp .ge 10, 3)) (.leaf (54, .iload 4, 2)))))) (.branch 61 (.branch 58 (.branch 57 (.leaf (56, .iconst 1, 1)) (.leaf (57, .isub, 1))) (.branch 59 (.leaf (58, .iconst 2, 1)) (.branch 60 (.leaf (59, .idiv, 1)) (.leaf (60, .istore_n 1, 1))))) (.branch 70 (.branch 64 (.leaf (61, .iinc 3 1, 3)) (.branch 67 (.leaf (64, .goto (-46), 3)) (.leaf (67, .iinc 2 1, 3)))) (.branch 73 (.leaf (70, .goto (-65), 3)) (.branch 74 (.leaf (73, .iload_n 1, 1)) (.leaf (74, .ireturn, 1)))))))
noncomputable def oX7_bearable : List dLf := dFl tX7_bearable
theorem ofX7_bearable : dFl tX7_bearable = oX7_bearable := rfl
set_option maxRecDepth 100000 in
theorem odX7_bearable : ∀ q ∈ oX7_bearable, decode cX7_bearable q.1 = .ok (q.2.1, q.2.2) := q_go qT_ok bbX7_bearable oX7_bearable 0 (by decide +kernel)
set_option maxRecDepth 100000 in
def bX7_mixedPairs : List Nat := [3, 60, 3, 61, 28, 42, 180, 0, 28, 180, 0, 57, 162, 0, 54, 3, 62, 29, 28, 162, 0, 41, 42, 28, 29, 182, 0, 67, 54, 4, 21, 4, 16, 254, 159, 0, 20, 21, 4, 5, 42, 180, 0, 28, 180, 0, 64, 104, 163, 0, 6, 132, 1, 1, 132, 3, 1, 167, 255, 216, 132, 2, 1, 167, 255, 197, 27, 172]
set_option maxRecDepth 100000 in
theorem bbX7_mixedPairs : cX7_mixedPairs.data.toList.map UInt8.toNat = bX7_mixedPairs := by decide +kernel
set_option maxRecDepth 100000 in
def tX7_mixedPairs : Lean.RArray dLf := .branch 28 (.branch 15 (.branch 4 (.branch 2 (.branch 1 (.leaf (0, .iconst 0, 1)) (.leaf (1, .istore_n 1, 1))) (.branch 3 (.leaf (2, .iconst 0, 1)) (.leaf (3, .istore_n 2, 1)))) (.branch 6 (.branch 5 (.leaf (4, .iload_n 2, 1)) (.leaf (5, .aload_n 0, 1))) (.branch 9 (.leaf (6, .getfield 28, 3)) (.branch 12 (.leaf (9, .getfield 57, 3)) (.leaf (12, .if_icmp .ge 54, 3)))))) (.branch 19 (.branch 17 (.branch 16 (.leaf (15, .iconst 0, 1)) (.leaf (16, .istore_n 3, 1))) (.branch 18 (.leaf (17, .iload_n 3, 1)) (.leaf (18, .iload_n 2, 1)))) (.branch 23 (.branch 22 (.leaf (19, .if_icmp .ge 41, 3)) (.leaf (22, .aload_n 0, 1))) (.branch 24 (.leaf (23, .iload_n 2, 1)) (.branch 25 (.leaf (24, .iload_n 3, 1)) (.leaf (25, .invokevirtual 67, 3))))))) (.branch 47 (.branch 37 (.branch 32 (.branch 30 (.leaf (28, .istore 4, 2)) (.leaf (30, .iload 4, 2))) (.branch 34 (.leaf (32, .bipush (-2), 2)) (.leaf (34, .if_icmp .eq 20, 3)))) (.branch 40 (.branch 39 (.leaf (37, .iload 4, 2)) (.leaf (39, .iconst 2, 1))) (.branch 41 (.leaf (40, .aload_n 0, 1)) (.branch 44 (.leaf (41, .getfield 28, 3)) (.leaf (44, .getfield 64, 3)))))) (.branch 57 (.branch 51 (.branch 48 (.leaf (47, .imul, 1)) (.leaf (48, .if_icmp .gt 6, 3))) (.branch 54 (.leaf (51, .iinc 1 1, 3)) (.leaf (54, .iinc 3 1, 3)))) (.branch 63 (.branch 60 (.leaf (57, .goto (-40), 3)) (.leaf (60, .iinc 2 1, 3))) (.branch 66 (.leaf (63, .goto (-59), 3)) (.branch 67 (.leaf (66, .iload_n 1, 1)) (.leaf (67, .ireturn, 1)))))))
noncomputable def oX7_mixedPairs : List dLf := dFl tX7_mixedPairs
theorem ofX7_mixedPairs : dFl tX7_mixedPairs = oX7_mixedPairs := rfl
set_option maxRecDepth 100000 in
theorem odX7_mixedPairs : ∀ q ∈ oX7_mixedPairs, decode cX7_mixedPairs q.1 = .ok (q.2.1, q.2.2) := q_go qT_ok bbX7_mixedPairs oX7_mixedPairs 0 (by decide +kernel)
set_option maxRecDepth 100000 in
def bX7_findNew : List Nat := [42, 27, 29, 182, 0, 70, 54, 5, 21, 5, 54, 6, 3, 54, 7, 42, 16, 254, 181, 0, 21, 3, 54, 8, 21, 8, 4, 5, 27, 104, 120, 162, 0, 88, 21, 6, 21, 5, 100, 21, 4, 162, 0, 78, 42, 21, 8, 27, 182, 0, 73, 153, 0, 62, 42, 21, 8, 28, 28, 4, 160, 0, 8, 21, 5, 167, 0, 5, 21, 6, 182, 0, 77, 153, 0, 37, 42, 180, 0, 24, 21, 6, 21, 8, 79, 132, 6, 1, 42, 42, 180, 0, 21, 16, 254, 160, 0, 8, 21, 7, 167, 0, 7, 42, 180, 0, 21, 181, 0, 21, 132, 7, 1, 132, 8, 1, 167, 255, 164, 21, 6, 21, 5, 100, 172]
set_option maxRecDepth 100000 in
theorem bbX7_findNew : cX7_findNew.data.toList.map UInt8.toNat = bX7_findNew := by decide +kernel
set_option maxRecDepth 100000 in
def tX7_findNew : Lean.RArray dLf := .branch 55 (.branch 27 (.branch 13 (.branch 6 (.branch 2 (.branch 1 (.leaf (0, .aload_n 0, 1)) (.leaf (1, .iload_n 1, 1))) (.branch 3 (.leaf (2, .iload_n 3, 1)) (.leaf (3, .invokevirtual 70, 3)))) (.branch 10 (.branch 8 (.leaf (6, .istore 5, 2)) (.leaf (8, .iload 5, 2))) (.branch 12 (.leaf (10, .istore 6, 2)) (.leaf (12, .iconst 0, 1))))) (.branch 21 (.branch 16 (.branch 15 (.leaf (13, .istore 7, 2)) (.leaf (15, .aload_n 0, 1))) (.branch 18 (.leaf (16, .bipush (-2), 2)) (.leaf (18, .putfield 21, 3)))) (.branch 24 (.branch 22 (.leaf (21, .iconst 0, 1)) (.leaf (22, .istore 8, 2))) (.branch 26 (.leaf (24, .iload 8, 2)) (.leaf (26, .iconst 1, 1)))))) (.branch 39 (.branch 31 (.branch 29 (.branch 28 (.leaf (27, .iconst 2, 1)) (.leaf (28, .iload_n 1, 1))) (.branch 30 (.leaf (29, .imul, 1)) (.leaf (30, .ishl, 1)))) (.branch 36 (.branch 34 (.leaf (31, .if_icmp .ge 88, 3)) (.leaf (34, .iload 6, 2))) (.branch 38 (.leaf (36, .iload 5, 2)) (.leaf (38, .isub, 1))))) (.branch 47 (.branch 44 (.branch 41 (.leaf (39, .iload 4, 2)) (.leaf (41, .if_icmp .ge 78, 3))) (.branch 45 (.leaf (44, .aload_n 0, 1)) (.leaf (45, .iload 8, 2)))) (.branch 51 (.branch 48 (.leaf (47, .iload_n 1, 1)) (.leaf (48, .invokevirtual 73, 3))) (.branch 54 (.leaf (51, .ifCond .eq 62, 3)) (.leaf (54, .aload_n 0, 1))))))) (.branch 88 (.branch 70 (.branch 60 (.branch 58 (.branch 57 (.leaf (55, .iload 8, 2)) (.leaf (57, .iload_n 2, 1))) (.branch 59 (.leaf (58, .iload_n 2, 1)) (.leaf (59, .iconst 1, 1)))) (.branch 65 (.branch 63 (.leaf (60, .if_icmp .ne 8, 3)) (.leaf (63, .iload 5, 2))) (.branch 68 (.leaf (65, .goto 5, 3)) (.leaf (68, .iload 6, 2))))) (.branch 80 (.branch 76 (.branch 73 (.leaf (70, .invokevirtual 77, 3)) (.leaf (73, .ifCond .eq 37, 3))) (.branch 77 (.leaf (76, .aload_n 0, 1)) (.leaf (77, .getfield 24, 3)))) (.branch 84 (.branch 82 (.leaf (80, .iload 6, 2)) (.leaf (82, .iload 8, 2))) (.branch 85 (.leaf (84, .iastore, 1)) (.leaf (85, .iinc 6 1, 3)))))) (.branch 104 (.branch 95 (.branch 90 (.branch 89 (.leaf (88, .aload_n 0, 1)) (.leaf (89, .aload_n 0, 1))) (.branch 93 (.leaf (90, .getfield 21, 3)) (.leaf (93, .bipush (-2), 2)))) (.branch 100 (.branch 98 (.leaf (95, .if_icmp .ne 8, 3)) (.leaf (98, .iload 7, 2))) (.branch 103 (.leaf (100, .goto 7, 3)) (.leaf (103, .aload_n 0, 1))))) (.branch 116 (.branch 110 (.branch 107 (.leaf (104, .getfield 21, 3)) (.leaf (107, .putfield 21, 3))) (.branch 113 (.leaf (110, .iinc 7 1, 3)) (.leaf (113, .iinc 8 1, 3)))) (.branch 121 (.branch 119 (.leaf (116, .goto (-92), 3)) (.leaf (119, .iload 6, 2))) (.branch 123 (.leaf (121, .iload 5, 2)) (.branch 124 (.leaf (123, .isub, 1)) (.leaf (124, .ireturn, 1))))))))
noncomputable def oX7_findNew : List dLf := dFl tX7_findNew
theorem ofX7_findNew : dFl tX7_findNew = oX7_findNew := rfl
set_option maxRecDepth 100000 in
theorem odX7_findNew : ∀ q ∈ oX7_findNew, decode cX7_findNew q.1 = .ok (q.2.1, q.2.2) := q_go qT_ok bbX7_findNew oX7_findNew 0 (by decide +kernel)
set_option maxRecDepth 100000 in
def bX7_keepSongsOf : List Nat := [3, 62, 3, 54, 4, 21, 4, 42, 180, 0, 28, 180, 0, 57, 162, 0, 39, 42, 180, 0, 28, 180, 0, 47, 21, 4, 46, 27, 160, 0, 19, 42, 180, 0, 24, 29, 42, 21, 4, 28, 182, 0, 81, 79, 132, 3, 1, 132, 4, 1, 167, 255, 211, 29, 172]
set_option maxRecDepth 100000 in
theorem bbX7_keepSongsOf : cX7_keepSongsOf.data.toList.map UInt8.toNat = bX7_keepSongsOf := by decide +kernel
set_option maxRecDepth 100000 in
def tX7_keepSongsOf : Lean.RArray dLf := .branch 27 (.branch 11 (.branch 3 (.branch 1 (.leaf (0, .iconst 0, 1)) (.branch 2 (.leaf (1, .istore_n 3, 1)) (.leaf (2, .iconst 0, 1)))) (.branch 7 (.branch 5 (.leaf (3, .istore 4, 2)) (.leaf (5, .iload 4, 2))) (.branch 8 (.leaf (7, .aload_n 0, 1)) (.leaf (8, .getfield 28, 3))))) (.branch 18 (.branch 14 (.leaf (11, .getfield 57, 3)) (.branch 17 (.leaf (14, .if_icmp .ge 39, 3)) (.leaf (17, .aload_n 0, 1)))) (.branch 24 (.branch 21 (.leaf (18, .getfield 28, 3)) (.leaf (21, .getfield 47, 3))) (.branch 26 (.leaf (24, .iload 4, 2)) (.leaf (26, .iaload, 1)))))) (.branch 39 (.branch 32 (.branch 28 (.leaf (27, .iload_n 1, 1)) (.branch 31 (.leaf (28, .if_icmp .ne 19, 3)) (.leaf (31, .aload_n 0, 1)))) (.branch 36 (.branch 35 (.leaf (32, .getfield 24, 3)) (.leaf (35, .iload_n 3, 1))) (.branch 37 (.leaf (36, .aload_n 0, 1)) (.leaf (37, .iload 4, 2))))) (.branch 47 (.branch 43 (.branch 40 (.leaf (39, .iload_n 2, 1)) (.leaf (40, .invokevirtual 81, 3))) (.branch 44 (.leaf (43, .iastore, 1)) (.leaf (44, .iinc 3 1, 3)))) (.branch 53 (.branch 50 (.leaf (47, .iinc 4 1, 3)) (.leaf (50, .goto (-45), 3))) (.branch 54 (.leaf (53, .iload_n 3, 1)) (.leaf (54, .ireturn, 1))))))
noncomputable def oX7_keepSongsOf : List dLf := dFl tX7_keepSongsOf
theorem ofX7_keepSongsOf : dFl tX7_keepSongsOf = oX7_keepSongsOf := rfl
set_option maxRecDepth 100000 in
theorem odX7_keepSongsOf : ∀ q ∈ oX7_keepSongsOf, decode cX7_keepSongsOf q.1 = .ok (q.2.1, q.2.2) := q_go qT_ok bbX7_keepSongsOf oX7_keepSongsOf 0 (by decide +kernel)
set_option maxRecDepth 100000 in
def bX7_isOfNotes : List Nat := [3, 62, 29, 28, 162, 0, 27, 27, 28, 29, 184, 0, 40, 42, 180, 0, 28, 180, 0, 37, 161, 0, 5, 3, 172, 132, 3, 1, 167, 255, 230, 4, 172]
set_option maxRecDepth 100000 in
theorem bbX7_isOfNotes : cX7_isOfNotes.data.toList.map UInt8.toNat = bX7_isOfNotes := by decide +kernel
set_option maxRecDepth 100000 in
def tX7_isOfNotes : Lean.RArray dLf := .branch 13 (.branch 4 (.branch 2 (.branch 1 (.leaf (0, .iconst 0, 1)) (.leaf (1, .istore_n 3, 1))) (.branch 3 (.leaf (2, .iload_n 3, 1)) (.leaf (3, .iload_n 2, 1)))) (.branch 8 (.branch 7 (.leaf (4, .if_icmp .ge 27, 3)) (.leaf (7, .iload_n 1, 1))) (.branch 9 (.leaf (8, .iload_n 2, 1)) (.branch 10 (.leaf (9, .iload_n 3, 1)) (.leaf (10, .invokestatic 40, 3)))))) (.branch 24 (.branch 17 (.branch 14 (.leaf (13, .aload_n 0, 1)) (.leaf (14, .getfield 28, 3))) (.branch 20 (.leaf (17, .getfield 37, 3)) (.branch 23 (.leaf (20, .if_icmp .lt 5, 3)) (.leaf (23, .iconst 0, 1))))) (.branch 28 (.branch 25 (.leaf (24, .ireturn, 1)) (.leaf (25, .iinc 3 1, 3))) (.branch 31 (.leaf (28, .goto (-26), 3)) (.branch 32 (.leaf (31, .iconst 1, 1)) (.leaf (32, .ireturn, 1))))))
noncomputable def oX7_isOfNotes : List dLf := dFl tX7_isOfNotes
theorem ofX7_isOfNotes : dFl tX7_isOfNotes = oX7_isOfNotes := rfl
set_option maxRecDepth 100000 in
theorem odX7_isOfNotes : ∀ q ∈ oX7_isOfNotes, decode cX7_isOfNotes q.1 = .ok (q.2.1, q.2.2) := q_go qT_ok bbX7_isOfNotes oX7_isOfNotes 0 (by decide +kernel)
set_option maxRecDepth 100000 in
def bX7_isFarFromKept : List Nat := [3, 54, 4, 21, 4, 29, 162, 0, 26, 27, 42, 180, 0, 24, 21, 4, 46, 184, 0, 60, 28, 162, 0, 5, 3, 172, 132, 4, 1, 167, 255, 230, 4, 172]
set_option maxRecDepth 100000 in
theorem bbX7_isFarFromKept : cX7_isFarFromKept.data.toList.map UInt8.toNat = bX7_isFarFromKept := by decide +kernel
set_option maxRecDepth 100000 in
def tX7_isFarFromKept : Lean.RArray dLf := .branch 16 (.branch 6 (.branch 3 (.branch 1 (.leaf (0, .iconst 0, 1)) (.leaf (1, .istore 4, 2))) (.branch 5 (.leaf (3, .iload 4, 2)) (.leaf (5, .iload_n 3, 1)))) (.branch 10 (.branch 9 (.leaf (6, .if_icmp .ge 26, 3)) (.leaf (9, .iload_n 1, 1))) (.branch 11 (.leaf (10, .aload_n 0, 1)) (.branch 14 (.leaf (11, .getfield 24, 3)) (.leaf (14, .iload 4, 2)))))) (.branch 25 (.branch 20 (.branch 17 (.leaf (16, .iaload, 1)) (.leaf (17, .invokestatic 60, 3))) (.branch 21 (.leaf (20, .iload_n 2, 1)) (.branch 24 (.leaf (21, .if_icmp .ge 5, 3)) (.leaf (24, .iconst 0, 1))))) (.branch 29 (.branch 26 (.leaf (25, .ireturn, 1)) (.leaf (26, .iinc 4 1, 3))) (.branch 32 (.leaf (29, .goto (-26), 3)) (.branch 33 (.leaf (32, .iconst 1, 1)) (.leaf (33, .ireturn, 1))))))
noncomputable def oX7_isFarFromKept : List dLf := dFl tX7_isFarFromKept
theorem ofX7_isFarFromKept : dFl tX7_isFarFromKept = oX7_isFarFromKept := rfl
set_option maxRecDepth 100000 in
theorem odX7_isFarFromKept : ∀ q ∈ oX7_isFarFromKept, decode cX7_isFarFromKept q.1 = .ok (q.2.1, q.2.2) := q_go qT_ok bbX7_isFarFromKept oX7_isFarFromKept 0 (by decide +kernel)
set_option maxRecDepth 100000 in
def bX7_draw : List Nat := [42, 16, 75, 42, 180, 0, 9, 104, 16, 74, 96, 18, 84, 112, 181, 0, 9, 42, 180, 0, 9, 172]
set_option maxRecDepth 100000 in
theorem bbX7_draw : cX7_draw.data.toList.map UInt8.toNat = bX7_draw := by decide +kernel
set_option maxRecDepth 100000 in
def tX7_draw : Lean.RArray dLf := .branch 10 (.branch 4 (.branch 1 (.leaf (0, .aload_n 0, 1)) (.branch 3 (.leaf (1, .bipush 75, 2)) (.leaf (3, .aload_n 0, 1)))) (.branch 7 (.leaf (4, .getfield 9, 3)) (.branch 8 (.leaf (7, .imul, 1)) (.leaf (8, .bipush 74, 2))))) (.branch 14 (.branch 11 (.leaf (10, .iadd, 1)) (.branch 13 (.leaf (11, .ldc 84, 2)) (.leaf (13, .irem, 1)))) (.branch 18 (.branch 17 (.leaf (14, .putfield 9, 3)) (.leaf (17, .aload_n 0, 1))) (.branch 21 (.leaf (18, .getfield 9, 3)) (.leaf (21, .ireturn, 1)))))
noncomputable def oX7_draw : List dLf := dFl tX7_draw
theorem ofX7_draw : dFl tX7_draw = oX7_draw := rfl
set_option maxRecDepth 100000 in
theorem odX7_draw : ∀ q ∈ oX7_draw, decode cX7_draw q.1 = .ok (q.2.1, q.2.2) := q_go qT_ok bbX7_draw oX7_draw 0 (by decide +kernel)
set_option maxRecDepth 100000 in
def bX7_slipped : List Nat := [42, 182, 0, 85, 16, 100, 112, 42, 180, 0, 28, 180, 0, 89, 162, 0, 17, 28, 158, 0, 13, 42, 180, 0, 28, 180, 0, 37, 157, 0, 5, 27, 172, 42, 182, 0, 85, 28, 112, 62, 27, 28, 29, 42, 182, 0, 85, 42, 180, 0, 28, 180, 0, 37, 112, 184, 0, 92, 172]
set_option maxRecDepth 100000 in
theorem bbX7_slipped : cX7_slipped.data.toList.map UInt8.toNat = bX7_slipped := by decide +kernel
set_option maxRecDepth 100000 in
def tX7_slipped : Lean.RArray dLf := .branch 33 (.branch 17 (.branch 7 (.branch 4 (.branch 1 (.leaf (0, .aload_n 0, 1)) (.leaf (1, .invokevirtual 85, 3))) (.branch 6 (.leaf (4, .bipush 100, 2)) (.leaf (6, .irem, 1)))) (.branch 11 (.branch 8 (.leaf (7, .aload_n 0, 1)) (.leaf (8, .getfield 28, 3))) (.branch 14 (.leaf (11, .getfield 89, 3)) (.leaf (14, .if_icmp .ge 17, 3))))) (.branch 25 (.branch 21 (.branch 18 (.leaf (17, .iload_n 2, 1)) (.leaf (18, .ifCond .le 13, 3))) (.branch 22 (.leaf (21, .aload_n 0, 1)) (.leaf (22, .getfield 28, 3)))) (.branch 31 (.branch 28 (.leaf (25, .getfield 37, 3)) (.leaf (28, .ifCond .gt 5, 3))) (.branch 32 (.leaf (31, .iload_n 1, 1)) (.leaf (32, .ireturn, 1)))))) (.branch 43 (.branch 39 (.branch 37 (.branch 34 (.leaf (33, .aload_n 0, 1)) (.leaf (34, .invokevirtual 85, 3))) (.branch 38 (.leaf (37, .iload_n 2, 1)) (.leaf (38, .irem, 1)))) (.branch 41 (.branch 40 (.leaf (39, .istore_n 3, 1)) (.leaf (40, .iload_n 1, 1))) (.branch 42 (.leaf (41, .iload_n 2, 1)) (.leaf (42, .iload_n 3, 1))))) (.branch 51 (.branch 47 (.branch 44 (.leaf (43, .aload_n 0, 1)) (.leaf (44, .invokevirtual 85, 3))) (.branch 48 (.leaf (47, .aload_n 0, 1)) (.leaf (48, .getfield 28, 3)))) (.branch 55 (.branch 54 (.leaf (51, .getfield 37, 3)) (.leaf (54, .irem, 1))) (.branch 58 (.leaf (55, .invokestatic 92, 3)) (.leaf (58, .ireturn, 1))))))
noncomputable def oX7_slipped : List dLf := dFl tX7_slipped
theorem ofX7_slipped : dFl tX7_slipped = oX7_slipped := rfl
set_option maxRecDepth 100000 in
theorem odX7_slipped : ∀ q ∈ oX7_slipped, decode cX7_slipped q.1 = .ok (q.2.1, q.2.2) := q_go qT_ok bbX7_slipped oX7_slipped 0 (by decide +kernel)
set_option maxRecDepth 100000 in
def bX8_init : List Nat := [42, 183, 0, 1, 177]
set_option maxRecDepth 100000 in
theorem bbX8_init : cX8_init.data.toList.map UInt8.toNat = bX8_init := by decide +kernel
set_option maxRecDepth 100000 in
def tX8_init : Lean.RArray dLf := .branch 1 (.leaf (0, .aload_n 0, 1)) (.branch 4 (.leaf (1, .invokespecial 1, 3)) (.leaf (4, .return_, 1)))
noncomputable def oX8_init : List dLf := dFl tX8_init
theorem ofX8_init : dFl tX8_init = oX8_init := rfl
set_option maxRecDepth 100000 in
theorem odX8_init : ∀ q ∈ oX8_init, decode cX8_init q.1 = .ok (q.2.1, q.2.2) := q_go qT_ok bbX8_init oX8_init 0 (by decide +kernel)
theorem dX8_init_0 : decode cX8_init 0 = .ok (.aload_n 0, 1) := d_by (d_at odX8_init ofX8_init 0) rfl
theorem dX8_init_1 : decode cX8_init 1 = .ok (.invokespecial 1, 3) := d_by (d_at odX8_init ofX8_init 1) rfl
theorem dX8_init_4 : decode cX8_init 4 = .ok (.return_, 1) := d_by (d_at odX8_init ofX8_init 4) rfl
set_option maxRecDepth 100000 in
def bX9_init : List Nat := [42, 183, 0, 1, 177]
set_option maxRecDepth 100000 in
theorem bbX9_init : cX9_init.data.toList.map UInt8.toNat = bX9_init := by decide +kernel
set_option maxRecDepth 100000 in
def tX9_init : Lean.RArray dLf := .branch 1 (.leaf (0, .aload_n 0, 1)) (.branch 4 (.leaf (1, .invokespecial 1, 3)) (.leaf (4, .return_, 1)))
noncomputable def oX9_init : List dLf := dFl tX9_init
theorem ofX9_init : dFl tX9_init = oX9_init := rfl
set_option maxRecDepth 100000 in
theorem odX9_init : ∀ q ∈ oX9_init, decode cX9_init q.1 = .ok (q.2.1, q.2.2) := q_go qT_ok bbX9_init oX9_init 0 (by decide +kernel)
theorem dX9_init_0 : decode cX9_init 0 = .ok (.aload_n 0, 1) := d_by (d_at odX9_init ofX9_init 0) rfl
theorem dX9_init_1 : decode cX9_init 1 = .ok (.invokespecial 1, 3) := d_by (d_at odX9_init ofX9_init 1) rfl
theorem dX9_init_4 : decode cX9_init 4 = .ok (.return_, 1) := d_by (d_at odX9_init ofX9_init 4) rfl
set_option maxRecDepth 100000 in
def bX10_init : List Nat := [42, 183, 0, 1, 177]
set_option maxRecDepth 100000 in
theorem bbX10_init : cX10_init.data.toList.map UInt8.toNat = bX10_init := by decide +kernel
set_option maxRecDepth 100000 in
def tX10_init : Lean.RArray dLf := .branch 1 (.leaf (0, .aload_n 0, 1)) (.branch 4 (.leaf (1, .invokespecial 1, 3)) (.leaf (4, .return_, 1)))
noncomputable def oX10_init : List dLf := dFl tX10_init
theorem ofX10_init : dFl tX10_init = oX10_init := rfl
set_option maxRecDepth 100000 in
theorem odX10_init : ∀ q ∈ oX10_init, decode cX10_init q.1 = .ok (q.2.1, q.2.2) := q_go qT_ok bbX10_init oX10_init 0 (by decide +kernel)
theorem dX10_init_0 : decode cX10_init 0 = .ok (.aload_n 0, 1) := d_by (d_at odX10_init ofX10_init 0) rfl
theorem dX10_init_1 : decode cX10_init 1 = .ok (.invokespecial 1, 3) := d_by (d_at odX10_init ofX10_init 1) rfl
theorem dX10_init_4 : decode cX10_init 4 = .ok (.return_, 1) := d_by (d_at odX10_init ofX10_init 4) rfl
set_option maxRecDepth 100000 in
def bX11_init : List Nat := [42, 183, 0, 1, 42, 17, 3, 232, 188, 8, 181, 0, 9, 42, 3, 181, 0, 13, 42, 3, 181, 0, 17, 42, 187, 0, 20, 89, 183, 0, 22, 181, 0, 23, 42, 187, 0, 20, 89, 183, 0, 22, 181, 0, 27, 42, 187, 0, 30, 89, 42, 180, 0, 9, 42, 180, 0, 27, 183, 0, 32, 181, 0, 35, 42, 187, 0, 39, 89, 183, 0, 41, 181, 0, 42, 42, 187, 0, 46, 89, 42, 180, 0, 23, 183, 0, 48, 181, 0, 51, 42, 187, 0, 55, 89, 42, 180, 0, 23, 42, 180, 0, 42, 42, 180, 0, 51, 183, 0, 57, 181, 0, 60, 42, 187, 0, 64, 89, 42, 180, 0, 23, 183, 0, 66, 181, 0, 67, 42, 187, 0, 71, 89, 183, 0, 73, 181, 0, 74, 42, 16, 12, 189, 0, 39, 181, 0, 78, 42, 3, 181, 0, 82, 42, 3, 181, 0, 85, 42, 6, 189, 0, 39, 181, 0, 88, 42, 3, 181, 0, 91, 3, 60, 27, 16, 12, 162, 0, 22, 42, 180, 0, 78, 27, 187, 0, 39, 89, 183, 0, 41, 83, 132, 1, 1, 167, 255, 234, 3, 60, 27, 6, 162, 0, 22, 42, 180, 0, 88, 27, 187, 0, 39, 89, 183, 0, 41, 83, 132, 1, 1, 167, 255, 235, 177]
set_option maxRecDepth 100000 in
theorem bbX11_init : cX11_init.data.toList.map UInt8.toNat = bX11_init := by decide +kernel
theorem eX11_init_8 : decode cX11_init 8 = .ok (.newarray .byte, 2) := by decide +kernel
set_option maxRecDepth 100000 in
def oX11_inits0 : List dLf := [(0, .aload_n 0, 1), (1, .invokespecial 1, 3), (4, .aload_n 0, 1), (5, .sipush 1000, 3)]
set_option maxRecDepth 100000 in
theorem odX11_inits0 : ∀ q ∈ oX11_inits0, decode cX11_init q.1 = .ok (q.2.1, q.2.2) := q_go qT_ok bbX11_init oX11_inits0 0 (by decide +kernel)
set_option maxRecDepth 100000 in
def oX11_inits2 : List dLf := [(10, .putfield 9, 3), (13, .aload_n 0, 1), (14, .iconst 0, 1), (15, .putfield 13, 3), (18, .aload_n 0, 1), (19, .iconst 0, 1), (20, .putfield 17, 3), (23, .aload_n 0, 1), (24, .new 20, 3), (27, .dup, 1), (28, .invokespecial 22, 3), (31, .putfield 23, 3), (34, .aload_n 0, 1), (35, .new 20, 3), (38, .dup, 1), (39, .invokespecial 22, 3), (42, .putfield 27, 3), (45, .aload_n 0, 1), (46, .new 30, 3), (49, .dup, 1), (50, .aload_n 0, 1), (51, .getfield 9, 3), (54, .aload_n 0, 1), (55, .getfield 27, 3), (58, .invokespecial 32, 3), (61, .putfield 35, 3), (64, .aload_n 0, 1), (65, .new 39, 3), (68, .dup, 1), (69, .invokespecial 41, 3), (72, .putfield 42, 3), (75, .aload_n 0, 1), (76, .new 46, 3), (79, .dup, 1), (80, .aload_n 0, 1), (81, .getfield 23, 3), (84, .invokespecial 48, 3), (87, .putfield 51, 3), (90, .aload_n 0, 1), (91, .new 55, 3), (94, .dup, 1), (95, .aload_n 0, 1), (96, .getfield 23, 3), (99, .aload_n 0, 1), (100, .getfield 42, 3), (103, .aload_n 0, 1), (104, .getfield 51, 3), (107, .invokespecial 57, 3), (110, .putfield 60, 3), (113, .aload_n 0, 1), (114, .new 64, 3), (117, .dup, 1), (118, .aload_n 0, 1), (119, .getfield 23, 3), (122, .invokespecial 66, 3), (125, .putfield 67, 3), (128, .aload_n 0, 1), (129, .new 71, 3), (132, .dup, 1), (133, .invokespecial 73, 3), (136, .putfield 74, 3), (139, .aload_n 0, 1), (140, .bipush 12, 2), (142, .anewarray 39, 3), (145, .putfield 78, 3), (148, .aload_n 0, 1), (149, .iconst 0, 1), (150, .putfield 82, 3), (153, .aload_n 0, 1), (154, .iconst 0, 1), (155, .putfield 85, 3), (158, .aload_n 0, 1), (159, .iconst 3, 1), (160, .anewarray 39, 3), (163, .putfield 88, 3), (166, .aload_n 0, 1), (167, .iconst 0, 1), (168, .putfield 91, 3), (171, .iconst 0, 1), (172, .istore_n 1, 1), (173, .iload_n 1, 1), (174, .bipush 12, 2), (176, .if_icmp .ge 22, 3), (179, .aload_n 0, 1), (180, .getfield 78, 3), (183, .iload_n 1, 1), (184, .new 39, 3), (187, .dup, 1), (188, .invokespecial 41, 3), (191, .aastore, 1), (192, .iinc 1 1, 3), (195, .goto (-22), 3), (198, .iconst 0, 1), (199, .istore_n 1, 1), (200, .iload_n 1, 1), (201, .iconst 3, 1), (202, .if_icmp .ge 22, 3), (205, .aload_n 0, 1), (206, .getfield 88, 3), (209, .iload_n 1, 1), (210, .new 39, 3), (213, .dup, 1), (214, .invokespecial 41, 3), (217, .aastore, 1), (218, .iinc 1 1, 3), (221, .goto (-21), 3), (224, .return_, 1)]
set_option maxRecDepth 100000 in
theorem odX11_inits2 : ∀ q ∈ oX11_inits2, decode cX11_init q.1 = .ok (q.2.1, q.2.2) := q_go qT_ok bbX11_init oX11_inits2 10 (by decide +kernel)
set_option maxRecDepth 100000 in
def oX11_init : List dLf := [(0, .aload_n 0, 1), (1, .invokespecial 1, 3), (4, .aload_n 0, 1), (5, .sipush 1000, 3), (8, .newarray .byte, 2), (10, .putfield 9, 3), (13, .aload_n 0, 1), (14, .iconst 0, 1), (15, .putfield 13, 3), (18, .aload_n 0, 1), (19, .iconst 0, 1), (20, .putfield 17, 3), (23, .aload_n 0, 1), (24, .new 20, 3), (27, .dup, 1), (28, .invokespecial 22, 3), (31, .putfield 23, 3), (34, .aload_n 0, 1), (35, .new 20, 3), (38, .dup, 1), (39, .invokespecial 22, 3), (42, .putfield 27, 3), (45, .aload_n 0, 1), (46, .new 30, 3), (49, .dup, 1), (50, .aload_n 0, 1), (51, .getfield 9, 3), (54, .aload_n 0, 1), (55, .getfield 27, 3), (58, .invokespecial 32, 3), (61, .putfield 35, 3), (64, .aload_n 0, 1), (65, .new 39, 3), (68, .dup, 1), (69, .invokespecial 41, 3), (72, .putfield 42, 3), (75, .aload_n 0, 1), (76, .new 46, 3), (79, .dup, 1), (80, .aload_n 0, 1), (81, .getfield 23, 3), (84, .invokespecial 48, 3), (87, .putfield 51, 3), (90, .aload_n 0, 1), (91, .new 55, 3), (94, .dup, 1), (95, .aload_n 0, 1), (96, .getfield 23, 3), (99, .aload_n 0, 1), (100, .getfield 42, 3), (103, .aload_n 0, 1), (104, .getfield 51, 3), (107, .invokespecial 57, 3), (110, .putfield 60, 3), (113, .aload_n 0, 1), (114, .new 64, 3), (117, .dup, 1), (118, .aload_n 0, 1), (119, .getfield 23, 3), (122, .invokespecial 66, 3), (125, .putfield 67, 3), (128, .aload_n 0, 1), (129, .new 71, 3), (132, .dup, 1), (133, .invokespecial 73, 3), (136, .putfield 74, 3), (139, .aload_n 0, 1), (140, .bipush 12, 2), (142, .anewarray 39, 3), (145, .putfield 78, 3), (148, .aload_n 0, 1), (149, .iconst 0, 1), (150, .putfield 82, 3), (153, .aload_n 0, 1), (154, .iconst 0, 1), (155, .putfield 85, 3), (158, .aload_n 0, 1), (159, .iconst 3, 1), (160, .anewarray 39, 3), (163, .putfield 88, 3), (166, .aload_n 0, 1), (167, .iconst 0, 1), (168, .putfield 91, 3), (171, .iconst 0, 1), (172, .istore_n 1, 1), (173, .iload_n 1, 1), (174, .bipush 12, 2), (176, .if_icmp .ge 22, 3), (179, .aload_n 0, 1), (180, .getfield 78, 3), (183, .iload_n 1, 1), (184, .new 39, 3), (187, .dup, 1), (188, .invokespecial 41, 3), (191, .aastore, 1), (192, .iinc 1 1, 3), (195, .goto (-22), 3), (198, .iconst 0, 1), (199, .istore_n 1, 1), (200, .iload_n 1, 1), (201, .iconst 3, 1), (202, .if_icmp .ge 22, 3), (205, .aload_n 0, 1), (206, .getfield 88, 3), (209, .iload_n 1, 1), (210, .new 39, 3), (213, .dup, 1), (214, .invokespecial 41, 3), (217, .aastore, 1), (218, .iinc 1 1, 3), (221, .goto (-21), 3), (224, .return_, 1)]
set_option maxRecDepth 100000 in
theorem odX11_init : ∀ q ∈ oX11_init, decode cX11_init q.1 = .ok (q.2.1, q.2.2) := by
  have e : oX11_init = oX11_inits0 ++ ([(8, .newarray .byte, 2)] ++ (oX11_inits2)) := rfl
  rw [e]
  exact List.forall_mem_append.mpr ⟨odX11_inits0, List.forall_mem_append.mpr ⟨(List.forall_mem_singleton.mpr eX11_init_8), odX11_inits2⟩⟩
set_option maxRecDepth 100000 in
def tX11_init : Lean.RArray dLf := .branch 117 (.branch 55 (.branch 27 (.branch 14 (.branch 5 (.branch 1 (.leaf (0, .aload_n 0, 1)) (.branch 4 (.leaf (1, .invokespecial 1, 3)) (.leaf (4, .aload_n 0, 1)))) (.branch 10 (.branch 8 (.leaf (5, .sipush 1000, 3)) (.leaf (8, .newarray .byte, 2))) (.branch 13 (.leaf (10, .putfield 9, 3)) (.leaf (13, .aload_n 0, 1))))) (.branch 19 (.branch 15 (.leaf (14, .iconst 0, 1)) (.branch 18 (.leaf (15, .putfield 13, 3)) (.leaf (18, .aload_n 0, 1)))) (.branch 23 (.branch 20 (.leaf (19, .iconst 0, 1)) (.leaf (20, .putfield 17, 3))) (.branch 24 (.leaf (23, .aload_n 0, 1)) (.leaf (24, .new 20, 3)))))) (.branch 42 (.branch 34 (.branch 28 (.leaf (27, .dup, 1)) (.branch 31 (.leaf (28, .invokespecial 22, 3)) (.leaf (31, .putfield 23, 3)))) (.branch 38 (.branch 35 (.leaf (34, .aload_n 0, 1)) (.leaf (35, .new 20, 3))) (.branch 39 (.leaf (38, .dup, 1)) (.leaf (39, .invokespecial 22, 3))))) (.branch 49 (.branch 45 (.leaf (42, .putfield 27, 3)) (.branch 46 (.leaf (45, .aload_n 0, 1)) (.leaf (46, .new 30, 3)))) (.branch 51 (.branch 50 (.leaf (49, .dup, 1)) (.leaf (50, .aload_n 0, 1))) (.branch 54 (.leaf (51, .getfield 9, 3)) (.leaf (54, .aload_n 0, 1))))))) (.branch 87 (.branch 72 (.branch 64 (.branch 58 (.leaf (55, .getfield 27, 3)) (.branch 61 (.leaf (58, .invokespecial 32, 3)) (.leaf (61, .putfield 35, 3)))) (.branch 68 (.branch 65 (.leaf (64, .aload_n 0, 1)) (.leaf (65, .new 39, 3))) (.branch 69 (.leaf (68, .dup, 1)) (.leaf (69, .invokespecial 41, 3))))) (.branch 79 (.branch 75 (.leaf (72, .putfield 42, 3)) (.branch 76 (.leaf (75, .aload_n 0, 1)) (.leaf (76, .new 46, 3)))) (.branch 81 (.branch 80 (.leaf (79, .dup, 1)) (.leaf (80, .aload_n 0, 1))) (.branch 84 (.leaf (81, .getfield 23, 3)) (.leaf (84, .invokespecial 48, 3)))))) (.branch 100 (.branch 94 (.branch 90 (.leaf (87, .putfield 51, 3)) (.branch 91 (.leaf (90, .aload_n 0, 1)) (.leaf (91, .new 55, 3)))) (.branch 96 (.branch 95 (.leaf (94, .dup, 1)) (.leaf (95, .aload_n 0, 1))) (.branch 99 (.leaf (96, .getfield 23, 3)) (.leaf (99, .aload_n 0, 1))))) (.branch 107 (.branch 103 (.leaf (100, .getfield 42, 3)) (.branch 104 (.leaf (103, .aload_n 0, 1)) (.leaf (104, .getfield 51, 3)))) (.branch 113 (.branch 110 (.leaf (107, .invokespecial 57, 3)) (.leaf (110, .putfield 60, 3))) (.branch 114 (.leaf (113, .aload_n 0, 1)) (.leaf (114, .new 64, 3)))))))) (.branch 172 (.branch 148 (.branch 132 (.branch 122 (.branch 118 (.leaf (117, .dup, 1)) (.branch 119 (.leaf (118, .aload_n 0, 1)) (.leaf (119, .getfield 23, 3)))) (.branch 128 (.branch 125 (.leaf (122, .invokespecial 66, 3)) (.leaf (125, .putfield 67, 3))) (.branch 129 (.leaf (128, .aload_n 0, 1)) (.leaf (129, .new 71, 3))))) (.branch 139 (.branch 133 (.leaf (132, .dup, 1)) (.branch 136 (.leaf (133, .invokespecial 73, 3)) (.leaf (136, .putfield 74, 3)))) (.branch 142 (.branch 140 (.leaf (139, .aload_n 0, 1)) (.leaf (140, .bipush 12, 2))) (.branch 145 (.leaf (142, .anewarray 39, 3)) (.leaf (145, .putfield 78, 3)))))) (.branch 159 (.branch 153 (.branch 149 (.leaf (148, .aload_n 0, 1)) (.branch 150 (.leaf (149, .iconst 0, 1)) (.leaf (150, .putfield 82, 3)))) (.branch 155 (.branch 154 (.leaf (153, .aload_n 0, 1)) (.leaf (154, .iconst 0, 1))) (.branch 158 (.leaf (155, .putfield 85, 3)) (.leaf (158, .aload_n 0, 1))))) (.branch 166 (.branch 160 (.leaf (159, .iconst 3, 1)) (.branch 163 (.leaf (160, .anewarray 39, 3)) (.leaf (163, .putfield 88, 3)))) (.branch 168 (.branch 167 (.leaf (166, .aload_n 0, 1)) (.leaf (167, .iconst 0, 1))) (.branch 171 (.leaf (168, .putfield 91, 3)) (.leaf (171, .iconst 0, 1))))))) (.branch 199 (.branch 184 (.branch 176 (.branch 173 (.leaf (172, .istore_n 1, 1)) (.branch 174 (.leaf (173, .iload_n 1, 1)) (.leaf (174, .bipush 12, 2)))) (.branch 180 (.branch 179 (.leaf (176, .if_icmp .ge 22, 3)) (.leaf (179, .aload_n 0, 1))) (.branch 183 (.leaf (180, .getfield 78, 3)) (.leaf (183, .iload_n 1, 1))))) (.branch 191 (.branch 187 (.leaf (184, .new 39, 3)) (.branch 188 (.leaf (187, .dup, 1)) (.leaf (188, .invokespecial 41, 3)))) (.branch 195 (.branch 192 (.leaf (191, .aastore, 1)) (.leaf (192, .iinc 1 1, 3))) (.branch 198 (.leaf (195, .goto (-22), 3)) (.leaf (198, .iconst 0, 1)))))) (.branch 210 (.branch 202 (.branch 200 (.leaf (199, .istore_n 1, 1)) (.branch 201 (.leaf (200, .iload_n 1, 1)) (.leaf (201, .iconst 3, 1)))) (.branch 206 (.branch 205 (.leaf (202, .if_icmp .ge 22, 3)) (.leaf (205, .aload_n 0, 1))) (.branch 209 (.leaf (206, .getfield 88, 3)) (.leaf (209, .iload_n 1, 1))))) (.branch 217 (.branch 213 (.leaf (210, .new 39, 3)) (.branch 214 (.leaf (213, .dup, 1)) (.leaf (214, .invokespecial 41, 3)))) (.branch 221 (.branch 218 (.leaf (217, .aastore, 1)) (.leaf (218, .iinc 1 1, 3))) (.branch 224 (.leaf (221, .goto (-21), 3)) (.leaf (224, .return_, 1))))))))
set_option maxRecDepth 100000 in
theorem ofX11_init : dFl tX11_init = oX11_init := rfl
theorem dX11_init_0 : decode cX11_init 0 = .ok (.aload_n 0, 1) := d_by (d_at odX11_init ofX11_init 0) rfl
theorem dX11_init_1 : decode cX11_init 1 = .ok (.invokespecial 1, 3) := d_by (d_at odX11_init ofX11_init 1) rfl
theorem dX11_init_4 : decode cX11_init 4 = .ok (.aload_n 0, 1) := d_by (d_at odX11_init ofX11_init 4) rfl
theorem dX11_init_5 : decode cX11_init 5 = .ok (.sipush 1000, 3) := d_by (d_at odX11_init ofX11_init 5) rfl
theorem dX11_init_8 : decode cX11_init 8 = .ok (.newarray .byte, 2) := d_by (d_at odX11_init ofX11_init 8) rfl
theorem dX11_init_10 : decode cX11_init 10 = .ok (.putfield 9, 3) := d_by (d_at odX11_init ofX11_init 10) rfl
theorem dX11_init_13 : decode cX11_init 13 = .ok (.aload_n 0, 1) := d_by (d_at odX11_init ofX11_init 13) rfl
theorem dX11_init_14 : decode cX11_init 14 = .ok (.iconst 0, 1) := d_by (d_at odX11_init ofX11_init 14) rfl
theorem dX11_init_15 : decode cX11_init 15 = .ok (.putfield 13, 3) := d_by (d_at odX11_init ofX11_init 15) rfl
theorem dX11_init_18 : decode cX11_init 18 = .ok (.aload_n 0, 1) := d_by (d_at odX11_init ofX11_init 18) rfl
theorem dX11_init_19 : decode cX11_init 19 = .ok (.iconst 0, 1) := d_by (d_at odX11_init ofX11_init 19) rfl
theorem dX11_init_20 : decode cX11_init 20 = .ok (.putfield 17, 3) := d_by (d_at odX11_init ofX11_init 20) rfl
theorem dX11_init_23 : decode cX11_init 23 = .ok (.aload_n 0, 1) := d_by (d_at odX11_init ofX11_init 23) rfl
theorem dX11_init_24 : decode cX11_init 24 = .ok (.new 20, 3) := d_by (d_at odX11_init ofX11_init 24) rfl
theorem dX11_init_27 : decode cX11_init 27 = .ok (.dup, 1) := d_by (d_at odX11_init ofX11_init 27) rfl
theorem dX11_init_28 : decode cX11_init 28 = .ok (.invokespecial 22, 3) := d_by (d_at odX11_init ofX11_init 28) rfl
theorem dX11_init_31 : decode cX11_init 31 = .ok (.putfield 23, 3) := d_by (d_at odX11_init ofX11_init 31) rfl
theorem dX11_init_34 : decode cX11_init 34 = .ok (.aload_n 0, 1) := d_by (d_at odX11_init ofX11_init 34) rfl
theorem dX11_init_35 : decode cX11_init 35 = .ok (.new 20, 3) := d_by (d_at odX11_init ofX11_init 35) rfl
theorem dX11_init_38 : decode cX11_init 38 = .ok (.dup, 1) := d_by (d_at odX11_init ofX11_init 38) rfl
theorem dX11_init_39 : decode cX11_init 39 = .ok (.invokespecial 22, 3) := d_by (d_at odX11_init ofX11_init 39) rfl
theorem dX11_init_42 : decode cX11_init 42 = .ok (.putfield 27, 3) := d_by (d_at odX11_init ofX11_init 42) rfl
theorem dX11_init_45 : decode cX11_init 45 = .ok (.aload_n 0, 1) := d_by (d_at odX11_init ofX11_init 45) rfl
theorem dX11_init_46 : decode cX11_init 46 = .ok (.new 30, 3) := d_by (d_at odX11_init ofX11_init 46) rfl
theorem dX11_init_49 : decode cX11_init 49 = .ok (.dup, 1) := d_by (d_at odX11_init ofX11_init 49) rfl
theorem dX11_init_50 : decode cX11_init 50 = .ok (.aload_n 0, 1) := d_by (d_at odX11_init ofX11_init 50) rfl
theorem dX11_init_51 : decode cX11_init 51 = .ok (.getfield 9, 3) := d_by (d_at odX11_init ofX11_init 51) rfl
theorem dX11_init_54 : decode cX11_init 54 = .ok (.aload_n 0, 1) := d_by (d_at odX11_init ofX11_init 54) rfl
theorem dX11_init_55 : decode cX11_init 55 = .ok (.getfield 27, 3) := d_by (d_at odX11_init ofX11_init 55) rfl
theorem dX11_init_58 : decode cX11_init 58 = .ok (.invokespecial 32, 3) := d_by (d_at odX11_init ofX11_init 58) rfl
theorem dX11_init_61 : decode cX11_init 61 = .ok (.putfield 35, 3) := d_by (d_at odX11_init ofX11_init 61) rfl
theorem dX11_init_64 : decode cX11_init 64 = .ok (.aload_n 0, 1) := d_by (d_at odX11_init ofX11_init 64) rfl
theorem dX11_init_65 : decode cX11_init 65 = .ok (.new 39, 3) := d_by (d_at odX11_init ofX11_init 65) rfl
theorem dX11_init_68 : decode cX11_init 68 = .ok (.dup, 1) := d_by (d_at odX11_init ofX11_init 68) rfl
theorem dX11_init_69 : decode cX11_init 69 = .ok (.invokespecial 41, 3) := d_by (d_at odX11_init ofX11_init 69) rfl
theorem dX11_init_72 : decode cX11_init 72 = .ok (.putfield 42, 3) := d_by (d_at odX11_init ofX11_init 72) rfl
theorem dX11_init_75 : decode cX11_init 75 = .ok (.aload_n 0, 1) := d_by (d_at odX11_init ofX11_init 75) rfl
theorem dX11_init_76 : decode cX11_init 76 = .ok (.new 46, 3) := d_by (d_at odX11_init ofX11_init 76) rfl
theorem dX11_init_79 : decode cX11_init 79 = .ok (.dup, 1) := d_by (d_at odX11_init ofX11_init 79) rfl
theorem dX11_init_80 : decode cX11_init 80 = .ok (.aload_n 0, 1) := d_by (d_at odX11_init ofX11_init 80) rfl
theorem dX11_init_81 : decode cX11_init 81 = .ok (.getfield 23, 3) := d_by (d_at odX11_init ofX11_init 81) rfl
theorem dX11_init_84 : decode cX11_init 84 = .ok (.invokespecial 48, 3) := d_by (d_at odX11_init ofX11_init 84) rfl
theorem dX11_init_87 : decode cX11_init 87 = .ok (.putfield 51, 3) := d_by (d_at odX11_init ofX11_init 87) rfl
theorem dX11_init_90 : decode cX11_init 90 = .ok (.aload_n 0, 1) := d_by (d_at odX11_init ofX11_init 90) rfl
theorem dX11_init_91 : decode cX11_init 91 = .ok (.new 55, 3) := d_by (d_at odX11_init ofX11_init 91) rfl
theorem dX11_init_94 : decode cX11_init 94 = .ok (.dup, 1) := d_by (d_at odX11_init ofX11_init 94) rfl
theorem dX11_init_95 : decode cX11_init 95 = .ok (.aload_n 0, 1) := d_by (d_at odX11_init ofX11_init 95) rfl
theorem dX11_init_96 : decode cX11_init 96 = .ok (.getfield 23, 3) := d_by (d_at odX11_init ofX11_init 96) rfl
theorem dX11_init_99 : decode cX11_init 99 = .ok (.aload_n 0, 1) := d_by (d_at odX11_init ofX11_init 99) rfl
theorem dX11_init_100 : decode cX11_init 100 = .ok (.getfield 42, 3) := d_by (d_at odX11_init ofX11_init 100) rfl
theorem dX11_init_103 : decode cX11_init 103 = .ok (.aload_n 0, 1) := d_by (d_at odX11_init ofX11_init 103) rfl
theorem dX11_init_104 : decode cX11_init 104 = .ok (.getfield 51, 3) := d_by (d_at odX11_init ofX11_init 104) rfl
theorem dX11_init_107 : decode cX11_init 107 = .ok (.invokespecial 57, 3) := d_by (d_at odX11_init ofX11_init 107) rfl
theorem dX11_init_110 : decode cX11_init 110 = .ok (.putfield 60, 3) := d_by (d_at odX11_init ofX11_init 110) rfl
theorem dX11_init_113 : decode cX11_init 113 = .ok (.aload_n 0, 1) := d_by (d_at odX11_init ofX11_init 113) rfl
theorem dX11_init_114 : decode cX11_init 114 = .ok (.new 64, 3) := d_by (d_at odX11_init ofX11_init 114) rfl
theorem dX11_init_117 : decode cX11_init 117 = .ok (.dup, 1) := d_by (d_at odX11_init ofX11_init 117) rfl
theorem dX11_init_118 : decode cX11_init 118 = .ok (.aload_n 0, 1) := d_by (d_at odX11_init ofX11_init 118) rfl
theorem dX11_init_119 : decode cX11_init 119 = .ok (.getfield 23, 3) := d_by (d_at odX11_init ofX11_init 119) rfl
theorem dX11_init_122 : decode cX11_init 122 = .ok (.invokespecial 66, 3) := d_by (d_at odX11_init ofX11_init 122) rfl
theorem dX11_init_125 : decode cX11_init 125 = .ok (.putfield 67, 3) := d_by (d_at odX11_init ofX11_init 125) rfl
theorem dX11_init_128 : decode cX11_init 128 = .ok (.aload_n 0, 1) := d_by (d_at odX11_init ofX11_init 128) rfl
theorem dX11_init_129 : decode cX11_init 129 = .ok (.new 71, 3) := d_by (d_at odX11_init ofX11_init 129) rfl
theorem dX11_init_132 : decode cX11_init 132 = .ok (.dup, 1) := d_by (d_at odX11_init ofX11_init 132) rfl
theorem dX11_init_133 : decode cX11_init 133 = .ok (.invokespecial 73, 3) := d_by (d_at odX11_init ofX11_init 133) rfl
theorem dX11_init_136 : decode cX11_init 136 = .ok (.putfield 74, 3) := d_by (d_at odX11_init ofX11_init 136) rfl
theorem dX11_init_139 : decode cX11_init 139 = .ok (.aload_n 0, 1) := d_by (d_at odX11_init ofX11_init 139) rfl
theorem dX11_init_140 : decode cX11_init 140 = .ok (.bipush 12, 2) := d_by (d_at odX11_init ofX11_init 140) rfl
theorem dX11_init_142 : decode cX11_init 142 = .ok (.anewarray 39, 3) := d_by (d_at odX11_init ofX11_init 142) rfl
theorem dX11_init_145 : decode cX11_init 145 = .ok (.putfield 78, 3) := d_by (d_at odX11_init ofX11_init 145) rfl
theorem dX11_init_148 : decode cX11_init 148 = .ok (.aload_n 0, 1) := d_by (d_at odX11_init ofX11_init 148) rfl
theorem dX11_init_149 : decode cX11_init 149 = .ok (.iconst 0, 1) := d_by (d_at odX11_init ofX11_init 149) rfl
theorem dX11_init_150 : decode cX11_init 150 = .ok (.putfield 82, 3) := d_by (d_at odX11_init ofX11_init 150) rfl
theorem dX11_init_153 : decode cX11_init 153 = .ok (.aload_n 0, 1) := d_by (d_at odX11_init ofX11_init 153) rfl
theorem dX11_init_154 : decode cX11_init 154 = .ok (.iconst 0, 1) := d_by (d_at odX11_init ofX11_init 154) rfl
theorem dX11_init_155 : decode cX11_init 155 = .ok (.putfield 85, 3) := d_by (d_at odX11_init ofX11_init 155) rfl
theorem dX11_init_158 : decode cX11_init 158 = .ok (.aload_n 0, 1) := d_by (d_at odX11_init ofX11_init 158) rfl
theorem dX11_init_159 : decode cX11_init 159 = .ok (.iconst 3, 1) := d_by (d_at odX11_init ofX11_init 159) rfl
theorem dX11_init_160 : decode cX11_init 160 = .ok (.anewarray 39, 3) := d_by (d_at odX11_init ofX11_init 160) rfl
theorem dX11_init_163 : decode cX11_init 163 = .ok (.putfield 88, 3) := d_by (d_at odX11_init ofX11_init 163) rfl
theorem dX11_init_166 : decode cX11_init 166 = .ok (.aload_n 0, 1) := d_by (d_at odX11_init ofX11_init 166) rfl
theorem dX11_init_167 : decode cX11_init 167 = .ok (.iconst 0, 1) := d_by (d_at odX11_init ofX11_init 167) rfl
theorem dX11_init_168 : decode cX11_init 168 = .ok (.putfield 91, 3) := d_by (d_at odX11_init ofX11_init 168) rfl
theorem dX11_init_171 : decode cX11_init 171 = .ok (.iconst 0, 1) := d_by (d_at odX11_init ofX11_init 171) rfl
theorem dX11_init_172 : decode cX11_init 172 = .ok (.istore_n 1, 1) := d_by (d_at odX11_init ofX11_init 172) rfl
theorem dX11_init_173 : decode cX11_init 173 = .ok (.iload_n 1, 1) := d_by (d_at odX11_init ofX11_init 173) rfl
theorem dX11_init_174 : decode cX11_init 174 = .ok (.bipush 12, 2) := d_by (d_at odX11_init ofX11_init 174) rfl
theorem dX11_init_176 : decode cX11_init 176 = .ok (.if_icmp .ge 22, 3) := d_by (d_at odX11_init ofX11_init 176) rfl
theorem dX11_init_179 : decode cX11_init 179 = .ok (.aload_n 0, 1) := d_by (d_at odX11_init ofX11_init 179) rfl
theorem dX11_init_180 : decode cX11_init 180 = .ok (.getfield 78, 3) := d_by (d_at odX11_init ofX11_init 180) rfl
theorem dX11_init_183 : decode cX11_init 183 = .ok (.iload_n 1, 1) := d_by (d_at odX11_init ofX11_init 183) rfl
theorem dX11_init_184 : decode cX11_init 184 = .ok (.new 39, 3) := d_by (d_at odX11_init ofX11_init 184) rfl
theorem dX11_init_187 : decode cX11_init 187 = .ok (.dup, 1) := d_by (d_at odX11_init ofX11_init 187) rfl
theorem dX11_init_188 : decode cX11_init 188 = .ok (.invokespecial 41, 3) := d_by (d_at odX11_init ofX11_init 188) rfl
theorem dX11_init_191 : decode cX11_init 191 = .ok (.aastore, 1) := d_by (d_at odX11_init ofX11_init 191) rfl
theorem dX11_init_192 : decode cX11_init 192 = .ok (.iinc 1 1, 3) := d_by (d_at odX11_init ofX11_init 192) rfl
theorem dX11_init_195 : decode cX11_init 195 = .ok (.goto (-22), 3) := d_by (d_at odX11_init ofX11_init 195) rfl
theorem dX11_init_198 : decode cX11_init 198 = .ok (.iconst 0, 1) := d_by (d_at odX11_init ofX11_init 198) rfl
theorem dX11_init_199 : decode cX11_init 199 = .ok (.istore_n 1, 1) := d_by (d_at odX11_init ofX11_init 199) rfl
theorem dX11_init_200 : decode cX11_init 200 = .ok (.iload_n 1, 1) := d_by (d_at odX11_init ofX11_init 200) rfl
theorem dX11_init_201 : decode cX11_init 201 = .ok (.iconst 3, 1) := d_by (d_at odX11_init ofX11_init 201) rfl
theorem dX11_init_202 : decode cX11_init 202 = .ok (.if_icmp .ge 22, 3) := d_by (d_at odX11_init ofX11_init 202) rfl
theorem dX11_init_205 : decode cX11_init 205 = .ok (.aload_n 0, 1) := d_by (d_at odX11_init ofX11_init 205) rfl
theorem dX11_init_206 : decode cX11_init 206 = .ok (.getfield 88, 3) := d_by (d_at odX11_init ofX11_init 206) rfl
theorem dX11_init_209 : decode cX11_init 209 = .ok (.iload_n 1, 1) := d_by (d_at odX11_init ofX11_init 209) rfl
theorem dX11_init_210 : decode cX11_init 210 = .ok (.new 39, 3) := d_by (d_at odX11_init ofX11_init 210) rfl
theorem dX11_init_213 : decode cX11_init 213 = .ok (.dup, 1) := d_by (d_at odX11_init ofX11_init 213) rfl
theorem dX11_init_214 : decode cX11_init 214 = .ok (.invokespecial 41, 3) := d_by (d_at odX11_init ofX11_init 214) rfl
theorem dX11_init_217 : decode cX11_init 217 = .ok (.aastore, 1) := d_by (d_at odX11_init ofX11_init 217) rfl
theorem dX11_init_218 : decode cX11_init 218 = .ok (.iinc 1 1, 3) := d_by (d_at odX11_init ofX11_init 218) rfl
theorem dX11_init_221 : decode cX11_init 221 = .ok (.goto (-21), 3) := d_by (d_at odX11_init ofX11_init 221) rfl
theorem dX11_init_224 : decode cX11_init 224 = .ok (.return_, 1) := d_by (d_at odX11_init ofX11_init 224) rfl
set_option maxRecDepth 100000 in
def bX11_feed : List Nat := [42, 180, 0, 13, 17, 3, 212, 164, 0, 5, 2, 172, 42, 27, 182, 0, 94, 42, 28, 182, 0, 94, 42, 29, 182, 0, 94, 42, 21, 4, 182, 0, 94, 42, 21, 5, 182, 0, 94, 42, 180, 0, 13, 172]
set_option maxRecDepth 100000 in
theorem bbX11_feed : cX11_feed.data.toList.map UInt8.toNat = bX11_feed := by decide +kernel
set_option maxRecDepth 100000 in
def tX11_feed : Lean.RArray dLf := .branch 22 (.branch 12 (.branch 7 (.branch 1 (.leaf (0, .aload_n 0, 1)) (.branch 4 (.leaf (1, .getfield 13, 3)) (.leaf (4, .sipush 980, 3)))) (.branch 10 (.leaf (7, .if_icmp .le 5, 3)) (.branch 11 (.leaf (10, .iconst (-1), 1)) (.leaf (11, .ireturn, 1))))) (.branch 17 (.branch 13 (.leaf (12, .aload_n 0, 1)) (.branch 14 (.leaf (13, .iload_n 1, 1)) (.leaf (14, .invokevirtual 94, 3)))) (.branch 18 (.leaf (17, .aload_n 0, 1)) (.branch 19 (.leaf (18, .iload_n 2, 1)) (.leaf (19, .invokevirtual 94, 3)))))) (.branch 33 (.branch 27 (.branch 23 (.leaf (22, .aload_n 0, 1)) (.branch 24 (.leaf (23, .iload_n 3, 1)) (.leaf (24, .invokevirtual 94, 3)))) (.branch 28 (.leaf (27, .aload_n 0, 1)) (.branch 30 (.leaf (28, .iload 4, 2)) (.leaf (30, .invokevirtual 94, 3))))) (.branch 39 (.branch 34 (.leaf (33, .aload_n 0, 1)) (.branch 36 (.leaf (34, .iload 5, 2)) (.leaf (36, .invokevirtual 94, 3)))) (.branch 40 (.leaf (39, .aload_n 0, 1)) (.branch 43 (.leaf (40, .getfield 13, 3)) (.leaf (43, .ireturn, 1))))))
noncomputable def oX11_feed : List dLf := dFl tX11_feed
theorem ofX11_feed : dFl tX11_feed = oX11_feed := rfl
set_option maxRecDepth 100000 in
theorem odX11_feed : ∀ q ∈ oX11_feed, decode cX11_feed q.1 = .ok (q.2.1, q.2.2) := q_go qT_ok bbX11_feed oX11_feed 0 (by decide +kernel)
theorem dX11_feed_0 : decode cX11_feed 0 = .ok (.aload_n 0, 1) := d_by (d_at odX11_feed ofX11_feed 0) rfl
theorem dX11_feed_1 : decode cX11_feed 1 = .ok (.getfield 13, 3) := d_by (d_at odX11_feed ofX11_feed 1) rfl
theorem dX11_feed_4 : decode cX11_feed 4 = .ok (.sipush 980, 3) := d_by (d_at odX11_feed ofX11_feed 4) rfl
theorem dX11_feed_7 : decode cX11_feed 7 = .ok (.if_icmp .le 5, 3) := d_by (d_at odX11_feed ofX11_feed 7) rfl
theorem dX11_feed_10 : decode cX11_feed 10 = .ok (.iconst (-1), 1) := d_by (d_at odX11_feed ofX11_feed 10) rfl
theorem dX11_feed_11 : decode cX11_feed 11 = .ok (.ireturn, 1) := d_by (d_at odX11_feed ofX11_feed 11) rfl
theorem dX11_feed_12 : decode cX11_feed 12 = .ok (.aload_n 0, 1) := d_by (d_at odX11_feed ofX11_feed 12) rfl
theorem dX11_feed_13 : decode cX11_feed 13 = .ok (.iload_n 1, 1) := d_by (d_at odX11_feed ofX11_feed 13) rfl
theorem dX11_feed_14 : decode cX11_feed 14 = .ok (.invokevirtual 94, 3) := d_by (d_at odX11_feed ofX11_feed 14) rfl
theorem dX11_feed_17 : decode cX11_feed 17 = .ok (.aload_n 0, 1) := d_by (d_at odX11_feed ofX11_feed 17) rfl
theorem dX11_feed_18 : decode cX11_feed 18 = .ok (.iload_n 2, 1) := d_by (d_at odX11_feed ofX11_feed 18) rfl
theorem dX11_feed_19 : decode cX11_feed 19 = .ok (.invokevirtual 94, 3) := d_by (d_at odX11_feed ofX11_feed 19) rfl
theorem dX11_feed_22 : decode cX11_feed 22 = .ok (.aload_n 0, 1) := d_by (d_at odX11_feed ofX11_feed 22) rfl
theorem dX11_feed_23 : decode cX11_feed 23 = .ok (.iload_n 3, 1) := d_by (d_at odX11_feed ofX11_feed 23) rfl
theorem dX11_feed_24 : decode cX11_feed 24 = .ok (.invokevirtual 94, 3) := d_by (d_at odX11_feed ofX11_feed 24) rfl
theorem dX11_feed_27 : decode cX11_feed 27 = .ok (.aload_n 0, 1) := d_by (d_at odX11_feed ofX11_feed 27) rfl
theorem dX11_feed_28 : decode cX11_feed 28 = .ok (.iload 4, 2) := d_by (d_at odX11_feed ofX11_feed 28) rfl
theorem dX11_feed_30 : decode cX11_feed 30 = .ok (.invokevirtual 94, 3) := d_by (d_at odX11_feed ofX11_feed 30) rfl
theorem dX11_feed_33 : decode cX11_feed 33 = .ok (.aload_n 0, 1) := d_by (d_at odX11_feed ofX11_feed 33) rfl
theorem dX11_feed_34 : decode cX11_feed 34 = .ok (.iload 5, 2) := d_by (d_at odX11_feed ofX11_feed 34) rfl
theorem dX11_feed_36 : decode cX11_feed 36 = .ok (.invokevirtual 94, 3) := d_by (d_at odX11_feed ofX11_feed 36) rfl
theorem dX11_feed_39 : decode cX11_feed 39 = .ok (.aload_n 0, 1) := d_by (d_at odX11_feed ofX11_feed 39) rfl
theorem dX11_feed_40 : decode cX11_feed 40 = .ok (.getfield 13, 3) := d_by (d_at odX11_feed ofX11_feed 40) rfl
theorem dX11_feed_43 : decode cX11_feed 43 = .ok (.ireturn, 1) := d_by (d_at odX11_feed ofX11_feed 43) rfl
set_option maxRecDepth 100000 in
def bX11_post : List Nat := [27, 155, 0, 11, 27, 42, 180, 0, 13, 164, 0, 9, 42, 5, 182, 0, 98, 172, 42, 3, 181, 0, 13, 42, 180, 0, 35, 27, 42, 180, 0, 27, 182, 0, 102, 154, 0, 9, 42, 7, 182, 0, 98, 172, 42, 182, 0, 106, 42, 42, 180, 0, 23, 180, 0, 109, 182, 0, 112, 172]
set_option maxRecDepth 100000 in
theorem bbX11_post : cX11_post.data.toList.map UInt8.toNat = bX11_post := by decide +kernel
set_option maxRecDepth 100000 in
def tX11_post : Lean.RArray dLf := .branch 28 (.branch 14 (.branch 6 (.branch 4 (.branch 1 (.leaf (0, .iload_n 1, 1)) (.leaf (1, .ifCond .lt 11, 3))) (.branch 5 (.leaf (4, .iload_n 1, 1)) (.leaf (5, .aload_n 0, 1)))) (.branch 12 (.branch 9 (.leaf (6, .getfield 13, 3)) (.leaf (9, .if_icmp .le 9, 3))) (.branch 13 (.leaf (12, .aload_n 0, 1)) (.leaf (13, .iconst 2, 1))))) (.branch 20 (.branch 18 (.branch 17 (.leaf (14, .invokevirtual 98, 3)) (.leaf (17, .ireturn, 1))) (.branch 19 (.leaf (18, .aload_n 0, 1)) (.leaf (19, .iconst 0, 1)))) (.branch 24 (.branch 23 (.leaf (20, .putfield 13, 3)) (.leaf (23, .aload_n 0, 1))) (.branch 27 (.leaf (24, .getfield 35, 3)) (.leaf (27, .iload_n 1, 1)))))) (.branch 44 (.branch 38 (.branch 32 (.branch 29 (.leaf (28, .aload_n 0, 1)) (.leaf (29, .getfield 27, 3))) (.branch 35 (.leaf (32, .invokevirtual 102, 3)) (.leaf (35, .ifCond .ne 9, 3)))) (.branch 40 (.branch 39 (.leaf (38, .aload_n 0, 1)) (.leaf (39, .iconst 4, 1))) (.branch 43 (.leaf (40, .invokevirtual 98, 3)) (.leaf (43, .ireturn, 1))))) (.branch 50 (.branch 48 (.branch 45 (.leaf (44, .aload_n 0, 1)) (.leaf (45, .invokevirtual 106, 3))) (.branch 49 (.leaf (48, .aload_n 0, 1)) (.leaf (49, .aload_n 0, 1)))) (.branch 56 (.branch 53 (.leaf (50, .getfield 23, 3)) (.leaf (53, .getfield 109, 3))) (.branch 59 (.leaf (56, .invokevirtual 112, 3)) (.leaf (59, .ireturn, 1))))))
noncomputable def oX11_post : List dLf := dFl tX11_post
theorem ofX11_post : dFl tX11_post = oX11_post := rfl
set_option maxRecDepth 100000 in
theorem odX11_post : ∀ q ∈ oX11_post, decode cX11_post q.1 = .ok (q.2.1, q.2.2) := q_go qT_ok bbX11_post oX11_post 0 (by decide +kernel)
theorem dX11_post_0 : decode cX11_post 0 = .ok (.iload_n 1, 1) := d_by (d_at odX11_post ofX11_post 0) rfl
theorem dX11_post_1 : decode cX11_post 1 = .ok (.ifCond .lt 11, 3) := d_by (d_at odX11_post ofX11_post 1) rfl
theorem dX11_post_4 : decode cX11_post 4 = .ok (.iload_n 1, 1) := d_by (d_at odX11_post ofX11_post 4) rfl
theorem dX11_post_5 : decode cX11_post 5 = .ok (.aload_n 0, 1) := d_by (d_at odX11_post ofX11_post 5) rfl
theorem dX11_post_6 : decode cX11_post 6 = .ok (.getfield 13, 3) := d_by (d_at odX11_post ofX11_post 6) rfl
theorem dX11_post_9 : decode cX11_post 9 = .ok (.if_icmp .le 9, 3) := d_by (d_at odX11_post ofX11_post 9) rfl
theorem dX11_post_12 : decode cX11_post 12 = .ok (.aload_n 0, 1) := d_by (d_at odX11_post ofX11_post 12) rfl
theorem dX11_post_13 : decode cX11_post 13 = .ok (.iconst 2, 1) := d_by (d_at odX11_post ofX11_post 13) rfl
theorem dX11_post_14 : decode cX11_post 14 = .ok (.invokevirtual 98, 3) := d_by (d_at odX11_post ofX11_post 14) rfl
theorem dX11_post_17 : decode cX11_post 17 = .ok (.ireturn, 1) := d_by (d_at odX11_post ofX11_post 17) rfl
theorem dX11_post_18 : decode cX11_post 18 = .ok (.aload_n 0, 1) := d_by (d_at odX11_post ofX11_post 18) rfl
theorem dX11_post_19 : decode cX11_post 19 = .ok (.iconst 0, 1) := d_by (d_at odX11_post ofX11_post 19) rfl
theorem dX11_post_20 : decode cX11_post 20 = .ok (.putfield 13, 3) := d_by (d_at odX11_post ofX11_post 20) rfl
theorem dX11_post_23 : decode cX11_post 23 = .ok (.aload_n 0, 1) := d_by (d_at odX11_post ofX11_post 23) rfl
theorem dX11_post_24 : decode cX11_post 24 = .ok (.getfield 35, 3) := d_by (d_at odX11_post ofX11_post 24) rfl
theorem dX11_post_27 : decode cX11_post 27 = .ok (.iload_n 1, 1) := d_by (d_at odX11_post ofX11_post 27) rfl
theorem dX11_post_28 : decode cX11_post 28 = .ok (.aload_n 0, 1) := d_by (d_at odX11_post ofX11_post 28) rfl
theorem dX11_post_29 : decode cX11_post 29 = .ok (.getfield 27, 3) := d_by (d_at odX11_post ofX11_post 29) rfl
theorem dX11_post_32 : decode cX11_post 32 = .ok (.invokevirtual 102, 3) := d_by (d_at odX11_post ofX11_post 32) rfl
theorem dX11_post_35 : decode cX11_post 35 = .ok (.ifCond .ne 9, 3) := d_by (d_at odX11_post ofX11_post 35) rfl
theorem dX11_post_38 : decode cX11_post 38 = .ok (.aload_n 0, 1) := d_by (d_at odX11_post ofX11_post 38) rfl
theorem dX11_post_39 : decode cX11_post 39 = .ok (.iconst 4, 1) := d_by (d_at odX11_post ofX11_post 39) rfl
theorem dX11_post_40 : decode cX11_post 40 = .ok (.invokevirtual 98, 3) := d_by (d_at odX11_post ofX11_post 40) rfl
theorem dX11_post_43 : decode cX11_post 43 = .ok (.ireturn, 1) := d_by (d_at odX11_post ofX11_post 43) rfl
theorem dX11_post_44 : decode cX11_post 44 = .ok (.aload_n 0, 1) := d_by (d_at odX11_post ofX11_post 44) rfl
theorem dX11_post_45 : decode cX11_post 45 = .ok (.invokevirtual 106, 3) := d_by (d_at odX11_post ofX11_post 45) rfl
theorem dX11_post_48 : decode cX11_post 48 = .ok (.aload_n 0, 1) := d_by (d_at odX11_post ofX11_post 48) rfl
theorem dX11_post_49 : decode cX11_post 49 = .ok (.aload_n 0, 1) := d_by (d_at odX11_post ofX11_post 49) rfl
theorem dX11_post_50 : decode cX11_post 50 = .ok (.getfield 23, 3) := d_by (d_at odX11_post ofX11_post 50) rfl
theorem dX11_post_53 : decode cX11_post 53 = .ok (.getfield 109, 3) := d_by (d_at odX11_post ofX11_post 53) rfl
theorem dX11_post_56 : decode cX11_post 56 = .ok (.invokevirtual 112, 3) := d_by (d_at odX11_post ofX11_post 56) rfl
theorem dX11_post_59 : decode cX11_post 59 = .ok (.ireturn, 1) := d_by (d_at odX11_post ofX11_post 59) rfl
set_option maxRecDepth 100000 in
def bX11_fault : List Nat := [42, 180, 0, 35, 180, 0, 115, 172]
set_option maxRecDepth 100000 in
theorem bbX11_fault : cX11_fault.data.toList.map UInt8.toNat = bX11_fault := by decide +kernel
set_option maxRecDepth 100000 in
def tX11_fault : Lean.RArray dLf := .branch 4 (.branch 1 (.leaf (0, .aload_n 0, 1)) (.leaf (1, .getfield 35, 3))) (.branch 7 (.leaf (4, .getfield 115, 3)) (.leaf (7, .ireturn, 1)))
noncomputable def oX11_fault : List dLf := dFl tX11_fault
theorem ofX11_fault : dFl tX11_fault = oX11_fault := rfl
set_option maxRecDepth 100000 in
theorem odX11_fault : ∀ q ∈ oX11_fault, decode cX11_fault q.1 = .ok (q.2.1, q.2.2) := q_go qT_ok bbX11_fault oX11_fault 0 (by decide +kernel)
theorem dX11_fault_0 : decode cX11_fault 0 = .ok (.aload_n 0, 1) := d_by (d_at odX11_fault ofX11_fault 0) rfl
theorem dX11_fault_1 : decode cX11_fault 1 = .ok (.getfield 35, 3) := d_by (d_at odX11_fault ofX11_fault 1) rfl
theorem dX11_fault_4 : decode cX11_fault 4 = .ok (.getfield 115, 3) := d_by (d_at odX11_fault ofX11_fault 4) rfl
theorem dX11_fault_7 : decode cX11_fault 7 = .ok (.ireturn, 1) := d_by (d_at odX11_fault ofX11_fault 7) rfl
set_option maxRecDepth 100000 in
def bX11_where : List Nat := [42, 180, 0, 17, 7, 160, 0, 13, 42, 180, 0, 35, 180, 0, 118, 167, 0, 4, 2, 172]
set_option maxRecDepth 100000 in
theorem bbX11_where : cX11_where.data.toList.map UInt8.toNat = bX11_where := by decide +kernel
set_option maxRecDepth 100000 in
def tX11_where : Lean.RArray dLf := .branch 9 (.branch 4 (.branch 1 (.leaf (0, .aload_n 0, 1)) (.leaf (1, .getfield 17, 3))) (.branch 5 (.leaf (4, .iconst 4, 1)) (.branch 8 (.leaf (5, .if_icmp .ne 13, 3)) (.leaf (8, .aload_n 0, 1))))) (.branch 15 (.branch 12 (.leaf (9, .getfield 35, 3)) (.leaf (12, .getfield 118, 3))) (.branch 18 (.leaf (15, .goto 4, 3)) (.branch 19 (.leaf (18, .iconst (-1), 1)) (.leaf (19, .ireturn, 1)))))
noncomputable def oX11_where : List dLf := dFl tX11_where
theorem ofX11_where : dFl tX11_where = oX11_where := rfl
set_option maxRecDepth 100000 in
theorem odX11_where : ∀ q ∈ oX11_where, decode cX11_where q.1 = .ok (q.2.1, q.2.2) := q_go qT_ok bbX11_where oX11_where 0 (by decide +kernel)
theorem dX11_where_0 : decode cX11_where 0 = .ok (.aload_n 0, 1) := d_by (d_at odX11_where ofX11_where 0) rfl
theorem dX11_where_1 : decode cX11_where 1 = .ok (.getfield 17, 3) := d_by (d_at odX11_where ofX11_where 1) rfl
theorem dX11_where_4 : decode cX11_where 4 = .ok (.iconst 4, 1) := d_by (d_at odX11_where ofX11_where 4) rfl
theorem dX11_where_5 : decode cX11_where 5 = .ok (.if_icmp .ne 13, 3) := d_by (d_at odX11_where ofX11_where 5) rfl
theorem dX11_where_8 : decode cX11_where 8 = .ok (.aload_n 0, 1) := d_by (d_at odX11_where ofX11_where 8) rfl
theorem dX11_where_9 : decode cX11_where 9 = .ok (.getfield 35, 3) := d_by (d_at odX11_where ofX11_where 9) rfl
theorem dX11_where_12 : decode cX11_where 12 = .ok (.getfield 118, 3) := d_by (d_at odX11_where ofX11_where 12) rfl
theorem dX11_where_15 : decode cX11_where 15 = .ok (.goto 4, 3) := d_by (d_at odX11_where ofX11_where 15) rfl
theorem dX11_where_18 : decode cX11_where 18 = .ok (.iconst (-1), 1) := d_by (d_at odX11_where ofX11_where 18) rfl
theorem dX11_where_19 : decode cX11_where 19 = .ok (.ireturn, 1) := d_by (d_at odX11_where ofX11_where 19) rfl
set_option maxRecDepth 100000 in
def bX11_whale : List Nat := [42, 27, 182, 0, 121, 154, 0, 9, 42, 4, 182, 0, 98, 172, 28, 170, 0, 0, 0, 112, 0, 0, 0, 0, 0, 0, 0, 4, 0, 0, 0, 33, 0, 0, 0, 50, 0, 0, 0, 64, 0, 0, 0, 78, 0, 0, 0, 95, 42, 42, 180, 0, 23, 180, 0, 125, 27, 50, 180, 0, 129, 182, 0, 112, 172, 42, 42, 180, 0, 42, 180, 0, 134, 27, 46, 182, 0, 112, 172, 42, 42, 180, 0, 42, 180, 0, 138, 27, 46, 182, 0, 112, 172, 42, 42, 180, 0, 23, 180, 0, 125, 27, 50, 180, 0, 141, 182, 0, 112, 172, 42, 42, 180, 0, 23, 180, 0, 125, 27, 50, 180, 0, 144, 182, 0, 112, 172, 42, 4, 182, 0, 98, 172]
set_option maxRecDepth 100000 in
theorem bbX11_whale : cX11_whale.data.toList.map UInt8.toNat = bX11_whale := by decide +kernel
theorem eX11_whale_15 : decode cX11_whale 15 = .ok (.tableswitch 112 0 4 #[33, 50, 64, 78, 95], 33) := by decide +kernel
set_option maxRecDepth 100000 in
def oX11_whales0 : List dLf := [(0, .aload_n 0, 1), (1, .iload_n 1, 1), (2, .invokevirtual 121, 3), (5, .ifCond .ne 9, 3), (8, .aload_n 0, 1), (9, .iconst 1, 1), (10, .invokevirtual 98, 3), (13, .ireturn, 1), (14, .iload_n 2, 1)]
set_option maxRecDepth 100000 in
theorem odX11_whales0 : ∀ q ∈ oX11_whales0, decode cX11_whale q.1 = .ok (q.2.1, q.2.2) := q_go qT_ok bbX11_whale oX11_whales0 0 (by decide +kernel)
set_option maxRecDepth 100000 in
def oX11_whales2 : List dLf := [(48, .aload_n 0, 1), (49, .aload_n 0, 1), (50, .getfield 23, 3), (53, .getfield 125, 3), (56, .iload_n 1, 1), (57, .aaload, 1), (58, .getfield 129, 3), (61, .invokevirtual 112, 3), (64, .ireturn, 1), (65, .aload_n 0, 1), (66, .aload_n 0, 1), (67, .getfield 42, 3), (70, .getfield 134, 3), (73, .iload_n 1, 1), (74, .iaload, 1), (75, .invokevirtual 112, 3), (78, .ireturn, 1), (79, .aload_n 0, 1), (80, .aload_n 0, 1), (81, .getfield 42, 3), (84, .getfield 138, 3), (87, .iload_n 1, 1), (88, .iaload, 1), (89, .invokevirtual 112, 3), (92, .ireturn, 1), (93, .aload_n 0, 1), (94, .aload_n 0, 1), (95, .getfield 23, 3), (98, .getfield 125, 3), (101, .iload_n 1, 1), (102, .aaload, 1), (103, .getfield 141, 3), (106, .invokevirtual 112, 3), (109, .ireturn, 1), (110, .aload_n 0, 1), (111, .aload_n 0, 1), (112, .getfield 23, 3), (115, .getfield 125, 3), (118, .iload_n 1, 1), (119, .aaload, 1), (120, .getfield 144, 3), (123, .invokevirtual 112, 3), (126, .ireturn, 1), (127, .aload_n 0, 1), (128, .iconst 1, 1), (129, .invokevirtual 98, 3), (132, .ireturn, 1)]
set_option maxRecDepth 100000 in
theorem odX11_whales2 : ∀ q ∈ oX11_whales2, decode cX11_whale q.1 = .ok (q.2.1, q.2.2) := q_go qT_ok bbX11_whale oX11_whales2 48 (by decide +kernel)
set_option maxRecDepth 100000 in
def oX11_whale : List dLf := [(0, .aload_n 0, 1), (1, .iload_n 1, 1), (2, .invokevirtual 121, 3), (5, .ifCond .ne 9, 3), (8, .aload_n 0, 1), (9, .iconst 1, 1), (10, .invokevirtual 98, 3), (13, .ireturn, 1), (14, .iload_n 2, 1), (15, .tableswitch 112 0 4 #[33, 50, 64, 78, 95], 33), (48, .aload_n 0, 1), (49, .aload_n 0, 1), (50, .getfield 23, 3), (53, .getfield 125, 3), (56, .iload_n 1, 1), (57, .aaload, 1), (58, .getfield 129, 3), (61, .invokevirtual 112, 3), (64, .ireturn, 1), (65, .aload_n 0, 1), (66, .aload_n 0, 1), (67, .getfield 42, 3), (70, .getfield 134, 3), (73, .iload_n 1, 1), (74, .iaload, 1), (75, .invokevirtual 112, 3), (78, .ireturn, 1), (79, .aload_n 0, 1), (80, .aload_n 0, 1), (81, .getfield 42, 3), (84, .getfield 138, 3), (87, .iload_n 1, 1), (88, .iaload, 1), (89, .invokevirtual 112, 3), (92, .ireturn, 1), (93, .aload_n 0, 1), (94, .aload_n 0, 1), (95, .getfield 23, 3), (98, .getfield 125, 3), (101, .iload_n 1, 1), (102, .aaload, 1), (103, .getfield 141, 3), (106, .invokevirtual 112, 3), (109, .ireturn, 1), (110, .aload_n 0, 1), (111, .aload_n 0, 1), (112, .getfield 23, 3), (115, .getfield 125, 3), (118, .iload_n 1, 1), (119, .aaload, 1), (120, .getfield 144, 3), (123, .invokevirtual 112, 3), (126, .ireturn, 1), (127, .aload_n 0, 1), (128, .iconst 1, 1), (129, .invokevirtual 98, 3), (132, .ireturn, 1)]
set_option maxRecDepth 100000 in
theorem odX11_whale : ∀ q ∈ oX11_whale, decode cX11_whale q.1 = .ok (q.2.1, q.2.2) := by
  have e : oX11_whale = oX11_whales0 ++ ([(15, .tableswitch 112 0 4 #[33, 50, 64, 78, 95], 33)] ++ (oX11_whales2)) := rfl
  rw [e]
  exact List.forall_mem_append.mpr ⟨odX11_whales0, List.forall_mem_append.mpr ⟨(List.forall_mem_singleton.mpr eX11_whale_15), odX11_whales2⟩⟩
set_option maxRecDepth 100000 in
def tX11_whale : Lean.RArray dLf := .branch 80 (.branch 56 (.branch 13 (.branch 5 (.branch 1 (.leaf (0, .aload_n 0, 1)) (.branch 2 (.leaf (1, .iload_n 1, 1)) (.leaf (2, .invokevirtual 121, 3)))) (.branch 9 (.branch 8 (.leaf (5, .ifCond .ne 9, 3)) (.leaf (8, .aload_n 0, 1))) (.branch 10 (.leaf (9, .iconst 1, 1)) (.leaf (10, .invokevirtual 98, 3))))) (.branch 48 (.branch 14 (.leaf (13, .ireturn, 1)) (.branch 15 (.leaf (14, .iload_n 2, 1)) (.leaf (15, .tableswitch 112 0 4 #[33, 50, 64, 78, 95], 33)))) (.branch 50 (.branch 49 (.leaf (48, .aload_n 0, 1)) (.leaf (49, .aload_n 0, 1))) (.branch 53 (.leaf (50, .getfield 23, 3)) (.leaf (53, .getfield 125, 3)))))) (.branch 67 (.branch 61 (.branch 57 (.leaf (56, .iload_n 1, 1)) (.branch 58 (.leaf (57, .aaload, 1)) (.leaf (58, .getfield 129, 3)))) (.branch 65 (.branch 64 (.leaf (61, .invokevirtual 112, 3)) (.leaf (64, .ireturn, 1))) (.branch 66 (.leaf (65, .aload_n 0, 1)) (.leaf (66, .aload_n 0, 1))))) (.branch 74 (.branch 70 (.leaf (67, .getfield 42, 3)) (.branch 73 (.leaf (70, .getfield 134, 3)) (.leaf (73, .iload_n 1, 1)))) (.branch 78 (.branch 75 (.leaf (74, .iaload, 1)) (.leaf (75, .invokevirtual 112, 3))) (.branch 79 (.leaf (78, .ireturn, 1)) (.leaf (79, .aload_n 0, 1))))))) (.branch 106 (.branch 93 (.branch 87 (.branch 81 (.leaf (80, .aload_n 0, 1)) (.branch 84 (.leaf (81, .getfield 42, 3)) (.leaf (84, .getfield 138, 3)))) (.branch 89 (.branch 88 (.leaf (87, .iload_n 1, 1)) (.leaf (88, .iaload, 1))) (.branch 92 (.leaf (89, .invokevirtual 112, 3)) (.leaf (92, .ireturn, 1))))) (.branch 98 (.branch 94 (.leaf (93, .aload_n 0, 1)) (.branch 95 (.leaf (94, .aload_n 0, 1)) (.leaf (95, .getfield 23, 3)))) (.branch 102 (.branch 101 (.leaf (98, .getfield 125, 3)) (.leaf (101, .iload_n 1, 1))) (.branch 103 (.leaf (102, .aaload, 1)) (.leaf (103, .getfield 141, 3)))))) (.branch 119 (.branch 111 (.branch 109 (.leaf (106, .invokevirtual 112, 3)) (.branch 110 (.leaf (109, .ireturn, 1)) (.leaf (110, .aload_n 0, 1)))) (.branch 115 (.branch 112 (.leaf (111, .aload_n 0, 1)) (.leaf (112, .getfield 23, 3))) (.branch 118 (.leaf (115, .getfield 125, 3)) (.leaf (118, .iload_n 1, 1))))) (.branch 127 (.branch 123 (.branch 120 (.leaf (119, .aaload, 1)) (.leaf (120, .getfield 144, 3))) (.branch 126 (.leaf (123, .invokevirtual 112, 3)) (.leaf (126, .ireturn, 1)))) (.branch 129 (.branch 128 (.leaf (127, .aload_n 0, 1)) (.leaf (128, .iconst 1, 1))) (.branch 132 (.leaf (129, .invokevirtual 98, 3)) (.leaf (132, .ireturn, 1)))))))
set_option maxRecDepth 100000 in
theorem ofX11_whale : dFl tX11_whale = oX11_whale := rfl
theorem dX11_whale_0 : decode cX11_whale 0 = .ok (.aload_n 0, 1) := d_by (d_at odX11_whale ofX11_whale 0) rfl
theorem dX11_whale_1 : decode cX11_whale 1 = .ok (.iload_n 1, 1) := d_by (d_at odX11_whale ofX11_whale 1) rfl
theorem dX11_whale_2 : decode cX11_whale 2 = .ok (.invokevirtual 121, 3) := d_by (d_at odX11_whale ofX11_whale 2) rfl
theorem dX11_whale_5 : decode cX11_whale 5 = .ok (.ifCond .ne 9, 3) := d_by (d_at odX11_whale ofX11_whale 5) rfl
theorem dX11_whale_8 : decode cX11_whale 8 = .ok (.aload_n 0, 1) := d_by (d_at odX11_whale ofX11_whale 8) rfl
theorem dX11_whale_9 : decode cX11_whale 9 = .ok (.iconst 1, 1) := d_by (d_at odX11_whale ofX11_whale 9) rfl
theorem dX11_whale_10 : decode cX11_whale 10 = .ok (.invokevirtual 98, 3) := d_by (d_at odX11_whale ofX11_whale 10) rfl
theorem dX11_whale_13 : decode cX11_whale 13 = .ok (.ireturn, 1) := d_by (d_at odX11_whale ofX11_whale 13) rfl
theorem dX11_whale_14 : decode cX11_whale 14 = .ok (.iload_n 2, 1) := d_by (d_at odX11_whale ofX11_whale 14) rfl
theorem dX11_whale_15 : decode cX11_whale 15 = .ok (.tableswitch 112 0 4 #[33, 50, 64, 78, 95], 33) := d_by (d_at odX11_whale ofX11_whale 15) rfl
theorem dX11_whale_48 : decode cX11_whale 48 = .ok (.aload_n 0, 1) := d_by (d_at odX11_whale ofX11_whale 48) rfl
theorem dX11_whale_49 : decode cX11_whale 49 = .ok (.aload_n 0, 1) := d_by (d_at odX11_whale ofX11_whale 49) rfl
theorem dX11_whale_50 : decode cX11_whale 50 = .ok (.getfield 23, 3) := d_by (d_at odX11_whale ofX11_whale 50) rfl
theorem dX11_whale_53 : decode cX11_whale 53 = .ok (.getfield 125, 3) := d_by (d_at odX11_whale ofX11_whale 53) rfl
theorem dX11_whale_56 : decode cX11_whale 56 = .ok (.iload_n 1, 1) := d_by (d_at odX11_whale ofX11_whale 56) rfl
theorem dX11_whale_57 : decode cX11_whale 57 = .ok (.aaload, 1) := d_by (d_at odX11_whale ofX11_whale 57) rfl
theorem dX11_whale_58 : decode cX11_whale 58 = .ok (.getfield 129, 3) := d_by (d_at odX11_whale ofX11_whale 58) rfl
theorem dX11_whale_61 : decode cX11_whale 61 = .ok (.invokevirtual 112, 3) := d_by (d_at odX11_whale ofX11_whale 61) rfl
theorem dX11_whale_64 : decode cX11_whale 64 = .ok (.ireturn, 1) := d_by (d_at odX11_whale ofX11_whale 64) rfl
theorem dX11_whale_65 : decode cX11_whale 65 = .ok (.aload_n 0, 1) := d_by (d_at odX11_whale ofX11_whale 65) rfl
theorem dX11_whale_66 : decode cX11_whale 66 = .ok (.aload_n 0, 1) := d_by (d_at odX11_whale ofX11_whale 66) rfl
theorem dX11_whale_67 : decode cX11_whale 67 = .ok (.getfield 42, 3) := d_by (d_at odX11_whale ofX11_whale 67) rfl
theorem dX11_whale_70 : decode cX11_whale 70 = .ok (.getfield 134, 3) := d_by (d_at odX11_whale ofX11_whale 70) rfl
theorem dX11_whale_73 : decode cX11_whale 73 = .ok (.iload_n 1, 1) := d_by (d_at odX11_whale ofX11_whale 73) rfl
theorem dX11_whale_74 : decode cX11_whale 74 = .ok (.iaload, 1) := d_by (d_at odX11_whale ofX11_whale 74) rfl
theorem dX11_whale_75 : decode cX11_whale 75 = .ok (.invokevirtual 112, 3) := d_by (d_at odX11_whale ofX11_whale 75) rfl
theorem dX11_whale_78 : decode cX11_whale 78 = .ok (.ireturn, 1) := d_by (d_at odX11_whale ofX11_whale 78) rfl
theorem dX11_whale_79 : decode cX11_whale 79 = .ok (.aload_n 0, 1) := d_by (d_at odX11_whale ofX11_whale 79) rfl
theorem dX11_whale_80 : decode cX11_whale 80 = .ok (.aload_n 0, 1) := d_by (d_at odX11_whale ofX11_whale 80) rfl
theorem dX11_whale_81 : decode cX11_whale 81 = .ok (.getfield 42, 3) := d_by (d_at odX11_whale ofX11_whale 81) rfl
theorem dX11_whale_84 : decode cX11_whale 84 = .ok (.getfield 138, 3) := d_by (d_at odX11_whale ofX11_whale 84) rfl
theorem dX11_whale_87 : decode cX11_whale 87 = .ok (.iload_n 1, 1) := d_by (d_at odX11_whale ofX11_whale 87) rfl
theorem dX11_whale_88 : decode cX11_whale 88 = .ok (.iaload, 1) := d_by (d_at odX11_whale ofX11_whale 88) rfl
theorem dX11_whale_89 : decode cX11_whale 89 = .ok (.invokevirtual 112, 3) := d_by (d_at odX11_whale ofX11_whale 89) rfl
theorem dX11_whale_92 : decode cX11_whale 92 = .ok (.ireturn, 1) := d_by (d_at odX11_whale ofX11_whale 92) rfl
theorem dX11_whale_93 : decode cX11_whale 93 = .ok (.aload_n 0, 1) := d_by (d_at odX11_whale ofX11_whale 93) rfl
theorem dX11_whale_94 : decode cX11_whale 94 = .ok (.aload_n 0, 1) := d_by (d_at odX11_whale ofX11_whale 94) rfl
theorem dX11_whale_95 : decode cX11_whale 95 = .ok (.getfield 23, 3) := d_by (d_at odX11_whale ofX11_whale 95) rfl
theorem dX11_whale_98 : decode cX11_whale 98 = .ok (.getfield 125, 3) := d_by (d_at odX11_whale ofX11_whale 98) rfl
theorem dX11_whale_101 : decode cX11_whale 101 = .ok (.iload_n 1, 1) := d_by (d_at odX11_whale ofX11_whale 101) rfl
theorem dX11_whale_102 : decode cX11_whale 102 = .ok (.aaload, 1) := d_by (d_at odX11_whale ofX11_whale 102) rfl
theorem dX11_whale_103 : decode cX11_whale 103 = .ok (.getfield 141, 3) := d_by (d_at odX11_whale ofX11_whale 103) rfl
theorem dX11_whale_106 : decode cX11_whale 106 = .ok (.invokevirtual 112, 3) := d_by (d_at odX11_whale ofX11_whale 106) rfl
theorem dX11_whale_109 : decode cX11_whale 109 = .ok (.ireturn, 1) := d_by (d_at odX11_whale ofX11_whale 109) rfl
theorem dX11_whale_110 : decode cX11_whale 110 = .ok (.aload_n 0, 1) := d_by (d_at odX11_whale ofX11_whale 110) rfl
theorem dX11_whale_111 : decode cX11_whale 111 = .ok (.aload_n 0, 1) := d_by (d_at odX11_whale ofX11_whale 111) rfl
theorem dX11_whale_112 : decode cX11_whale 112 = .ok (.getfield 23, 3) := d_by (d_at odX11_whale ofX11_whale 112) rfl
theorem dX11_whale_115 : decode cX11_whale 115 = .ok (.getfield 125, 3) := d_by (d_at odX11_whale ofX11_whale 115) rfl
theorem dX11_whale_118 : decode cX11_whale 118 = .ok (.iload_n 1, 1) := d_by (d_at odX11_whale ofX11_whale 118) rfl
theorem dX11_whale_119 : decode cX11_whale 119 = .ok (.aaload, 1) := d_by (d_at odX11_whale ofX11_whale 119) rfl
theorem dX11_whale_120 : decode cX11_whale 120 = .ok (.getfield 144, 3) := d_by (d_at odX11_whale ofX11_whale 120) rfl
theorem dX11_whale_123 : decode cX11_whale 123 = .ok (.invokevirtual 112, 3) := d_by (d_at odX11_whale ofX11_whale 123) rfl
theorem dX11_whale_126 : decode cX11_whale 126 = .ok (.ireturn, 1) := d_by (d_at odX11_whale ofX11_whale 126) rfl
theorem dX11_whale_127 : decode cX11_whale 127 = .ok (.aload_n 0, 1) := d_by (d_at odX11_whale ofX11_whale 127) rfl
theorem dX11_whale_128 : decode cX11_whale 128 = .ok (.iconst 1, 1) := d_by (d_at odX11_whale ofX11_whale 128) rfl
theorem dX11_whale_129 : decode cX11_whale 129 = .ok (.invokevirtual 98, 3) := d_by (d_at odX11_whale ofX11_whale 129) rfl
theorem dX11_whale_132 : decode cX11_whale 132 = .ok (.ireturn, 1) := d_by (d_at odX11_whale ofX11_whale 132) rfl
set_option maxRecDepth 100000 in
def bX11_box : List Nat := [42, 27, 182, 0, 147, 154, 0, 9, 42, 4, 182, 0, 98, 172, 28, 170, 0, 0, 0, 133, 0, 0, 0, 0, 0, 0, 0, 5, 0, 0, 0, 37, 0, 0, 0, 54, 0, 0, 0, 71, 0, 0, 0, 88, 0, 0, 0, 105, 0, 0, 0, 119, 42, 42, 180, 0, 23, 180, 0, 150, 27, 50, 180, 0, 154, 182, 0, 112, 172, 42, 42, 180, 0, 23, 180, 0, 150, 27, 50, 180, 0, 159, 182, 0, 112, 172, 42, 42, 180, 0, 23, 180, 0, 150, 27, 50, 180, 0, 162, 182, 0, 112, 172, 42, 42, 180, 0, 23, 180, 0, 150, 27, 50, 180, 0, 165, 182, 0, 112, 172, 42, 42, 180, 0, 42, 180, 0, 168, 27, 46, 182, 0, 112, 172, 42, 42, 180, 0, 42, 180, 0, 171, 27, 46, 182, 0, 112, 172, 42, 4, 182, 0, 98, 172]
set_option maxRecDepth 100000 in
theorem bbX11_box : cX11_box.data.toList.map UInt8.toNat = bX11_box := by decide +kernel
theorem eX11_box_15 : decode cX11_box 15 = .ok (.tableswitch 133 0 5 #[37, 54, 71, 88, 105, 119], 37) := by decide +kernel
set_option maxRecDepth 100000 in
def oX11_boxs0 : List dLf := [(0, .aload_n 0, 1), (1, .iload_n 1, 1), (2, .invokevirtual 147, 3), (5, .ifCond .ne 9, 3), (8, .aload_n 0, 1), (9, .iconst 1, 1), (10, .invokevirtual 98, 3), (13, .ireturn, 1), (14, .iload_n 2, 1)]
set_option maxRecDepth 100000 in
theorem odX11_boxs0 : ∀ q ∈ oX11_boxs0, decode cX11_box q.1 = .ok (q.2.1, q.2.2) := q_go qT_ok bbX11_box oX11_boxs0 0 (by decide +kernel)
set_option maxRecDepth 100000 in
def oX11_boxs2 : List dLf := [(52, .aload_n 0, 1), (53, .aload_n 0, 1), (54, .getfield 23, 3), (57, .getfield 150, 3), (60, .iload_n 1, 1), (61, .aaload, 1), (62, .getfield 154, 3), (65, .invokevirtual 112, 3), (68, .ireturn, 1), (69, .aload_n 0, 1), (70, .aload_n 0, 1), (71, .getfield 23, 3), (74, .getfield 150, 3), (77, .iload_n 1, 1), (78, .aaload, 1), (79, .getfield 159, 3), (82, .invokevirtual 112, 3), (85, .ireturn, 1), (86, .aload_n 0, 1), (87, .aload_n 0, 1), (88, .getfield 23, 3), (91, .getfield 150, 3), (94, .iload_n 1, 1), (95, .aaload, 1), (96, .getfield 162, 3), (99, .invokevirtual 112, 3), (102, .ireturn, 1), (103, .aload_n 0, 1), (104, .aload_n 0, 1), (105, .getfield 23, 3), (108, .getfield 150, 3), (111, .iload_n 1, 1), (112, .aaload, 1), (113, .getfield 165, 3), (116, .invokevirtual 112, 3), (119, .ireturn, 1), (120, .aload_n 0, 1), (121, .aload_n 0, 1), (122, .getfield 42, 3), (125, .getfield 168, 3), (128, .iload_n 1, 1), (129, .iaload, 1), (130, .invokevirtual 112, 3), (133, .ireturn, 1), (134, .aload_n 0, 1), (135, .aload_n 0, 1), (136, .getfield 42, 3), (139, .getfield 171, 3), (142, .iload_n 1, 1), (143, .iaload, 1), (144, .invokevirtual 112, 3), (147, .ireturn, 1), (148, .aload_n 0, 1), (149, .iconst 1, 1), (150, .invokevirtual 98, 3), (153, .ireturn, 1)]
set_option maxRecDepth 100000 in
theorem odX11_boxs2 : ∀ q ∈ oX11_boxs2, decode cX11_box q.1 = .ok (q.2.1, q.2.2) := q_go qT_ok bbX11_box oX11_boxs2 52 (by decide +kernel)
set_option maxRecDepth 100000 in
def oX11_box : List dLf := [(0, .aload_n 0, 1), (1, .iload_n 1, 1), (2, .invokevirtual 147, 3), (5, .ifCond .ne 9, 3), (8, .aload_n 0, 1), (9, .iconst 1, 1), (10, .invokevirtual 98, 3), (13, .ireturn, 1), (14, .iload_n 2, 1), (15, .tableswitch 133 0 5 #[37, 54, 71, 88, 105, 119], 37), (52, .aload_n 0, 1), (53, .aload_n 0, 1), (54, .getfield 23, 3), (57, .getfield 150, 3), (60, .iload_n 1, 1), (61, .aaload, 1), (62, .getfield 154, 3), (65, .invokevirtual 112, 3), (68, .ireturn, 1), (69, .aload_n 0, 1), (70, .aload_n 0, 1), (71, .getfield 23, 3), (74, .getfield 150, 3), (77, .iload_n 1, 1), (78, .aaload, 1), (79, .getfield 159, 3), (82, .invokevirtual 112, 3), (85, .ireturn, 1), (86, .aload_n 0, 1), (87, .aload_n 0, 1), (88, .getfield 23, 3), (91, .getfield 150, 3), (94, .iload_n 1, 1), (95, .aaload, 1), (96, .getfield 162, 3), (99, .invokevirtual 112, 3), (102, .ireturn, 1), (103, .aload_n 0, 1), (104, .aload_n 0, 1), (105, .getfield 23, 3), (108, .getfield 150, 3), (111, .iload_n 1, 1), (112, .aaload, 1), (113, .getfield 165, 3), (116, .invokevirtual 112, 3), (119, .ireturn, 1), (120, .aload_n 0, 1), (121, .aload_n 0, 1), (122, .getfield 42, 3), (125, .getfield 168, 3), (128, .iload_n 1, 1), (129, .iaload, 1), (130, .invokevirtual 112, 3), (133, .ireturn, 1), (134, .aload_n 0, 1), (135, .aload_n 0, 1), (136, .getfield 42, 3), (139, .getfield 171, 3), (142, .iload_n 1, 1), (143, .iaload, 1), (144, .invokevirtual 112, 3), (147, .ireturn, 1), (148, .aload_n 0, 1), (149, .iconst 1, 1), (150, .invokevirtual 98, 3), (153, .ireturn, 1)]
set_option maxRecDepth 100000 in
theorem odX11_box : ∀ q ∈ oX11_box, decode cX11_box q.1 = .ok (q.2.1, q.2.2) := by
  have e : oX11_box = oX11_boxs0 ++ ([(15, .tableswitch 133 0 5 #[37, 54, 71, 88, 105, 119], 37)] ++ (oX11_boxs2)) := rfl
  rw [e]
  exact List.forall_mem_append.mpr ⟨odX11_boxs0, List.forall_mem_append.mpr ⟨(List.forall_mem_singleton.mpr eX11_box_15), odX11_boxs2⟩⟩
set_option maxRecDepth 100000 in
def tX11_box : Lean.RArray dLf := .branch 95 (.branch 62 (.branch 14 (.branch 8 (.branch 2 (.branch 1 (.leaf (0, .aload_n 0, 1)) (.leaf (1, .iload_n 1, 1))) (.branch 5 (.leaf (2, .invokevirtual 147, 3)) (.leaf (5, .ifCond .ne 9, 3)))) (.branch 10 (.branch 9 (.leaf (8, .aload_n 0, 1)) (.leaf (9, .iconst 1, 1))) (.branch 13 (.leaf (10, .invokevirtual 98, 3)) (.leaf (13, .ireturn, 1))))) (.branch 54 (.branch 52 (.branch 15 (.leaf (14, .iload_n 2, 1)) (.leaf (15, .tableswitch 133 0 5 #[37, 54, 71, 88, 105, 119], 37))) (.branch 53 (.leaf (52, .aload_n 0, 1)) (.leaf (53, .aload_n 0, 1)))) (.branch 60 (.branch 57 (.leaf (54, .getfield 23, 3)) (.leaf (57, .getfield 150, 3))) (.branch 61 (.leaf (60, .iload_n 1, 1)) (.leaf (61, .aaload, 1)))))) (.branch 78 (.branch 70 (.branch 68 (.branch 65 (.leaf (62, .getfield 154, 3)) (.leaf (65, .invokevirtual 112, 3))) (.branch 69 (.leaf (68, .ireturn, 1)) (.leaf (69, .aload_n 0, 1)))) (.branch 74 (.branch 71 (.leaf (70, .aload_n 0, 1)) (.leaf (71, .getfield 23, 3))) (.branch 77 (.leaf (74, .getfield 150, 3)) (.leaf (77, .iload_n 1, 1))))) (.branch 86 (.branch 82 (.branch 79 (.leaf (78, .aaload, 1)) (.leaf (79, .getfield 159, 3))) (.branch 85 (.leaf (82, .invokevirtual 112, 3)) (.leaf (85, .ireturn, 1)))) (.branch 88 (.branch 87 (.leaf (86, .aload_n 0, 1)) (.leaf (87, .aload_n 0, 1))) (.branch 91 (.leaf (88, .getfield 23, 3)) (.branch 94 (.leaf (91, .getfield 150, 3)) (.leaf (94, .iload_n 1, 1)))))))) (.branch 125 (.branch 111 (.branch 103 (.branch 99 (.branch 96 (.leaf (95, .aaload, 1)) (.leaf (96, .getfield 162, 3))) (.branch 102 (.leaf (99, .invokevirtual 112, 3)) (.leaf (102, .ireturn, 1)))) (.branch 105 (.branch 104 (.leaf (103, .aload_n 0, 1)) (.leaf (104, .aload_n 0, 1))) (.branch 108 (.leaf (105, .getfield 23, 3)) (.leaf (108, .getfield 150, 3))))) (.branch 119 (.branch 113 (.branch 112 (.leaf (111, .iload_n 1, 1)) (.leaf (112, .aaload, 1))) (.branch 116 (.leaf (113, .getfield 165, 3)) (.leaf (116, .invokevirtual 112, 3)))) (.branch 121 (.branch 120 (.leaf (119, .ireturn, 1)) (.leaf (120, .aload_n 0, 1))) (.branch 122 (.leaf (121, .aload_n 0, 1)) (.leaf (122, .getfield 42, 3)))))) (.branch 139 (.branch 133 (.branch 129 (.branch 128 (.leaf (125, .getfield 168, 3)) (.leaf (128, .iload_n 1, 1))) (.branch 130 (.leaf (129, .iaload, 1)) (.leaf (130, .invokevirtual 112, 3)))) (.branch 135 (.branch 134 (.leaf (133, .ireturn, 1)) (.leaf (134, .aload_n 0, 1))) (.branch 136 (.leaf (135, .aload_n 0, 1)) (.leaf (136, .getfield 42, 3))))) (.branch 147 (.branch 143 (.branch 142 (.leaf (139, .getfield 171, 3)) (.leaf (142, .iload_n 1, 1))) (.branch 144 (.leaf (143, .iaload, 1)) (.leaf (144, .invokevirtual 112, 3)))) (.branch 149 (.branch 148 (.leaf (147, .ireturn, 1)) (.leaf (148, .aload_n 0, 1))) (.branch 150 (.leaf (149, .iconst 1, 1)) (.branch 153 (.leaf (150, .invokevirtual 98, 3)) (.leaf (153, .ireturn, 1))))))))
set_option maxRecDepth 100000 in
theorem ofX11_box : dFl tX11_box = oX11_box := rfl
theorem dX11_box_0 : decode cX11_box 0 = .ok (.aload_n 0, 1) := d_by (d_at odX11_box ofX11_box 0) rfl
theorem dX11_box_1 : decode cX11_box 1 = .ok (.iload_n 1, 1) := d_by (d_at odX11_box ofX11_box 1) rfl
theorem dX11_box_2 : decode cX11_box 2 = .ok (.invokevirtual 147, 3) := d_by (d_at odX11_box ofX11_box 2) rfl
theorem dX11_box_5 : decode cX11_box 5 = .ok (.ifCond .ne 9, 3) := d_by (d_at odX11_box ofX11_box 5) rfl
theorem dX11_box_8 : decode cX11_box 8 = .ok (.aload_n 0, 1) := d_by (d_at odX11_box ofX11_box 8) rfl
theorem dX11_box_9 : decode cX11_box 9 = .ok (.iconst 1, 1) := d_by (d_at odX11_box ofX11_box 9) rfl
theorem dX11_box_10 : decode cX11_box 10 = .ok (.invokevirtual 98, 3) := d_by (d_at odX11_box ofX11_box 10) rfl
theorem dX11_box_13 : decode cX11_box 13 = .ok (.ireturn, 1) := d_by (d_at odX11_box ofX11_box 13) rfl
theorem dX11_box_14 : decode cX11_box 14 = .ok (.iload_n 2, 1) := d_by (d_at odX11_box ofX11_box 14) rfl
theorem dX11_box_15 : decode cX11_box 15 = .ok (.tableswitch 133 0 5 #[37, 54, 71, 88, 105, 119], 37) := d_by (d_at odX11_box ofX11_box 15) rfl
theorem dX11_box_52 : decode cX11_box 52 = .ok (.aload_n 0, 1) := d_by (d_at odX11_box ofX11_box 52) rfl
theorem dX11_box_53 : decode cX11_box 53 = .ok (.aload_n 0, 1) := d_by (d_at odX11_box ofX11_box 53) rfl
theorem dX11_box_54 : decode cX11_box 54 = .ok (.getfield 23, 3) := d_by (d_at odX11_box ofX11_box 54) rfl
theorem dX11_box_57 : decode cX11_box 57 = .ok (.getfield 150, 3) := d_by (d_at odX11_box ofX11_box 57) rfl
theorem dX11_box_60 : decode cX11_box 60 = .ok (.iload_n 1, 1) := d_by (d_at odX11_box ofX11_box 60) rfl
theorem dX11_box_61 : decode cX11_box 61 = .ok (.aaload, 1) := d_by (d_at odX11_box ofX11_box 61) rfl
theorem dX11_box_62 : decode cX11_box 62 = .ok (.getfield 154, 3) := d_by (d_at odX11_box ofX11_box 62) rfl
theorem dX11_box_65 : decode cX11_box 65 = .ok (.invokevirtual 112, 3) := d_by (d_at odX11_box ofX11_box 65) rfl
theorem dX11_box_68 : decode cX11_box 68 = .ok (.ireturn, 1) := d_by (d_at odX11_box ofX11_box 68) rfl
theorem dX11_box_69 : decode cX11_box 69 = .ok (.aload_n 0, 1) := d_by (d_at odX11_box ofX11_box 69) rfl
theorem dX11_box_70 : decode cX11_box 70 = .ok (.aload_n 0, 1) := d_by (d_at odX11_box ofX11_box 70) rfl
theorem dX11_box_71 : decode cX11_box 71 = .ok (.getfield 23, 3) := d_by (d_at odX11_box ofX11_box 71) rfl
theorem dX11_box_74 : decode cX11_box 74 = .ok (.getfield 150, 3) := d_by (d_at odX11_box ofX11_box 74) rfl
theorem dX11_box_77 : decode cX11_box 77 = .ok (.iload_n 1, 1) := d_by (d_at odX11_box ofX11_box 77) rfl
theorem dX11_box_78 : decode cX11_box 78 = .ok (.aaload, 1) := d_by (d_at odX11_box ofX11_box 78) rfl
theorem dX11_box_79 : decode cX11_box 79 = .ok (.getfield 159, 3) := d_by (d_at odX11_box ofX11_box 79) rfl
theorem dX11_box_82 : decode cX11_box 82 = .ok (.invokevirtual 112, 3) := d_by (d_at odX11_box ofX11_box 82) rfl
theorem dX11_box_85 : decode cX11_box 85 = .ok (.ireturn, 1) := d_by (d_at odX11_box ofX11_box 85) rfl
theorem dX11_box_86 : decode cX11_box 86 = .ok (.aload_n 0, 1) := d_by (d_at odX11_box ofX11_box 86) rfl
theorem dX11_box_87 : decode cX11_box 87 = .ok (.aload_n 0, 1) := d_by (d_at odX11_box ofX11_box 87) rfl
theorem dX11_box_88 : decode cX11_box 88 = .ok (.getfield 23, 3) := d_by (d_at odX11_box ofX11_box 88) rfl
theorem dX11_box_91 : decode cX11_box 91 = .ok (.getfield 150, 3) := d_by (d_at odX11_box ofX11_box 91) rfl
theorem dX11_box_94 : decode cX11_box 94 = .ok (.iload_n 1, 1) := d_by (d_at odX11_box ofX11_box 94) rfl
theorem dX11_box_95 : decode cX11_box 95 = .ok (.aaload, 1) := d_by (d_at odX11_box ofX11_box 95) rfl
theorem dX11_box_96 : decode cX11_box 96 = .ok (.getfield 162, 3) := d_by (d_at odX11_box ofX11_box 96) rfl
theorem dX11_box_99 : decode cX11_box 99 = .ok (.invokevirtual 112, 3) := d_by (d_at odX11_box ofX11_box 99) rfl
theorem dX11_box_102 : decode cX11_box 102 = .ok (.ireturn, 1) := d_by (d_at odX11_box ofX11_box 102) rfl
theorem dX11_box_103 : decode cX11_box 103 = .ok (.aload_n 0, 1) := d_by (d_at odX11_box ofX11_box 103) rfl
theorem dX11_box_104 : decode cX11_box 104 = .ok (.aload_n 0, 1) := d_by (d_at odX11_box ofX11_box 104) rfl
theorem dX11_box_105 : decode cX11_box 105 = .ok (.getfield 23, 3) := d_by (d_at odX11_box ofX11_box 105) rfl
theorem dX11_box_108 : decode cX11_box 108 = .ok (.getfield 150, 3) := d_by (d_at odX11_box ofX11_box 108) rfl
theorem dX11_box_111 : decode cX11_box 111 = .ok (.iload_n 1, 1) := d_by (d_at odX11_box ofX11_box 111) rfl
theorem dX11_box_112 : decode cX11_box 112 = .ok (.aaload, 1) := d_by (d_at odX11_box ofX11_box 112) rfl
theorem dX11_box_113 : decode cX11_box 113 = .ok (.getfield 165, 3) := d_by (d_at odX11_box ofX11_box 113) rfl
theorem dX11_box_116 : decode cX11_box 116 = .ok (.invokevirtual 112, 3) := d_by (d_at odX11_box ofX11_box 116) rfl
theorem dX11_box_119 : decode cX11_box 119 = .ok (.ireturn, 1) := d_by (d_at odX11_box ofX11_box 119) rfl
theorem dX11_box_120 : decode cX11_box 120 = .ok (.aload_n 0, 1) := d_by (d_at odX11_box ofX11_box 120) rfl
theorem dX11_box_121 : decode cX11_box 121 = .ok (.aload_n 0, 1) := d_by (d_at odX11_box ofX11_box 121) rfl
theorem dX11_box_122 : decode cX11_box 122 = .ok (.getfield 42, 3) := d_by (d_at odX11_box ofX11_box 122) rfl
theorem dX11_box_125 : decode cX11_box 125 = .ok (.getfield 168, 3) := d_by (d_at odX11_box ofX11_box 125) rfl
theorem dX11_box_128 : decode cX11_box 128 = .ok (.iload_n 1, 1) := d_by (d_at odX11_box ofX11_box 128) rfl
theorem dX11_box_129 : decode cX11_box 129 = .ok (.iaload, 1) := d_by (d_at odX11_box ofX11_box 129) rfl
theorem dX11_box_130 : decode cX11_box 130 = .ok (.invokevirtual 112, 3) := d_by (d_at odX11_box ofX11_box 130) rfl
theorem dX11_box_133 : decode cX11_box 133 = .ok (.ireturn, 1) := d_by (d_at odX11_box ofX11_box 133) rfl
theorem dX11_box_134 : decode cX11_box 134 = .ok (.aload_n 0, 1) := d_by (d_at odX11_box ofX11_box 134) rfl
theorem dX11_box_135 : decode cX11_box 135 = .ok (.aload_n 0, 1) := d_by (d_at odX11_box ofX11_box 135) rfl
theorem dX11_box_136 : decode cX11_box 136 = .ok (.getfield 42, 3) := d_by (d_at odX11_box ofX11_box 136) rfl
theorem dX11_box_139 : decode cX11_box 139 = .ok (.getfield 171, 3) := d_by (d_at odX11_box ofX11_box 139) rfl
theorem dX11_box_142 : decode cX11_box 142 = .ok (.iload_n 1, 1) := d_by (d_at odX11_box ofX11_box 142) rfl
theorem dX11_box_143 : decode cX11_box 143 = .ok (.iaload, 1) := d_by (d_at odX11_box ofX11_box 143) rfl
theorem dX11_box_144 : decode cX11_box 144 = .ok (.invokevirtual 112, 3) := d_by (d_at odX11_box ofX11_box 144) rfl
theorem dX11_box_147 : decode cX11_box 147 = .ok (.ireturn, 1) := d_by (d_at odX11_box ofX11_box 147) rfl
theorem dX11_box_148 : decode cX11_box 148 = .ok (.aload_n 0, 1) := d_by (d_at odX11_box ofX11_box 148) rfl
theorem dX11_box_149 : decode cX11_box 149 = .ok (.iconst 1, 1) := d_by (d_at odX11_box ofX11_box 149) rfl
theorem dX11_box_150 : decode cX11_box 150 = .ok (.invokevirtual 98, 3) := d_by (d_at odX11_box ofX11_box 150) rfl
theorem dX11_box_153 : decode cX11_box 153 = .ok (.ireturn, 1) := d_by (d_at odX11_box ofX11_box 153) rfl
set_option maxRecDepth 100000 in
def bX11_length : List Nat := [42, 27, 182, 0, 174, 153, 0, 19, 42, 42, 180, 0, 23, 180, 0, 177, 27, 46, 182, 0, 112, 167, 0, 8, 42, 4, 182, 0, 98, 172]
set_option maxRecDepth 100000 in
theorem bbX11_length : cX11_length.data.toList.map UInt8.toNat = bX11_length := by decide +kernel
set_option maxRecDepth 100000 in
def tX11_length : Lean.RArray dLf := .branch 16 (.branch 8 (.branch 2 (.branch 1 (.leaf (0, .aload_n 0, 1)) (.leaf (1, .iload_n 1, 1))) (.branch 5 (.leaf (2, .invokevirtual 174, 3)) (.leaf (5, .ifCond .eq 19, 3)))) (.branch 10 (.branch 9 (.leaf (8, .aload_n 0, 1)) (.leaf (9, .aload_n 0, 1))) (.branch 13 (.leaf (10, .getfield 23, 3)) (.leaf (13, .getfield 177, 3))))) (.branch 24 (.branch 18 (.branch 17 (.leaf (16, .iload_n 1, 1)) (.leaf (17, .iaload, 1))) (.branch 21 (.leaf (18, .invokevirtual 112, 3)) (.leaf (21, .goto 8, 3)))) (.branch 26 (.branch 25 (.leaf (24, .aload_n 0, 1)) (.leaf (25, .iconst 1, 1))) (.branch 29 (.leaf (26, .invokevirtual 98, 3)) (.leaf (29, .ireturn, 1)))))
noncomputable def oX11_length : List dLf := dFl tX11_length
theorem ofX11_length : dFl tX11_length = oX11_length := rfl
set_option maxRecDepth 100000 in
theorem odX11_length : ∀ q ∈ oX11_length, decode cX11_length q.1 = .ok (q.2.1, q.2.2) := q_go qT_ok bbX11_length oX11_length 0 (by decide +kernel)
theorem dX11_length_0 : decode cX11_length 0 = .ok (.aload_n 0, 1) := d_by (d_at odX11_length ofX11_length 0) rfl
theorem dX11_length_1 : decode cX11_length 1 = .ok (.iload_n 1, 1) := d_by (d_at odX11_length ofX11_length 1) rfl
theorem dX11_length_2 : decode cX11_length 2 = .ok (.invokevirtual 174, 3) := d_by (d_at odX11_length ofX11_length 2) rfl
theorem dX11_length_5 : decode cX11_length 5 = .ok (.ifCond .eq 19, 3) := d_by (d_at odX11_length ofX11_length 5) rfl
theorem dX11_length_8 : decode cX11_length 8 = .ok (.aload_n 0, 1) := d_by (d_at odX11_length ofX11_length 8) rfl
theorem dX11_length_9 : decode cX11_length 9 = .ok (.aload_n 0, 1) := d_by (d_at odX11_length ofX11_length 9) rfl
theorem dX11_length_10 : decode cX11_length 10 = .ok (.getfield 23, 3) := d_by (d_at odX11_length ofX11_length 10) rfl
theorem dX11_length_13 : decode cX11_length 13 = .ok (.getfield 177, 3) := d_by (d_at odX11_length ofX11_length 13) rfl
theorem dX11_length_16 : decode cX11_length 16 = .ok (.iload_n 1, 1) := d_by (d_at odX11_length ofX11_length 16) rfl
theorem dX11_length_17 : decode cX11_length 17 = .ok (.iaload, 1) := d_by (d_at odX11_length ofX11_length 17) rfl
theorem dX11_length_18 : decode cX11_length 18 = .ok (.invokevirtual 112, 3) := d_by (d_at odX11_length ofX11_length 18) rfl
theorem dX11_length_21 : decode cX11_length 21 = .ok (.goto 8, 3) := d_by (d_at odX11_length ofX11_length 21) rfl
theorem dX11_length_24 : decode cX11_length 24 = .ok (.aload_n 0, 1) := d_by (d_at odX11_length ofX11_length 24) rfl
theorem dX11_length_25 : decode cX11_length 25 = .ok (.iconst 1, 1) := d_by (d_at odX11_length ofX11_length 25) rfl
theorem dX11_length_26 : decode cX11_length 26 = .ok (.invokevirtual 98, 3) := d_by (d_at odX11_length ofX11_length 26) rfl
theorem dX11_length_29 : decode cX11_length 29 = .ok (.ireturn, 1) := d_by (d_at odX11_length ofX11_length 29) rfl
set_option maxRecDepth 100000 in
def bX11_note : List Nat := [42, 27, 182, 0, 174, 153, 0, 20, 28, 155, 0, 16, 28, 42, 180, 0, 23, 180, 0, 177, 27, 46, 161, 0, 9, 42, 4, 182, 0, 98, 172, 42, 42, 180, 0, 51, 27, 42, 180, 0, 42, 180, 0, 180, 182, 0, 183, 42, 180, 0, 23, 180, 0, 177, 27, 46, 28, 184, 0, 187, 182, 0, 112, 172]
set_option maxRecDepth 100000 in
theorem bbX11_note : cX11_note.data.toList.map UInt8.toNat = bX11_note := by decide +kernel
set_option maxRecDepth 100000 in
def tX11_note : Lean.RArray dLf := .branch 31 (.branch 14 (.branch 8 (.branch 2 (.branch 1 (.leaf (0, .aload_n 0, 1)) (.leaf (1, .iload_n 1, 1))) (.branch 5 (.leaf (2, .invokevirtual 174, 3)) (.leaf (5, .ifCond .eq 20, 3)))) (.branch 12 (.branch 9 (.leaf (8, .iload_n 2, 1)) (.leaf (9, .ifCond .lt 16, 3))) (.branch 13 (.leaf (12, .iload_n 2, 1)) (.leaf (13, .aload_n 0, 1))))) (.branch 22 (.branch 20 (.branch 17 (.leaf (14, .getfield 23, 3)) (.leaf (17, .getfield 177, 3))) (.branch 21 (.leaf (20, .iload_n 1, 1)) (.leaf (21, .iaload, 1)))) (.branch 26 (.branch 25 (.leaf (22, .if_icmp .lt 9, 3)) (.leaf (25, .aload_n 0, 1))) (.branch 27 (.leaf (26, .iconst 1, 1)) (.branch 30 (.leaf (27, .invokevirtual 98, 3)) (.leaf (30, .ireturn, 1))))))) (.branch 47 (.branch 37 (.branch 33 (.branch 32 (.leaf (31, .aload_n 0, 1)) (.leaf (32, .aload_n 0, 1))) (.branch 36 (.leaf (33, .getfield 51, 3)) (.leaf (36, .iload_n 1, 1)))) (.branch 41 (.branch 38 (.leaf (37, .aload_n 0, 1)) (.leaf (38, .getfield 42, 3))) (.branch 44 (.leaf (41, .getfield 180, 3)) (.leaf (44, .invokevirtual 183, 3))))) (.branch 55 (.branch 51 (.branch 48 (.leaf (47, .aload_n 0, 1)) (.leaf (48, .getfield 23, 3))) (.branch 54 (.leaf (51, .getfield 177, 3)) (.leaf (54, .iload_n 1, 1)))) (.branch 57 (.branch 56 (.leaf (55, .iaload, 1)) (.leaf (56, .iload_n 2, 1))) (.branch 60 (.leaf (57, .invokestatic 187, 3)) (.branch 63 (.leaf (60, .invokevirtual 112, 3)) (.leaf (63, .ireturn, 1)))))))
noncomputable def oX11_note : List dLf := dFl tX11_note
theorem ofX11_note : dFl tX11_note = oX11_note := rfl
set_option maxRecDepth 100000 in
theorem odX11_note : ∀ q ∈ oX11_note, decode cX11_note q.1 = .ok (q.2.1, q.2.2) := q_go qT_ok bbX11_note oX11_note 0 (by decide +kernel)
theorem dX11_note_0 : decode cX11_note 0 = .ok (.aload_n 0, 1) := d_by (d_at odX11_note ofX11_note 0) rfl
theorem dX11_note_1 : decode cX11_note 1 = .ok (.iload_n 1, 1) := d_by (d_at odX11_note ofX11_note 1) rfl
theorem dX11_note_2 : decode cX11_note 2 = .ok (.invokevirtual 174, 3) := d_by (d_at odX11_note ofX11_note 2) rfl
theorem dX11_note_5 : decode cX11_note 5 = .ok (.ifCond .eq 20, 3) := d_by (d_at odX11_note ofX11_note 5) rfl
theorem dX11_note_8 : decode cX11_note 8 = .ok (.iload_n 2, 1) := d_by (d_at odX11_note ofX11_note 8) rfl
theorem dX11_note_9 : decode cX11_note 9 = .ok (.ifCond .lt 16, 3) := d_by (d_at odX11_note ofX11_note 9) rfl
theorem dX11_note_12 : decode cX11_note 12 = .ok (.iload_n 2, 1) := d_by (d_at odX11_note ofX11_note 12) rfl
theorem dX11_note_13 : decode cX11_note 13 = .ok (.aload_n 0, 1) := d_by (d_at odX11_note ofX11_note 13) rfl
theorem dX11_note_14 : decode cX11_note 14 = .ok (.getfield 23, 3) := d_by (d_at odX11_note ofX11_note 14) rfl
theorem dX11_note_17 : decode cX11_note 17 = .ok (.getfield 177, 3) := d_by (d_at odX11_note ofX11_note 17) rfl
theorem dX11_note_20 : decode cX11_note 20 = .ok (.iload_n 1, 1) := d_by (d_at odX11_note ofX11_note 20) rfl
theorem dX11_note_21 : decode cX11_note 21 = .ok (.iaload, 1) := d_by (d_at odX11_note ofX11_note 21) rfl
theorem dX11_note_22 : decode cX11_note 22 = .ok (.if_icmp .lt 9, 3) := d_by (d_at odX11_note ofX11_note 22) rfl
theorem dX11_note_25 : decode cX11_note 25 = .ok (.aload_n 0, 1) := d_by (d_at odX11_note ofX11_note 25) rfl
theorem dX11_note_26 : decode cX11_note 26 = .ok (.iconst 1, 1) := d_by (d_at odX11_note ofX11_note 26) rfl
theorem dX11_note_27 : decode cX11_note 27 = .ok (.invokevirtual 98, 3) := d_by (d_at odX11_note ofX11_note 27) rfl
theorem dX11_note_30 : decode cX11_note 30 = .ok (.ireturn, 1) := d_by (d_at odX11_note ofX11_note 30) rfl
theorem dX11_note_31 : decode cX11_note 31 = .ok (.aload_n 0, 1) := d_by (d_at odX11_note ofX11_note 31) rfl
theorem dX11_note_32 : decode cX11_note 32 = .ok (.aload_n 0, 1) := d_by (d_at odX11_note ofX11_note 32) rfl
theorem dX11_note_33 : decode cX11_note 33 = .ok (.getfield 51, 3) := d_by (d_at odX11_note ofX11_note 33) rfl
theorem dX11_note_36 : decode cX11_note 36 = .ok (.iload_n 1, 1) := d_by (d_at odX11_note ofX11_note 36) rfl
theorem dX11_note_37 : decode cX11_note 37 = .ok (.aload_n 0, 1) := d_by (d_at odX11_note ofX11_note 37) rfl
theorem dX11_note_38 : decode cX11_note 38 = .ok (.getfield 42, 3) := d_by (d_at odX11_note ofX11_note 38) rfl
theorem dX11_note_41 : decode cX11_note 41 = .ok (.getfield 180, 3) := d_by (d_at odX11_note ofX11_note 41) rfl
theorem dX11_note_44 : decode cX11_note 44 = .ok (.invokevirtual 183, 3) := d_by (d_at odX11_note ofX11_note 44) rfl
theorem dX11_note_47 : decode cX11_note 47 = .ok (.aload_n 0, 1) := d_by (d_at odX11_note ofX11_note 47) rfl
theorem dX11_note_48 : decode cX11_note 48 = .ok (.getfield 23, 3) := d_by (d_at odX11_note ofX11_note 48) rfl
theorem dX11_note_51 : decode cX11_note 51 = .ok (.getfield 177, 3) := d_by (d_at odX11_note ofX11_note 51) rfl
theorem dX11_note_54 : decode cX11_note 54 = .ok (.iload_n 1, 1) := d_by (d_at odX11_note ofX11_note 54) rfl
theorem dX11_note_55 : decode cX11_note 55 = .ok (.iaload, 1) := d_by (d_at odX11_note ofX11_note 55) rfl
theorem dX11_note_56 : decode cX11_note 56 = .ok (.iload_n 2, 1) := d_by (d_at odX11_note ofX11_note 56) rfl
theorem dX11_note_57 : decode cX11_note 57 = .ok (.invokestatic 187, 3) := d_by (d_at odX11_note ofX11_note 57) rfl
theorem dX11_note_60 : decode cX11_note 60 = .ok (.invokevirtual 112, 3) := d_by (d_at odX11_note ofX11_note 60) rfl
theorem dX11_note_63 : decode cX11_note 63 = .ok (.ireturn, 1) := d_by (d_at odX11_note ofX11_note 63) rfl
set_option maxRecDepth 100000 in
def bX11_sung : List Nat := [42, 27, 28, 182, 0, 191, 154, 0, 9, 42, 4, 182, 0, 98, 172, 42, 42, 180, 0, 42, 180, 0, 195, 27, 46, 42, 180, 0, 23, 27, 182, 0, 198, 28, 184, 0, 187, 182, 0, 112, 172]
set_option maxRecDepth 100000 in
theorem bbX11_sung : cX11_sung.data.toList.map UInt8.toNat = bX11_sung := by decide +kernel
set_option maxRecDepth 100000 in
def tX11_sung : Lean.RArray dLf := .branch 17 (.branch 9 (.branch 2 (.branch 1 (.leaf (0, .aload_n 0, 1)) (.leaf (1, .iload_n 1, 1))) (.branch 3 (.leaf (2, .iload_n 2, 1)) (.branch 6 (.leaf (3, .invokevirtual 191, 3)) (.leaf (6, .ifCond .ne 9, 3))))) (.branch 14 (.branch 10 (.leaf (9, .aload_n 0, 1)) (.branch 11 (.leaf (10, .iconst 1, 1)) (.leaf (11, .invokevirtual 98, 3)))) (.branch 15 (.leaf (14, .ireturn, 1)) (.branch 16 (.leaf (15, .aload_n 0, 1)) (.leaf (16, .aload_n 0, 1)))))) (.branch 29 (.branch 24 (.branch 20 (.leaf (17, .getfield 42, 3)) (.branch 23 (.leaf (20, .getfield 195, 3)) (.leaf (23, .iload_n 1, 1)))) (.branch 25 (.leaf (24, .iaload, 1)) (.branch 26 (.leaf (25, .aload_n 0, 1)) (.leaf (26, .getfield 23, 3))))) (.branch 34 (.branch 30 (.leaf (29, .iload_n 1, 1)) (.branch 33 (.leaf (30, .invokevirtual 198, 3)) (.leaf (33, .iload_n 2, 1)))) (.branch 37 (.leaf (34, .invokestatic 187, 3)) (.branch 40 (.leaf (37, .invokevirtual 112, 3)) (.leaf (40, .ireturn, 1))))))
noncomputable def oX11_sung : List dLf := dFl tX11_sung
theorem ofX11_sung : dFl tX11_sung = oX11_sung := rfl
set_option maxRecDepth 100000 in
theorem odX11_sung : ∀ q ∈ oX11_sung, decode cX11_sung q.1 = .ok (q.2.1, q.2.2) := q_go qT_ok bbX11_sung oX11_sung 0 (by decide +kernel)
theorem dX11_sung_0 : decode cX11_sung 0 = .ok (.aload_n 0, 1) := d_by (d_at odX11_sung ofX11_sung 0) rfl
theorem dX11_sung_1 : decode cX11_sung 1 = .ok (.iload_n 1, 1) := d_by (d_at odX11_sung ofX11_sung 1) rfl
theorem dX11_sung_2 : decode cX11_sung 2 = .ok (.iload_n 2, 1) := d_by (d_at odX11_sung ofX11_sung 2) rfl
theorem dX11_sung_3 : decode cX11_sung 3 = .ok (.invokevirtual 191, 3) := d_by (d_at odX11_sung ofX11_sung 3) rfl
theorem dX11_sung_6 : decode cX11_sung 6 = .ok (.ifCond .ne 9, 3) := d_by (d_at odX11_sung ofX11_sung 6) rfl
theorem dX11_sung_9 : decode cX11_sung 9 = .ok (.aload_n 0, 1) := d_by (d_at odX11_sung ofX11_sung 9) rfl
theorem dX11_sung_10 : decode cX11_sung 10 = .ok (.iconst 1, 1) := d_by (d_at odX11_sung ofX11_sung 10) rfl
theorem dX11_sung_11 : decode cX11_sung 11 = .ok (.invokevirtual 98, 3) := d_by (d_at odX11_sung ofX11_sung 11) rfl
theorem dX11_sung_14 : decode cX11_sung 14 = .ok (.ireturn, 1) := d_by (d_at odX11_sung ofX11_sung 14) rfl
theorem dX11_sung_15 : decode cX11_sung 15 = .ok (.aload_n 0, 1) := d_by (d_at odX11_sung ofX11_sung 15) rfl
theorem dX11_sung_16 : decode cX11_sung 16 = .ok (.aload_n 0, 1) := d_by (d_at odX11_sung ofX11_sung 16) rfl
theorem dX11_sung_17 : decode cX11_sung 17 = .ok (.getfield 42, 3) := d_by (d_at odX11_sung ofX11_sung 17) rfl
theorem dX11_sung_20 : decode cX11_sung 20 = .ok (.getfield 195, 3) := d_by (d_at odX11_sung ofX11_sung 20) rfl
theorem dX11_sung_23 : decode cX11_sung 23 = .ok (.iload_n 1, 1) := d_by (d_at odX11_sung ofX11_sung 23) rfl
theorem dX11_sung_24 : decode cX11_sung 24 = .ok (.iaload, 1) := d_by (d_at odX11_sung ofX11_sung 24) rfl
theorem dX11_sung_25 : decode cX11_sung 25 = .ok (.aload_n 0, 1) := d_by (d_at odX11_sung ofX11_sung 25) rfl
theorem dX11_sung_26 : decode cX11_sung 26 = .ok (.getfield 23, 3) := d_by (d_at odX11_sung ofX11_sung 26) rfl
theorem dX11_sung_29 : decode cX11_sung 29 = .ok (.iload_n 1, 1) := d_by (d_at odX11_sung ofX11_sung 29) rfl
theorem dX11_sung_30 : decode cX11_sung 30 = .ok (.invokevirtual 198, 3) := d_by (d_at odX11_sung ofX11_sung 30) rfl
theorem dX11_sung_33 : decode cX11_sung 33 = .ok (.iload_n 2, 1) := d_by (d_at odX11_sung ofX11_sung 33) rfl
theorem dX11_sung_34 : decode cX11_sung 34 = .ok (.invokestatic 187, 3) := d_by (d_at odX11_sung ofX11_sung 34) rfl
theorem dX11_sung_37 : decode cX11_sung 37 = .ok (.invokevirtual 112, 3) := d_by (d_at odX11_sung ofX11_sung 37) rfl
theorem dX11_sung_40 : decode cX11_sung 40 = .ok (.ireturn, 1) := d_by (d_at odX11_sung ofX11_sung 40) rfl
set_option maxRecDepth 100000 in
def bX11_heard : List Nat := [42, 27, 182, 0, 147, 153, 0, 22, 42, 42, 27, 42, 180, 0, 42, 180, 0, 180, 182, 0, 201, 182, 0, 112, 167, 0, 8, 42, 4, 182, 0, 98, 172]
set_option maxRecDepth 100000 in
theorem bbX11_heard : cX11_heard.data.toList.map UInt8.toNat = bX11_heard := by decide +kernel
set_option maxRecDepth 100000 in
def tX11_heard : Lean.RArray dLf := .branch 12 (.branch 8 (.branch 2 (.branch 1 (.leaf (0, .aload_n 0, 1)) (.leaf (1, .iload_n 1, 1))) (.branch 5 (.leaf (2, .invokevirtual 147, 3)) (.leaf (5, .ifCond .eq 22, 3)))) (.branch 10 (.branch 9 (.leaf (8, .aload_n 0, 1)) (.leaf (9, .aload_n 0, 1))) (.branch 11 (.leaf (10, .iload_n 1, 1)) (.leaf (11, .aload_n 0, 1))))) (.branch 24 (.branch 18 (.branch 15 (.leaf (12, .getfield 42, 3)) (.leaf (15, .getfield 180, 3))) (.branch 21 (.leaf (18, .invokevirtual 201, 3)) (.leaf (21, .invokevirtual 112, 3)))) (.branch 28 (.branch 27 (.leaf (24, .goto 8, 3)) (.leaf (27, .aload_n 0, 1))) (.branch 29 (.leaf (28, .iconst 1, 1)) (.branch 32 (.leaf (29, .invokevirtual 98, 3)) (.leaf (32, .ireturn, 1))))))
noncomputable def oX11_heard : List dLf := dFl tX11_heard
theorem ofX11_heard : dFl tX11_heard = oX11_heard := rfl
set_option maxRecDepth 100000 in
theorem odX11_heard : ∀ q ∈ oX11_heard, decode cX11_heard q.1 = .ok (q.2.1, q.2.2) := q_go qT_ok bbX11_heard oX11_heard 0 (by decide +kernel)
theorem dX11_heard_0 : decode cX11_heard 0 = .ok (.aload_n 0, 1) := d_by (d_at odX11_heard ofX11_heard 0) rfl
theorem dX11_heard_1 : decode cX11_heard 1 = .ok (.iload_n 1, 1) := d_by (d_at odX11_heard ofX11_heard 1) rfl
theorem dX11_heard_2 : decode cX11_heard 2 = .ok (.invokevirtual 147, 3) := d_by (d_at odX11_heard ofX11_heard 2) rfl
theorem dX11_heard_5 : decode cX11_heard 5 = .ok (.ifCond .eq 22, 3) := d_by (d_at odX11_heard ofX11_heard 5) rfl
theorem dX11_heard_8 : decode cX11_heard 8 = .ok (.aload_n 0, 1) := d_by (d_at odX11_heard ofX11_heard 8) rfl
theorem dX11_heard_9 : decode cX11_heard 9 = .ok (.aload_n 0, 1) := d_by (d_at odX11_heard ofX11_heard 9) rfl
theorem dX11_heard_10 : decode cX11_heard 10 = .ok (.iload_n 1, 1) := d_by (d_at odX11_heard ofX11_heard 10) rfl
theorem dX11_heard_11 : decode cX11_heard 11 = .ok (.aload_n 0, 1) := d_by (d_at odX11_heard ofX11_heard 11) rfl
theorem dX11_heard_12 : decode cX11_heard 12 = .ok (.getfield 42, 3) := d_by (d_at odX11_heard ofX11_heard 12) rfl
theorem dX11_heard_15 : decode cX11_heard 15 = .ok (.getfield 180, 3) := d_by (d_at odX11_heard ofX11_heard 15) rfl
theorem dX11_heard_18 : decode cX11_heard 18 = .ok (.invokevirtual 201, 3) := d_by (d_at odX11_heard ofX11_heard 18) rfl
theorem dX11_heard_21 : decode cX11_heard 21 = .ok (.invokevirtual 112, 3) := d_by (d_at odX11_heard ofX11_heard 21) rfl
theorem dX11_heard_24 : decode cX11_heard 24 = .ok (.goto 8, 3) := d_by (d_at odX11_heard ofX11_heard 24) rfl
theorem dX11_heard_27 : decode cX11_heard 27 = .ok (.aload_n 0, 1) := d_by (d_at odX11_heard ofX11_heard 27) rfl
theorem dX11_heard_28 : decode cX11_heard 28 = .ok (.iconst 1, 1) := d_by (d_at odX11_heard ofX11_heard 28) rfl
theorem dX11_heard_29 : decode cX11_heard 29 = .ok (.invokevirtual 98, 3) := d_by (d_at odX11_heard ofX11_heard 29) rfl
theorem dX11_heard_32 : decode cX11_heard 32 = .ok (.ireturn, 1) := d_by (d_at odX11_heard ofX11_heard 32) rfl
set_option maxRecDepth 100000 in
def bX11_way : List Nat := [42, 27, 28, 182, 0, 204, 154, 0, 9, 42, 4, 182, 0, 98, 172, 42, 180, 0, 23, 27, 28, 182, 0, 207, 62, 29, 16, 254, 159, 0, 14, 42, 180, 0, 42, 29, 182, 0, 210, 153, 0, 10, 42, 16, 254, 182, 0, 112, 172, 42, 42, 180, 0, 23, 180, 0, 213, 29, 50, 180, 0, 217, 182, 0, 112, 172]
set_option maxRecDepth 100000 in
theorem bbX11_way : cX11_way.data.toList.map UInt8.toNat = bX11_way := by decide +kernel
set_option maxRecDepth 100000 in
def tX11_way : Lean.RArray dLf := .branch 31 (.branch 15 (.branch 6 (.branch 2 (.branch 1 (.leaf (0, .aload_n 0, 1)) (.leaf (1, .iload_n 1, 1))) (.branch 3 (.leaf (2, .iload_n 2, 1)) (.leaf (3, .invokevirtual 204, 3)))) (.branch 10 (.branch 9 (.leaf (6, .ifCond .ne 9, 3)) (.leaf (9, .aload_n 0, 1))) (.branch 11 (.leaf (10, .iconst 1, 1)) (.branch 14 (.leaf (11, .invokevirtual 98, 3)) (.leaf (14, .ireturn, 1)))))) (.branch 21 (.branch 19 (.branch 16 (.leaf (15, .aload_n 0, 1)) (.leaf (16, .getfield 23, 3))) (.branch 20 (.leaf (19, .iload_n 1, 1)) (.leaf (20, .iload_n 2, 1)))) (.branch 25 (.branch 24 (.leaf (21, .invokevirtual 207, 3)) (.leaf (24, .istore_n 3, 1))) (.branch 26 (.leaf (25, .iload_n 3, 1)) (.branch 28 (.leaf (26, .bipush (-2), 2)) (.leaf (28, .if_icmp .eq 14, 3))))))) (.branch 49 (.branch 39 (.branch 35 (.branch 32 (.leaf (31, .aload_n 0, 1)) (.leaf (32, .getfield 42, 3))) (.branch 36 (.leaf (35, .iload_n 3, 1)) (.leaf (36, .invokevirtual 210, 3)))) (.branch 43 (.branch 42 (.leaf (39, .ifCond .eq 10, 3)) (.leaf (42, .aload_n 0, 1))) (.branch 45 (.leaf (43, .bipush (-2), 2)) (.branch 48 (.leaf (45, .invokevirtual 112, 3)) (.leaf (48, .ireturn, 1)))))) (.branch 57 (.branch 51 (.branch 50 (.leaf (49, .aload_n 0, 1)) (.leaf (50, .aload_n 0, 1))) (.branch 54 (.leaf (51, .getfield 23, 3)) (.leaf (54, .getfield 213, 3)))) (.branch 59 (.branch 58 (.leaf (57, .iload_n 3, 1)) (.leaf (58, .aaload, 1))) (.branch 62 (.leaf (59, .getfield 217, 3)) (.branch 65 (.leaf (62, .invokevirtual 112, 3)) (.leaf (65, .ireturn, 1)))))))
noncomputable def oX11_way : List dLf := dFl tX11_way
theorem ofX11_way : dFl tX11_way = oX11_way := rfl
set_option maxRecDepth 100000 in
theorem odX11_way : ∀ q ∈ oX11_way, decode cX11_way q.1 = .ok (q.2.1, q.2.2) := q_go qT_ok bbX11_way oX11_way 0 (by decide +kernel)
set_option maxRecDepth 100000 in
def bX11_season : List Nat := [42, 182, 0, 222, 154, 0, 9, 42, 4, 182, 0, 98, 172, 27, 18, 226, 184, 0, 227, 154, 0, 9, 42, 5, 182, 0, 98, 172, 42, 27, 16, 90, 108, 7, 112, 182, 0, 112, 172]
set_option maxRecDepth 100000 in
theorem bbX11_season : cX11_season.data.toList.map UInt8.toNat = bX11_season := by decide +kernel
set_option maxRecDepth 100000 in
def tX11_season : Lean.RArray dLf := .branch 22 (.branch 9 (.branch 4 (.branch 1 (.leaf (0, .aload_n 0, 1)) (.leaf (1, .invokevirtual 222, 3))) (.branch 7 (.leaf (4, .ifCond .ne 9, 3)) (.branch 8 (.leaf (7, .aload_n 0, 1)) (.leaf (8, .iconst 1, 1))))) (.branch 14 (.branch 12 (.leaf (9, .invokevirtual 98, 3)) (.branch 13 (.leaf (12, .ireturn, 1)) (.leaf (13, .iload_n 1, 1)))) (.branch 16 (.leaf (14, .ldc 226, 2)) (.branch 19 (.leaf (16, .invokestatic 227, 3)) (.leaf (19, .ifCond .ne 9, 3)))))) (.branch 30 (.branch 27 (.branch 23 (.leaf (22, .aload_n 0, 1)) (.branch 24 (.leaf (23, .iconst 2, 1)) (.leaf (24, .invokevirtual 98, 3)))) (.branch 28 (.leaf (27, .ireturn, 1)) (.branch 29 (.leaf (28, .aload_n 0, 1)) (.leaf (29, .iload_n 1, 1))))) (.branch 34 (.branch 32 (.leaf (30, .bipush 90, 2)) (.branch 33 (.leaf (32, .idiv, 1)) (.leaf (33, .iconst 4, 1)))) (.branch 35 (.leaf (34, .irem, 1)) (.branch 38 (.leaf (35, .invokevirtual 112, 3)) (.leaf (38, .ireturn, 1))))))
noncomputable def oX11_season : List dLf := dFl tX11_season
theorem ofX11_season : dFl tX11_season = oX11_season := rfl
set_option maxRecDepth 100000 in
theorem odX11_season : ∀ q ∈ oX11_season, decode cX11_season q.1 = .ok (q.2.1, q.2.2) := q_go qT_ok bbX11_season oX11_season 0 (by decide +kernel)
theorem dX11_season_0 : decode cX11_season 0 = .ok (.aload_n 0, 1) := d_by (d_at odX11_season ofX11_season 0) rfl
theorem dX11_season_1 : decode cX11_season 1 = .ok (.invokevirtual 222, 3) := d_by (d_at odX11_season ofX11_season 1) rfl
theorem dX11_season_4 : decode cX11_season 4 = .ok (.ifCond .ne 9, 3) := d_by (d_at odX11_season ofX11_season 4) rfl
theorem dX11_season_7 : decode cX11_season 7 = .ok (.aload_n 0, 1) := d_by (d_at odX11_season ofX11_season 7) rfl
theorem dX11_season_8 : decode cX11_season 8 = .ok (.iconst 1, 1) := d_by (d_at odX11_season ofX11_season 8) rfl
theorem dX11_season_9 : decode cX11_season 9 = .ok (.invokevirtual 98, 3) := d_by (d_at odX11_season ofX11_season 9) rfl
theorem dX11_season_12 : decode cX11_season 12 = .ok (.ireturn, 1) := d_by (d_at odX11_season ofX11_season 12) rfl
theorem dX11_season_13 : decode cX11_season 13 = .ok (.iload_n 1, 1) := d_by (d_at odX11_season ofX11_season 13) rfl
theorem dX11_season_14 : decode cX11_season 14 = .ok (.ldc 226, 2) := d_by (d_at odX11_season ofX11_season 14) rfl
theorem dX11_season_16 : decode cX11_season 16 = .ok (.invokestatic 227, 3) := d_by (d_at odX11_season ofX11_season 16) rfl
theorem dX11_season_19 : decode cX11_season 19 = .ok (.ifCond .ne 9, 3) := d_by (d_at odX11_season ofX11_season 19) rfl
theorem dX11_season_22 : decode cX11_season 22 = .ok (.aload_n 0, 1) := d_by (d_at odX11_season ofX11_season 22) rfl
theorem dX11_season_23 : decode cX11_season 23 = .ok (.iconst 2, 1) := d_by (d_at odX11_season ofX11_season 23) rfl
theorem dX11_season_24 : decode cX11_season 24 = .ok (.invokevirtual 98, 3) := d_by (d_at odX11_season ofX11_season 24) rfl
theorem dX11_season_27 : decode cX11_season 27 = .ok (.ireturn, 1) := d_by (d_at odX11_season ofX11_season 27) rfl
theorem dX11_season_28 : decode cX11_season 28 = .ok (.aload_n 0, 1) := d_by (d_at odX11_season ofX11_season 28) rfl
theorem dX11_season_29 : decode cX11_season 29 = .ok (.iload_n 1, 1) := d_by (d_at odX11_season ofX11_season 29) rfl
theorem dX11_season_30 : decode cX11_season 30 = .ok (.bipush 90, 2) := d_by (d_at odX11_season ofX11_season 30) rfl
theorem dX11_season_32 : decode cX11_season 32 = .ok (.idiv, 1) := d_by (d_at odX11_season ofX11_season 32) rfl
theorem dX11_season_33 : decode cX11_season 33 = .ok (.iconst 4, 1) := d_by (d_at odX11_season ofX11_season 33) rfl
theorem dX11_season_34 : decode cX11_season 34 = .ok (.irem, 1) := d_by (d_at odX11_season ofX11_season 34) rfl
theorem dX11_season_35 : decode cX11_season 35 = .ok (.invokevirtual 112, 3) := d_by (d_at odX11_season ofX11_season 35) rfl
theorem dX11_season_38 : decode cX11_season 38 = .ok (.ireturn, 1) := d_by (d_at odX11_season ofX11_season 38) rfl
set_option maxRecDepth 100000 in
def bX11_sets : List Nat := [42, 27, 182, 0, 121, 153, 0, 11, 42, 28, 182, 0, 230, 154, 0, 9, 42, 4, 182, 0, 98, 172, 29, 17, 39, 15, 184, 0, 227, 154, 0, 9, 42, 5, 182, 0, 98, 172, 42, 180, 0, 42, 28, 182, 0, 210, 153, 0, 10, 42, 16, 254, 182, 0, 112, 172, 42, 42, 180, 0, 60, 42, 180, 0, 23, 180, 0, 125, 27, 50, 180, 0, 129, 42, 180, 0, 23, 180, 0, 213, 28, 50, 180, 0, 233, 29, 182, 0, 236, 182, 0, 112, 172]
set_option maxRecDepth 100000 in
theorem bbX11_sets : cX11_sets.data.toList.map UInt8.toNat = bX11_sets := by decide +kernel
set_option maxRecDepth 100000 in
def tX11_sets : Lean.RArray dLf := .branch 46 (.branch 22 (.branch 10 (.branch 5 (.branch 1 (.leaf (0, .aload_n 0, 1)) (.branch 2 (.leaf (1, .iload_n 1, 1)) (.leaf (2, .invokevirtual 121, 3)))) (.branch 8 (.leaf (5, .ifCond .eq 11, 3)) (.branch 9 (.leaf (8, .aload_n 0, 1)) (.leaf (9, .iload_n 2, 1))))) (.branch 17 (.branch 13 (.leaf (10, .invokevirtual 230, 3)) (.branch 16 (.leaf (13, .ifCond .ne 9, 3)) (.leaf (16, .aload_n 0, 1)))) (.branch 18 (.leaf (17, .iconst 1, 1)) (.branch 21 (.leaf (18, .invokevirtual 98, 3)) (.leaf (21, .ireturn, 1)))))) (.branch 34 (.branch 29 (.branch 23 (.leaf (22, .iload_n 3, 1)) (.branch 26 (.leaf (23, .sipush 9999, 3)) (.leaf (26, .invokestatic 227, 3)))) (.branch 32 (.leaf (29, .ifCond .ne 9, 3)) (.branch 33 (.leaf (32, .aload_n 0, 1)) (.leaf (33, .iconst 2, 1))))) (.branch 39 (.branch 37 (.leaf (34, .invokevirtual 98, 3)) (.branch 38 (.leaf (37, .ireturn, 1)) (.leaf (38, .aload_n 0, 1)))) (.branch 42 (.leaf (39, .getfield 42, 3)) (.branch 43 (.leaf (42, .iload_n 2, 1)) (.leaf (43, .invokevirtual 210, 3))))))) (.branch 69 (.branch 57 (.branch 52 (.branch 49 (.leaf (46, .ifCond .eq 10, 3)) (.branch 50 (.leaf (49, .aload_n 0, 1)) (.leaf (50, .bipush (-2), 2)))) (.branch 55 (.leaf (52, .invokevirtual 112, 3)) (.branch 56 (.leaf (55, .ireturn, 1)) (.leaf (56, .aload_n 0, 1))))) (.branch 62 (.branch 58 (.leaf (57, .aload_n 0, 1)) (.branch 61 (.leaf (58, .getfield 60, 3)) (.leaf (61, .aload_n 0, 1)))) (.branch 65 (.leaf (62, .getfield 23, 3)) (.branch 68 (.leaf (65, .getfield 125, 3)) (.leaf (68, .iload_n 1, 1)))))) (.branch 81 (.branch 74 (.branch 70 (.leaf (69, .aaload, 1)) (.branch 73 (.leaf (70, .getfield 129, 3)) (.leaf (73, .aload_n 0, 1)))) (.branch 77 (.leaf (74, .getfield 23, 3)) (.branch 80 (.leaf (77, .getfield 213, 3)) (.leaf (80, .iload_n 2, 1))))) (.branch 86 (.branch 82 (.leaf (81, .aaload, 1)) (.branch 85 (.leaf (82, .getfield 233, 3)) (.leaf (85, .iload_n 3, 1)))) (.branch 89 (.leaf (86, .invokevirtual 236, 3)) (.branch 92 (.leaf (89, .invokevirtual 112, 3)) (.leaf (92, .ireturn, 1)))))))
noncomputable def oX11_sets : List dLf := dFl tX11_sets
theorem ofX11_sets : dFl tX11_sets = oX11_sets := rfl
set_option maxRecDepth 100000 in
theorem odX11_sets : ∀ q ∈ oX11_sets, decode cX11_sets q.1 = .ok (q.2.1, q.2.2) := q_go qT_ok bbX11_sets oX11_sets 0 (by decide +kernel)
theorem dX11_sets_0 : decode cX11_sets 0 = .ok (.aload_n 0, 1) := d_by (d_at odX11_sets ofX11_sets 0) rfl
theorem dX11_sets_1 : decode cX11_sets 1 = .ok (.iload_n 1, 1) := d_by (d_at odX11_sets ofX11_sets 1) rfl
theorem dX11_sets_2 : decode cX11_sets 2 = .ok (.invokevirtual 121, 3) := d_by (d_at odX11_sets ofX11_sets 2) rfl
theorem dX11_sets_5 : decode cX11_sets 5 = .ok (.ifCond .eq 11, 3) := d_by (d_at odX11_sets ofX11_sets 5) rfl
theorem dX11_sets_8 : decode cX11_sets 8 = .ok (.aload_n 0, 1) := d_by (d_at odX11_sets ofX11_sets 8) rfl
theorem dX11_sets_9 : decode cX11_sets 9 = .ok (.iload_n 2, 1) := d_by (d_at odX11_sets ofX11_sets 9) rfl
theorem dX11_sets_10 : decode cX11_sets 10 = .ok (.invokevirtual 230, 3) := d_by (d_at odX11_sets ofX11_sets 10) rfl
theorem dX11_sets_13 : decode cX11_sets 13 = .ok (.ifCond .ne 9, 3) := d_by (d_at odX11_sets ofX11_sets 13) rfl
theorem dX11_sets_16 : decode cX11_sets 16 = .ok (.aload_n 0, 1) := d_by (d_at odX11_sets ofX11_sets 16) rfl
theorem dX11_sets_17 : decode cX11_sets 17 = .ok (.iconst 1, 1) := d_by (d_at odX11_sets ofX11_sets 17) rfl
theorem dX11_sets_18 : decode cX11_sets 18 = .ok (.invokevirtual 98, 3) := d_by (d_at odX11_sets ofX11_sets 18) rfl
theorem dX11_sets_21 : decode cX11_sets 21 = .ok (.ireturn, 1) := d_by (d_at odX11_sets ofX11_sets 21) rfl
theorem dX11_sets_22 : decode cX11_sets 22 = .ok (.iload_n 3, 1) := d_by (d_at odX11_sets ofX11_sets 22) rfl
theorem dX11_sets_23 : decode cX11_sets 23 = .ok (.sipush 9999, 3) := d_by (d_at odX11_sets ofX11_sets 23) rfl
theorem dX11_sets_26 : decode cX11_sets 26 = .ok (.invokestatic 227, 3) := d_by (d_at odX11_sets ofX11_sets 26) rfl
theorem dX11_sets_29 : decode cX11_sets 29 = .ok (.ifCond .ne 9, 3) := d_by (d_at odX11_sets ofX11_sets 29) rfl
theorem dX11_sets_32 : decode cX11_sets 32 = .ok (.aload_n 0, 1) := d_by (d_at odX11_sets ofX11_sets 32) rfl
theorem dX11_sets_33 : decode cX11_sets 33 = .ok (.iconst 2, 1) := d_by (d_at odX11_sets ofX11_sets 33) rfl
theorem dX11_sets_34 : decode cX11_sets 34 = .ok (.invokevirtual 98, 3) := d_by (d_at odX11_sets ofX11_sets 34) rfl
theorem dX11_sets_37 : decode cX11_sets 37 = .ok (.ireturn, 1) := d_by (d_at odX11_sets ofX11_sets 37) rfl
theorem dX11_sets_38 : decode cX11_sets 38 = .ok (.aload_n 0, 1) := d_by (d_at odX11_sets ofX11_sets 38) rfl
theorem dX11_sets_39 : decode cX11_sets 39 = .ok (.getfield 42, 3) := d_by (d_at odX11_sets ofX11_sets 39) rfl
theorem dX11_sets_42 : decode cX11_sets 42 = .ok (.iload_n 2, 1) := d_by (d_at odX11_sets ofX11_sets 42) rfl
theorem dX11_sets_43 : decode cX11_sets 43 = .ok (.invokevirtual 210, 3) := d_by (d_at odX11_sets ofX11_sets 43) rfl
theorem dX11_sets_46 : decode cX11_sets 46 = .ok (.ifCond .eq 10, 3) := d_by (d_at odX11_sets ofX11_sets 46) rfl
theorem dX11_sets_49 : decode cX11_sets 49 = .ok (.aload_n 0, 1) := d_by (d_at odX11_sets ofX11_sets 49) rfl
theorem dX11_sets_50 : decode cX11_sets 50 = .ok (.bipush (-2), 2) := d_by (d_at odX11_sets ofX11_sets 50) rfl
theorem dX11_sets_52 : decode cX11_sets 52 = .ok (.invokevirtual 112, 3) := d_by (d_at odX11_sets ofX11_sets 52) rfl
theorem dX11_sets_55 : decode cX11_sets 55 = .ok (.ireturn, 1) := d_by (d_at odX11_sets ofX11_sets 55) rfl
theorem dX11_sets_56 : decode cX11_sets 56 = .ok (.aload_n 0, 1) := d_by (d_at odX11_sets ofX11_sets 56) rfl
theorem dX11_sets_57 : decode cX11_sets 57 = .ok (.aload_n 0, 1) := d_by (d_at odX11_sets ofX11_sets 57) rfl
theorem dX11_sets_58 : decode cX11_sets 58 = .ok (.getfield 60, 3) := d_by (d_at odX11_sets ofX11_sets 58) rfl
theorem dX11_sets_61 : decode cX11_sets 61 = .ok (.aload_n 0, 1) := d_by (d_at odX11_sets ofX11_sets 61) rfl
theorem dX11_sets_62 : decode cX11_sets 62 = .ok (.getfield 23, 3) := d_by (d_at odX11_sets ofX11_sets 62) rfl
theorem dX11_sets_65 : decode cX11_sets 65 = .ok (.getfield 125, 3) := d_by (d_at odX11_sets ofX11_sets 65) rfl
theorem dX11_sets_68 : decode cX11_sets 68 = .ok (.iload_n 1, 1) := d_by (d_at odX11_sets ofX11_sets 68) rfl
theorem dX11_sets_69 : decode cX11_sets 69 = .ok (.aaload, 1) := d_by (d_at odX11_sets ofX11_sets 69) rfl
theorem dX11_sets_70 : decode cX11_sets 70 = .ok (.getfield 129, 3) := d_by (d_at odX11_sets ofX11_sets 70) rfl
theorem dX11_sets_73 : decode cX11_sets 73 = .ok (.aload_n 0, 1) := d_by (d_at odX11_sets ofX11_sets 73) rfl
theorem dX11_sets_74 : decode cX11_sets 74 = .ok (.getfield 23, 3) := d_by (d_at odX11_sets ofX11_sets 74) rfl
theorem dX11_sets_77 : decode cX11_sets 77 = .ok (.getfield 213, 3) := d_by (d_at odX11_sets ofX11_sets 77) rfl
theorem dX11_sets_80 : decode cX11_sets 80 = .ok (.iload_n 2, 1) := d_by (d_at odX11_sets ofX11_sets 80) rfl
theorem dX11_sets_81 : decode cX11_sets 81 = .ok (.aaload, 1) := d_by (d_at odX11_sets ofX11_sets 81) rfl
theorem dX11_sets_82 : decode cX11_sets 82 = .ok (.getfield 233, 3) := d_by (d_at odX11_sets ofX11_sets 82) rfl
theorem dX11_sets_85 : decode cX11_sets 85 = .ok (.iload_n 3, 1) := d_by (d_at odX11_sets ofX11_sets 85) rfl
theorem dX11_sets_86 : decode cX11_sets 86 = .ok (.invokevirtual 236, 3) := d_by (d_at odX11_sets ofX11_sets 86) rfl
theorem dX11_sets_89 : decode cX11_sets 89 = .ok (.invokevirtual 112, 3) := d_by (d_at odX11_sets ofX11_sets 89) rfl
theorem dX11_sets_92 : decode cX11_sets 92 = .ok (.ireturn, 1) := d_by (d_at odX11_sets ofX11_sets 92) rfl
set_option maxRecDepth 100000 in
def bX11_sent : List Nat := [42, 182, 0, 222, 153, 0, 12, 27, 155, 0, 8, 27, 5, 164, 0, 9, 42, 4, 182, 0, 98, 172, 3, 61, 3, 62, 29, 42, 180, 0, 23, 180, 0, 239, 162, 0, 29, 42, 180, 0, 42, 29, 182, 0, 242, 153, 0, 12, 28, 42, 29, 27, 182, 0, 245, 96, 61, 132, 3, 1, 167, 255, 222, 42, 28, 182, 0, 112, 172]
set_option maxRecDepth 100000 in
theorem bbX11_sent : cX11_sent.data.toList.map UInt8.toNat = bX11_sent := by decide +kernel
set_option maxRecDepth 100000 in
def tX11_sent : Lean.RArray dLf := .branch 31 (.branch 17 (.branch 8 (.branch 4 (.branch 1 (.leaf (0, .aload_n 0, 1)) (.leaf (1, .invokevirtual 222, 3))) (.branch 7 (.leaf (4, .ifCond .eq 12, 3)) (.leaf (7, .iload_n 1, 1)))) (.branch 12 (.branch 11 (.leaf (8, .ifCond .lt 8, 3)) (.leaf (11, .iload_n 1, 1))) (.branch 13 (.leaf (12, .iconst 2, 1)) (.branch 16 (.leaf (13, .if_icmp .le 9, 3)) (.leaf (16, .aload_n 0, 1)))))) (.branch 24 (.branch 21 (.branch 18 (.leaf (17, .iconst 1, 1)) (.leaf (18, .invokevirtual 98, 3))) (.branch 22 (.leaf (21, .ireturn, 1)) (.branch 23 (.leaf (22, .iconst 0, 1)) (.leaf (23, .istore_n 2, 1))))) (.branch 26 (.branch 25 (.leaf (24, .iconst 0, 1)) (.leaf (25, .istore_n 3, 1))) (.branch 27 (.leaf (26, .iload_n 3, 1)) (.branch 28 (.leaf (27, .aload_n 0, 1)) (.leaf (28, .getfield 23, 3))))))) (.branch 51 (.branch 42 (.branch 37 (.branch 34 (.leaf (31, .getfield 239, 3)) (.leaf (34, .if_icmp .ge 29, 3))) (.branch 38 (.leaf (37, .aload_n 0, 1)) (.branch 41 (.leaf (38, .getfield 42, 3)) (.leaf (41, .iload_n 3, 1))))) (.branch 48 (.branch 45 (.leaf (42, .invokevirtual 242, 3)) (.leaf (45, .ifCond .eq 12, 3))) (.branch 49 (.leaf (48, .iload_n 2, 1)) (.branch 50 (.leaf (49, .aload_n 0, 1)) (.leaf (50, .iload_n 3, 1)))))) (.branch 60 (.branch 55 (.branch 52 (.leaf (51, .iload_n 1, 1)) (.leaf (52, .invokevirtual 245, 3))) (.branch 56 (.leaf (55, .iadd, 1)) (.branch 57 (.leaf (56, .istore_n 2, 1)) (.leaf (57, .iinc 3 1, 3))))) (.branch 64 (.branch 63 (.leaf (60, .goto (-34), 3)) (.leaf (63, .aload_n 0, 1))) (.branch 65 (.leaf (64, .iload_n 2, 1)) (.branch 68 (.leaf (65, .invokevirtual 112, 3)) (.leaf (68, .ireturn, 1)))))))
noncomputable def oX11_sent : List dLf := dFl tX11_sent
theorem ofX11_sent : dFl tX11_sent = oX11_sent := rfl
set_option maxRecDepth 100000 in
theorem odX11_sent : ∀ q ∈ oX11_sent, decode cX11_sent q.1 = .ok (q.2.1, q.2.2) := q_go qT_ok bbX11_sent oX11_sent 0 (by decide +kernel)
set_option maxRecDepth 100000 in
def bX11_apart : List Nat := [42, 27, 182, 0, 174, 153, 0, 27, 42, 28, 182, 0, 174, 153, 0, 19, 42, 42, 180, 0, 51, 27, 28, 182, 0, 248, 182, 0, 112, 167, 0, 8, 42, 4, 182, 0, 98, 172]
set_option maxRecDepth 100000 in
theorem bbX11_apart : cX11_apart.data.toList.map UInt8.toNat = bX11_apart := by decide +kernel
set_option maxRecDepth 100000 in
def tX11_apart : Lean.RArray dLf := .branch 18 (.branch 9 (.branch 2 (.branch 1 (.leaf (0, .aload_n 0, 1)) (.leaf (1, .iload_n 1, 1))) (.branch 5 (.leaf (2, .invokevirtual 174, 3)) (.branch 8 (.leaf (5, .ifCond .eq 27, 3)) (.leaf (8, .aload_n 0, 1))))) (.branch 13 (.branch 10 (.leaf (9, .iload_n 2, 1)) (.leaf (10, .invokevirtual 174, 3))) (.branch 16 (.leaf (13, .ifCond .eq 19, 3)) (.branch 17 (.leaf (16, .aload_n 0, 1)) (.leaf (17, .aload_n 0, 1)))))) (.branch 29 (.branch 22 (.branch 21 (.leaf (18, .getfield 51, 3)) (.leaf (21, .iload_n 1, 1))) (.branch 23 (.leaf (22, .iload_n 2, 1)) (.branch 26 (.leaf (23, .invokevirtual 248, 3)) (.leaf (26, .invokevirtual 112, 3))))) (.branch 33 (.branch 32 (.leaf (29, .goto 8, 3)) (.leaf (32, .aload_n 0, 1))) (.branch 34 (.leaf (33, .iconst 1, 1)) (.branch 37 (.leaf (34, .invokevirtual 98, 3)) (.leaf (37, .ireturn, 1))))))
noncomputable def oX11_apart : List dLf := dFl tX11_apart
theorem ofX11_apart : dFl tX11_apart = oX11_apart := rfl
set_option maxRecDepth 100000 in
theorem odX11_apart : ∀ q ∈ oX11_apart, decode cX11_apart q.1 = .ok (q.2.1, q.2.2) := q_go qT_ok bbX11_apart oX11_apart 0 (by decide +kernel)
theorem dX11_apart_0 : decode cX11_apart 0 = .ok (.aload_n 0, 1) := d_by (d_at odX11_apart ofX11_apart 0) rfl
theorem dX11_apart_1 : decode cX11_apart 1 = .ok (.iload_n 1, 1) := d_by (d_at odX11_apart ofX11_apart 1) rfl
theorem dX11_apart_2 : decode cX11_apart 2 = .ok (.invokevirtual 174, 3) := d_by (d_at odX11_apart ofX11_apart 2) rfl
theorem dX11_apart_5 : decode cX11_apart 5 = .ok (.ifCond .eq 27, 3) := d_by (d_at odX11_apart ofX11_apart 5) rfl
theorem dX11_apart_8 : decode cX11_apart 8 = .ok (.aload_n 0, 1) := d_by (d_at odX11_apart ofX11_apart 8) rfl
theorem dX11_apart_9 : decode cX11_apart 9 = .ok (.iload_n 2, 1) := d_by (d_at odX11_apart ofX11_apart 9) rfl
theorem dX11_apart_10 : decode cX11_apart 10 = .ok (.invokevirtual 174, 3) := d_by (d_at odX11_apart ofX11_apart 10) rfl
theorem dX11_apart_13 : decode cX11_apart 13 = .ok (.ifCond .eq 19, 3) := d_by (d_at odX11_apart ofX11_apart 13) rfl
theorem dX11_apart_16 : decode cX11_apart 16 = .ok (.aload_n 0, 1) := d_by (d_at odX11_apart ofX11_apart 16) rfl
theorem dX11_apart_17 : decode cX11_apart 17 = .ok (.aload_n 0, 1) := d_by (d_at odX11_apart ofX11_apart 17) rfl
theorem dX11_apart_18 : decode cX11_apart 18 = .ok (.getfield 51, 3) := d_by (d_at odX11_apart ofX11_apart 18) rfl
theorem dX11_apart_21 : decode cX11_apart 21 = .ok (.iload_n 1, 1) := d_by (d_at odX11_apart ofX11_apart 21) rfl
theorem dX11_apart_22 : decode cX11_apart 22 = .ok (.iload_n 2, 1) := d_by (d_at odX11_apart ofX11_apart 22) rfl
theorem dX11_apart_23 : decode cX11_apart 23 = .ok (.invokevirtual 248, 3) := d_by (d_at odX11_apart ofX11_apart 23) rfl
theorem dX11_apart_26 : decode cX11_apart 26 = .ok (.invokevirtual 112, 3) := d_by (d_at odX11_apart ofX11_apart 26) rfl
theorem dX11_apart_29 : decode cX11_apart 29 = .ok (.goto 8, 3) := d_by (d_at odX11_apart ofX11_apart 29) rfl
theorem dX11_apart_32 : decode cX11_apart 32 = .ok (.aload_n 0, 1) := d_by (d_at odX11_apart ofX11_apart 32) rfl
theorem dX11_apart_33 : decode cX11_apart 33 = .ok (.iconst 1, 1) := d_by (d_at odX11_apart ofX11_apart 33) rfl
theorem dX11_apart_34 : decode cX11_apart 34 = .ok (.invokevirtual 98, 3) := d_by (d_at odX11_apart ofX11_apart 34) rfl
theorem dX11_apart_37 : decode cX11_apart 37 = .ok (.ireturn, 1) := d_by (d_at odX11_apart ofX11_apart 37) rfl
set_option maxRecDepth 100000 in
def bX11_bear : List Nat := [42, 182, 0, 222, 153, 0, 17, 42, 42, 180, 0, 51, 182, 0, 251, 182, 0, 112, 167, 0, 8, 42, 4, 182, 0, 98, 172]
set_option maxRecDepth 100000 in
theorem bbX11_bear : cX11_bear.data.toList.map UInt8.toNat = bX11_bear := by decide +kernel
set_option maxRecDepth 100000 in
def tX11_bear : Lean.RArray dLf := .branch 12 (.branch 7 (.branch 1 (.leaf (0, .aload_n 0, 1)) (.branch 4 (.leaf (1, .invokevirtual 222, 3)) (.leaf (4, .ifCond .eq 17, 3)))) (.branch 8 (.leaf (7, .aload_n 0, 1)) (.branch 9 (.leaf (8, .aload_n 0, 1)) (.leaf (9, .getfield 51, 3))))) (.branch 21 (.branch 15 (.leaf (12, .invokevirtual 251, 3)) (.branch 18 (.leaf (15, .invokevirtual 112, 3)) (.leaf (18, .goto 8, 3)))) (.branch 23 (.branch 22 (.leaf (21, .aload_n 0, 1)) (.leaf (22, .iconst 1, 1))) (.branch 26 (.leaf (23, .invokevirtual 98, 3)) (.leaf (26, .ireturn, 1)))))
noncomputable def oX11_bear : List dLf := dFl tX11_bear
theorem ofX11_bear : dFl tX11_bear = oX11_bear := rfl
set_option maxRecDepth 100000 in
theorem odX11_bear : ∀ q ∈ oX11_bear, decode cX11_bear q.1 = .ok (q.2.1, q.2.2) := q_go qT_ok bbX11_bear oX11_bear 0 (by decide +kernel)
set_option maxRecDepth 100000 in
def bX11_mixed : List Nat := [42, 182, 0, 222, 153, 0, 17, 42, 42, 180, 0, 51, 182, 0, 255, 182, 0, 112, 167, 0, 8, 42, 4, 182, 0, 98, 172]
set_option maxRecDepth 100000 in
theorem bbX11_mixed : cX11_mixed.data.toList.map UInt8.toNat = bX11_mixed := by decide +kernel
set_option maxRecDepth 100000 in
def tX11_mixed : Lean.RArray dLf := .branch 12 (.branch 7 (.branch 1 (.leaf (0, .aload_n 0, 1)) (.branch 4 (.leaf (1, .invokevirtual 222, 3)) (.leaf (4, .ifCond .eq 17, 3)))) (.branch 8 (.leaf (7, .aload_n 0, 1)) (.branch 9 (.leaf (8, .aload_n 0, 1)) (.leaf (9, .getfield 51, 3))))) (.branch 21 (.branch 15 (.leaf (12, .invokevirtual 255, 3)) (.branch 18 (.leaf (15, .invokevirtual 112, 3)) (.leaf (18, .goto 8, 3)))) (.branch 23 (.branch 22 (.leaf (21, .aload_n 0, 1)) (.leaf (22, .iconst 1, 1))) (.branch 26 (.leaf (23, .invokevirtual 98, 3)) (.leaf (26, .ireturn, 1)))))
noncomputable def oX11_mixed : List dLf := dFl tX11_mixed
theorem ofX11_mixed : dFl tX11_mixed = oX11_mixed := rfl
set_option maxRecDepth 100000 in
theorem odX11_mixed : ∀ q ∈ oX11_mixed, decode cX11_mixed q.1 = .ok (q.2.1, q.2.2) := q_go qT_ok bbX11_mixed oX11_mixed 0 (by decide +kernel)
set_option maxRecDepth 100000 in
def bX11_fresh : List Nat := [42, 27, 28, 182, 1, 2, 62, 29, 153, 0, 9, 42, 29, 182, 0, 98, 172, 42, 180, 0, 51, 27, 28, 42, 180, 0, 42, 180, 0, 180, 4, 182, 1, 5, 87, 42, 42, 180, 0, 51, 180, 1, 9, 182, 0, 112, 172]
set_option maxRecDepth 100000 in
theorem bbX11_fresh : cX11_fresh.data.toList.map UInt8.toNat = bX11_fresh := by decide +kernel
set_option maxRecDepth 100000 in
def tX11_fresh : Lean.RArray dLf := .branch 21 (.branch 8 (.branch 3 (.branch 1 (.leaf (0, .aload_n 0, 1)) (.branch 2 (.leaf (1, .iload_n 1, 1)) (.leaf (2, .iload_n 2, 1)))) (.branch 6 (.leaf (3, .invokevirtual 258, 3)) (.branch 7 (.leaf (6, .istore_n 3, 1)) (.leaf (7, .iload_n 3, 1))))) (.branch 13 (.branch 11 (.leaf (8, .ifCond .eq 9, 3)) (.branch 12 (.leaf (11, .aload_n 0, 1)) (.leaf (12, .iload_n 3, 1)))) (.branch 17 (.branch 16 (.leaf (13, .invokevirtual 98, 3)) (.leaf (16, .ireturn, 1))) (.branch 18 (.leaf (17, .aload_n 0, 1)) (.leaf (18, .getfield 51, 3)))))) (.branch 34 (.branch 24 (.branch 22 (.leaf (21, .iload_n 1, 1)) (.branch 23 (.leaf (22, .iload_n 2, 1)) (.leaf (23, .aload_n 0, 1)))) (.branch 30 (.branch 27 (.leaf (24, .getfield 42, 3)) (.leaf (27, .getfield 180, 3))) (.branch 31 (.leaf (30, .iconst 1, 1)) (.leaf (31, .invokevirtual 261, 3))))) (.branch 37 (.branch 35 (.leaf (34, .pop, 1)) (.branch 36 (.leaf (35, .aload_n 0, 1)) (.leaf (36, .aload_n 0, 1)))) (.branch 43 (.branch 40 (.leaf (37, .getfield 51, 3)) (.leaf (40, .getfield 265, 3))) (.branch 46 (.leaf (43, .invokevirtual 112, 3)) (.leaf (46, .ireturn, 1))))))
noncomputable def oX11_fresh : List dLf := dFl tX11_fresh
theorem ofX11_fresh : dFl tX11_fresh = oX11_fresh := rfl
set_option maxRecDepth 100000 in
theorem odX11_fresh : ∀ q ∈ oX11_fresh, decode cX11_fresh q.1 = .ok (q.2.1, q.2.2) := q_go qT_ok bbX11_fresh oX11_fresh 0 (by decide +kernel)
set_option maxRecDepth 100000 in
def bX11_byTurns : List Nat := [42, 27, 28, 182, 1, 2, 62, 29, 153, 0, 9, 42, 29, 182, 0, 98, 172, 42, 42, 180, 0, 51, 27, 28, 42, 180, 0, 42, 180, 0, 180, 17, 4, 0, 182, 1, 5, 182, 0, 112, 172]
set_option maxRecDepth 100000 in
theorem bbX11_byTurns : cX11_byTurns.data.toList.map UInt8.toNat = bX11_byTurns := by decide +kernel
set_option maxRecDepth 100000 in
def tX11_byTurns : Lean.RArray dLf := .branch 17 (.branch 7 (.branch 2 (.branch 1 (.leaf (0, .aload_n 0, 1)) (.leaf (1, .iload_n 1, 1))) (.branch 3 (.leaf (2, .iload_n 2, 1)) (.branch 6 (.leaf (3, .invokevirtual 258, 3)) (.leaf (6, .istore_n 3, 1))))) (.branch 12 (.branch 8 (.leaf (7, .iload_n 3, 1)) (.branch 11 (.leaf (8, .ifCond .eq 9, 3)) (.leaf (11, .aload_n 0, 1)))) (.branch 13 (.leaf (12, .iload_n 3, 1)) (.branch 16 (.leaf (13, .invokevirtual 98, 3)) (.leaf (16, .ireturn, 1)))))) (.branch 25 (.branch 22 (.branch 18 (.leaf (17, .aload_n 0, 1)) (.branch 19 (.leaf (18, .aload_n 0, 1)) (.leaf (19, .getfield 51, 3)))) (.branch 23 (.leaf (22, .iload_n 1, 1)) (.branch 24 (.leaf (23, .iload_n 2, 1)) (.leaf (24, .aload_n 0, 1))))) (.branch 34 (.branch 28 (.leaf (25, .getfield 42, 3)) (.branch 31 (.leaf (28, .getfield 180, 3)) (.leaf (31, .sipush 1024, 3)))) (.branch 37 (.leaf (34, .invokevirtual 261, 3)) (.branch 40 (.leaf (37, .invokevirtual 112, 3)) (.leaf (40, .ireturn, 1))))))
noncomputable def oX11_byTurns : List dLf := dFl tX11_byTurns
theorem ofX11_byTurns : dFl tX11_byTurns = oX11_byTurns := rfl
set_option maxRecDepth 100000 in
theorem odX11_byTurns : ∀ q ∈ oX11_byTurns, decode cX11_byTurns q.1 = .ok (q.2.1, q.2.2) := q_go qT_ok bbX11_byTurns oX11_byTurns 0 (by decide +kernel)
set_option maxRecDepth 100000 in
def bX11_near : List Nat := [42, 27, 182, 0, 147, 154, 0, 9, 42, 4, 182, 0, 98, 172, 42, 27, 42, 180, 0, 42, 180, 0, 180, 182, 0, 201, 87, 42, 42, 180, 0, 51, 180, 1, 12, 182, 0, 112, 172]
set_option maxRecDepth 100000 in
theorem bbX11_near : cX11_near.data.toList.map UInt8.toNat = bX11_near := by decide +kernel
set_option maxRecDepth 100000 in
def tX11_near : Lean.RArray dLf := .branch 16 (.branch 9 (.branch 2 (.branch 1 (.leaf (0, .aload_n 0, 1)) (.leaf (1, .iload_n 1, 1))) (.branch 5 (.leaf (2, .invokevirtual 147, 3)) (.branch 8 (.leaf (5, .ifCond .ne 9, 3)) (.leaf (8, .aload_n 0, 1))))) (.branch 13 (.branch 10 (.leaf (9, .iconst 1, 1)) (.leaf (10, .invokevirtual 98, 3))) (.branch 14 (.leaf (13, .ireturn, 1)) (.branch 15 (.leaf (14, .aload_n 0, 1)) (.leaf (15, .iload_n 1, 1)))))) (.branch 27 (.branch 20 (.branch 17 (.leaf (16, .aload_n 0, 1)) (.leaf (17, .getfield 42, 3))) (.branch 23 (.leaf (20, .getfield 180, 3)) (.branch 26 (.leaf (23, .invokevirtual 201, 3)) (.leaf (26, .pop, 1))))) (.branch 32 (.branch 28 (.leaf (27, .aload_n 0, 1)) (.branch 29 (.leaf (28, .aload_n 0, 1)) (.leaf (29, .getfield 51, 3)))) (.branch 35 (.leaf (32, .getfield 268, 3)) (.branch 38 (.leaf (35, .invokevirtual 112, 3)) (.leaf (38, .ireturn, 1))))))
noncomputable def oX11_near : List dLf := dFl tX11_near
theorem ofX11_near : dFl tX11_near = oX11_near := rfl
set_option maxRecDepth 100000 in
theorem odX11_near : ∀ q ∈ oX11_near, decode cX11_near q.1 = .ok (q.2.1, q.2.2) := q_go qT_ok bbX11_near oX11_near 0 (by decide +kernel)
theorem dX11_near_0 : decode cX11_near 0 = .ok (.aload_n 0, 1) := d_by (d_at odX11_near ofX11_near 0) rfl
theorem dX11_near_1 : decode cX11_near 1 = .ok (.iload_n 1, 1) := d_by (d_at odX11_near ofX11_near 1) rfl
theorem dX11_near_2 : decode cX11_near 2 = .ok (.invokevirtual 147, 3) := d_by (d_at odX11_near ofX11_near 2) rfl
theorem dX11_near_5 : decode cX11_near 5 = .ok (.ifCond .ne 9, 3) := d_by (d_at odX11_near ofX11_near 5) rfl
theorem dX11_near_8 : decode cX11_near 8 = .ok (.aload_n 0, 1) := d_by (d_at odX11_near ofX11_near 8) rfl
theorem dX11_near_9 : decode cX11_near 9 = .ok (.iconst 1, 1) := d_by (d_at odX11_near ofX11_near 9) rfl
theorem dX11_near_10 : decode cX11_near 10 = .ok (.invokevirtual 98, 3) := d_by (d_at odX11_near ofX11_near 10) rfl
theorem dX11_near_13 : decode cX11_near 13 = .ok (.ireturn, 1) := d_by (d_at odX11_near ofX11_near 13) rfl
theorem dX11_near_14 : decode cX11_near 14 = .ok (.aload_n 0, 1) := d_by (d_at odX11_near ofX11_near 14) rfl
theorem dX11_near_15 : decode cX11_near 15 = .ok (.iload_n 1, 1) := d_by (d_at odX11_near ofX11_near 15) rfl
theorem dX11_near_16 : decode cX11_near 16 = .ok (.aload_n 0, 1) := d_by (d_at odX11_near ofX11_near 16) rfl
theorem dX11_near_17 : decode cX11_near 17 = .ok (.getfield 42, 3) := d_by (d_at odX11_near ofX11_near 17) rfl
theorem dX11_near_20 : decode cX11_near 20 = .ok (.getfield 180, 3) := d_by (d_at odX11_near ofX11_near 20) rfl
theorem dX11_near_23 : decode cX11_near 23 = .ok (.invokevirtual 201, 3) := d_by (d_at odX11_near ofX11_near 23) rfl
theorem dX11_near_26 : decode cX11_near 26 = .ok (.pop, 1) := d_by (d_at odX11_near ofX11_near 26) rfl
theorem dX11_near_27 : decode cX11_near 27 = .ok (.aload_n 0, 1) := d_by (d_at odX11_near ofX11_near 27) rfl
theorem dX11_near_28 : decode cX11_near 28 = .ok (.aload_n 0, 1) := d_by (d_at odX11_near ofX11_near 28) rfl
theorem dX11_near_29 : decode cX11_near 29 = .ok (.getfield 51, 3) := d_by (d_at odX11_near ofX11_near 29) rfl
theorem dX11_near_32 : decode cX11_near 32 = .ok (.getfield 268, 3) := d_by (d_at odX11_near ofX11_near 32) rfl
theorem dX11_near_35 : decode cX11_near 35 = .ok (.invokevirtual 112, 3) := d_by (d_at odX11_near ofX11_near 35) rfl
theorem dX11_near_38 : decode cX11_near 38 = .ok (.ireturn, 1) := d_by (d_at odX11_near ofX11_near 38) rfl
set_option maxRecDepth 100000 in
def bX11_asNear : List Nat := [42, 27, 182, 0, 147, 154, 0, 9, 42, 4, 182, 0, 98, 172, 42, 27, 42, 180, 0, 42, 180, 0, 180, 182, 0, 201, 87, 42, 42, 180, 0, 51, 180, 1, 15, 182, 0, 112, 172]
set_option maxRecDepth 100000 in
theorem bbX11_asNear : cX11_asNear.data.toList.map UInt8.toNat = bX11_asNear := by decide +kernel
set_option maxRecDepth 100000 in
def tX11_asNear : Lean.RArray dLf := .branch 16 (.branch 9 (.branch 2 (.branch 1 (.leaf (0, .aload_n 0, 1)) (.leaf (1, .iload_n 1, 1))) (.branch 5 (.leaf (2, .invokevirtual 147, 3)) (.branch 8 (.leaf (5, .ifCond .ne 9, 3)) (.leaf (8, .aload_n 0, 1))))) (.branch 13 (.branch 10 (.leaf (9, .iconst 1, 1)) (.leaf (10, .invokevirtual 98, 3))) (.branch 14 (.leaf (13, .ireturn, 1)) (.branch 15 (.leaf (14, .aload_n 0, 1)) (.leaf (15, .iload_n 1, 1)))))) (.branch 27 (.branch 20 (.branch 17 (.leaf (16, .aload_n 0, 1)) (.leaf (17, .getfield 42, 3))) (.branch 23 (.leaf (20, .getfield 180, 3)) (.branch 26 (.leaf (23, .invokevirtual 201, 3)) (.leaf (26, .pop, 1))))) (.branch 32 (.branch 28 (.leaf (27, .aload_n 0, 1)) (.branch 29 (.leaf (28, .aload_n 0, 1)) (.leaf (29, .getfield 51, 3)))) (.branch 35 (.leaf (32, .getfield 271, 3)) (.branch 38 (.leaf (35, .invokevirtual 112, 3)) (.leaf (38, .ireturn, 1))))))
noncomputable def oX11_asNear : List dLf := dFl tX11_asNear
theorem ofX11_asNear : dFl tX11_asNear = oX11_asNear := rfl
set_option maxRecDepth 100000 in
theorem odX11_asNear : ∀ q ∈ oX11_asNear, decode cX11_asNear q.1 = .ok (q.2.1, q.2.2) := q_go qT_ok bbX11_asNear oX11_asNear 0 (by decide +kernel)
theorem dX11_asNear_0 : decode cX11_asNear 0 = .ok (.aload_n 0, 1) := d_by (d_at odX11_asNear ofX11_asNear 0) rfl
theorem dX11_asNear_1 : decode cX11_asNear 1 = .ok (.iload_n 1, 1) := d_by (d_at odX11_asNear ofX11_asNear 1) rfl
theorem dX11_asNear_2 : decode cX11_asNear 2 = .ok (.invokevirtual 147, 3) := d_by (d_at odX11_asNear ofX11_asNear 2) rfl
theorem dX11_asNear_5 : decode cX11_asNear 5 = .ok (.ifCond .ne 9, 3) := d_by (d_at odX11_asNear ofX11_asNear 5) rfl
theorem dX11_asNear_8 : decode cX11_asNear 8 = .ok (.aload_n 0, 1) := d_by (d_at odX11_asNear ofX11_asNear 8) rfl
theorem dX11_asNear_9 : decode cX11_asNear 9 = .ok (.iconst 1, 1) := d_by (d_at odX11_asNear ofX11_asNear 9) rfl
theorem dX11_asNear_10 : decode cX11_asNear 10 = .ok (.invokevirtual 98, 3) := d_by (d_at odX11_asNear ofX11_asNear 10) rfl
theorem dX11_asNear_13 : decode cX11_asNear 13 = .ok (.ireturn, 1) := d_by (d_at odX11_asNear ofX11_asNear 13) rfl
theorem dX11_asNear_14 : decode cX11_asNear 14 = .ok (.aload_n 0, 1) := d_by (d_at odX11_asNear ofX11_asNear 14) rfl
theorem dX11_asNear_15 : decode cX11_asNear 15 = .ok (.iload_n 1, 1) := d_by (d_at odX11_asNear ofX11_asNear 15) rfl
theorem dX11_asNear_16 : decode cX11_asNear 16 = .ok (.aload_n 0, 1) := d_by (d_at odX11_asNear ofX11_asNear 16) rfl
theorem dX11_asNear_17 : decode cX11_asNear 17 = .ok (.getfield 42, 3) := d_by (d_at odX11_asNear ofX11_asNear 17) rfl
theorem dX11_asNear_20 : decode cX11_asNear 20 = .ok (.getfield 180, 3) := d_by (d_at odX11_asNear ofX11_asNear 20) rfl
theorem dX11_asNear_23 : decode cX11_asNear 23 = .ok (.invokevirtual 201, 3) := d_by (d_at odX11_asNear ofX11_asNear 23) rfl
theorem dX11_asNear_26 : decode cX11_asNear 26 = .ok (.pop, 1) := d_by (d_at odX11_asNear ofX11_asNear 26) rfl
theorem dX11_asNear_27 : decode cX11_asNear 27 = .ok (.aload_n 0, 1) := d_by (d_at odX11_asNear ofX11_asNear 27) rfl
theorem dX11_asNear_28 : decode cX11_asNear 28 = .ok (.aload_n 0, 1) := d_by (d_at odX11_asNear ofX11_asNear 28) rfl
theorem dX11_asNear_29 : decode cX11_asNear 29 = .ok (.getfield 51, 3) := d_by (d_at odX11_asNear ofX11_asNear 29) rfl
theorem dX11_asNear_32 : decode cX11_asNear 32 = .ok (.getfield 271, 3) := d_by (d_at odX11_asNear ofX11_asNear 32) rfl
theorem dX11_asNear_35 : decode cX11_asNear 35 = .ok (.invokevirtual 112, 3) := d_by (d_at odX11_asNear ofX11_asNear 35) rfl
theorem dX11_asNear_38 : decode cX11_asNear 38 = .ok (.ireturn, 1) := d_by (d_at odX11_asNear ofX11_asNear 38) rfl
set_option maxRecDepth 100000 in
def bX11_heardIn : List Nat := [42, 27, 182, 0, 147, 154, 0, 9, 42, 4, 182, 0, 98, 172, 28, 16, 99, 184, 0, 227, 154, 0, 9, 42, 5, 182, 0, 98, 172, 42, 42, 27, 42, 180, 0, 42, 180, 0, 180, 28, 96, 182, 0, 201, 182, 0, 112, 172]
set_option maxRecDepth 100000 in
theorem bbX11_heardIn : cX11_heardIn.data.toList.map UInt8.toNat = bX11_heardIn := by decide +kernel
set_option maxRecDepth 100000 in
def tX11_heardIn : Lean.RArray dLf := .branch 24 (.branch 10 (.branch 5 (.branch 1 (.leaf (0, .aload_n 0, 1)) (.branch 2 (.leaf (1, .iload_n 1, 1)) (.leaf (2, .invokevirtual 147, 3)))) (.branch 8 (.leaf (5, .ifCond .ne 9, 3)) (.branch 9 (.leaf (8, .aload_n 0, 1)) (.leaf (9, .iconst 1, 1))))) (.branch 15 (.branch 13 (.leaf (10, .invokevirtual 98, 3)) (.branch 14 (.leaf (13, .ireturn, 1)) (.leaf (14, .iload_n 2, 1)))) (.branch 20 (.branch 17 (.leaf (15, .bipush 99, 2)) (.leaf (17, .invokestatic 227, 3))) (.branch 23 (.leaf (20, .ifCond .ne 9, 3)) (.leaf (23, .aload_n 0, 1)))))) (.branch 33 (.branch 29 (.branch 25 (.leaf (24, .iconst 2, 1)) (.branch 28 (.leaf (25, .invokevirtual 98, 3)) (.leaf (28, .ireturn, 1)))) (.branch 31 (.branch 30 (.leaf (29, .aload_n 0, 1)) (.leaf (30, .aload_n 0, 1))) (.branch 32 (.leaf (31, .iload_n 1, 1)) (.leaf (32, .aload_n 0, 1))))) (.branch 40 (.branch 36 (.leaf (33, .getfield 42, 3)) (.branch 39 (.leaf (36, .getfield 180, 3)) (.leaf (39, .iload_n 2, 1)))) (.branch 44 (.branch 41 (.leaf (40, .iadd, 1)) (.leaf (41, .invokevirtual 201, 3))) (.branch 47 (.leaf (44, .invokevirtual 112, 3)) (.leaf (47, .ireturn, 1))))))
noncomputable def oX11_heardIn : List dLf := dFl tX11_heardIn
theorem ofX11_heardIn : dFl tX11_heardIn = oX11_heardIn := rfl
set_option maxRecDepth 100000 in
theorem odX11_heardIn : ∀ q ∈ oX11_heardIn, decode cX11_heardIn q.1 = .ok (q.2.1, q.2.2) := q_go qT_ok bbX11_heardIn oX11_heardIn 0 (by decide +kernel)
theorem dX11_heardIn_0 : decode cX11_heardIn 0 = .ok (.aload_n 0, 1) := d_by (d_at odX11_heardIn ofX11_heardIn 0) rfl
theorem dX11_heardIn_1 : decode cX11_heardIn 1 = .ok (.iload_n 1, 1) := d_by (d_at odX11_heardIn ofX11_heardIn 1) rfl
theorem dX11_heardIn_2 : decode cX11_heardIn 2 = .ok (.invokevirtual 147, 3) := d_by (d_at odX11_heardIn ofX11_heardIn 2) rfl
theorem dX11_heardIn_5 : decode cX11_heardIn 5 = .ok (.ifCond .ne 9, 3) := d_by (d_at odX11_heardIn ofX11_heardIn 5) rfl
theorem dX11_heardIn_8 : decode cX11_heardIn 8 = .ok (.aload_n 0, 1) := d_by (d_at odX11_heardIn ofX11_heardIn 8) rfl
theorem dX11_heardIn_9 : decode cX11_heardIn 9 = .ok (.iconst 1, 1) := d_by (d_at odX11_heardIn ofX11_heardIn 9) rfl
theorem dX11_heardIn_10 : decode cX11_heardIn 10 = .ok (.invokevirtual 98, 3) := d_by (d_at odX11_heardIn ofX11_heardIn 10) rfl
theorem dX11_heardIn_13 : decode cX11_heardIn 13 = .ok (.ireturn, 1) := d_by (d_at odX11_heardIn ofX11_heardIn 13) rfl
theorem dX11_heardIn_14 : decode cX11_heardIn 14 = .ok (.iload_n 2, 1) := d_by (d_at odX11_heardIn ofX11_heardIn 14) rfl
theorem dX11_heardIn_15 : decode cX11_heardIn 15 = .ok (.bipush 99, 2) := d_by (d_at odX11_heardIn ofX11_heardIn 15) rfl
theorem dX11_heardIn_17 : decode cX11_heardIn 17 = .ok (.invokestatic 227, 3) := d_by (d_at odX11_heardIn ofX11_heardIn 17) rfl
theorem dX11_heardIn_20 : decode cX11_heardIn 20 = .ok (.ifCond .ne 9, 3) := d_by (d_at odX11_heardIn ofX11_heardIn 20) rfl
theorem dX11_heardIn_23 : decode cX11_heardIn 23 = .ok (.aload_n 0, 1) := d_by (d_at odX11_heardIn ofX11_heardIn 23) rfl
theorem dX11_heardIn_24 : decode cX11_heardIn 24 = .ok (.iconst 2, 1) := d_by (d_at odX11_heardIn ofX11_heardIn 24) rfl
theorem dX11_heardIn_25 : decode cX11_heardIn 25 = .ok (.invokevirtual 98, 3) := d_by (d_at odX11_heardIn ofX11_heardIn 25) rfl
theorem dX11_heardIn_28 : decode cX11_heardIn 28 = .ok (.ireturn, 1) := d_by (d_at odX11_heardIn ofX11_heardIn 28) rfl
theorem dX11_heardIn_29 : decode cX11_heardIn 29 = .ok (.aload_n 0, 1) := d_by (d_at odX11_heardIn ofX11_heardIn 29) rfl
theorem dX11_heardIn_30 : decode cX11_heardIn 30 = .ok (.aload_n 0, 1) := d_by (d_at odX11_heardIn ofX11_heardIn 30) rfl
theorem dX11_heardIn_31 : decode cX11_heardIn 31 = .ok (.iload_n 1, 1) := d_by (d_at odX11_heardIn ofX11_heardIn 31) rfl
theorem dX11_heardIn_32 : decode cX11_heardIn 32 = .ok (.aload_n 0, 1) := d_by (d_at odX11_heardIn ofX11_heardIn 32) rfl
theorem dX11_heardIn_33 : decode cX11_heardIn 33 = .ok (.getfield 42, 3) := d_by (d_at odX11_heardIn ofX11_heardIn 33) rfl
theorem dX11_heardIn_36 : decode cX11_heardIn 36 = .ok (.getfield 180, 3) := d_by (d_at odX11_heardIn ofX11_heardIn 36) rfl
theorem dX11_heardIn_39 : decode cX11_heardIn 39 = .ok (.iload_n 2, 1) := d_by (d_at odX11_heardIn ofX11_heardIn 39) rfl
theorem dX11_heardIn_40 : decode cX11_heardIn 40 = .ok (.iadd, 1) := d_by (d_at odX11_heardIn ofX11_heardIn 40) rfl
theorem dX11_heardIn_41 : decode cX11_heardIn 41 = .ok (.invokevirtual 201, 3) := d_by (d_at odX11_heardIn ofX11_heardIn 41) rfl
theorem dX11_heardIn_44 : decode cX11_heardIn 44 = .ok (.invokevirtual 112, 3) := d_by (d_at odX11_heardIn ofX11_heardIn 44) rfl
theorem dX11_heardIn_47 : decode cX11_heardIn 47 = .ok (.ireturn, 1) := d_by (d_at odX11_heardIn ofX11_heardIn 47) rfl
set_option maxRecDepth 100000 in
def bX11_strange : List Nat := [42, 27, 182, 0, 174, 154, 0, 9, 42, 4, 182, 0, 98, 172, 3, 61, 28, 16, 99, 163, 0, 53, 42, 180, 0, 51, 42, 180, 0, 23, 180, 1, 18, 27, 46, 42, 180, 0, 23, 180, 0, 177, 27, 46, 42, 180, 0, 42, 180, 0, 180, 28, 96, 182, 1, 21, 27, 159, 0, 9, 42, 28, 182, 0, 112, 172, 132, 2, 1, 167, 255, 203, 42, 16, 254, 182, 0, 112, 172]
set_option maxRecDepth 100000 in
theorem bbX11_strange : cX11_strange.data.toList.map UInt8.toNat = bX11_strange := by decide +kernel
set_option maxRecDepth 100000 in
def tX11_strange : Lean.RArray dLf := .branch 36 (.branch 16 (.branch 9 (.branch 2 (.branch 1 (.leaf (0, .aload_n 0, 1)) (.leaf (1, .iload_n 1, 1))) (.branch 5 (.leaf (2, .invokevirtual 174, 3)) (.branch 8 (.leaf (5, .ifCond .ne 9, 3)) (.leaf (8, .aload_n 0, 1))))) (.branch 13 (.branch 10 (.leaf (9, .iconst 1, 1)) (.leaf (10, .invokevirtual 98, 3))) (.branch 14 (.leaf (13, .ireturn, 1)) (.branch 15 (.leaf (14, .iconst 0, 1)) (.leaf (15, .istore_n 2, 1)))))) (.branch 26 (.branch 19 (.branch 17 (.leaf (16, .iload_n 2, 1)) (.leaf (17, .bipush 99, 2))) (.branch 22 (.leaf (19, .if_icmp .gt 53, 3)) (.branch 23 (.leaf (22, .aload_n 0, 1)) (.leaf (23, .getfield 51, 3))))) (.branch 33 (.branch 27 (.leaf (26, .aload_n 0, 1)) (.branch 30 (.leaf (27, .getfield 23, 3)) (.leaf (30, .getfield 274, 3)))) (.branch 34 (.leaf (33, .iload_n 1, 1)) (.branch 35 (.leaf (34, .iaload, 1)) (.leaf (35, .aload_n 0, 1))))))) (.branch 57 (.branch 45 (.branch 42 (.branch 39 (.leaf (36, .getfield 23, 3)) (.leaf (39, .getfield 177, 3))) (.branch 43 (.leaf (42, .iload_n 1, 1)) (.branch 44 (.leaf (43, .iaload, 1)) (.leaf (44, .aload_n 0, 1))))) (.branch 52 (.branch 48 (.leaf (45, .getfield 42, 3)) (.branch 51 (.leaf (48, .getfield 180, 3)) (.leaf (51, .iload_n 2, 1)))) (.branch 53 (.leaf (52, .iadd, 1)) (.branch 56 (.leaf (53, .invokevirtual 277, 3)) (.leaf (56, .iload_n 1, 1)))))) (.branch 66 (.branch 61 (.branch 60 (.leaf (57, .if_icmp .eq 9, 3)) (.leaf (60, .aload_n 0, 1))) (.branch 62 (.leaf (61, .iload_n 2, 1)) (.branch 65 (.leaf (62, .invokevirtual 112, 3)) (.leaf (65, .ireturn, 1))))) (.branch 73 (.branch 69 (.leaf (66, .iinc 2 1, 3)) (.branch 72 (.leaf (69, .goto (-53), 3)) (.leaf (72, .aload_n 0, 1)))) (.branch 75 (.leaf (73, .bipush (-2), 2)) (.branch 78 (.leaf (75, .invokevirtual 112, 3)) (.leaf (78, .ireturn, 1)))))))
noncomputable def oX11_strange : List dLf := dFl tX11_strange
theorem ofX11_strange : dFl tX11_strange = oX11_strange := rfl
set_option maxRecDepth 100000 in
theorem odX11_strange : ∀ q ∈ oX11_strange, decode cX11_strange q.1 = .ok (q.2.1, q.2.2) := q_go qT_ok bbX11_strange oX11_strange 0 (by decide +kernel)
set_option maxRecDepth 100000 in
def bX11_arrival : List Nat := [42, 27, 182, 0, 121, 153, 0, 19, 42, 28, 182, 0, 174, 153, 0, 11, 42, 29, 182, 0, 174, 154, 0, 9, 42, 4, 182, 0, 98, 172, 21, 4, 17, 39, 15, 184, 0, 227, 154, 0, 9, 42, 5, 182, 0, 98, 172, 42, 42, 180, 0, 60, 42, 180, 0, 23, 180, 0, 125, 27, 50, 180, 0, 129, 28, 29, 21, 4, 182, 1, 24, 182, 0, 112, 172]
set_option maxRecDepth 100000 in
theorem bbX11_arrival : cX11_arrival.data.toList.map UInt8.toNat = bX11_arrival := by decide +kernel
set_option maxRecDepth 100000 in
def tX11_arrival : Lean.RArray dLf := .branch 38 (.branch 17 (.branch 8 (.branch 2 (.branch 1 (.leaf (0, .aload_n 0, 1)) (.leaf (1, .iload_n 1, 1))) (.branch 5 (.leaf (2, .invokevirtual 121, 3)) (.leaf (5, .ifCond .eq 19, 3)))) (.branch 10 (.branch 9 (.leaf (8, .aload_n 0, 1)) (.leaf (9, .iload_n 2, 1))) (.branch 13 (.leaf (10, .invokevirtual 174, 3)) (.branch 16 (.leaf (13, .ifCond .eq 11, 3)) (.leaf (16, .aload_n 0, 1)))))) (.branch 26 (.branch 21 (.branch 18 (.leaf (17, .iload_n 3, 1)) (.leaf (18, .invokevirtual 174, 3))) (.branch 24 (.leaf (21, .ifCond .ne 9, 3)) (.branch 25 (.leaf (24, .aload_n 0, 1)) (.leaf (25, .iconst 1, 1))))) (.branch 30 (.branch 29 (.leaf (26, .invokevirtual 98, 3)) (.leaf (29, .ireturn, 1))) (.branch 32 (.leaf (30, .iload 4, 2)) (.branch 35 (.leaf (32, .sipush 9999, 3)) (.leaf (35, .invokestatic 227, 3))))))) (.branch 56 (.branch 47 (.branch 42 (.branch 41 (.leaf (38, .ifCond .ne 9, 3)) (.leaf (41, .aload_n 0, 1))) (.branch 43 (.leaf (42, .iconst 2, 1)) (.branch 46 (.leaf (43, .invokevirtual 98, 3)) (.leaf (46, .ireturn, 1))))) (.branch 49 (.branch 48 (.leaf (47, .aload_n 0, 1)) (.leaf (48, .aload_n 0, 1))) (.branch 52 (.leaf (49, .getfield 60, 3)) (.branch 53 (.leaf (52, .aload_n 0, 1)) (.leaf (53, .getfield 23, 3)))))) (.branch 65 (.branch 60 (.branch 59 (.leaf (56, .getfield 125, 3)) (.leaf (59, .iload_n 1, 1))) (.branch 61 (.leaf (60, .aaload, 1)) (.branch 64 (.leaf (61, .getfield 129, 3)) (.leaf (64, .iload_n 2, 1))))) (.branch 68 (.branch 66 (.leaf (65, .iload_n 3, 1)) (.leaf (66, .iload 4, 2))) (.branch 71 (.leaf (68, .invokevirtual 280, 3)) (.branch 74 (.leaf (71, .invokevirtual 112, 3)) (.leaf (74, .ireturn, 1)))))))
noncomputable def oX11_arrival : List dLf := dFl tX11_arrival
theorem ofX11_arrival : dFl tX11_arrival = oX11_arrival := rfl
set_option maxRecDepth 100000 in
theorem odX11_arrival : ∀ q ∈ oX11_arrival, decode cX11_arrival q.1 = .ok (q.2.1, q.2.2) := q_go qT_ok bbX11_arrival oX11_arrival 0 (by decide +kernel)
set_option maxRecDepth 100000 in
def bX11_brings : List Nat := [42, 27, 182, 0, 121, 153, 0, 27, 42, 28, 182, 0, 147, 153, 0, 19, 42, 42, 180, 0, 60, 27, 28, 182, 1, 27, 182, 0, 112, 167, 0, 8, 42, 4, 182, 0, 98, 172]
set_option maxRecDepth 100000 in
theorem bbX11_brings : cX11_brings.data.toList.map UInt8.toNat = bX11_brings := by decide +kernel
set_option maxRecDepth 100000 in
def tX11_brings : Lean.RArray dLf := .branch 18 (.branch 9 (.branch 2 (.branch 1 (.leaf (0, .aload_n 0, 1)) (.leaf (1, .iload_n 1, 1))) (.branch 5 (.leaf (2, .invokevirtual 121, 3)) (.branch 8 (.leaf (5, .ifCond .eq 27, 3)) (.leaf (8, .aload_n 0, 1))))) (.branch 13 (.branch 10 (.leaf (9, .iload_n 2, 1)) (.leaf (10, .invokevirtual 147, 3))) (.branch 16 (.leaf (13, .ifCond .eq 19, 3)) (.branch 17 (.leaf (16, .aload_n 0, 1)) (.leaf (17, .aload_n 0, 1)))))) (.branch 29 (.branch 22 (.branch 21 (.leaf (18, .getfield 60, 3)) (.leaf (21, .iload_n 1, 1))) (.branch 23 (.leaf (22, .iload_n 2, 1)) (.branch 26 (.leaf (23, .invokevirtual 283, 3)) (.leaf (26, .invokevirtual 112, 3))))) (.branch 33 (.branch 32 (.leaf (29, .goto 8, 3)) (.leaf (32, .aload_n 0, 1))) (.branch 34 (.leaf (33, .iconst 1, 1)) (.branch 37 (.leaf (34, .invokevirtual 98, 3)) (.leaf (37, .ireturn, 1))))))
noncomputable def oX11_brings : List dLf := dFl tX11_brings
theorem ofX11_brings : dFl tX11_brings = oX11_brings := rfl
set_option maxRecDepth 100000 in
theorem odX11_brings : ∀ q ∈ oX11_brings, decode cX11_brings q.1 = .ok (q.2.1, q.2.2) := q_go qT_ok bbX11_brings oX11_brings 0 (by decide +kernel)
set_option maxRecDepth 100000 in
def bX11_soonest : List Nat := [42, 27, 182, 0, 147, 153, 0, 18, 42, 42, 180, 0, 60, 27, 182, 1, 30, 182, 0, 112, 167, 0, 8, 42, 4, 182, 0, 98, 172]
set_option maxRecDepth 100000 in
theorem bbX11_soonest : cX11_soonest.data.toList.map UInt8.toNat = bX11_soonest := by decide +kernel
set_option maxRecDepth 100000 in
def tX11_soonest : Lean.RArray dLf := .branch 13 (.branch 5 (.branch 1 (.leaf (0, .aload_n 0, 1)) (.branch 2 (.leaf (1, .iload_n 1, 1)) (.leaf (2, .invokevirtual 147, 3)))) (.branch 9 (.branch 8 (.leaf (5, .ifCond .eq 18, 3)) (.leaf (8, .aload_n 0, 1))) (.branch 10 (.leaf (9, .aload_n 0, 1)) (.leaf (10, .getfield 60, 3))))) (.branch 23 (.branch 17 (.branch 14 (.leaf (13, .iload_n 1, 1)) (.leaf (14, .invokevirtual 286, 3))) (.branch 20 (.leaf (17, .invokevirtual 112, 3)) (.leaf (20, .goto 8, 3)))) (.branch 25 (.branch 24 (.leaf (23, .aload_n 0, 1)) (.leaf (24, .iconst 1, 1))) (.branch 28 (.leaf (25, .invokevirtual 98, 3)) (.leaf (28, .ireturn, 1)))))
noncomputable def oX11_soonest : List dLf := dFl tX11_soonest
theorem ofX11_soonest : dFl tX11_soonest = oX11_soonest := rfl
set_option maxRecDepth 100000 in
theorem odX11_soonest : ∀ q ∈ oX11_soonest, decode cX11_soonest q.1 = .ok (q.2.1, q.2.2) := q_go qT_ok bbX11_soonest oX11_soonest 0 (by decide +kernel)
set_option maxRecDepth 100000 in
def bX11_surest : List Nat := [42, 27, 182, 0, 147, 153, 0, 20, 42, 42, 180, 0, 60, 27, 16, 254, 182, 1, 33, 182, 0, 112, 167, 0, 8, 42, 4, 182, 0, 98, 172]
set_option maxRecDepth 100000 in
theorem bbX11_surest : cX11_surest.data.toList.map UInt8.toNat = bX11_surest := by decide +kernel
set_option maxRecDepth 100000 in
def tX11_surest : Lean.RArray dLf := .branch 14 (.branch 8 (.branch 2 (.branch 1 (.leaf (0, .aload_n 0, 1)) (.leaf (1, .iload_n 1, 1))) (.branch 5 (.leaf (2, .invokevirtual 147, 3)) (.leaf (5, .ifCond .eq 20, 3)))) (.branch 10 (.branch 9 (.leaf (8, .aload_n 0, 1)) (.leaf (9, .aload_n 0, 1))) (.branch 13 (.leaf (10, .getfield 60, 3)) (.leaf (13, .iload_n 1, 1))))) (.branch 25 (.branch 19 (.branch 16 (.leaf (14, .bipush (-2), 2)) (.leaf (16, .invokevirtual 289, 3))) (.branch 22 (.leaf (19, .invokevirtual 112, 3)) (.leaf (22, .goto 8, 3)))) (.branch 27 (.branch 26 (.leaf (25, .aload_n 0, 1)) (.leaf (26, .iconst 1, 1))) (.branch 30 (.leaf (27, .invokevirtual 98, 3)) (.leaf (30, .ireturn, 1)))))
noncomputable def oX11_surest : List dLf := dFl tX11_surest
theorem ofX11_surest : dFl tX11_surest = oX11_surest := rfl
set_option maxRecDepth 100000 in
theorem odX11_surest : ∀ q ∈ oX11_surest, decode cX11_surest q.1 = .ok (q.2.1, q.2.2) := q_go qT_ok bbX11_surest oX11_surest 0 (by decide +kernel)
set_option maxRecDepth 100000 in
def bX11_by : List Nat := [42, 27, 182, 0, 147, 154, 0, 9, 42, 4, 182, 0, 98, 172, 28, 18, 226, 184, 0, 227, 154, 0, 9, 42, 5, 182, 0, 98, 172, 42, 42, 180, 0, 60, 27, 28, 182, 1, 36, 182, 0, 112, 172]
set_option maxRecDepth 100000 in
theorem bbX11_by : cX11_by.data.toList.map UInt8.toNat = bX11_by := by decide +kernel
set_option maxRecDepth 100000 in
def tX11_by : Lean.RArray dLf := .branch 23 (.branch 10 (.branch 5 (.branch 1 (.leaf (0, .aload_n 0, 1)) (.branch 2 (.leaf (1, .iload_n 1, 1)) (.leaf (2, .invokevirtual 147, 3)))) (.branch 8 (.leaf (5, .ifCond .ne 9, 3)) (.branch 9 (.leaf (8, .aload_n 0, 1)) (.leaf (9, .iconst 1, 1))))) (.branch 15 (.branch 13 (.leaf (10, .invokevirtual 98, 3)) (.branch 14 (.leaf (13, .ireturn, 1)) (.leaf (14, .iload_n 2, 1)))) (.branch 17 (.leaf (15, .ldc 226, 2)) (.branch 20 (.leaf (17, .invokestatic 227, 3)) (.leaf (20, .ifCond .ne 9, 3)))))) (.branch 31 (.branch 28 (.branch 24 (.leaf (23, .aload_n 0, 1)) (.branch 25 (.leaf (24, .iconst 2, 1)) (.leaf (25, .invokevirtual 98, 3)))) (.branch 29 (.leaf (28, .ireturn, 1)) (.branch 30 (.leaf (29, .aload_n 0, 1)) (.leaf (30, .aload_n 0, 1))))) (.branch 36 (.branch 34 (.leaf (31, .getfield 60, 3)) (.branch 35 (.leaf (34, .iload_n 1, 1)) (.leaf (35, .iload_n 2, 1)))) (.branch 39 (.leaf (36, .invokevirtual 292, 3)) (.branch 42 (.leaf (39, .invokevirtual 112, 3)) (.leaf (42, .ireturn, 1))))))
noncomputable def oX11_by : List dLf := dFl tX11_by
theorem ofX11_by : dFl tX11_by = oX11_by := rfl
set_option maxRecDepth 100000 in
theorem odX11_by : ∀ q ∈ oX11_by, decode cX11_by q.1 = .ok (q.2.1, q.2.2) := q_go qT_ok bbX11_by oX11_by 0 (by decide +kernel)
set_option maxRecDepth 100000 in
def bX11_registered : List Nat := [42, 27, 182, 0, 147, 154, 0, 10, 42, 4, 182, 0, 98, 133, 173, 42, 180, 0, 60, 27, 16, 254, 182, 1, 33, 62, 29, 16, 254, 160, 0, 11, 42, 16, 6, 182, 0, 98, 133, 173, 42, 180, 0, 23, 180, 0, 125, 29, 50, 180, 0, 144, 54, 4, 16, 100, 54, 5, 42, 180, 0, 60, 27, 29, 182, 1, 33, 54, 6, 21, 6, 16, 254, 159, 0, 28, 21, 4, 42, 180, 0, 23, 180, 0, 125, 21, 6, 50, 180, 0, 144, 104, 54, 4, 21, 5, 16, 100, 104, 54, 5, 21, 5, 21, 5, 21, 4, 100, 184, 1, 39, 54, 7, 42, 28, 153, 0, 8, 21, 5, 167, 0, 8, 21, 5, 21, 4, 100, 21, 7, 108, 182, 0, 112, 133, 173]
set_option maxRecDepth 100000 in
theorem bbX11_registered : cX11_registered.data.toList.map UInt8.toNat = bX11_registered := by decide +kernel
set_option maxRecDepth 100000 in
def tX11_registered : Lean.RArray dLf := .branch 64 (.branch 32 (.branch 15 (.branch 8 (.branch 2 (.branch 1 (.leaf (0, .aload_n 0, 1)) (.leaf (1, .iload_n 1, 1))) (.branch 5 (.leaf (2, .invokevirtual 147, 3)) (.leaf (5, .ifCond .ne 10, 3)))) (.branch 10 (.branch 9 (.leaf (8, .aload_n 0, 1)) (.leaf (9, .iconst 1, 1))) (.branch 13 (.leaf (10, .invokevirtual 98, 3)) (.branch 14 (.leaf (13, .i2l, 1)) (.leaf (14, .lreturn, 1)))))) (.branch 22 (.branch 19 (.branch 16 (.leaf (15, .aload_n 0, 1)) (.leaf (16, .getfield 60, 3))) (.branch 20 (.leaf (19, .iload_n 1, 1)) (.leaf (20, .bipush (-2), 2)))) (.branch 26 (.branch 25 (.leaf (22, .invokevirtual 289, 3)) (.leaf (25, .istore_n 3, 1))) (.branch 27 (.leaf (26, .iload_n 3, 1)) (.branch 29 (.leaf (27, .bipush (-2), 2)) (.leaf (29, .if_icmp .ne 11, 3))))))) (.branch 48 (.branch 39 (.branch 35 (.branch 33 (.leaf (32, .aload_n 0, 1)) (.leaf (33, .bipush 6, 2))) (.branch 38 (.leaf (35, .invokevirtual 98, 3)) (.leaf (38, .i2l, 1)))) (.branch 41 (.branch 40 (.leaf (39, .lreturn, 1)) (.leaf (40, .aload_n 0, 1))) (.branch 44 (.leaf (41, .getfield 23, 3)) (.branch 47 (.leaf (44, .getfield 125, 3)) (.leaf (47, .iload_n 3, 1)))))) (.branch 56 (.branch 52 (.branch 49 (.leaf (48, .aaload, 1)) (.leaf (49, .getfield 144, 3))) (.branch 54 (.leaf (52, .istore 4, 2)) (.leaf (54, .bipush 100, 2)))) (.branch 59 (.branch 58 (.leaf (56, .istore 5, 2)) (.leaf (58, .aload_n 0, 1))) (.branch 62 (.leaf (59, .getfield 60, 3)) (.branch 63 (.leaf (62, .iload_n 1, 1)) (.leaf (63, .iload_n 3, 1)))))))) (.branch 101 (.branch 85 (.branch 73 (.branch 69 (.branch 67 (.leaf (64, .invokevirtual 289, 3)) (.leaf (67, .istore 6, 2))) (.branch 71 (.leaf (69, .iload 6, 2)) (.leaf (71, .bipush (-2), 2)))) (.branch 78 (.branch 76 (.leaf (73, .if_icmp .eq 28, 3)) (.leaf (76, .iload 4, 2))) (.branch 79 (.leaf (78, .aload_n 0, 1)) (.branch 82 (.leaf (79, .getfield 23, 3)) (.leaf (82, .getfield 125, 3)))))) (.branch 92 (.branch 88 (.branch 87 (.leaf (85, .iload 6, 2)) (.leaf (87, .aaload, 1))) (.branch 91 (.leaf (88, .getfield 144, 3)) (.leaf (91, .imul, 1)))) (.branch 96 (.branch 94 (.leaf (92, .istore 4, 2)) (.leaf (94, .iload 5, 2))) (.branch 98 (.leaf (96, .bipush 100, 2)) (.branch 99 (.leaf (98, .imul, 1)) (.leaf (99, .istore 5, 2))))))) (.branch 118 (.branch 108 (.branch 105 (.branch 103 (.leaf (101, .iload 5, 2)) (.leaf (103, .iload 5, 2))) (.branch 107 (.leaf (105, .iload 4, 2)) (.leaf (107, .isub, 1)))) (.branch 113 (.branch 111 (.leaf (108, .invokestatic 295, 3)) (.leaf (111, .istore 7, 2))) (.branch 114 (.leaf (113, .aload_n 0, 1)) (.branch 115 (.leaf (114, .iload_n 2, 1)) (.leaf (115, .ifCond .eq 8, 3)))))) (.branch 128 (.branch 123 (.branch 120 (.leaf (118, .iload 5, 2)) (.leaf (120, .goto 8, 3))) (.branch 125 (.leaf (123, .iload 5, 2)) (.branch 127 (.leaf (125, .iload 4, 2)) (.leaf (127, .isub, 1))))) (.branch 131 (.branch 130 (.leaf (128, .iload 7, 2)) (.leaf (130, .idiv, 1))) (.branch 134 (.leaf (131, .invokevirtual 112, 3)) (.branch 135 (.leaf (134, .i2l, 1)) (.leaf (135, .lreturn, 1))))))))
noncomputable def oX11_registered : List dLf := dFl tX11_registered
theorem ofX11_registered : dFl tX11_registered = oX11_registered := rfl
set_option maxRecDepth 100000 in
theorem odX11_registered : ∀ q ∈ oX11_registered, decode cX11_registered q.1 = .ok (q.2.1, q.2.2) := q_go qT_ok bbX11_registered oX11_registered 0 (by decide +kernel)
set_option maxRecDepth 100000 in
def bX11_match : List Nat := [42, 182, 0, 222, 154, 0, 9, 42, 4, 182, 0, 98, 172, 42, 182, 1, 42, 42, 42, 180, 0, 74, 180, 1, 45, 182, 0, 112, 172]
set_option maxRecDepth 100000 in
theorem bbX11_match : cX11_match.data.toList.map UInt8.toNat = bX11_match := by decide +kernel
set_option maxRecDepth 100000 in
def tX11_match : Lean.RArray dLf := .branch 13 (.branch 7 (.branch 1 (.leaf (0, .aload_n 0, 1)) (.branch 4 (.leaf (1, .invokevirtual 222, 3)) (.leaf (4, .ifCond .ne 9, 3)))) (.branch 9 (.branch 8 (.leaf (7, .aload_n 0, 1)) (.leaf (8, .iconst 1, 1))) (.branch 12 (.leaf (9, .invokevirtual 98, 3)) (.leaf (12, .ireturn, 1))))) (.branch 19 (.branch 17 (.branch 14 (.leaf (13, .aload_n 0, 1)) (.leaf (14, .invokevirtual 298, 3))) (.branch 18 (.leaf (17, .aload_n 0, 1)) (.leaf (18, .aload_n 0, 1)))) (.branch 25 (.branch 22 (.leaf (19, .getfield 74, 3)) (.leaf (22, .getfield 301, 3))) (.branch 28 (.leaf (25, .invokevirtual 112, 3)) (.leaf (28, .ireturn, 1)))))
noncomputable def oX11_match : List dLf := dFl tX11_match
theorem ofX11_match : dFl tX11_match = oX11_match := rfl
set_option maxRecDepth 100000 in
theorem odX11_match : ∀ q ∈ oX11_match, decode cX11_match q.1 = .ok (q.2.1, q.2.2) := q_go qT_ok bbX11_match oX11_match 0 (by decide +kernel)
set_option maxRecDepth 100000 in
def bX11_matchDays : List Nat := [42, 182, 0, 222, 154, 0, 9, 42, 4, 182, 0, 98, 172, 42, 182, 1, 42, 42, 42, 180, 0, 74, 180, 1, 48, 182, 0, 112, 172]
set_option maxRecDepth 100000 in
theorem bbX11_matchDays : cX11_matchDays.data.toList.map UInt8.toNat = bX11_matchDays := by decide +kernel
set_option maxRecDepth 100000 in
def tX11_matchDays : Lean.RArray dLf := .branch 13 (.branch 7 (.branch 1 (.leaf (0, .aload_n 0, 1)) (.branch 4 (.leaf (1, .invokevirtual 222, 3)) (.leaf (4, .ifCond .ne 9, 3)))) (.branch 9 (.branch 8 (.leaf (7, .aload_n 0, 1)) (.leaf (8, .iconst 1, 1))) (.branch 12 (.leaf (9, .invokevirtual 98, 3)) (.leaf (12, .ireturn, 1))))) (.branch 19 (.branch 17 (.branch 14 (.leaf (13, .aload_n 0, 1)) (.leaf (14, .invokevirtual 298, 3))) (.branch 18 (.leaf (17, .aload_n 0, 1)) (.leaf (18, .aload_n 0, 1)))) (.branch 25 (.branch 22 (.leaf (19, .getfield 74, 3)) (.leaf (22, .getfield 304, 3))) (.branch 28 (.leaf (25, .invokevirtual 112, 3)) (.leaf (28, .ireturn, 1)))))
noncomputable def oX11_matchDays : List dLf := dFl tX11_matchDays
theorem ofX11_matchDays : dFl tX11_matchDays = oX11_matchDays := rfl
set_option maxRecDepth 100000 in
theorem odX11_matchDays : ∀ q ∈ oX11_matchDays, decode cX11_matchDays q.1 = .ok (q.2.1, q.2.2) := q_go qT_ok bbX11_matchDays oX11_matchDays 0 (by decide +kernel)
set_option maxRecDepth 100000 in
def bX11_matchOf : List Nat := [42, 27, 182, 0, 147, 154, 0, 9, 42, 4, 182, 0, 98, 172, 42, 182, 1, 42, 42, 42, 180, 0, 74, 180, 1, 51, 27, 46, 182, 0, 112, 172]
set_option maxRecDepth 100000 in
theorem bbX11_matchOf : cX11_matchOf.data.toList.map UInt8.toNat = bX11_matchOf := by decide +kernel
set_option maxRecDepth 100000 in
def tX11_matchOf : Lean.RArray dLf := .branch 15 (.branch 8 (.branch 2 (.branch 1 (.leaf (0, .aload_n 0, 1)) (.leaf (1, .iload_n 1, 1))) (.branch 5 (.leaf (2, .invokevirtual 147, 3)) (.leaf (5, .ifCond .ne 9, 3)))) (.branch 10 (.branch 9 (.leaf (8, .aload_n 0, 1)) (.leaf (9, .iconst 1, 1))) (.branch 13 (.leaf (10, .invokevirtual 98, 3)) (.branch 14 (.leaf (13, .ireturn, 1)) (.leaf (14, .aload_n 0, 1)))))) (.branch 23 (.branch 19 (.branch 18 (.leaf (15, .invokevirtual 298, 3)) (.leaf (18, .aload_n 0, 1))) (.branch 20 (.leaf (19, .aload_n 0, 1)) (.leaf (20, .getfield 74, 3)))) (.branch 27 (.branch 26 (.leaf (23, .getfield 307, 3)) (.leaf (26, .iload_n 1, 1))) (.branch 28 (.leaf (27, .iaload, 1)) (.branch 31 (.leaf (28, .invokevirtual 112, 3)) (.leaf (31, .ireturn, 1))))))
noncomputable def oX11_matchOf : List dLf := dFl tX11_matchOf
theorem ofX11_matchOf : dFl tX11_matchOf = oX11_matchOf := rfl
set_option maxRecDepth 100000 in
theorem odX11_matchOf : ∀ q ∈ oX11_matchOf, decode cX11_matchOf q.1 = .ok (q.2.1, q.2.2) := q_go qT_ok bbX11_matchOf oX11_matchOf 0 (by decide +kernel)
set_option maxRecDepth 100000 in
def bX11_meet : List Nat := [42, 27, 182, 0, 147, 153, 0, 39, 42, 29, 182, 0, 147, 153, 0, 31, 42, 28, 182, 0, 121, 153, 0, 23, 42, 21, 4, 182, 0, 121, 153, 0, 14, 27, 29, 159, 0, 9, 28, 21, 4, 160, 0, 9, 42, 4, 182, 0, 98, 172, 42, 42, 180, 0, 60, 27, 28, 29, 21, 4, 182, 1, 54, 182, 0, 112, 172]
set_option maxRecDepth 100000 in
theorem bbX11_meet : cX11_meet.data.toList.map UInt8.toNat = bX11_meet := by decide +kernel
set_option maxRecDepth 100000 in
def tX11_meet : Lean.RArray dLf := .branch 35 (.branch 17 (.branch 8 (.branch 2 (.branch 1 (.leaf (0, .aload_n 0, 1)) (.leaf (1, .iload_n 1, 1))) (.branch 5 (.leaf (2, .invokevirtual 147, 3)) (.leaf (5, .ifCond .eq 39, 3)))) (.branch 10 (.branch 9 (.leaf (8, .aload_n 0, 1)) (.leaf (9, .iload_n 3, 1))) (.branch 13 (.leaf (10, .invokevirtual 147, 3)) (.branch 16 (.leaf (13, .ifCond .eq 31, 3)) (.leaf (16, .aload_n 0, 1)))))) (.branch 25 (.branch 21 (.branch 18 (.leaf (17, .iload_n 2, 1)) (.leaf (18, .invokevirtual 121, 3))) (.branch 24 (.leaf (21, .ifCond .eq 23, 3)) (.leaf (24, .aload_n 0, 1)))) (.branch 30 (.branch 27 (.leaf (25, .iload 4, 2)) (.leaf (27, .invokevirtual 121, 3))) (.branch 33 (.leaf (30, .ifCond .eq 14, 3)) (.branch 34 (.leaf (33, .iload_n 1, 1)) (.leaf (34, .iload_n 3, 1))))))) (.branch 51 (.branch 44 (.branch 39 (.branch 38 (.leaf (35, .if_icmp .eq 9, 3)) (.leaf (38, .iload_n 2, 1))) (.branch 41 (.leaf (39, .iload 4, 2)) (.leaf (41, .if_icmp .ne 9, 3)))) (.branch 46 (.branch 45 (.leaf (44, .aload_n 0, 1)) (.leaf (45, .iconst 1, 1))) (.branch 49 (.leaf (46, .invokevirtual 98, 3)) (.branch 50 (.leaf (49, .ireturn, 1)) (.leaf (50, .aload_n 0, 1)))))) (.branch 57 (.branch 55 (.branch 52 (.leaf (51, .aload_n 0, 1)) (.leaf (52, .getfield 60, 3))) (.branch 56 (.leaf (55, .iload_n 1, 1)) (.leaf (56, .iload_n 2, 1)))) (.branch 60 (.branch 58 (.leaf (57, .iload_n 3, 1)) (.leaf (58, .iload 4, 2))) (.branch 63 (.leaf (60, .invokevirtual 310, 3)) (.branch 66 (.leaf (63, .invokevirtual 112, 3)) (.leaf (66, .ireturn, 1)))))))
noncomputable def oX11_meet : List dLf := dFl tX11_meet
theorem ofX11_meet : dFl tX11_meet = oX11_meet := rfl
set_option maxRecDepth 100000 in
theorem odX11_meet : ∀ q ∈ oX11_meet, decode cX11_meet q.1 = .ok (q.2.1, q.2.2) := q_go qT_ok bbX11_meet oX11_meet 0 (by decide +kernel)
set_option maxRecDepth 100000 in
def bX11_fits : List Nat := [42, 182, 0, 222, 153, 0, 17, 42, 42, 180, 0, 60, 182, 1, 57, 182, 0, 112, 167, 0, 8, 42, 4, 182, 0, 98, 172]
set_option maxRecDepth 100000 in
theorem bbX11_fits : cX11_fits.data.toList.map UInt8.toNat = bX11_fits := by decide +kernel
set_option maxRecDepth 100000 in
def tX11_fits : Lean.RArray dLf := .branch 12 (.branch 7 (.branch 1 (.leaf (0, .aload_n 0, 1)) (.branch 4 (.leaf (1, .invokevirtual 222, 3)) (.leaf (4, .ifCond .eq 17, 3)))) (.branch 8 (.leaf (7, .aload_n 0, 1)) (.branch 9 (.leaf (8, .aload_n 0, 1)) (.leaf (9, .getfield 60, 3))))) (.branch 21 (.branch 15 (.leaf (12, .invokevirtual 313, 3)) (.branch 18 (.leaf (15, .invokevirtual 112, 3)) (.leaf (18, .goto 8, 3)))) (.branch 23 (.branch 22 (.leaf (21, .aload_n 0, 1)) (.leaf (22, .iconst 1, 1))) (.branch 26 (.leaf (23, .invokevirtual 98, 3)) (.leaf (26, .ireturn, 1)))))
noncomputable def oX11_fits : List dLf := dFl tX11_fits
theorem ofX11_fits : dFl tX11_fits = oX11_fits := rfl
set_option maxRecDepth 100000 in
theorem odX11_fits : ∀ q ∈ oX11_fits, decode cX11_fits q.1 = .ok (q.2.1, q.2.2) := q_go qT_ok bbX11_fits oX11_fits 0 (by decide +kernel)
set_option maxRecDepth 100000 in
def bX11_reach : List Nat := [42, 27, 182, 0, 121, 154, 0, 9, 42, 4, 182, 0, 98, 172, 28, 18, 226, 184, 0, 227, 154, 0, 9, 42, 5, 182, 0, 98, 172, 42, 42, 180, 0, 60, 27, 28, 182, 1, 60, 182, 0, 112, 172]
set_option maxRecDepth 100000 in
theorem bbX11_reach : cX11_reach.data.toList.map UInt8.toNat = bX11_reach := by decide +kernel
set_option maxRecDepth 100000 in
def tX11_reach : Lean.RArray dLf := .branch 23 (.branch 10 (.branch 5 (.branch 1 (.leaf (0, .aload_n 0, 1)) (.branch 2 (.leaf (1, .iload_n 1, 1)) (.leaf (2, .invokevirtual 121, 3)))) (.branch 8 (.leaf (5, .ifCond .ne 9, 3)) (.branch 9 (.leaf (8, .aload_n 0, 1)) (.leaf (9, .iconst 1, 1))))) (.branch 15 (.branch 13 (.leaf (10, .invokevirtual 98, 3)) (.branch 14 (.leaf (13, .ireturn, 1)) (.leaf (14, .iload_n 2, 1)))) (.branch 17 (.leaf (15, .ldc 226, 2)) (.branch 20 (.leaf (17, .invokestatic 227, 3)) (.leaf (20, .ifCond .ne 9, 3)))))) (.branch 31 (.branch 28 (.branch 24 (.leaf (23, .aload_n 0, 1)) (.branch 25 (.leaf (24, .iconst 2, 1)) (.leaf (25, .invokevirtual 98, 3)))) (.branch 29 (.leaf (28, .ireturn, 1)) (.branch 30 (.leaf (29, .aload_n 0, 1)) (.leaf (30, .aload_n 0, 1))))) (.branch 36 (.branch 34 (.leaf (31, .getfield 60, 3)) (.branch 35 (.leaf (34, .iload_n 1, 1)) (.leaf (35, .iload_n 2, 1)))) (.branch 39 (.leaf (36, .invokevirtual 316, 3)) (.branch 42 (.leaf (39, .invokevirtual 112, 3)) (.leaf (42, .ireturn, 1))))))
noncomputable def oX11_reach : List dLf := dFl tX11_reach
theorem ofX11_reach : dFl tX11_reach = oX11_reach := rfl
set_option maxRecDepth 100000 in
theorem odX11_reach : ∀ q ∈ oX11_reach, decode cX11_reach q.1 = .ok (q.2.1, q.2.2) := q_go qT_ok bbX11_reach oX11_reach 0 (by decide +kernel)
set_option maxRecDepth 100000 in
def bX11_pier : List Nat := [42, 182, 0, 222, 154, 0, 9, 42, 4, 182, 0, 98, 172, 27, 18, 226, 184, 0, 227, 154, 0, 9, 42, 5, 182, 0, 98, 172, 42, 42, 180, 0, 60, 27, 182, 1, 63, 182, 0, 112, 172]
set_option maxRecDepth 100000 in
theorem bbX11_pier : cX11_pier.data.toList.map UInt8.toNat = bX11_pier := by decide +kernel
set_option maxRecDepth 100000 in
def tX11_pier : Lean.RArray dLf := .branch 22 (.branch 9 (.branch 4 (.branch 1 (.leaf (0, .aload_n 0, 1)) (.leaf (1, .invokevirtual 222, 3))) (.branch 7 (.leaf (4, .ifCond .ne 9, 3)) (.branch 8 (.leaf (7, .aload_n 0, 1)) (.leaf (8, .iconst 1, 1))))) (.branch 14 (.branch 12 (.leaf (9, .invokevirtual 98, 3)) (.branch 13 (.leaf (12, .ireturn, 1)) (.leaf (13, .iload_n 1, 1)))) (.branch 16 (.leaf (14, .ldc 226, 2)) (.branch 19 (.leaf (16, .invokestatic 227, 3)) (.leaf (19, .ifCond .ne 9, 3)))))) (.branch 29 (.branch 24 (.branch 23 (.leaf (22, .aload_n 0, 1)) (.leaf (23, .iconst 2, 1))) (.branch 27 (.leaf (24, .invokevirtual 98, 3)) (.branch 28 (.leaf (27, .ireturn, 1)) (.leaf (28, .aload_n 0, 1))))) (.branch 34 (.branch 30 (.leaf (29, .aload_n 0, 1)) (.branch 33 (.leaf (30, .getfield 60, 3)) (.leaf (33, .iload_n 1, 1)))) (.branch 37 (.leaf (34, .invokevirtual 319, 3)) (.branch 40 (.leaf (37, .invokevirtual 112, 3)) (.leaf (40, .ireturn, 1))))))
noncomputable def oX11_pier : List dLf := dFl tX11_pier
theorem ofX11_pier : dFl tX11_pier = oX11_pier := rfl
set_option maxRecDepth 100000 in
theorem odX11_pier : ∀ q ∈ oX11_pier, decode cX11_pier q.1 = .ok (q.2.1, q.2.2) := q_go qT_ok bbX11_pier oX11_pier 0 (by decide +kernel)
set_option maxRecDepth 100000 in
def bX11_watch : List Nat := [42, 27, 28, 182, 0, 204, 153, 0, 26, 42, 42, 180, 0, 67, 27, 28, 42, 180, 0, 42, 180, 1, 66, 182, 1, 69, 182, 0, 112, 167, 0, 8, 42, 4, 182, 0, 98, 172]
set_option maxRecDepth 100000 in
theorem bbX11_watch : cX11_watch.data.toList.map UInt8.toNat = bX11_watch := by decide +kernel
set_option maxRecDepth 100000 in
def tX11_watch : Lean.RArray dLf := .branch 16 (.branch 9 (.branch 2 (.branch 1 (.leaf (0, .aload_n 0, 1)) (.leaf (1, .iload_n 1, 1))) (.branch 3 (.leaf (2, .iload_n 2, 1)) (.branch 6 (.leaf (3, .invokevirtual 204, 3)) (.leaf (6, .ifCond .eq 26, 3))))) (.branch 11 (.branch 10 (.leaf (9, .aload_n 0, 1)) (.leaf (10, .aload_n 0, 1))) (.branch 14 (.leaf (11, .getfield 67, 3)) (.branch 15 (.leaf (14, .iload_n 1, 1)) (.leaf (15, .iload_n 2, 1)))))) (.branch 29 (.branch 20 (.branch 17 (.leaf (16, .aload_n 0, 1)) (.leaf (17, .getfield 42, 3))) (.branch 23 (.leaf (20, .getfield 322, 3)) (.branch 26 (.leaf (23, .invokevirtual 325, 3)) (.leaf (26, .invokevirtual 112, 3))))) (.branch 33 (.branch 32 (.leaf (29, .goto 8, 3)) (.leaf (32, .aload_n 0, 1))) (.branch 34 (.leaf (33, .iconst 1, 1)) (.branch 37 (.leaf (34, .invokevirtual 98, 3)) (.leaf (37, .ireturn, 1))))))
noncomputable def oX11_watch : List dLf := dFl tX11_watch
theorem ofX11_watch : dFl tX11_watch = oX11_watch := rfl
set_option maxRecDepth 100000 in
theorem odX11_watch : ∀ q ∈ oX11_watch, decode cX11_watch q.1 = .ok (q.2.1, q.2.2) := q_go qT_ok bbX11_watch oX11_watch 0 (by decide +kernel)
set_option maxRecDepth 100000 in
def bX11_round : List Nat := [42, 27, 182, 0, 174, 153, 0, 25, 42, 42, 180, 0, 67, 27, 42, 180, 0, 42, 180, 1, 66, 182, 1, 72, 182, 0, 112, 167, 0, 8, 42, 4, 182, 0, 98, 172]
set_option maxRecDepth 100000 in
theorem bbX11_round : cX11_round.data.toList.map UInt8.toNat = bX11_round := by decide +kernel
set_option maxRecDepth 100000 in
def tX11_round : Lean.RArray dLf := .branch 15 (.branch 8 (.branch 2 (.branch 1 (.leaf (0, .aload_n 0, 1)) (.leaf (1, .iload_n 1, 1))) (.branch 5 (.leaf (2, .invokevirtual 174, 3)) (.leaf (5, .ifCond .eq 25, 3)))) (.branch 10 (.branch 9 (.leaf (8, .aload_n 0, 1)) (.leaf (9, .aload_n 0, 1))) (.branch 13 (.leaf (10, .getfield 67, 3)) (.branch 14 (.leaf (13, .iload_n 1, 1)) (.leaf (14, .aload_n 0, 1)))))) (.branch 27 (.branch 21 (.branch 18 (.leaf (15, .getfield 42, 3)) (.leaf (18, .getfield 322, 3))) (.branch 24 (.leaf (21, .invokevirtual 328, 3)) (.leaf (24, .invokevirtual 112, 3)))) (.branch 31 (.branch 30 (.leaf (27, .goto 8, 3)) (.leaf (30, .aload_n 0, 1))) (.branch 32 (.leaf (31, .iconst 1, 1)) (.branch 35 (.leaf (32, .invokevirtual 98, 3)) (.leaf (35, .ireturn, 1))))))
noncomputable def oX11_round : List dLf := dFl tX11_round
theorem ofX11_round : dFl tX11_round = oX11_round := rfl
set_option maxRecDepth 100000 in
theorem odX11_round : ∀ q ∈ oX11_round, decode cX11_round q.1 = .ok (q.2.1, q.2.2) := q_go qT_ok bbX11_round oX11_round 0 (by decide +kernel)
set_option maxRecDepth 100000 in
def bX11_roundAt : List Nat := [42, 27, 182, 0, 174, 153, 0, 11, 42, 28, 182, 0, 174, 154, 0, 9, 42, 4, 182, 0, 98, 172, 42, 180, 0, 67, 27, 42, 180, 0, 42, 180, 1, 66, 182, 1, 72, 16, 254, 160, 0, 10, 42, 16, 6, 182, 0, 98, 172, 42, 42, 180, 0, 67, 180, 1, 75, 28, 46, 182, 0, 112, 172]
set_option maxRecDepth 100000 in
theorem bbX11_roundAt : cX11_roundAt.data.toList.map UInt8.toNat = bX11_roundAt := by decide +kernel
set_option maxRecDepth 100000 in
def tX11_roundAt : Lean.RArray dLf := .branch 28 (.branch 16 (.branch 8 (.branch 2 (.branch 1 (.leaf (0, .aload_n 0, 1)) (.leaf (1, .iload_n 1, 1))) (.branch 5 (.leaf (2, .invokevirtual 174, 3)) (.leaf (5, .ifCond .eq 11, 3)))) (.branch 10 (.branch 9 (.leaf (8, .aload_n 0, 1)) (.leaf (9, .iload_n 2, 1))) (.branch 13 (.leaf (10, .invokevirtual 174, 3)) (.leaf (13, .ifCond .ne 9, 3))))) (.branch 22 (.branch 18 (.branch 17 (.leaf (16, .aload_n 0, 1)) (.leaf (17, .iconst 1, 1))) (.branch 21 (.leaf (18, .invokevirtual 98, 3)) (.leaf (21, .ireturn, 1)))) (.branch 26 (.branch 23 (.leaf (22, .aload_n 0, 1)) (.leaf (23, .getfield 67, 3))) (.branch 27 (.leaf (26, .iload_n 1, 1)) (.leaf (27, .aload_n 0, 1)))))) (.branch 48 (.branch 39 (.branch 34 (.branch 31 (.leaf (28, .getfield 42, 3)) (.leaf (31, .getfield 322, 3))) (.branch 37 (.leaf (34, .invokevirtual 328, 3)) (.leaf (37, .bipush (-2), 2)))) (.branch 43 (.branch 42 (.leaf (39, .if_icmp .ne 10, 3)) (.leaf (42, .aload_n 0, 1))) (.branch 45 (.leaf (43, .bipush 6, 2)) (.leaf (45, .invokevirtual 98, 3))))) (.branch 54 (.branch 50 (.branch 49 (.leaf (48, .ireturn, 1)) (.leaf (49, .aload_n 0, 1))) (.branch 51 (.leaf (50, .aload_n 0, 1)) (.leaf (51, .getfield 67, 3)))) (.branch 58 (.branch 57 (.leaf (54, .getfield 331, 3)) (.leaf (57, .iload_n 2, 1))) (.branch 59 (.leaf (58, .iaload, 1)) (.branch 62 (.leaf (59, .invokevirtual 112, 3)) (.leaf (62, .ireturn, 1)))))))
noncomputable def oX11_roundAt : List dLf := dFl tX11_roundAt
theorem ofX11_roundAt : dFl tX11_roundAt = oX11_roundAt := rfl
set_option maxRecDepth 100000 in
theorem odX11_roundAt : ∀ q ∈ oX11_roundAt, decode cX11_roundAt q.1 = .ok (q.2.1, q.2.2) := q_go qT_ok bbX11_roundAt oX11_roundAt 0 (by decide +kernel)
set_option maxRecDepth 100000 in
def bX11_decade : List Nat := [42, 182, 0, 222, 154, 0, 9, 42, 4, 182, 0, 98, 172, 27, 19, 1, 78, 184, 0, 227, 153, 0, 12, 28, 16, 50, 184, 0, 227, 154, 0, 9, 42, 5, 182, 0, 98, 172, 42, 180, 0, 51, 27, 181, 1, 79, 3, 62, 3, 54, 4, 21, 4, 28, 162, 0, 26, 29, 42, 42, 180, 0, 42, 180, 0, 180, 21, 4, 96, 182, 1, 82, 96, 62, 132, 4, 1, 167, 255, 230, 42, 29, 182, 0, 112, 172]
set_option maxRecDepth 100000 in
theorem bbX11_decade : cX11_decade.data.toList.map UInt8.toNat = bX11_decade := by decide +kernel
set_option maxRecDepth 100000 in
def tX11_decade : Lean.RArray dLf := .branch 46 (.branch 23 (.branch 9 (.branch 4 (.branch 1 (.leaf (0, .aload_n 0, 1)) (.leaf (1, .invokevirtual 222, 3))) (.branch 7 (.leaf (4, .ifCond .ne 9, 3)) (.branch 8 (.leaf (7, .aload_n 0, 1)) (.leaf (8, .iconst 1, 1))))) (.branch 14 (.branch 12 (.leaf (9, .invokevirtual 98, 3)) (.branch 13 (.leaf (12, .ireturn, 1)) (.leaf (13, .iload_n 1, 1)))) (.branch 17 (.leaf (14, .ldc_w 334, 3)) (.branch 20 (.leaf (17, .invokestatic 227, 3)) (.leaf (20, .ifCond .eq 12, 3)))))) (.branch 34 (.branch 29 (.branch 24 (.leaf (23, .iload_n 2, 1)) (.branch 26 (.leaf (24, .bipush 50, 2)) (.leaf (26, .invokestatic 227, 3)))) (.branch 32 (.leaf (29, .ifCond .ne 9, 3)) (.branch 33 (.leaf (32, .aload_n 0, 1)) (.leaf (33, .iconst 2, 1))))) (.branch 39 (.branch 37 (.leaf (34, .invokevirtual 98, 3)) (.branch 38 (.leaf (37, .ireturn, 1)) (.leaf (38, .aload_n 0, 1)))) (.branch 42 (.leaf (39, .getfield 51, 3)) (.branch 43 (.leaf (42, .iload_n 1, 1)) (.leaf (43, .putfield 335, 3))))))) (.branch 63 (.branch 53 (.branch 48 (.branch 47 (.leaf (46, .iconst 0, 1)) (.leaf (47, .istore_n 3, 1))) (.branch 49 (.leaf (48, .iconst 0, 1)) (.branch 51 (.leaf (49, .istore 4, 2)) (.leaf (51, .iload 4, 2))))) (.branch 58 (.branch 54 (.leaf (53, .iload_n 2, 1)) (.branch 57 (.leaf (54, .if_icmp .ge 26, 3)) (.leaf (57, .iload_n 3, 1)))) (.branch 59 (.leaf (58, .aload_n 0, 1)) (.branch 60 (.leaf (59, .aload_n 0, 1)) (.leaf (60, .getfield 42, 3)))))) (.branch 74 (.branch 69 (.branch 66 (.leaf (63, .getfield 180, 3)) (.branch 68 (.leaf (66, .iload 4, 2)) (.leaf (68, .iadd, 1)))) (.branch 72 (.leaf (69, .invokevirtual 338, 3)) (.branch 73 (.leaf (72, .iadd, 1)) (.leaf (73, .istore_n 3, 1))))) (.branch 81 (.branch 77 (.leaf (74, .iinc 4 1, 3)) (.branch 80 (.leaf (77, .goto (-26), 3)) (.leaf (80, .aload_n 0, 1)))) (.branch 82 (.leaf (81, .iload_n 3, 1)) (.branch 85 (.leaf (82, .invokevirtual 112, 3)) (.leaf (85, .ireturn, 1)))))))
noncomputable def oX11_decade : List dLf := dFl tX11_decade
theorem ofX11_decade : dFl tX11_decade = oX11_decade := rfl
set_option maxRecDepth 100000 in
theorem odX11_decade : ∀ q ∈ oX11_decade, decode cX11_decade q.1 = .ok (q.2.1, q.2.2) := q_go qT_ok bbX11_decade oX11_decade 0 (by decide +kernel)
set_option maxRecDepth 100000 in
def bX11_send : List Nat := [42, 27, 182, 0, 121, 153, 0, 11, 42, 28, 182, 0, 147, 154, 0, 9, 42, 4, 182, 0, 98, 172, 42, 180, 0, 60, 27, 28, 182, 1, 27, 62, 29, 16, 254, 160, 0, 9, 42, 8, 182, 0, 98, 172, 42, 182, 1, 85, 42, 180, 0, 42, 180, 0, 134, 27, 42, 180, 0, 60, 180, 1, 88, 79, 42, 180, 0, 42, 180, 0, 138, 27, 29, 79, 42, 180, 0, 42, 180, 0, 168, 28, 29, 79, 42, 180, 0, 42, 180, 0, 171, 28, 42, 180, 0, 60, 180, 1, 88, 79, 42, 29, 182, 0, 112, 172]
set_option maxRecDepth 100000 in
theorem bbX11_send : cX11_send.data.toList.map UInt8.toNat = bX11_send := by decide +kernel
set_option maxRecDepth 100000 in
def tX11_send : Lean.RArray dLf := .branch 52 (.branch 26 (.branch 13 (.branch 5 (.branch 1 (.leaf (0, .aload_n 0, 1)) (.branch 2 (.leaf (1, .iload_n 1, 1)) (.leaf (2, .invokevirtual 121, 3)))) (.branch 9 (.branch 8 (.leaf (5, .ifCond .eq 11, 3)) (.leaf (8, .aload_n 0, 1))) (.branch 10 (.leaf (9, .iload_n 2, 1)) (.leaf (10, .invokevirtual 147, 3))))) (.branch 18 (.branch 16 (.leaf (13, .ifCond .ne 9, 3)) (.branch 17 (.leaf (16, .aload_n 0, 1)) (.leaf (17, .iconst 1, 1)))) (.branch 22 (.branch 21 (.leaf (18, .invokevirtual 98, 3)) (.leaf (21, .ireturn, 1))) (.branch 23 (.leaf (22, .aload_n 0, 1)) (.leaf (23, .getfield 60, 3)))))) (.branch 38 (.branch 31 (.branch 27 (.leaf (26, .iload_n 1, 1)) (.branch 28 (.leaf (27, .iload_n 2, 1)) (.leaf (28, .invokevirtual 283, 3)))) (.branch 33 (.branch 32 (.leaf (31, .istore_n 3, 1)) (.leaf (32, .iload_n 3, 1))) (.branch 35 (.leaf (33, .bipush (-2), 2)) (.leaf (35, .if_icmp .ne 9, 3))))) (.branch 44 (.branch 40 (.branch 39 (.leaf (38, .aload_n 0, 1)) (.leaf (39, .iconst 5, 1))) (.branch 43 (.leaf (40, .invokevirtual 98, 3)) (.leaf (43, .ireturn, 1)))) (.branch 48 (.branch 45 (.leaf (44, .aload_n 0, 1)) (.leaf (45, .invokevirtual 341, 3))) (.branch 49 (.leaf (48, .aload_n 0, 1)) (.leaf (49, .getfield 42, 3))))))) (.branch 81 (.branch 65 (.branch 57 (.branch 55 (.leaf (52, .getfield 134, 3)) (.branch 56 (.leaf (55, .iload_n 1, 1)) (.leaf (56, .aload_n 0, 1)))) (.branch 63 (.branch 60 (.leaf (57, .getfield 60, 3)) (.leaf (60, .getfield 344, 3))) (.branch 64 (.leaf (63, .iastore, 1)) (.leaf (64, .aload_n 0, 1))))) (.branch 73 (.branch 71 (.branch 68 (.leaf (65, .getfield 42, 3)) (.leaf (68, .getfield 138, 3))) (.branch 72 (.leaf (71, .iload_n 1, 1)) (.leaf (72, .iload_n 3, 1)))) (.branch 75 (.branch 74 (.leaf (73, .iastore, 1)) (.leaf (74, .aload_n 0, 1))) (.branch 78 (.leaf (75, .getfield 42, 3)) (.leaf (78, .getfield 168, 3)))))) (.branch 92 (.branch 84 (.branch 82 (.leaf (81, .iload_n 2, 1)) (.branch 83 (.leaf (82, .iload_n 3, 1)) (.leaf (83, .iastore, 1)))) (.branch 88 (.branch 85 (.leaf (84, .aload_n 0, 1)) (.leaf (85, .getfield 42, 3))) (.branch 91 (.leaf (88, .getfield 171, 3)) (.leaf (91, .iload_n 2, 1))))) (.branch 100 (.branch 96 (.branch 93 (.leaf (92, .aload_n 0, 1)) (.leaf (93, .getfield 60, 3))) (.branch 99 (.leaf (96, .getfield 344, 3)) (.leaf (99, .iastore, 1)))) (.branch 102 (.branch 101 (.leaf (100, .aload_n 0, 1)) (.leaf (101, .iload_n 3, 1))) (.branch 105 (.leaf (102, .invokevirtual 112, 3)) (.leaf (105, .ireturn, 1)))))))
noncomputable def oX11_send : List dLf := dFl tX11_send
theorem ofX11_send : dFl tX11_send = oX11_send := rfl
set_option maxRecDepth 100000 in
theorem odX11_send : ∀ q ∈ oX11_send, decode cX11_send q.1 = .ok (q.2.1, q.2.2) := q_go qT_ok bbX11_send oX11_send 0 (by decide +kernel)
theorem dX11_send_0 : decode cX11_send 0 = .ok (.aload_n 0, 1) := d_by (d_at odX11_send ofX11_send 0) rfl
theorem dX11_send_1 : decode cX11_send 1 = .ok (.iload_n 1, 1) := d_by (d_at odX11_send ofX11_send 1) rfl
theorem dX11_send_2 : decode cX11_send 2 = .ok (.invokevirtual 121, 3) := d_by (d_at odX11_send ofX11_send 2) rfl
theorem dX11_send_5 : decode cX11_send 5 = .ok (.ifCond .eq 11, 3) := d_by (d_at odX11_send ofX11_send 5) rfl
theorem dX11_send_8 : decode cX11_send 8 = .ok (.aload_n 0, 1) := d_by (d_at odX11_send ofX11_send 8) rfl
theorem dX11_send_9 : decode cX11_send 9 = .ok (.iload_n 2, 1) := d_by (d_at odX11_send ofX11_send 9) rfl
theorem dX11_send_10 : decode cX11_send 10 = .ok (.invokevirtual 147, 3) := d_by (d_at odX11_send ofX11_send 10) rfl
theorem dX11_send_13 : decode cX11_send 13 = .ok (.ifCond .ne 9, 3) := d_by (d_at odX11_send ofX11_send 13) rfl
theorem dX11_send_16 : decode cX11_send 16 = .ok (.aload_n 0, 1) := d_by (d_at odX11_send ofX11_send 16) rfl
theorem dX11_send_17 : decode cX11_send 17 = .ok (.iconst 1, 1) := d_by (d_at odX11_send ofX11_send 17) rfl
theorem dX11_send_18 : decode cX11_send 18 = .ok (.invokevirtual 98, 3) := d_by (d_at odX11_send ofX11_send 18) rfl
theorem dX11_send_21 : decode cX11_send 21 = .ok (.ireturn, 1) := d_by (d_at odX11_send ofX11_send 21) rfl
theorem dX11_send_22 : decode cX11_send 22 = .ok (.aload_n 0, 1) := d_by (d_at odX11_send ofX11_send 22) rfl
theorem dX11_send_23 : decode cX11_send 23 = .ok (.getfield 60, 3) := d_by (d_at odX11_send ofX11_send 23) rfl
theorem dX11_send_26 : decode cX11_send 26 = .ok (.iload_n 1, 1) := d_by (d_at odX11_send ofX11_send 26) rfl
theorem dX11_send_27 : decode cX11_send 27 = .ok (.iload_n 2, 1) := d_by (d_at odX11_send ofX11_send 27) rfl
theorem dX11_send_28 : decode cX11_send 28 = .ok (.invokevirtual 283, 3) := d_by (d_at odX11_send ofX11_send 28) rfl
theorem dX11_send_31 : decode cX11_send 31 = .ok (.istore_n 3, 1) := d_by (d_at odX11_send ofX11_send 31) rfl
theorem dX11_send_32 : decode cX11_send 32 = .ok (.iload_n 3, 1) := d_by (d_at odX11_send ofX11_send 32) rfl
theorem dX11_send_33 : decode cX11_send 33 = .ok (.bipush (-2), 2) := d_by (d_at odX11_send ofX11_send 33) rfl
theorem dX11_send_35 : decode cX11_send 35 = .ok (.if_icmp .ne 9, 3) := d_by (d_at odX11_send ofX11_send 35) rfl
theorem dX11_send_38 : decode cX11_send 38 = .ok (.aload_n 0, 1) := d_by (d_at odX11_send ofX11_send 38) rfl
theorem dX11_send_39 : decode cX11_send 39 = .ok (.iconst 5, 1) := d_by (d_at odX11_send ofX11_send 39) rfl
theorem dX11_send_40 : decode cX11_send 40 = .ok (.invokevirtual 98, 3) := d_by (d_at odX11_send ofX11_send 40) rfl
theorem dX11_send_43 : decode cX11_send 43 = .ok (.ireturn, 1) := d_by (d_at odX11_send ofX11_send 43) rfl
theorem dX11_send_44 : decode cX11_send 44 = .ok (.aload_n 0, 1) := d_by (d_at odX11_send ofX11_send 44) rfl
theorem dX11_send_45 : decode cX11_send 45 = .ok (.invokevirtual 341, 3) := d_by (d_at odX11_send ofX11_send 45) rfl
theorem dX11_send_48 : decode cX11_send 48 = .ok (.aload_n 0, 1) := d_by (d_at odX11_send ofX11_send 48) rfl
theorem dX11_send_49 : decode cX11_send 49 = .ok (.getfield 42, 3) := d_by (d_at odX11_send ofX11_send 49) rfl
theorem dX11_send_52 : decode cX11_send 52 = .ok (.getfield 134, 3) := d_by (d_at odX11_send ofX11_send 52) rfl
theorem dX11_send_55 : decode cX11_send 55 = .ok (.iload_n 1, 1) := d_by (d_at odX11_send ofX11_send 55) rfl
theorem dX11_send_56 : decode cX11_send 56 = .ok (.aload_n 0, 1) := d_by (d_at odX11_send ofX11_send 56) rfl
theorem dX11_send_57 : decode cX11_send 57 = .ok (.getfield 60, 3) := d_by (d_at odX11_send ofX11_send 57) rfl
theorem dX11_send_60 : decode cX11_send 60 = .ok (.getfield 344, 3) := d_by (d_at odX11_send ofX11_send 60) rfl
theorem dX11_send_63 : decode cX11_send 63 = .ok (.iastore, 1) := d_by (d_at odX11_send ofX11_send 63) rfl
theorem dX11_send_64 : decode cX11_send 64 = .ok (.aload_n 0, 1) := d_by (d_at odX11_send ofX11_send 64) rfl
theorem dX11_send_65 : decode cX11_send 65 = .ok (.getfield 42, 3) := d_by (d_at odX11_send ofX11_send 65) rfl
theorem dX11_send_68 : decode cX11_send 68 = .ok (.getfield 138, 3) := d_by (d_at odX11_send ofX11_send 68) rfl
theorem dX11_send_71 : decode cX11_send 71 = .ok (.iload_n 1, 1) := d_by (d_at odX11_send ofX11_send 71) rfl
theorem dX11_send_72 : decode cX11_send 72 = .ok (.iload_n 3, 1) := d_by (d_at odX11_send ofX11_send 72) rfl
theorem dX11_send_73 : decode cX11_send 73 = .ok (.iastore, 1) := d_by (d_at odX11_send ofX11_send 73) rfl
theorem dX11_send_74 : decode cX11_send 74 = .ok (.aload_n 0, 1) := d_by (d_at odX11_send ofX11_send 74) rfl
theorem dX11_send_75 : decode cX11_send 75 = .ok (.getfield 42, 3) := d_by (d_at odX11_send ofX11_send 75) rfl
theorem dX11_send_78 : decode cX11_send 78 = .ok (.getfield 168, 3) := d_by (d_at odX11_send ofX11_send 78) rfl
theorem dX11_send_81 : decode cX11_send 81 = .ok (.iload_n 2, 1) := d_by (d_at odX11_send ofX11_send 81) rfl
theorem dX11_send_82 : decode cX11_send 82 = .ok (.iload_n 3, 1) := d_by (d_at odX11_send ofX11_send 82) rfl
theorem dX11_send_83 : decode cX11_send 83 = .ok (.iastore, 1) := d_by (d_at odX11_send ofX11_send 83) rfl
theorem dX11_send_84 : decode cX11_send 84 = .ok (.aload_n 0, 1) := d_by (d_at odX11_send ofX11_send 84) rfl
theorem dX11_send_85 : decode cX11_send 85 = .ok (.getfield 42, 3) := d_by (d_at odX11_send ofX11_send 85) rfl
theorem dX11_send_88 : decode cX11_send 88 = .ok (.getfield 171, 3) := d_by (d_at odX11_send ofX11_send 88) rfl
theorem dX11_send_91 : decode cX11_send 91 = .ok (.iload_n 2, 1) := d_by (d_at odX11_send ofX11_send 91) rfl
theorem dX11_send_92 : decode cX11_send 92 = .ok (.aload_n 0, 1) := d_by (d_at odX11_send ofX11_send 92) rfl
theorem dX11_send_93 : decode cX11_send 93 = .ok (.getfield 60, 3) := d_by (d_at odX11_send ofX11_send 93) rfl
theorem dX11_send_96 : decode cX11_send 96 = .ok (.getfield 344, 3) := d_by (d_at odX11_send ofX11_send 96) rfl
theorem dX11_send_99 : decode cX11_send 99 = .ok (.iastore, 1) := d_by (d_at odX11_send ofX11_send 99) rfl
theorem dX11_send_100 : decode cX11_send 100 = .ok (.aload_n 0, 1) := d_by (d_at odX11_send ofX11_send 100) rfl
theorem dX11_send_101 : decode cX11_send 101 = .ok (.iload_n 3, 1) := d_by (d_at odX11_send ofX11_send 101) rfl
theorem dX11_send_102 : decode cX11_send 102 = .ok (.invokevirtual 112, 3) := d_by (d_at odX11_send ofX11_send 102) rfl
theorem dX11_send_105 : decode cX11_send 105 = .ok (.ireturn, 1) := d_by (d_at odX11_send ofX11_send 105) rfl
set_option maxRecDepth 100000 in
def bX11_tune : List Nat := [42, 27, 28, 182, 0, 191, 154, 0, 9, 42, 4, 182, 1, 91, 172, 29, 42, 180, 0, 23, 180, 1, 94, 4, 100, 184, 0, 227, 154, 0, 9, 42, 5, 182, 1, 91, 172, 42, 180, 0, 42, 180, 0, 195, 27, 46, 42, 180, 0, 23, 27, 182, 0, 198, 28, 29, 184, 1, 97, 54, 4, 42, 180, 0, 42, 27, 182, 0, 242, 154, 0, 17, 21, 4, 42, 180, 0, 42, 180, 0, 195, 27, 46, 160, 0, 9, 42, 8, 182, 1, 91, 172, 42, 182, 1, 85, 42, 180, 0, 42, 180, 0, 195, 27, 21, 4, 79, 42, 182, 1, 100, 172]
set_option maxRecDepth 100000 in
theorem bbX11_tune : cX11_tune.data.toList.map UInt8.toNat = bX11_tune := by decide +kernel
set_option maxRecDepth 100000 in
def tX11_tune : Lean.RArray dLf := .branch 54 (.branch 25 (.branch 11 (.branch 3 (.branch 1 (.leaf (0, .aload_n 0, 1)) (.branch 2 (.leaf (1, .iload_n 1, 1)) (.leaf (2, .iload_n 2, 1)))) (.branch 9 (.branch 6 (.leaf (3, .invokevirtual 191, 3)) (.leaf (6, .ifCond .ne 9, 3))) (.branch 10 (.leaf (9, .aload_n 0, 1)) (.leaf (10, .iconst 1, 1))))) (.branch 17 (.branch 15 (.branch 14 (.leaf (11, .invokevirtual 347, 3)) (.leaf (14, .ireturn, 1))) (.branch 16 (.leaf (15, .iload_n 3, 1)) (.leaf (16, .aload_n 0, 1)))) (.branch 23 (.branch 20 (.leaf (17, .getfield 23, 3)) (.leaf (20, .getfield 350, 3))) (.branch 24 (.leaf (23, .iconst 1, 1)) (.leaf (24, .isub, 1)))))) (.branch 38 (.branch 32 (.branch 28 (.leaf (25, .invokestatic 227, 3)) (.branch 31 (.leaf (28, .ifCond .ne 9, 3)) (.leaf (31, .aload_n 0, 1)))) (.branch 36 (.branch 33 (.leaf (32, .iconst 2, 1)) (.leaf (33, .invokevirtual 347, 3))) (.branch 37 (.leaf (36, .ireturn, 1)) (.leaf (37, .aload_n 0, 1))))) (.branch 46 (.branch 44 (.branch 41 (.leaf (38, .getfield 42, 3)) (.leaf (41, .getfield 195, 3))) (.branch 45 (.leaf (44, .iload_n 1, 1)) (.leaf (45, .iaload, 1)))) (.branch 50 (.branch 47 (.leaf (46, .aload_n 0, 1)) (.leaf (47, .getfield 23, 3))) (.branch 51 (.leaf (50, .iload_n 1, 1)) (.leaf (51, .invokevirtual 198, 3))))))) (.branch 83 (.branch 66 (.branch 59 (.branch 55 (.leaf (54, .iload_n 2, 1)) (.branch 56 (.leaf (55, .iload_n 3, 1)) (.leaf (56, .invokestatic 353, 3)))) (.branch 62 (.branch 61 (.leaf (59, .istore 4, 2)) (.leaf (61, .aload_n 0, 1))) (.branch 65 (.leaf (62, .getfield 42, 3)) (.leaf (65, .iload_n 1, 1))))) (.branch 75 (.branch 72 (.branch 69 (.leaf (66, .invokevirtual 242, 3)) (.leaf (69, .ifCond .ne 17, 3))) (.branch 74 (.leaf (72, .iload 4, 2)) (.leaf (74, .aload_n 0, 1)))) (.branch 81 (.branch 78 (.leaf (75, .getfield 42, 3)) (.leaf (78, .getfield 195, 3))) (.branch 82 (.leaf (81, .iload_n 1, 1)) (.leaf (82, .iaload, 1)))))) (.branch 97 (.branch 91 (.branch 87 (.branch 86 (.leaf (83, .if_icmp .ne 9, 3)) (.leaf (86, .aload_n 0, 1))) (.branch 88 (.leaf (87, .iconst 5, 1)) (.leaf (88, .invokevirtual 347, 3)))) (.branch 93 (.branch 92 (.leaf (91, .ireturn, 1)) (.leaf (92, .aload_n 0, 1))) (.branch 96 (.leaf (93, .invokevirtual 341, 3)) (.leaf (96, .aload_n 0, 1))))) (.branch 106 (.branch 103 (.branch 100 (.leaf (97, .getfield 42, 3)) (.leaf (100, .getfield 195, 3))) (.branch 104 (.leaf (103, .iload_n 1, 1)) (.leaf (104, .iload 4, 2)))) (.branch 108 (.branch 107 (.leaf (106, .iastore, 1)) (.leaf (107, .aload_n 0, 1))) (.branch 111 (.leaf (108, .invokevirtual 356, 3)) (.leaf (111, .ireturn, 1)))))))
noncomputable def oX11_tune : List dLf := dFl tX11_tune
theorem ofX11_tune : dFl tX11_tune = oX11_tune := rfl
set_option maxRecDepth 100000 in
theorem odX11_tune : ∀ q ∈ oX11_tune, decode cX11_tune q.1 = .ok (q.2.1, q.2.2) := q_go qT_ok bbX11_tune oX11_tune 0 (by decide +kernel)
theorem dX11_tune_0 : decode cX11_tune 0 = .ok (.aload_n 0, 1) := d_by (d_at odX11_tune ofX11_tune 0) rfl
theorem dX11_tune_1 : decode cX11_tune 1 = .ok (.iload_n 1, 1) := d_by (d_at odX11_tune ofX11_tune 1) rfl
theorem dX11_tune_2 : decode cX11_tune 2 = .ok (.iload_n 2, 1) := d_by (d_at odX11_tune ofX11_tune 2) rfl
theorem dX11_tune_3 : decode cX11_tune 3 = .ok (.invokevirtual 191, 3) := d_by (d_at odX11_tune ofX11_tune 3) rfl
theorem dX11_tune_6 : decode cX11_tune 6 = .ok (.ifCond .ne 9, 3) := d_by (d_at odX11_tune ofX11_tune 6) rfl
theorem dX11_tune_9 : decode cX11_tune 9 = .ok (.aload_n 0, 1) := d_by (d_at odX11_tune ofX11_tune 9) rfl
theorem dX11_tune_10 : decode cX11_tune 10 = .ok (.iconst 1, 1) := d_by (d_at odX11_tune ofX11_tune 10) rfl
theorem dX11_tune_11 : decode cX11_tune 11 = .ok (.invokevirtual 347, 3) := d_by (d_at odX11_tune ofX11_tune 11) rfl
theorem dX11_tune_14 : decode cX11_tune 14 = .ok (.ireturn, 1) := d_by (d_at odX11_tune ofX11_tune 14) rfl
theorem dX11_tune_15 : decode cX11_tune 15 = .ok (.iload_n 3, 1) := d_by (d_at odX11_tune ofX11_tune 15) rfl
theorem dX11_tune_16 : decode cX11_tune 16 = .ok (.aload_n 0, 1) := d_by (d_at odX11_tune ofX11_tune 16) rfl
theorem dX11_tune_17 : decode cX11_tune 17 = .ok (.getfield 23, 3) := d_by (d_at odX11_tune ofX11_tune 17) rfl
theorem dX11_tune_20 : decode cX11_tune 20 = .ok (.getfield 350, 3) := d_by (d_at odX11_tune ofX11_tune 20) rfl
theorem dX11_tune_23 : decode cX11_tune 23 = .ok (.iconst 1, 1) := d_by (d_at odX11_tune ofX11_tune 23) rfl
theorem dX11_tune_24 : decode cX11_tune 24 = .ok (.isub, 1) := d_by (d_at odX11_tune ofX11_tune 24) rfl
theorem dX11_tune_25 : decode cX11_tune 25 = .ok (.invokestatic 227, 3) := d_by (d_at odX11_tune ofX11_tune 25) rfl
theorem dX11_tune_28 : decode cX11_tune 28 = .ok (.ifCond .ne 9, 3) := d_by (d_at odX11_tune ofX11_tune 28) rfl
theorem dX11_tune_31 : decode cX11_tune 31 = .ok (.aload_n 0, 1) := d_by (d_at odX11_tune ofX11_tune 31) rfl
theorem dX11_tune_32 : decode cX11_tune 32 = .ok (.iconst 2, 1) := d_by (d_at odX11_tune ofX11_tune 32) rfl
theorem dX11_tune_33 : decode cX11_tune 33 = .ok (.invokevirtual 347, 3) := d_by (d_at odX11_tune ofX11_tune 33) rfl
theorem dX11_tune_36 : decode cX11_tune 36 = .ok (.ireturn, 1) := d_by (d_at odX11_tune ofX11_tune 36) rfl
theorem dX11_tune_37 : decode cX11_tune 37 = .ok (.aload_n 0, 1) := d_by (d_at odX11_tune ofX11_tune 37) rfl
theorem dX11_tune_38 : decode cX11_tune 38 = .ok (.getfield 42, 3) := d_by (d_at odX11_tune ofX11_tune 38) rfl
theorem dX11_tune_41 : decode cX11_tune 41 = .ok (.getfield 195, 3) := d_by (d_at odX11_tune ofX11_tune 41) rfl
theorem dX11_tune_44 : decode cX11_tune 44 = .ok (.iload_n 1, 1) := d_by (d_at odX11_tune ofX11_tune 44) rfl
theorem dX11_tune_45 : decode cX11_tune 45 = .ok (.iaload, 1) := d_by (d_at odX11_tune ofX11_tune 45) rfl
theorem dX11_tune_46 : decode cX11_tune 46 = .ok (.aload_n 0, 1) := d_by (d_at odX11_tune ofX11_tune 46) rfl
theorem dX11_tune_47 : decode cX11_tune 47 = .ok (.getfield 23, 3) := d_by (d_at odX11_tune ofX11_tune 47) rfl
theorem dX11_tune_50 : decode cX11_tune 50 = .ok (.iload_n 1, 1) := d_by (d_at odX11_tune ofX11_tune 50) rfl
theorem dX11_tune_51 : decode cX11_tune 51 = .ok (.invokevirtual 198, 3) := d_by (d_at odX11_tune ofX11_tune 51) rfl
theorem dX11_tune_54 : decode cX11_tune 54 = .ok (.iload_n 2, 1) := d_by (d_at odX11_tune ofX11_tune 54) rfl
theorem dX11_tune_55 : decode cX11_tune 55 = .ok (.iload_n 3, 1) := d_by (d_at odX11_tune ofX11_tune 55) rfl
theorem dX11_tune_56 : decode cX11_tune 56 = .ok (.invokestatic 353, 3) := d_by (d_at odX11_tune ofX11_tune 56) rfl
theorem dX11_tune_59 : decode cX11_tune 59 = .ok (.istore 4, 2) := d_by (d_at odX11_tune ofX11_tune 59) rfl
theorem dX11_tune_61 : decode cX11_tune 61 = .ok (.aload_n 0, 1) := d_by (d_at odX11_tune ofX11_tune 61) rfl
theorem dX11_tune_62 : decode cX11_tune 62 = .ok (.getfield 42, 3) := d_by (d_at odX11_tune ofX11_tune 62) rfl
theorem dX11_tune_65 : decode cX11_tune 65 = .ok (.iload_n 1, 1) := d_by (d_at odX11_tune ofX11_tune 65) rfl
theorem dX11_tune_66 : decode cX11_tune 66 = .ok (.invokevirtual 242, 3) := d_by (d_at odX11_tune ofX11_tune 66) rfl
theorem dX11_tune_69 : decode cX11_tune 69 = .ok (.ifCond .ne 17, 3) := d_by (d_at odX11_tune ofX11_tune 69) rfl
theorem dX11_tune_72 : decode cX11_tune 72 = .ok (.iload 4, 2) := d_by (d_at odX11_tune ofX11_tune 72) rfl
theorem dX11_tune_74 : decode cX11_tune 74 = .ok (.aload_n 0, 1) := d_by (d_at odX11_tune ofX11_tune 74) rfl
theorem dX11_tune_75 : decode cX11_tune 75 = .ok (.getfield 42, 3) := d_by (d_at odX11_tune ofX11_tune 75) rfl
theorem dX11_tune_78 : decode cX11_tune 78 = .ok (.getfield 195, 3) := d_by (d_at odX11_tune ofX11_tune 78) rfl
theorem dX11_tune_81 : decode cX11_tune 81 = .ok (.iload_n 1, 1) := d_by (d_at odX11_tune ofX11_tune 81) rfl
theorem dX11_tune_82 : decode cX11_tune 82 = .ok (.iaload, 1) := d_by (d_at odX11_tune ofX11_tune 82) rfl
theorem dX11_tune_83 : decode cX11_tune 83 = .ok (.if_icmp .ne 9, 3) := d_by (d_at odX11_tune ofX11_tune 83) rfl
theorem dX11_tune_86 : decode cX11_tune 86 = .ok (.aload_n 0, 1) := d_by (d_at odX11_tune ofX11_tune 86) rfl
theorem dX11_tune_87 : decode cX11_tune 87 = .ok (.iconst 5, 1) := d_by (d_at odX11_tune ofX11_tune 87) rfl
theorem dX11_tune_88 : decode cX11_tune 88 = .ok (.invokevirtual 347, 3) := d_by (d_at odX11_tune ofX11_tune 88) rfl
theorem dX11_tune_91 : decode cX11_tune 91 = .ok (.ireturn, 1) := d_by (d_at odX11_tune ofX11_tune 91) rfl
theorem dX11_tune_92 : decode cX11_tune 92 = .ok (.aload_n 0, 1) := d_by (d_at odX11_tune ofX11_tune 92) rfl
theorem dX11_tune_93 : decode cX11_tune 93 = .ok (.invokevirtual 341, 3) := d_by (d_at odX11_tune ofX11_tune 93) rfl
theorem dX11_tune_96 : decode cX11_tune 96 = .ok (.aload_n 0, 1) := d_by (d_at odX11_tune ofX11_tune 96) rfl
theorem dX11_tune_97 : decode cX11_tune 97 = .ok (.getfield 42, 3) := d_by (d_at odX11_tune ofX11_tune 97) rfl
theorem dX11_tune_100 : decode cX11_tune 100 = .ok (.getfield 195, 3) := d_by (d_at odX11_tune ofX11_tune 100) rfl
theorem dX11_tune_103 : decode cX11_tune 103 = .ok (.iload_n 1, 1) := d_by (d_at odX11_tune ofX11_tune 103) rfl
theorem dX11_tune_104 : decode cX11_tune 104 = .ok (.iload 4, 2) := d_by (d_at odX11_tune ofX11_tune 104) rfl
theorem dX11_tune_106 : decode cX11_tune 106 = .ok (.iastore, 1) := d_by (d_at odX11_tune ofX11_tune 106) rfl
theorem dX11_tune_107 : decode cX11_tune 107 = .ok (.aload_n 0, 1) := d_by (d_at odX11_tune ofX11_tune 107) rfl
theorem dX11_tune_108 : decode cX11_tune 108 = .ok (.invokevirtual 356, 3) := d_by (d_at odX11_tune ofX11_tune 108) rfl
theorem dX11_tune_111 : decode cX11_tune 111 = .ok (.ireturn, 1) := d_by (d_at odX11_tune ofX11_tune 111) rfl
set_option maxRecDepth 100000 in
def bX11_years : List Nat := [42, 182, 0, 222, 154, 0, 9, 42, 4, 182, 0, 98, 172, 27, 4, 161, 0, 9, 27, 16, 99, 164, 0, 9, 42, 5, 182, 0, 98, 172, 42, 180, 0, 42, 180, 0, 180, 27, 96, 17, 39, 15, 164, 0, 9, 42, 6, 182, 0, 98, 172, 42, 182, 1, 85, 42, 180, 0, 42, 89, 180, 0, 180, 27, 96, 181, 0, 180, 42, 42, 180, 0, 42, 180, 0, 180, 182, 0, 112, 172]
set_option maxRecDepth 100000 in
theorem bbX11_years : cX11_years.data.toList.map UInt8.toNat = bX11_years := by decide +kernel
set_option maxRecDepth 100000 in
def tX11_years : Lean.RArray dLf := .branch 38 (.branch 18 (.branch 9 (.branch 4 (.branch 1 (.leaf (0, .aload_n 0, 1)) (.leaf (1, .invokevirtual 222, 3))) (.branch 7 (.leaf (4, .ifCond .ne 9, 3)) (.branch 8 (.leaf (7, .aload_n 0, 1)) (.leaf (8, .iconst 1, 1))))) (.branch 13 (.branch 12 (.leaf (9, .invokevirtual 98, 3)) (.leaf (12, .ireturn, 1))) (.branch 14 (.leaf (13, .iload_n 1, 1)) (.branch 15 (.leaf (14, .iconst 1, 1)) (.leaf (15, .if_icmp .lt 9, 3)))))) (.branch 26 (.branch 21 (.branch 19 (.leaf (18, .iload_n 1, 1)) (.leaf (19, .bipush 99, 2))) (.branch 24 (.leaf (21, .if_icmp .le 9, 3)) (.branch 25 (.leaf (24, .aload_n 0, 1)) (.leaf (25, .iconst 2, 1))))) (.branch 31 (.branch 29 (.leaf (26, .invokevirtual 98, 3)) (.branch 30 (.leaf (29, .ireturn, 1)) (.leaf (30, .aload_n 0, 1)))) (.branch 34 (.leaf (31, .getfield 42, 3)) (.branch 37 (.leaf (34, .getfield 180, 3)) (.leaf (37, .iload_n 1, 1))))))) (.branch 59 (.branch 47 (.branch 42 (.branch 39 (.leaf (38, .iadd, 1)) (.leaf (39, .sipush 9999, 3))) (.branch 45 (.leaf (42, .if_icmp .le 9, 3)) (.branch 46 (.leaf (45, .aload_n 0, 1)) (.leaf (46, .iconst 3, 1))))) (.branch 52 (.branch 50 (.leaf (47, .invokevirtual 98, 3)) (.branch 51 (.leaf (50, .ireturn, 1)) (.leaf (51, .aload_n 0, 1)))) (.branch 55 (.leaf (52, .invokevirtual 341, 3)) (.branch 56 (.leaf (55, .aload_n 0, 1)) (.leaf (56, .getfield 42, 3)))))) (.branch 68 (.branch 63 (.branch 60 (.leaf (59, .dup, 1)) (.leaf (60, .getfield 180, 3))) (.branch 64 (.leaf (63, .iload_n 1, 1)) (.branch 65 (.leaf (64, .iadd, 1)) (.leaf (65, .putfield 180, 3))))) (.branch 73 (.branch 69 (.leaf (68, .aload_n 0, 1)) (.branch 70 (.leaf (69, .aload_n 0, 1)) (.leaf (70, .getfield 42, 3)))) (.branch 76 (.leaf (73, .getfield 180, 3)) (.branch 79 (.leaf (76, .invokevirtual 112, 3)) (.leaf (79, .ireturn, 1)))))))
noncomputable def oX11_years : List dLf := dFl tX11_years
theorem ofX11_years : dFl tX11_years = oX11_years := rfl
set_option maxRecDepth 100000 in
theorem odX11_years : ∀ q ∈ oX11_years, decode cX11_years q.1 = .ok (q.2.1, q.2.2) := q_go qT_ok bbX11_years oX11_years 0 (by decide +kernel)
theorem dX11_years_0 : decode cX11_years 0 = .ok (.aload_n 0, 1) := d_by (d_at odX11_years ofX11_years 0) rfl
theorem dX11_years_1 : decode cX11_years 1 = .ok (.invokevirtual 222, 3) := d_by (d_at odX11_years ofX11_years 1) rfl
theorem dX11_years_4 : decode cX11_years 4 = .ok (.ifCond .ne 9, 3) := d_by (d_at odX11_years ofX11_years 4) rfl
theorem dX11_years_7 : decode cX11_years 7 = .ok (.aload_n 0, 1) := d_by (d_at odX11_years ofX11_years 7) rfl
theorem dX11_years_8 : decode cX11_years 8 = .ok (.iconst 1, 1) := d_by (d_at odX11_years ofX11_years 8) rfl
theorem dX11_years_9 : decode cX11_years 9 = .ok (.invokevirtual 98, 3) := d_by (d_at odX11_years ofX11_years 9) rfl
theorem dX11_years_12 : decode cX11_years 12 = .ok (.ireturn, 1) := d_by (d_at odX11_years ofX11_years 12) rfl
theorem dX11_years_13 : decode cX11_years 13 = .ok (.iload_n 1, 1) := d_by (d_at odX11_years ofX11_years 13) rfl
theorem dX11_years_14 : decode cX11_years 14 = .ok (.iconst 1, 1) := d_by (d_at odX11_years ofX11_years 14) rfl
theorem dX11_years_15 : decode cX11_years 15 = .ok (.if_icmp .lt 9, 3) := d_by (d_at odX11_years ofX11_years 15) rfl
theorem dX11_years_18 : decode cX11_years 18 = .ok (.iload_n 1, 1) := d_by (d_at odX11_years ofX11_years 18) rfl
theorem dX11_years_19 : decode cX11_years 19 = .ok (.bipush 99, 2) := d_by (d_at odX11_years ofX11_years 19) rfl
theorem dX11_years_21 : decode cX11_years 21 = .ok (.if_icmp .le 9, 3) := d_by (d_at odX11_years ofX11_years 21) rfl
theorem dX11_years_24 : decode cX11_years 24 = .ok (.aload_n 0, 1) := d_by (d_at odX11_years ofX11_years 24) rfl
theorem dX11_years_25 : decode cX11_years 25 = .ok (.iconst 2, 1) := d_by (d_at odX11_years ofX11_years 25) rfl
theorem dX11_years_26 : decode cX11_years 26 = .ok (.invokevirtual 98, 3) := d_by (d_at odX11_years ofX11_years 26) rfl
theorem dX11_years_29 : decode cX11_years 29 = .ok (.ireturn, 1) := d_by (d_at odX11_years ofX11_years 29) rfl
theorem dX11_years_30 : decode cX11_years 30 = .ok (.aload_n 0, 1) := d_by (d_at odX11_years ofX11_years 30) rfl
theorem dX11_years_31 : decode cX11_years 31 = .ok (.getfield 42, 3) := d_by (d_at odX11_years ofX11_years 31) rfl
theorem dX11_years_34 : decode cX11_years 34 = .ok (.getfield 180, 3) := d_by (d_at odX11_years ofX11_years 34) rfl
theorem dX11_years_37 : decode cX11_years 37 = .ok (.iload_n 1, 1) := d_by (d_at odX11_years ofX11_years 37) rfl
theorem dX11_years_38 : decode cX11_years 38 = .ok (.iadd, 1) := d_by (d_at odX11_years ofX11_years 38) rfl
theorem dX11_years_39 : decode cX11_years 39 = .ok (.sipush 9999, 3) := d_by (d_at odX11_years ofX11_years 39) rfl
theorem dX11_years_42 : decode cX11_years 42 = .ok (.if_icmp .le 9, 3) := d_by (d_at odX11_years ofX11_years 42) rfl
theorem dX11_years_45 : decode cX11_years 45 = .ok (.aload_n 0, 1) := d_by (d_at odX11_years ofX11_years 45) rfl
theorem dX11_years_46 : decode cX11_years 46 = .ok (.iconst 3, 1) := d_by (d_at odX11_years ofX11_years 46) rfl
theorem dX11_years_47 : decode cX11_years 47 = .ok (.invokevirtual 98, 3) := d_by (d_at odX11_years ofX11_years 47) rfl
theorem dX11_years_50 : decode cX11_years 50 = .ok (.ireturn, 1) := d_by (d_at odX11_years ofX11_years 50) rfl
theorem dX11_years_51 : decode cX11_years 51 = .ok (.aload_n 0, 1) := d_by (d_at odX11_years ofX11_years 51) rfl
theorem dX11_years_52 : decode cX11_years 52 = .ok (.invokevirtual 341, 3) := d_by (d_at odX11_years ofX11_years 52) rfl
theorem dX11_years_55 : decode cX11_years 55 = .ok (.aload_n 0, 1) := d_by (d_at odX11_years ofX11_years 55) rfl
theorem dX11_years_56 : decode cX11_years 56 = .ok (.getfield 42, 3) := d_by (d_at odX11_years ofX11_years 56) rfl
theorem dX11_years_59 : decode cX11_years 59 = .ok (.dup, 1) := d_by (d_at odX11_years ofX11_years 59) rfl
theorem dX11_years_60 : decode cX11_years 60 = .ok (.getfield 180, 3) := d_by (d_at odX11_years ofX11_years 60) rfl
theorem dX11_years_63 : decode cX11_years 63 = .ok (.iload_n 1, 1) := d_by (d_at odX11_years ofX11_years 63) rfl
theorem dX11_years_64 : decode cX11_years 64 = .ok (.iadd, 1) := d_by (d_at odX11_years ofX11_years 64) rfl
theorem dX11_years_65 : decode cX11_years 65 = .ok (.putfield 180, 3) := d_by (d_at odX11_years ofX11_years 65) rfl
theorem dX11_years_68 : decode cX11_years 68 = .ok (.aload_n 0, 1) := d_by (d_at odX11_years ofX11_years 68) rfl
theorem dX11_years_69 : decode cX11_years 69 = .ok (.aload_n 0, 1) := d_by (d_at odX11_years ofX11_years 69) rfl
theorem dX11_years_70 : decode cX11_years 70 = .ok (.getfield 42, 3) := d_by (d_at odX11_years ofX11_years 70) rfl
theorem dX11_years_73 : decode cX11_years 73 = .ok (.getfield 180, 3) := d_by (d_at odX11_years ofX11_years 73) rfl
theorem dX11_years_76 : decode cX11_years 76 = .ok (.invokevirtual 112, 3) := d_by (d_at odX11_years ofX11_years 76) rfl
theorem dX11_years_79 : decode cX11_years 79 = .ok (.ireturn, 1) := d_by (d_at odX11_years ofX11_years 79) rfl
set_option maxRecDepth 100000 in
def bX11_close : List Nat := [42, 27, 182, 0, 230, 154, 0, 9, 42, 4, 182, 1, 91, 172, 42, 180, 0, 42, 27, 182, 0, 210, 28, 160, 0, 9, 42, 8, 182, 1, 91, 172, 42, 182, 1, 85, 42, 180, 0, 42, 89, 180, 1, 66, 4, 27, 120, 130, 181, 1, 66, 42, 182, 1, 100, 172]
set_option maxRecDepth 100000 in
theorem bbX11_close : cX11_close.data.toList.map UInt8.toNat = bX11_close := by decide +kernel
set_option maxRecDepth 100000 in
def tX11_close : Lean.RArray dLf := .branch 28 (.branch 14 (.branch 8 (.branch 2 (.branch 1 (.leaf (0, .aload_n 0, 1)) (.leaf (1, .iload_n 1, 1))) (.branch 5 (.leaf (2, .invokevirtual 230, 3)) (.leaf (5, .ifCond .ne 9, 3)))) (.branch 10 (.branch 9 (.leaf (8, .aload_n 0, 1)) (.leaf (9, .iconst 1, 1))) (.branch 13 (.leaf (10, .invokevirtual 347, 3)) (.leaf (13, .ireturn, 1))))) (.branch 22 (.branch 18 (.branch 15 (.leaf (14, .aload_n 0, 1)) (.leaf (15, .getfield 42, 3))) (.branch 19 (.leaf (18, .iload_n 1, 1)) (.leaf (19, .invokevirtual 210, 3)))) (.branch 26 (.branch 23 (.leaf (22, .iload_n 2, 1)) (.leaf (23, .if_icmp .ne 9, 3))) (.branch 27 (.leaf (26, .aload_n 0, 1)) (.leaf (27, .iconst 5, 1)))))) (.branch 44 (.branch 36 (.branch 32 (.branch 31 (.leaf (28, .invokevirtual 347, 3)) (.leaf (31, .ireturn, 1))) (.branch 33 (.leaf (32, .aload_n 0, 1)) (.leaf (33, .invokevirtual 341, 3)))) (.branch 40 (.branch 37 (.leaf (36, .aload_n 0, 1)) (.leaf (37, .getfield 42, 3))) (.branch 41 (.leaf (40, .dup, 1)) (.leaf (41, .getfield 322, 3))))) (.branch 48 (.branch 46 (.branch 45 (.leaf (44, .iconst 1, 1)) (.leaf (45, .iload_n 1, 1))) (.branch 47 (.leaf (46, .ishl, 1)) (.leaf (47, .ixor, 1)))) (.branch 52 (.branch 51 (.leaf (48, .putfield 322, 3)) (.leaf (51, .aload_n 0, 1))) (.branch 55 (.leaf (52, .invokevirtual 356, 3)) (.leaf (55, .ireturn, 1))))))
noncomputable def oX11_close : List dLf := dFl tX11_close
theorem ofX11_close : dFl tX11_close = oX11_close := rfl
set_option maxRecDepth 100000 in
theorem odX11_close : ∀ q ∈ oX11_close, decode cX11_close q.1 = .ok (q.2.1, q.2.2) := q_go qT_ok bbX11_close oX11_close 0 (by decide +kernel)
theorem dX11_close_0 : decode cX11_close 0 = .ok (.aload_n 0, 1) := d_by (d_at odX11_close ofX11_close 0) rfl
theorem dX11_close_1 : decode cX11_close 1 = .ok (.iload_n 1, 1) := d_by (d_at odX11_close ofX11_close 1) rfl
theorem dX11_close_2 : decode cX11_close 2 = .ok (.invokevirtual 230, 3) := d_by (d_at odX11_close ofX11_close 2) rfl
theorem dX11_close_5 : decode cX11_close 5 = .ok (.ifCond .ne 9, 3) := d_by (d_at odX11_close ofX11_close 5) rfl
theorem dX11_close_8 : decode cX11_close 8 = .ok (.aload_n 0, 1) := d_by (d_at odX11_close ofX11_close 8) rfl
theorem dX11_close_9 : decode cX11_close 9 = .ok (.iconst 1, 1) := d_by (d_at odX11_close ofX11_close 9) rfl
theorem dX11_close_10 : decode cX11_close 10 = .ok (.invokevirtual 347, 3) := d_by (d_at odX11_close ofX11_close 10) rfl
theorem dX11_close_13 : decode cX11_close 13 = .ok (.ireturn, 1) := d_by (d_at odX11_close ofX11_close 13) rfl
theorem dX11_close_14 : decode cX11_close 14 = .ok (.aload_n 0, 1) := d_by (d_at odX11_close ofX11_close 14) rfl
theorem dX11_close_15 : decode cX11_close 15 = .ok (.getfield 42, 3) := d_by (d_at odX11_close ofX11_close 15) rfl
theorem dX11_close_18 : decode cX11_close 18 = .ok (.iload_n 1, 1) := d_by (d_at odX11_close ofX11_close 18) rfl
theorem dX11_close_19 : decode cX11_close 19 = .ok (.invokevirtual 210, 3) := d_by (d_at odX11_close ofX11_close 19) rfl
theorem dX11_close_22 : decode cX11_close 22 = .ok (.iload_n 2, 1) := d_by (d_at odX11_close ofX11_close 22) rfl
theorem dX11_close_23 : decode cX11_close 23 = .ok (.if_icmp .ne 9, 3) := d_by (d_at odX11_close ofX11_close 23) rfl
theorem dX11_close_26 : decode cX11_close 26 = .ok (.aload_n 0, 1) := d_by (d_at odX11_close ofX11_close 26) rfl
theorem dX11_close_27 : decode cX11_close 27 = .ok (.iconst 5, 1) := d_by (d_at odX11_close ofX11_close 27) rfl
theorem dX11_close_28 : decode cX11_close 28 = .ok (.invokevirtual 347, 3) := d_by (d_at odX11_close ofX11_close 28) rfl
theorem dX11_close_31 : decode cX11_close 31 = .ok (.ireturn, 1) := d_by (d_at odX11_close ofX11_close 31) rfl
theorem dX11_close_32 : decode cX11_close 32 = .ok (.aload_n 0, 1) := d_by (d_at odX11_close ofX11_close 32) rfl
theorem dX11_close_33 : decode cX11_close 33 = .ok (.invokevirtual 341, 3) := d_by (d_at odX11_close ofX11_close 33) rfl
theorem dX11_close_36 : decode cX11_close 36 = .ok (.aload_n 0, 1) := d_by (d_at odX11_close ofX11_close 36) rfl
theorem dX11_close_37 : decode cX11_close 37 = .ok (.getfield 42, 3) := d_by (d_at odX11_close ofX11_close 37) rfl
theorem dX11_close_40 : decode cX11_close 40 = .ok (.dup, 1) := d_by (d_at odX11_close ofX11_close 40) rfl
theorem dX11_close_41 : decode cX11_close 41 = .ok (.getfield 322, 3) := d_by (d_at odX11_close ofX11_close 41) rfl
theorem dX11_close_44 : decode cX11_close 44 = .ok (.iconst 1, 1) := d_by (d_at odX11_close ofX11_close 44) rfl
theorem dX11_close_45 : decode cX11_close 45 = .ok (.iload_n 1, 1) := d_by (d_at odX11_close ofX11_close 45) rfl
theorem dX11_close_46 : decode cX11_close 46 = .ok (.ishl, 1) := d_by (d_at odX11_close ofX11_close 46) rfl
theorem dX11_close_47 : decode cX11_close 47 = .ok (.ixor, 1) := d_by (d_at odX11_close ofX11_close 47) rfl
theorem dX11_close_48 : decode cX11_close 48 = .ok (.putfield 322, 3) := d_by (d_at odX11_close ofX11_close 48) rfl
theorem dX11_close_51 : decode cX11_close 51 = .ok (.aload_n 0, 1) := d_by (d_at odX11_close ofX11_close 51) rfl
theorem dX11_close_52 : decode cX11_close 52 = .ok (.invokevirtual 356, 3) := d_by (d_at odX11_close ofX11_close 52) rfl
theorem dX11_close_55 : decode cX11_close 55 = .ok (.ireturn, 1) := d_by (d_at odX11_close ofX11_close 55) rfl
set_option maxRecDepth 100000 in
def bX11_undo : List Nat := [42, 180, 0, 85, 154, 0, 10, 42, 16, 6, 182, 1, 91, 172, 42, 180, 0, 42, 42, 180, 0, 78, 42, 180, 0, 82, 50, 182, 1, 103, 42, 42, 180, 0, 82, 16, 12, 96, 4, 100, 16, 12, 112, 181, 0, 82, 42, 89, 180, 0, 85, 4, 100, 181, 0, 85, 42, 182, 1, 100, 172]
set_option maxRecDepth 100000 in
theorem bbX11_undo : cX11_undo.data.toList.map UInt8.toNat = bX11_undo := by decide +kernel
set_option maxRecDepth 100000 in
def tX11_undo : Lean.RArray dLf := .branch 32 (.branch 15 (.branch 8 (.branch 4 (.branch 1 (.leaf (0, .aload_n 0, 1)) (.leaf (1, .getfield 85, 3))) (.branch 7 (.leaf (4, .ifCond .ne 10, 3)) (.leaf (7, .aload_n 0, 1)))) (.branch 13 (.branch 10 (.leaf (8, .bipush 6, 2)) (.leaf (10, .invokevirtual 347, 3))) (.branch 14 (.leaf (13, .ireturn, 1)) (.leaf (14, .aload_n 0, 1))))) (.branch 23 (.branch 19 (.branch 18 (.leaf (15, .getfield 42, 3)) (.leaf (18, .aload_n 0, 1))) (.branch 22 (.leaf (19, .getfield 78, 3)) (.leaf (22, .aload_n 0, 1)))) (.branch 27 (.branch 26 (.leaf (23, .getfield 82, 3)) (.leaf (26, .aaload, 1))) (.branch 30 (.leaf (27, .invokevirtual 359, 3)) (.branch 31 (.leaf (30, .aload_n 0, 1)) (.leaf (31, .aload_n 0, 1))))))) (.branch 46 (.branch 39 (.branch 37 (.branch 35 (.leaf (32, .getfield 82, 3)) (.leaf (35, .bipush 12, 2))) (.branch 38 (.leaf (37, .iadd, 1)) (.leaf (38, .iconst 1, 1)))) (.branch 42 (.branch 40 (.leaf (39, .isub, 1)) (.leaf (40, .bipush 12, 2))) (.branch 43 (.leaf (42, .irem, 1)) (.leaf (43, .putfield 82, 3))))) (.branch 52 (.branch 48 (.branch 47 (.leaf (46, .aload_n 0, 1)) (.leaf (47, .dup, 1))) (.branch 51 (.leaf (48, .getfield 85, 3)) (.leaf (51, .iconst 1, 1)))) (.branch 56 (.branch 53 (.leaf (52, .isub, 1)) (.leaf (53, .putfield 85, 3))) (.branch 57 (.leaf (56, .aload_n 0, 1)) (.branch 60 (.leaf (57, .invokevirtual 356, 3)) (.leaf (60, .ireturn, 1)))))))
noncomputable def oX11_undo : List dLf := dFl tX11_undo
theorem ofX11_undo : dFl tX11_undo = oX11_undo := rfl
set_option maxRecDepth 100000 in
theorem odX11_undo : ∀ q ∈ oX11_undo, decode cX11_undo q.1 = .ok (q.2.1, q.2.2) := q_go qT_ok bbX11_undo oX11_undo 0 (by decide +kernel)
theorem dX11_undo_0 : decode cX11_undo 0 = .ok (.aload_n 0, 1) := d_by (d_at odX11_undo ofX11_undo 0) rfl
theorem dX11_undo_1 : decode cX11_undo 1 = .ok (.getfield 85, 3) := d_by (d_at odX11_undo ofX11_undo 1) rfl
theorem dX11_undo_4 : decode cX11_undo 4 = .ok (.ifCond .ne 10, 3) := d_by (d_at odX11_undo ofX11_undo 4) rfl
theorem dX11_undo_7 : decode cX11_undo 7 = .ok (.aload_n 0, 1) := d_by (d_at odX11_undo ofX11_undo 7) rfl
theorem dX11_undo_8 : decode cX11_undo 8 = .ok (.bipush 6, 2) := d_by (d_at odX11_undo ofX11_undo 8) rfl
theorem dX11_undo_10 : decode cX11_undo 10 = .ok (.invokevirtual 347, 3) := d_by (d_at odX11_undo ofX11_undo 10) rfl
theorem dX11_undo_13 : decode cX11_undo 13 = .ok (.ireturn, 1) := d_by (d_at odX11_undo ofX11_undo 13) rfl
theorem dX11_undo_14 : decode cX11_undo 14 = .ok (.aload_n 0, 1) := d_by (d_at odX11_undo ofX11_undo 14) rfl
theorem dX11_undo_15 : decode cX11_undo 15 = .ok (.getfield 42, 3) := d_by (d_at odX11_undo ofX11_undo 15) rfl
theorem dX11_undo_18 : decode cX11_undo 18 = .ok (.aload_n 0, 1) := d_by (d_at odX11_undo ofX11_undo 18) rfl
theorem dX11_undo_19 : decode cX11_undo 19 = .ok (.getfield 78, 3) := d_by (d_at odX11_undo ofX11_undo 19) rfl
theorem dX11_undo_22 : decode cX11_undo 22 = .ok (.aload_n 0, 1) := d_by (d_at odX11_undo ofX11_undo 22) rfl
theorem dX11_undo_23 : decode cX11_undo 23 = .ok (.getfield 82, 3) := d_by (d_at odX11_undo ofX11_undo 23) rfl
theorem dX11_undo_26 : decode cX11_undo 26 = .ok (.aaload, 1) := d_by (d_at odX11_undo ofX11_undo 26) rfl
theorem dX11_undo_27 : decode cX11_undo 27 = .ok (.invokevirtual 359, 3) := d_by (d_at odX11_undo ofX11_undo 27) rfl
theorem dX11_undo_30 : decode cX11_undo 30 = .ok (.aload_n 0, 1) := d_by (d_at odX11_undo ofX11_undo 30) rfl
theorem dX11_undo_31 : decode cX11_undo 31 = .ok (.aload_n 0, 1) := d_by (d_at odX11_undo ofX11_undo 31) rfl
theorem dX11_undo_32 : decode cX11_undo 32 = .ok (.getfield 82, 3) := d_by (d_at odX11_undo ofX11_undo 32) rfl
theorem dX11_undo_35 : decode cX11_undo 35 = .ok (.bipush 12, 2) := d_by (d_at odX11_undo ofX11_undo 35) rfl
theorem dX11_undo_37 : decode cX11_undo 37 = .ok (.iadd, 1) := d_by (d_at odX11_undo ofX11_undo 37) rfl
theorem dX11_undo_38 : decode cX11_undo 38 = .ok (.iconst 1, 1) := d_by (d_at odX11_undo ofX11_undo 38) rfl
theorem dX11_undo_39 : decode cX11_undo 39 = .ok (.isub, 1) := d_by (d_at odX11_undo ofX11_undo 39) rfl
theorem dX11_undo_40 : decode cX11_undo 40 = .ok (.bipush 12, 2) := d_by (d_at odX11_undo ofX11_undo 40) rfl
theorem dX11_undo_42 : decode cX11_undo 42 = .ok (.irem, 1) := d_by (d_at odX11_undo ofX11_undo 42) rfl
theorem dX11_undo_43 : decode cX11_undo 43 = .ok (.putfield 82, 3) := d_by (d_at odX11_undo ofX11_undo 43) rfl
theorem dX11_undo_46 : decode cX11_undo 46 = .ok (.aload_n 0, 1) := d_by (d_at odX11_undo ofX11_undo 46) rfl
theorem dX11_undo_47 : decode cX11_undo 47 = .ok (.dup, 1) := d_by (d_at odX11_undo ofX11_undo 47) rfl
theorem dX11_undo_48 : decode cX11_undo 48 = .ok (.getfield 85, 3) := d_by (d_at odX11_undo ofX11_undo 48) rfl
theorem dX11_undo_51 : decode cX11_undo 51 = .ok (.iconst 1, 1) := d_by (d_at odX11_undo ofX11_undo 51) rfl
theorem dX11_undo_52 : decode cX11_undo 52 = .ok (.isub, 1) := d_by (d_at odX11_undo ofX11_undo 52) rfl
theorem dX11_undo_53 : decode cX11_undo 53 = .ok (.putfield 85, 3) := d_by (d_at odX11_undo ofX11_undo 53) rfl
theorem dX11_undo_56 : decode cX11_undo 56 = .ok (.aload_n 0, 1) := d_by (d_at odX11_undo ofX11_undo 56) rfl
theorem dX11_undo_57 : decode cX11_undo 57 = .ok (.invokevirtual 356, 3) := d_by (d_at odX11_undo ofX11_undo 57) rfl
theorem dX11_undo_60 : decode cX11_undo 60 = .ok (.ireturn, 1) := d_by (d_at odX11_undo ofX11_undo 60) rfl
set_option maxRecDepth 100000 in
def bX11_image : List Nat := [42, 182, 0, 222, 154, 0, 9, 42, 4, 182, 0, 98, 172, 42, 180, 0, 91, 6, 161, 0, 9, 42, 6, 182, 0, 98, 172, 42, 180, 0, 88, 42, 180, 0, 91, 50, 42, 180, 0, 42, 182, 1, 103, 42, 89, 180, 0, 91, 4, 96, 181, 0, 91, 42, 42, 180, 0, 91, 4, 100, 182, 0, 112, 172]
set_option maxRecDepth 100000 in
theorem bbX11_image : cX11_image.data.toList.map UInt8.toNat = bX11_image := by decide +kernel
set_option maxRecDepth 100000 in
def tX11_image : Lean.RArray dLf := .branch 32 (.branch 17 (.branch 8 (.branch 4 (.branch 1 (.leaf (0, .aload_n 0, 1)) (.leaf (1, .invokevirtual 222, 3))) (.branch 7 (.leaf (4, .ifCond .ne 9, 3)) (.leaf (7, .aload_n 0, 1)))) (.branch 12 (.branch 9 (.leaf (8, .iconst 1, 1)) (.leaf (9, .invokevirtual 98, 3))) (.branch 13 (.leaf (12, .ireturn, 1)) (.branch 14 (.leaf (13, .aload_n 0, 1)) (.leaf (14, .getfield 91, 3)))))) (.branch 23 (.branch 21 (.branch 18 (.leaf (17, .iconst 3, 1)) (.leaf (18, .if_icmp .lt 9, 3))) (.branch 22 (.leaf (21, .aload_n 0, 1)) (.leaf (22, .iconst 3, 1)))) (.branch 27 (.branch 26 (.leaf (23, .invokevirtual 98, 3)) (.leaf (26, .ireturn, 1))) (.branch 28 (.leaf (27, .aload_n 0, 1)) (.branch 31 (.leaf (28, .getfield 88, 3)) (.leaf (31, .aload_n 0, 1))))))) (.branch 49 (.branch 40 (.branch 36 (.branch 35 (.leaf (32, .getfield 91, 3)) (.leaf (35, .aaload, 1))) (.branch 37 (.leaf (36, .aload_n 0, 1)) (.leaf (37, .getfield 42, 3)))) (.branch 44 (.branch 43 (.leaf (40, .invokevirtual 359, 3)) (.leaf (43, .aload_n 0, 1))) (.branch 45 (.leaf (44, .dup, 1)) (.branch 48 (.leaf (45, .getfield 91, 3)) (.leaf (48, .iconst 1, 1)))))) (.branch 55 (.branch 53 (.branch 50 (.leaf (49, .iadd, 1)) (.leaf (50, .putfield 91, 3))) (.branch 54 (.leaf (53, .aload_n 0, 1)) (.leaf (54, .aload_n 0, 1)))) (.branch 59 (.branch 58 (.leaf (55, .getfield 91, 3)) (.leaf (58, .iconst 1, 1))) (.branch 60 (.leaf (59, .isub, 1)) (.branch 63 (.leaf (60, .invokevirtual 112, 3)) (.leaf (63, .ireturn, 1)))))))
noncomputable def oX11_image : List dLf := dFl tX11_image
theorem ofX11_image : dFl tX11_image = oX11_image := rfl
set_option maxRecDepth 100000 in
theorem odX11_image : ∀ q ∈ oX11_image, decode cX11_image q.1 = .ok (q.2.1, q.2.2) := q_go qT_ok bbX11_image oX11_image 0 (by decide +kernel)
theorem dX11_image_0 : decode cX11_image 0 = .ok (.aload_n 0, 1) := d_by (d_at odX11_image ofX11_image 0) rfl
theorem dX11_image_1 : decode cX11_image 1 = .ok (.invokevirtual 222, 3) := d_by (d_at odX11_image ofX11_image 1) rfl
theorem dX11_image_4 : decode cX11_image 4 = .ok (.ifCond .ne 9, 3) := d_by (d_at odX11_image ofX11_image 4) rfl
theorem dX11_image_7 : decode cX11_image 7 = .ok (.aload_n 0, 1) := d_by (d_at odX11_image ofX11_image 7) rfl
theorem dX11_image_8 : decode cX11_image 8 = .ok (.iconst 1, 1) := d_by (d_at odX11_image ofX11_image 8) rfl
theorem dX11_image_9 : decode cX11_image 9 = .ok (.invokevirtual 98, 3) := d_by (d_at odX11_image ofX11_image 9) rfl
theorem dX11_image_12 : decode cX11_image 12 = .ok (.ireturn, 1) := d_by (d_at odX11_image ofX11_image 12) rfl
theorem dX11_image_13 : decode cX11_image 13 = .ok (.aload_n 0, 1) := d_by (d_at odX11_image ofX11_image 13) rfl
theorem dX11_image_14 : decode cX11_image 14 = .ok (.getfield 91, 3) := d_by (d_at odX11_image ofX11_image 14) rfl
theorem dX11_image_17 : decode cX11_image 17 = .ok (.iconst 3, 1) := d_by (d_at odX11_image ofX11_image 17) rfl
theorem dX11_image_18 : decode cX11_image 18 = .ok (.if_icmp .lt 9, 3) := d_by (d_at odX11_image ofX11_image 18) rfl
theorem dX11_image_21 : decode cX11_image 21 = .ok (.aload_n 0, 1) := d_by (d_at odX11_image ofX11_image 21) rfl
theorem dX11_image_22 : decode cX11_image 22 = .ok (.iconst 3, 1) := d_by (d_at odX11_image ofX11_image 22) rfl
theorem dX11_image_23 : decode cX11_image 23 = .ok (.invokevirtual 98, 3) := d_by (d_at odX11_image ofX11_image 23) rfl
theorem dX11_image_26 : decode cX11_image 26 = .ok (.ireturn, 1) := d_by (d_at odX11_image ofX11_image 26) rfl
theorem dX11_image_27 : decode cX11_image 27 = .ok (.aload_n 0, 1) := d_by (d_at odX11_image ofX11_image 27) rfl
theorem dX11_image_28 : decode cX11_image 28 = .ok (.getfield 88, 3) := d_by (d_at odX11_image ofX11_image 28) rfl
theorem dX11_image_31 : decode cX11_image 31 = .ok (.aload_n 0, 1) := d_by (d_at odX11_image ofX11_image 31) rfl
theorem dX11_image_32 : decode cX11_image 32 = .ok (.getfield 91, 3) := d_by (d_at odX11_image ofX11_image 32) rfl
theorem dX11_image_35 : decode cX11_image 35 = .ok (.aaload, 1) := d_by (d_at odX11_image ofX11_image 35) rfl
theorem dX11_image_36 : decode cX11_image 36 = .ok (.aload_n 0, 1) := d_by (d_at odX11_image ofX11_image 36) rfl
theorem dX11_image_37 : decode cX11_image 37 = .ok (.getfield 42, 3) := d_by (d_at odX11_image ofX11_image 37) rfl
theorem dX11_image_40 : decode cX11_image 40 = .ok (.invokevirtual 359, 3) := d_by (d_at odX11_image ofX11_image 40) rfl
theorem dX11_image_43 : decode cX11_image 43 = .ok (.aload_n 0, 1) := d_by (d_at odX11_image ofX11_image 43) rfl
theorem dX11_image_44 : decode cX11_image 44 = .ok (.dup, 1) := d_by (d_at odX11_image ofX11_image 44) rfl
theorem dX11_image_45 : decode cX11_image 45 = .ok (.getfield 91, 3) := d_by (d_at odX11_image ofX11_image 45) rfl
theorem dX11_image_48 : decode cX11_image 48 = .ok (.iconst 1, 1) := d_by (d_at odX11_image ofX11_image 48) rfl
theorem dX11_image_49 : decode cX11_image 49 = .ok (.iadd, 1) := d_by (d_at odX11_image ofX11_image 49) rfl
theorem dX11_image_50 : decode cX11_image 50 = .ok (.putfield 91, 3) := d_by (d_at odX11_image ofX11_image 50) rfl
theorem dX11_image_53 : decode cX11_image 53 = .ok (.aload_n 0, 1) := d_by (d_at odX11_image ofX11_image 53) rfl
theorem dX11_image_54 : decode cX11_image 54 = .ok (.aload_n 0, 1) := d_by (d_at odX11_image ofX11_image 54) rfl
theorem dX11_image_55 : decode cX11_image 55 = .ok (.getfield 91, 3) := d_by (d_at odX11_image ofX11_image 55) rfl
theorem dX11_image_58 : decode cX11_image 58 = .ok (.iconst 1, 1) := d_by (d_at odX11_image ofX11_image 58) rfl
theorem dX11_image_59 : decode cX11_image 59 = .ok (.isub, 1) := d_by (d_at odX11_image ofX11_image 59) rfl
theorem dX11_image_60 : decode cX11_image 60 = .ok (.invokevirtual 112, 3) := d_by (d_at odX11_image ofX11_image 60) rfl
theorem dX11_image_63 : decode cX11_image 63 = .ok (.ireturn, 1) := d_by (d_at odX11_image ofX11_image 63) rfl
set_option maxRecDepth 100000 in
def bX11_back : List Nat := [27, 155, 0, 11, 27, 42, 180, 0, 91, 161, 0, 9, 42, 4, 182, 1, 91, 172, 42, 180, 0, 42, 42, 180, 0, 88, 27, 50, 182, 1, 103, 42, 3, 181, 0, 85, 42, 182, 1, 100, 172]
set_option maxRecDepth 100000 in
theorem bbX11_back : cX11_back.data.toList.map UInt8.toNat = bX11_back := by decide +kernel
set_option maxRecDepth 100000 in
def tX11_back : Lean.RArray dLf := .branch 19 (.branch 9 (.branch 4 (.branch 1 (.leaf (0, .iload_n 1, 1)) (.leaf (1, .ifCond .lt 11, 3))) (.branch 5 (.leaf (4, .iload_n 1, 1)) (.branch 6 (.leaf (5, .aload_n 0, 1)) (.leaf (6, .getfield 91, 3))))) (.branch 14 (.branch 12 (.leaf (9, .if_icmp .lt 9, 3)) (.branch 13 (.leaf (12, .aload_n 0, 1)) (.leaf (13, .iconst 1, 1)))) (.branch 17 (.leaf (14, .invokevirtual 347, 3)) (.branch 18 (.leaf (17, .ireturn, 1)) (.leaf (18, .aload_n 0, 1)))))) (.branch 31 (.branch 26 (.branch 22 (.leaf (19, .getfield 42, 3)) (.branch 23 (.leaf (22, .aload_n 0, 1)) (.leaf (23, .getfield 88, 3)))) (.branch 27 (.leaf (26, .iload_n 1, 1)) (.branch 28 (.leaf (27, .aaload, 1)) (.leaf (28, .invokevirtual 359, 3))))) (.branch 36 (.branch 32 (.leaf (31, .aload_n 0, 1)) (.branch 33 (.leaf (32, .iconst 0, 1)) (.leaf (33, .putfield 85, 3)))) (.branch 37 (.leaf (36, .aload_n 0, 1)) (.branch 40 (.leaf (37, .invokevirtual 356, 3)) (.leaf (40, .ireturn, 1))))))
noncomputable def oX11_back : List dLf := dFl tX11_back
theorem ofX11_back : dFl tX11_back = oX11_back := rfl
set_option maxRecDepth 100000 in
theorem odX11_back : ∀ q ∈ oX11_back, decode cX11_back q.1 = .ok (q.2.1, q.2.2) := q_go qT_ok bbX11_back oX11_back 0 (by decide +kernel)
theorem dX11_back_0 : decode cX11_back 0 = .ok (.iload_n 1, 1) := d_by (d_at odX11_back ofX11_back 0) rfl
theorem dX11_back_1 : decode cX11_back 1 = .ok (.ifCond .lt 11, 3) := d_by (d_at odX11_back ofX11_back 1) rfl
theorem dX11_back_4 : decode cX11_back 4 = .ok (.iload_n 1, 1) := d_by (d_at odX11_back ofX11_back 4) rfl
theorem dX11_back_5 : decode cX11_back 5 = .ok (.aload_n 0, 1) := d_by (d_at odX11_back ofX11_back 5) rfl
theorem dX11_back_6 : decode cX11_back 6 = .ok (.getfield 91, 3) := d_by (d_at odX11_back ofX11_back 6) rfl
theorem dX11_back_9 : decode cX11_back 9 = .ok (.if_icmp .lt 9, 3) := d_by (d_at odX11_back ofX11_back 9) rfl
theorem dX11_back_12 : decode cX11_back 12 = .ok (.aload_n 0, 1) := d_by (d_at odX11_back ofX11_back 12) rfl
theorem dX11_back_13 : decode cX11_back 13 = .ok (.iconst 1, 1) := d_by (d_at odX11_back ofX11_back 13) rfl
theorem dX11_back_14 : decode cX11_back 14 = .ok (.invokevirtual 347, 3) := d_by (d_at odX11_back ofX11_back 14) rfl
theorem dX11_back_17 : decode cX11_back 17 = .ok (.ireturn, 1) := d_by (d_at odX11_back ofX11_back 17) rfl
theorem dX11_back_18 : decode cX11_back 18 = .ok (.aload_n 0, 1) := d_by (d_at odX11_back ofX11_back 18) rfl
theorem dX11_back_19 : decode cX11_back 19 = .ok (.getfield 42, 3) := d_by (d_at odX11_back ofX11_back 19) rfl
theorem dX11_back_22 : decode cX11_back 22 = .ok (.aload_n 0, 1) := d_by (d_at odX11_back ofX11_back 22) rfl
theorem dX11_back_23 : decode cX11_back 23 = .ok (.getfield 88, 3) := d_by (d_at odX11_back ofX11_back 23) rfl
theorem dX11_back_26 : decode cX11_back 26 = .ok (.iload_n 1, 1) := d_by (d_at odX11_back ofX11_back 26) rfl
theorem dX11_back_27 : decode cX11_back 27 = .ok (.aaload, 1) := d_by (d_at odX11_back ofX11_back 27) rfl
theorem dX11_back_28 : decode cX11_back 28 = .ok (.invokevirtual 359, 3) := d_by (d_at odX11_back ofX11_back 28) rfl
theorem dX11_back_31 : decode cX11_back 31 = .ok (.aload_n 0, 1) := d_by (d_at odX11_back ofX11_back 31) rfl
theorem dX11_back_32 : decode cX11_back 32 = .ok (.iconst 0, 1) := d_by (d_at odX11_back ofX11_back 32) rfl
theorem dX11_back_33 : decode cX11_back 33 = .ok (.putfield 85, 3) := d_by (d_at odX11_back ofX11_back 33) rfl
theorem dX11_back_36 : decode cX11_back 36 = .ok (.aload_n 0, 1) := d_by (d_at odX11_back ofX11_back 36) rfl
theorem dX11_back_37 : decode cX11_back 37 = .ok (.invokevirtual 356, 3) := d_by (d_at odX11_back ofX11_back 37) rfl
theorem dX11_back_40 : decode cX11_back 40 = .ok (.ireturn, 1) := d_by (d_at odX11_back ofX11_back 40) rfl
set_option maxRecDepth 100000 in
def bX11_led : List Nat := [27, 61, 3, 62, 29, 42, 180, 0, 23, 180, 0, 239, 162, 0, 33, 28, 155, 0, 29, 42, 180, 0, 42, 29, 182, 0, 242, 154, 0, 12, 28, 154, 0, 5, 29, 172, 132, 2, 255, 132, 3, 1, 167, 255, 218, 187, 1, 107, 89, 19, 1, 109, 183, 1, 111, 191]
set_option maxRecDepth 100000 in
theorem bbX11_led : cX11_led.data.toList.map UInt8.toNat = bX11_led := by decide +kernel
set_option maxRecDepth 100000 in
def tX11_led : Lean.RArray dLf := .branch 24 (.branch 9 (.branch 3 (.branch 1 (.leaf (0, .iload_n 1, 1)) (.branch 2 (.leaf (1, .istore_n 2, 1)) (.leaf (2, .iconst 0, 1)))) (.branch 5 (.branch 4 (.leaf (3, .istore_n 3, 1)) (.leaf (4, .iload_n 3, 1))) (.branch 6 (.leaf (5, .aload_n 0, 1)) (.leaf (6, .getfield 23, 3))))) (.branch 16 (.branch 12 (.leaf (9, .getfield 239, 3)) (.branch 15 (.leaf (12, .if_icmp .ge 33, 3)) (.leaf (15, .iload_n 2, 1)))) (.branch 20 (.branch 19 (.leaf (16, .ifCond .lt 29, 3)) (.leaf (19, .aload_n 0, 1))) (.branch 23 (.leaf (20, .getfield 42, 3)) (.leaf (23, .iload_n 3, 1)))))) (.branch 39 (.branch 31 (.branch 27 (.leaf (24, .invokevirtual 242, 3)) (.branch 30 (.leaf (27, .ifCond .ne 12, 3)) (.leaf (30, .iload_n 2, 1)))) (.branch 35 (.branch 34 (.leaf (31, .ifCond .ne 5, 3)) (.leaf (34, .iload_n 3, 1))) (.branch 36 (.leaf (35, .ireturn, 1)) (.leaf (36, .iinc 2 (-1), 3))))) (.branch 48 (.branch 42 (.leaf (39, .iinc 3 1, 3)) (.branch 45 (.leaf (42, .goto (-38), 3)) (.leaf (45, .new 363, 3)))) (.branch 52 (.branch 49 (.leaf (48, .dup, 1)) (.leaf (49, .ldc_w 365, 3))) (.branch 55 (.leaf (52, .invokespecial 367, 3)) (.leaf (55, .athrow, 1))))))
noncomputable def oX11_led : List dLf := dFl tX11_led
theorem ofX11_led : dFl tX11_led = oX11_led := rfl
set_option maxRecDepth 100000 in
theorem odX11_led : ∀ q ∈ oX11_led, decode cX11_led q.1 = .ok (q.2.1, q.2.2) := q_go qT_ok bbX11_led oX11_led 0 (by decide +kernel)
theorem dX11_led_0 : decode cX11_led 0 = .ok (.iload_n 1, 1) := d_by (d_at odX11_led ofX11_led 0) rfl
theorem dX11_led_1 : decode cX11_led 1 = .ok (.istore_n 2, 1) := d_by (d_at odX11_led ofX11_led 1) rfl
theorem dX11_led_2 : decode cX11_led 2 = .ok (.iconst 0, 1) := d_by (d_at odX11_led ofX11_led 2) rfl
theorem dX11_led_3 : decode cX11_led 3 = .ok (.istore_n 3, 1) := d_by (d_at odX11_led ofX11_led 3) rfl
theorem dX11_led_4 : decode cX11_led 4 = .ok (.iload_n 3, 1) := d_by (d_at odX11_led ofX11_led 4) rfl
theorem dX11_led_5 : decode cX11_led 5 = .ok (.aload_n 0, 1) := d_by (d_at odX11_led ofX11_led 5) rfl
theorem dX11_led_6 : decode cX11_led 6 = .ok (.getfield 23, 3) := d_by (d_at odX11_led ofX11_led 6) rfl
theorem dX11_led_9 : decode cX11_led 9 = .ok (.getfield 239, 3) := d_by (d_at odX11_led ofX11_led 9) rfl
theorem dX11_led_12 : decode cX11_led 12 = .ok (.if_icmp .ge 33, 3) := d_by (d_at odX11_led ofX11_led 12) rfl
theorem dX11_led_15 : decode cX11_led 15 = .ok (.iload_n 2, 1) := d_by (d_at odX11_led ofX11_led 15) rfl
theorem dX11_led_16 : decode cX11_led 16 = .ok (.ifCond .lt 29, 3) := d_by (d_at odX11_led ofX11_led 16) rfl
theorem dX11_led_19 : decode cX11_led 19 = .ok (.aload_n 0, 1) := d_by (d_at odX11_led ofX11_led 19) rfl
theorem dX11_led_20 : decode cX11_led 20 = .ok (.getfield 42, 3) := d_by (d_at odX11_led ofX11_led 20) rfl
theorem dX11_led_23 : decode cX11_led 23 = .ok (.iload_n 3, 1) := d_by (d_at odX11_led ofX11_led 23) rfl
theorem dX11_led_24 : decode cX11_led 24 = .ok (.invokevirtual 242, 3) := d_by (d_at odX11_led ofX11_led 24) rfl
theorem dX11_led_27 : decode cX11_led 27 = .ok (.ifCond .ne 12, 3) := d_by (d_at odX11_led ofX11_led 27) rfl
theorem dX11_led_30 : decode cX11_led 30 = .ok (.iload_n 2, 1) := d_by (d_at odX11_led ofX11_led 30) rfl
theorem dX11_led_31 : decode cX11_led 31 = .ok (.ifCond .ne 5, 3) := d_by (d_at odX11_led ofX11_led 31) rfl
theorem dX11_led_34 : decode cX11_led 34 = .ok (.iload_n 3, 1) := d_by (d_at odX11_led ofX11_led 34) rfl
theorem dX11_led_35 : decode cX11_led 35 = .ok (.ireturn, 1) := d_by (d_at odX11_led ofX11_led 35) rfl
theorem dX11_led_36 : decode cX11_led 36 = .ok (.iinc 2 (-1), 3) := d_by (d_at odX11_led ofX11_led 36) rfl
theorem dX11_led_39 : decode cX11_led 39 = .ok (.iinc 3 1, 3) := d_by (d_at odX11_led ofX11_led 39) rfl
theorem dX11_led_42 : decode cX11_led 42 = .ok (.goto (-38), 3) := d_by (d_at odX11_led ofX11_led 42) rfl
theorem dX11_led_45 : decode cX11_led 45 = .ok (.new 363, 3) := d_by (d_at odX11_led ofX11_led 45) rfl
theorem dX11_led_48 : decode cX11_led 48 = .ok (.dup, 1) := d_by (d_at odX11_led ofX11_led 48) rfl
theorem dX11_led_49 : decode cX11_led 49 = .ok (.ldc_w 365, 3) := d_by (d_at odX11_led ofX11_led 49) rfl
theorem dX11_led_52 : decode cX11_led 52 = .ok (.invokespecial 367, 3) := d_by (d_at odX11_led ofX11_led 52) rfl
theorem dX11_led_55 : decode cX11_led 55 = .ok (.athrow, 1) := d_by (d_at odX11_led ofX11_led 55) rfl
set_option maxRecDepth 100000 in
def bX11_size : List Nat := [27, 170, 0, 0, 0, 0, 0, 162, 0, 0, 0, 0, 0, 0, 0, 12, 0, 0, 0, 67, 0, 0, 0, 75, 0, 0, 0, 83, 0, 0, 0, 91, 0, 0, 0, 99, 0, 0, 0, 107, 0, 0, 0, 115, 0, 0, 0, 123, 0, 0, 0, 131, 0, 0, 0, 139, 0, 0, 0, 147, 0, 0, 0, 152, 0, 0, 0, 157, 42, 180, 0, 23, 180, 1, 94, 172, 42, 180, 0, 23, 180, 1, 114, 172, 42, 180, 0, 23, 180, 1, 117, 172, 42, 180, 0, 23, 180, 1, 120, 172, 42, 180, 0, 23, 180, 0, 109, 172, 42, 180, 0, 23, 180, 1, 123, 172, 42, 180, 0, 23, 180, 1, 126, 172, 42, 180, 0, 23, 180, 0, 239, 172, 42, 180, 0, 23, 180, 1, 129, 172, 42, 180, 0, 42, 180, 0, 180, 172, 42, 180, 0, 85, 172, 42, 180, 0, 91, 172, 42, 180, 0, 13, 172, 2, 172]
set_option maxRecDepth 100000 in
theorem bbX11_size : cX11_size.data.toList.map UInt8.toNat = bX11_size := by decide +kernel
theorem eX11_size_1 : decode cX11_size 1 = .ok (.tableswitch 162 0 12 #[67, 75, 83, 91, 99, 107, 115, 123, 131, 139, 147, 152, 157], 67) := by decide +kernel
set_option maxRecDepth 100000 in
def oX11_sizes0 : List dLf := [(0, .iload_n 1, 1)]
set_option maxRecDepth 100000 in
theorem odX11_sizes0 : ∀ q ∈ oX11_sizes0, decode cX11_size q.1 = .ok (q.2.1, q.2.2) := q_go qT_ok bbX11_size oX11_sizes0 0 (by decide +kernel)
set_option maxRecDepth 100000 in
def oX11_sizes2 : List dLf := [(68, .aload_n 0, 1), (69, .getfield 23, 3), (72, .getfield 350, 3), (75, .ireturn, 1), (76, .aload_n 0, 1), (77, .getfield 23, 3), (80, .getfield 370, 3), (83, .ireturn, 1), (84, .aload_n 0, 1), (85, .getfield 23, 3), (88, .getfield 373, 3), (91, .ireturn, 1), (92, .aload_n 0, 1), (93, .getfield 23, 3), (96, .getfield 376, 3), (99, .ireturn, 1), (100, .aload_n 0, 1), (101, .getfield 23, 3), (104, .getfield 109, 3), (107, .ireturn, 1), (108, .aload_n 0, 1), (109, .getfield 23, 3), (112, .getfield 379, 3), (115, .ireturn, 1), (116, .aload_n 0, 1), (117, .getfield 23, 3), (120, .getfield 382, 3), (123, .ireturn, 1), (124, .aload_n 0, 1), (125, .getfield 23, 3), (128, .getfield 239, 3), (131, .ireturn, 1), (132, .aload_n 0, 1), (133, .getfield 23, 3), (136, .getfield 385, 3), (139, .ireturn, 1), (140, .aload_n 0, 1), (141, .getfield 42, 3), (144, .getfield 180, 3), (147, .ireturn, 1), (148, .aload_n 0, 1), (149, .getfield 85, 3), (152, .ireturn, 1), (153, .aload_n 0, 1), (154, .getfield 91, 3), (157, .ireturn, 1), (158, .aload_n 0, 1), (159, .getfield 13, 3), (162, .ireturn, 1), (163, .iconst (-1), 1), (164, .ireturn, 1)]
set_option maxRecDepth 100000 in
theorem odX11_sizes2 : ∀ q ∈ oX11_sizes2, decode cX11_size q.1 = .ok (q.2.1, q.2.2) := q_go qT_ok bbX11_size oX11_sizes2 68 (by decide +kernel)
set_option maxRecDepth 100000 in
def oX11_size : List dLf := [(0, .iload_n 1, 1), (1, .tableswitch 162 0 12 #[67, 75, 83, 91, 99, 107, 115, 123, 131, 139, 147, 152, 157], 67), (68, .aload_n 0, 1), (69, .getfield 23, 3), (72, .getfield 350, 3), (75, .ireturn, 1), (76, .aload_n 0, 1), (77, .getfield 23, 3), (80, .getfield 370, 3), (83, .ireturn, 1), (84, .aload_n 0, 1), (85, .getfield 23, 3), (88, .getfield 373, 3), (91, .ireturn, 1), (92, .aload_n 0, 1), (93, .getfield 23, 3), (96, .getfield 376, 3), (99, .ireturn, 1), (100, .aload_n 0, 1), (101, .getfield 23, 3), (104, .getfield 109, 3), (107, .ireturn, 1), (108, .aload_n 0, 1), (109, .getfield 23, 3), (112, .getfield 379, 3), (115, .ireturn, 1), (116, .aload_n 0, 1), (117, .getfield 23, 3), (120, .getfield 382, 3), (123, .ireturn, 1), (124, .aload_n 0, 1), (125, .getfield 23, 3), (128, .getfield 239, 3), (131, .ireturn, 1), (132, .aload_n 0, 1), (133, .getfield 23, 3), (136, .getfield 385, 3), (139, .ireturn, 1), (140, .aload_n 0, 1), (141, .getfield 42, 3), (144, .getfield 180, 3), (147, .ireturn, 1), (148, .aload_n 0, 1), (149, .getfield 85, 3), (152, .ireturn, 1), (153, .aload_n 0, 1), (154, .getfield 91, 3), (157, .ireturn, 1), (158, .aload_n 0, 1), (159, .getfield 13, 3), (162, .ireturn, 1), (163, .iconst (-1), 1), (164, .ireturn, 1)]
set_option maxRecDepth 100000 in
theorem odX11_size : ∀ q ∈ oX11_size, decode cX11_size q.1 = .ok (q.2.1, q.2.2) := by
  have e : oX11_size = oX11_sizes0 ++ ([(1, .tableswitch 162 0 12 #[67, 75, 83, 91, 99, 107, 115, 123, 131, 139, 147, 152, 157], 67)] ++ (oX11_sizes2)) := rfl
  rw [e]
  exact List.forall_mem_append.mpr ⟨odX11_sizes0, List.forall_mem_append.mpr ⟨(List.forall_mem_singleton.mpr eX11_size_1), odX11_sizes2⟩⟩
set_option maxRecDepth 100000 in
def tX11_size : Lean.RArray dLf := .branch 116 (.branch 91 (.branch 76 (.branch 69 (.branch 1 (.leaf (0, .iload_n 1, 1)) (.branch 68 (.leaf (1, .tableswitch 162 0 12 #[67, 75, 83, 91, 99, 107, 115, 123, 131, 139, 147, 152, 157], 67)) (.leaf (68, .aload_n 0, 1)))) (.branch 72 (.leaf (69, .getfield 23, 3)) (.branch 75 (.leaf (72, .getfield 350, 3)) (.leaf (75, .ireturn, 1))))) (.branch 83 (.branch 77 (.leaf (76, .aload_n 0, 1)) (.branch 80 (.leaf (77, .getfield 23, 3)) (.leaf (80, .getfield 370, 3)))) (.branch 85 (.branch 84 (.leaf (83, .ireturn, 1)) (.leaf (84, .aload_n 0, 1))) (.branch 88 (.leaf (85, .getfield 23, 3)) (.leaf (88, .getfield 373, 3)))))) (.branch 101 (.branch 96 (.branch 92 (.leaf (91, .ireturn, 1)) (.branch 93 (.leaf (92, .aload_n 0, 1)) (.leaf (93, .getfield 23, 3)))) (.branch 99 (.leaf (96, .getfield 376, 3)) (.branch 100 (.leaf (99, .ireturn, 1)) (.leaf (100, .aload_n 0, 1))))) (.branch 108 (.branch 104 (.leaf (101, .getfield 23, 3)) (.branch 107 (.leaf (104, .getfield 109, 3)) (.leaf (107, .ireturn, 1)))) (.branch 112 (.branch 109 (.leaf (108, .aload_n 0, 1)) (.leaf (109, .getfield 23, 3))) (.branch 115 (.leaf (112, .getfield 379, 3)) (.leaf (115, .ireturn, 1))))))) (.branch 141 (.branch 128 (.branch 123 (.branch 117 (.leaf (116, .aload_n 0, 1)) (.branch 120 (.leaf (117, .getfield 23, 3)) (.leaf (120, .getfield 382, 3)))) (.branch 124 (.leaf (123, .ireturn, 1)) (.branch 125 (.leaf (124, .aload_n 0, 1)) (.leaf (125, .getfield 23, 3))))) (.branch 133 (.branch 131 (.leaf (128, .getfield 239, 3)) (.branch 132 (.leaf (131, .ireturn, 1)) (.leaf (132, .aload_n 0, 1)))) (.branch 139 (.branch 136 (.leaf (133, .getfield 23, 3)) (.leaf (136, .getfield 385, 3))) (.branch 140 (.leaf (139, .ireturn, 1)) (.leaf (140, .aload_n 0, 1)))))) (.branch 154 (.branch 148 (.branch 144 (.leaf (141, .getfield 42, 3)) (.branch 147 (.leaf (144, .getfield 180, 3)) (.leaf (147, .ireturn, 1)))) (.branch 152 (.branch 149 (.leaf (148, .aload_n 0, 1)) (.leaf (149, .getfield 85, 3))) (.branch 153 (.leaf (152, .ireturn, 1)) (.leaf (153, .aload_n 0, 1))))) (.branch 159 (.branch 157 (.leaf (154, .getfield 91, 3)) (.branch 158 (.leaf (157, .ireturn, 1)) (.leaf (158, .aload_n 0, 1)))) (.branch 163 (.branch 162 (.leaf (159, .getfield 13, 3)) (.leaf (162, .ireturn, 1))) (.branch 164 (.leaf (163, .iconst (-1), 1)) (.leaf (164, .ireturn, 1)))))))
set_option maxRecDepth 100000 in
theorem ofX11_size : dFl tX11_size = oX11_size := rfl
set_option maxRecDepth 100000 in
def bX11_trouble : List Nat := [42, 180, 0, 17, 172]
set_option maxRecDepth 100000 in
theorem bbX11_trouble : cX11_trouble.data.toList.map UInt8.toNat = bX11_trouble := by decide +kernel
set_option maxRecDepth 100000 in
def tX11_trouble : Lean.RArray dLf := .branch 1 (.leaf (0, .aload_n 0, 1)) (.branch 4 (.leaf (1, .getfield 17, 3)) (.leaf (4, .ireturn, 1)))
noncomputable def oX11_trouble : List dLf := dFl tX11_trouble
theorem ofX11_trouble : dFl tX11_trouble = oX11_trouble := rfl
set_option maxRecDepth 100000 in
theorem odX11_trouble : ∀ q ∈ oX11_trouble, decode cX11_trouble q.1 = .ok (q.2.1, q.2.2) := q_go qT_ok bbX11_trouble oX11_trouble 0 (by decide +kernel)
set_option maxRecDepth 100000 in
def bX11_granted : List Nat := [42, 3, 181, 0, 17, 27, 172]
set_option maxRecDepth 100000 in
theorem bbX11_granted : cX11_granted.data.toList.map UInt8.toNat = bX11_granted := by decide +kernel
set_option maxRecDepth 100000 in
def tX11_granted : Lean.RArray dLf := .branch 2 (.branch 1 (.leaf (0, .aload_n 0, 1)) (.leaf (1, .iconst 0, 1))) (.branch 5 (.leaf (2, .putfield 17, 3)) (.branch 6 (.leaf (5, .iload_n 1, 1)) (.leaf (6, .ireturn, 1))))
noncomputable def oX11_granted : List dLf := dFl tX11_granted
theorem ofX11_granted : dFl tX11_granted = oX11_granted := rfl
set_option maxRecDepth 100000 in
theorem odX11_granted : ∀ q ∈ oX11_granted, decode cX11_granted q.1 = .ok (q.2.1, q.2.2) := q_go qT_ok bbX11_granted oX11_granted 0 (by decide +kernel)
theorem dX11_granted_0 : decode cX11_granted 0 = .ok (.aload_n 0, 1) := d_by (d_at odX11_granted ofX11_granted 0) rfl
theorem dX11_granted_1 : decode cX11_granted 1 = .ok (.iconst 0, 1) := d_by (d_at odX11_granted ofX11_granted 1) rfl
theorem dX11_granted_2 : decode cX11_granted 2 = .ok (.putfield 17, 3) := d_by (d_at odX11_granted ofX11_granted 2) rfl
theorem dX11_granted_5 : decode cX11_granted 5 = .ok (.iload_n 1, 1) := d_by (d_at odX11_granted ofX11_granted 5) rfl
theorem dX11_granted_6 : decode cX11_granted 6 = .ok (.ireturn, 1) := d_by (d_at odX11_granted ofX11_granted 6) rfl
set_option maxRecDepth 100000 in
def bX11_refused : List Nat := [42, 27, 181, 0, 17, 2, 172]
set_option maxRecDepth 100000 in
theorem bbX11_refused : cX11_refused.data.toList.map UInt8.toNat = bX11_refused := by decide +kernel
set_option maxRecDepth 100000 in
def tX11_refused : Lean.RArray dLf := .branch 2 (.branch 1 (.leaf (0, .aload_n 0, 1)) (.leaf (1, .iload_n 1, 1))) (.branch 5 (.leaf (2, .putfield 17, 3)) (.branch 6 (.leaf (5, .iconst (-1), 1)) (.leaf (6, .ireturn, 1))))
noncomputable def oX11_refused : List dLf := dFl tX11_refused
theorem ofX11_refused : dFl tX11_refused = oX11_refused := rfl
set_option maxRecDepth 100000 in
theorem odX11_refused : ∀ q ∈ oX11_refused, decode cX11_refused q.1 = .ok (q.2.1, q.2.2) := q_go qT_ok bbX11_refused oX11_refused 0 (by decide +kernel)
theorem dX11_refused_0 : decode cX11_refused 0 = .ok (.aload_n 0, 1) := d_by (d_at odX11_refused ofX11_refused 0) rfl
theorem dX11_refused_1 : decode cX11_refused 1 = .ok (.iload_n 1, 1) := d_by (d_at odX11_refused ofX11_refused 1) rfl
theorem dX11_refused_2 : decode cX11_refused 2 = .ok (.putfield 17, 3) := d_by (d_at odX11_refused ofX11_refused 2) rfl
theorem dX11_refused_5 : decode cX11_refused 5 = .ok (.iconst (-1), 1) := d_by (d_at odX11_refused ofX11_refused 5) rfl
theorem dX11_refused_6 : decode cX11_refused 6 = .ok (.ireturn, 1) := d_by (d_at odX11_refused ofX11_refused 6) rfl
set_option maxRecDepth 100000 in
def bX11_hasGranted : List Nat := [42, 3, 181, 0, 17, 4, 172]
set_option maxRecDepth 100000 in
theorem bbX11_hasGranted : cX11_hasGranted.data.toList.map UInt8.toNat = bX11_hasGranted := by decide +kernel
set_option maxRecDepth 100000 in
def tX11_hasGranted : Lean.RArray dLf := .branch 2 (.branch 1 (.leaf (0, .aload_n 0, 1)) (.leaf (1, .iconst 0, 1))) (.branch 5 (.leaf (2, .putfield 17, 3)) (.branch 6 (.leaf (5, .iconst 1, 1)) (.leaf (6, .ireturn, 1))))
noncomputable def oX11_hasGranted : List dLf := dFl tX11_hasGranted
theorem ofX11_hasGranted : dFl tX11_hasGranted = oX11_hasGranted := rfl
set_option maxRecDepth 100000 in
theorem odX11_hasGranted : ∀ q ∈ oX11_hasGranted, decode cX11_hasGranted q.1 = .ok (q.2.1, q.2.2) := q_go qT_ok bbX11_hasGranted oX11_hasGranted 0 (by decide +kernel)
theorem dX11_hasGranted_0 : decode cX11_hasGranted 0 = .ok (.aload_n 0, 1) := d_by (d_at odX11_hasGranted ofX11_hasGranted 0) rfl
theorem dX11_hasGranted_1 : decode cX11_hasGranted 1 = .ok (.iconst 0, 1) := d_by (d_at odX11_hasGranted ofX11_hasGranted 1) rfl
theorem dX11_hasGranted_2 : decode cX11_hasGranted 2 = .ok (.putfield 17, 3) := d_by (d_at odX11_hasGranted ofX11_hasGranted 2) rfl
theorem dX11_hasGranted_5 : decode cX11_hasGranted 5 = .ok (.iconst 1, 1) := d_by (d_at odX11_hasGranted ofX11_hasGranted 5) rfl
theorem dX11_hasGranted_6 : decode cX11_hasGranted 6 = .ok (.ireturn, 1) := d_by (d_at odX11_hasGranted ofX11_hasGranted 6) rfl
set_option maxRecDepth 100000 in
def bX11_hasRefused : List Nat := [42, 27, 181, 0, 17, 3, 172]
set_option maxRecDepth 100000 in
theorem bbX11_hasRefused : cX11_hasRefused.data.toList.map UInt8.toNat = bX11_hasRefused := by decide +kernel
set_option maxRecDepth 100000 in
def tX11_hasRefused : Lean.RArray dLf := .branch 2 (.branch 1 (.leaf (0, .aload_n 0, 1)) (.leaf (1, .iload_n 1, 1))) (.branch 5 (.leaf (2, .putfield 17, 3)) (.branch 6 (.leaf (5, .iconst 0, 1)) (.leaf (6, .ireturn, 1))))
noncomputable def oX11_hasRefused : List dLf := dFl tX11_hasRefused
theorem ofX11_hasRefused : dFl tX11_hasRefused = oX11_hasRefused := rfl
set_option maxRecDepth 100000 in
theorem odX11_hasRefused : ∀ q ∈ oX11_hasRefused, decode cX11_hasRefused q.1 = .ok (q.2.1, q.2.2) := q_go qT_ok bbX11_hasRefused oX11_hasRefused 0 (by decide +kernel)
theorem dX11_hasRefused_0 : decode cX11_hasRefused 0 = .ok (.aload_n 0, 1) := d_by (d_at odX11_hasRefused ofX11_hasRefused 0) rfl
theorem dX11_hasRefused_1 : decode cX11_hasRefused 1 = .ok (.iload_n 1, 1) := d_by (d_at odX11_hasRefused ofX11_hasRefused 1) rfl
theorem dX11_hasRefused_2 : decode cX11_hasRefused 2 = .ok (.putfield 17, 3) := d_by (d_at odX11_hasRefused ofX11_hasRefused 2) rfl
theorem dX11_hasRefused_5 : decode cX11_hasRefused 5 = .ok (.iconst 0, 1) := d_by (d_at odX11_hasRefused ofX11_hasRefused 5) rfl
theorem dX11_hasRefused_6 : decode cX11_hasRefused 6 = .ok (.ireturn, 1) := d_by (d_at odX11_hasRefused ofX11_hasRefused 6) rfl
set_option maxRecDepth 100000 in
def bX11_hasPost : List Nat := [42, 180, 0, 23, 180, 0, 109, 158, 0, 7, 4, 167, 0, 4, 3, 172]
set_option maxRecDepth 100000 in
theorem bbX11_hasPost : cX11_hasPost.data.toList.map UInt8.toNat = bX11_hasPost := by decide +kernel
set_option maxRecDepth 100000 in
def tX11_hasPost : Lean.RArray dLf := .branch 10 (.branch 4 (.branch 1 (.leaf (0, .aload_n 0, 1)) (.leaf (1, .getfield 23, 3))) (.branch 7 (.leaf (4, .getfield 109, 3)) (.leaf (7, .ifCond .le 7, 3)))) (.branch 14 (.branch 11 (.leaf (10, .iconst 1, 1)) (.leaf (11, .goto 4, 3))) (.branch 15 (.leaf (14, .iconst 0, 1)) (.leaf (15, .ireturn, 1))))
noncomputable def oX11_hasPost : List dLf := dFl tX11_hasPost
theorem ofX11_hasPost : dFl tX11_hasPost = oX11_hasPost := rfl
set_option maxRecDepth 100000 in
theorem odX11_hasPost : ∀ q ∈ oX11_hasPost, decode cX11_hasPost q.1 = .ok (q.2.1, q.2.2) := q_go qT_ok bbX11_hasPost oX11_hasPost 0 (by decide +kernel)
theorem dX11_hasPost_0 : decode cX11_hasPost 0 = .ok (.aload_n 0, 1) := d_by (d_at odX11_hasPost ofX11_hasPost 0) rfl
theorem dX11_hasPost_1 : decode cX11_hasPost 1 = .ok (.getfield 23, 3) := d_by (d_at odX11_hasPost ofX11_hasPost 1) rfl
theorem dX11_hasPost_4 : decode cX11_hasPost 4 = .ok (.getfield 109, 3) := d_by (d_at odX11_hasPost ofX11_hasPost 4) rfl
theorem dX11_hasPost_7 : decode cX11_hasPost 7 = .ok (.ifCond .le 7, 3) := d_by (d_at odX11_hasPost ofX11_hasPost 7) rfl
theorem dX11_hasPost_10 : decode cX11_hasPost 10 = .ok (.iconst 1, 1) := d_by (d_at odX11_hasPost ofX11_hasPost 10) rfl
theorem dX11_hasPost_11 : decode cX11_hasPost 11 = .ok (.goto 4, 3) := d_by (d_at odX11_hasPost ofX11_hasPost 11) rfl
theorem dX11_hasPost_14 : decode cX11_hasPost 14 = .ok (.iconst 0, 1) := d_by (d_at odX11_hasPost ofX11_hasPost 14) rfl
theorem dX11_hasPost_15 : decode cX11_hasPost 15 = .ok (.ireturn, 1) := d_by (d_at odX11_hasPost ofX11_hasPost 15) rfl
set_option maxRecDepth 100000 in
def bX11_isIsland : List Nat := [27, 155, 0, 18, 27, 42, 180, 0, 23, 180, 0, 109, 162, 0, 7, 4, 167, 0, 4, 3, 172]
set_option maxRecDepth 100000 in
theorem bbX11_isIsland : cX11_isIsland.data.toList.map UInt8.toNat = bX11_isIsland := by decide +kernel
set_option maxRecDepth 100000 in
def tX11_isIsland : Lean.RArray dLf := .branch 9 (.branch 4 (.branch 1 (.leaf (0, .iload_n 1, 1)) (.leaf (1, .ifCond .lt 18, 3))) (.branch 5 (.leaf (4, .iload_n 1, 1)) (.branch 6 (.leaf (5, .aload_n 0, 1)) (.leaf (6, .getfield 23, 3))))) (.branch 16 (.branch 12 (.leaf (9, .getfield 109, 3)) (.branch 15 (.leaf (12, .if_icmp .ge 7, 3)) (.leaf (15, .iconst 1, 1)))) (.branch 19 (.leaf (16, .goto 4, 3)) (.branch 20 (.leaf (19, .iconst 0, 1)) (.leaf (20, .ireturn, 1)))))
noncomputable def oX11_isIsland : List dLf := dFl tX11_isIsland
theorem ofX11_isIsland : dFl tX11_isIsland = oX11_isIsland := rfl
set_option maxRecDepth 100000 in
theorem odX11_isIsland : ∀ q ∈ oX11_isIsland, decode cX11_isIsland q.1 = .ok (q.2.1, q.2.2) := q_go qT_ok bbX11_isIsland oX11_isIsland 0 (by decide +kernel)
theorem dX11_isIsland_0 : decode cX11_isIsland 0 = .ok (.iload_n 1, 1) := d_by (d_at odX11_isIsland ofX11_isIsland 0) rfl
theorem dX11_isIsland_1 : decode cX11_isIsland 1 = .ok (.ifCond .lt 18, 3) := d_by (d_at odX11_isIsland ofX11_isIsland 1) rfl
theorem dX11_isIsland_4 : decode cX11_isIsland 4 = .ok (.iload_n 1, 1) := d_by (d_at odX11_isIsland ofX11_isIsland 4) rfl
theorem dX11_isIsland_5 : decode cX11_isIsland 5 = .ok (.aload_n 0, 1) := d_by (d_at odX11_isIsland ofX11_isIsland 5) rfl
theorem dX11_isIsland_6 : decode cX11_isIsland 6 = .ok (.getfield 23, 3) := d_by (d_at odX11_isIsland ofX11_isIsland 6) rfl
theorem dX11_isIsland_9 : decode cX11_isIsland 9 = .ok (.getfield 109, 3) := d_by (d_at odX11_isIsland ofX11_isIsland 9) rfl
theorem dX11_isIsland_12 : decode cX11_isIsland 12 = .ok (.if_icmp .ge 7, 3) := d_by (d_at odX11_isIsland ofX11_isIsland 12) rfl
theorem dX11_isIsland_15 : decode cX11_isIsland 15 = .ok (.iconst 1, 1) := d_by (d_at odX11_isIsland ofX11_isIsland 15) rfl
theorem dX11_isIsland_16 : decode cX11_isIsland 16 = .ok (.goto 4, 3) := d_by (d_at odX11_isIsland ofX11_isIsland 16) rfl
theorem dX11_isIsland_19 : decode cX11_isIsland 19 = .ok (.iconst 0, 1) := d_by (d_at odX11_isIsland ofX11_isIsland 19) rfl
theorem dX11_isIsland_20 : decode cX11_isIsland 20 = .ok (.ireturn, 1) := d_by (d_at odX11_isIsland ofX11_isIsland 20) rfl
set_option maxRecDepth 100000 in
def bX11_areTwoIslands : List Nat := [42, 27, 182, 0, 174, 153, 0, 20, 42, 28, 182, 0, 174, 153, 0, 12, 27, 28, 159, 0, 7, 4, 167, 0, 4, 3, 172]
set_option maxRecDepth 100000 in
theorem bbX11_areTwoIslands : cX11_areTwoIslands.data.toList.map UInt8.toNat = bX11_areTwoIslands := by decide +kernel
set_option maxRecDepth 100000 in
def tX11_areTwoIslands : Lean.RArray dLf := .branch 13 (.branch 5 (.branch 1 (.leaf (0, .aload_n 0, 1)) (.branch 2 (.leaf (1, .iload_n 1, 1)) (.leaf (2, .invokevirtual 174, 3)))) (.branch 9 (.branch 8 (.leaf (5, .ifCond .eq 20, 3)) (.leaf (8, .aload_n 0, 1))) (.branch 10 (.leaf (9, .iload_n 2, 1)) (.leaf (10, .invokevirtual 174, 3))))) (.branch 21 (.branch 17 (.branch 16 (.leaf (13, .ifCond .eq 12, 3)) (.leaf (16, .iload_n 1, 1))) (.branch 18 (.leaf (17, .iload_n 2, 1)) (.leaf (18, .if_icmp .eq 7, 3)))) (.branch 25 (.branch 22 (.leaf (21, .iconst 1, 1)) (.leaf (22, .goto 4, 3))) (.branch 26 (.leaf (25, .iconst 0, 1)) (.leaf (26, .ireturn, 1)))))
noncomputable def oX11_areTwoIslands : List dLf := dFl tX11_areTwoIslands
theorem ofX11_areTwoIslands : dFl tX11_areTwoIslands = oX11_areTwoIslands := rfl
set_option maxRecDepth 100000 in
theorem odX11_areTwoIslands : ∀ q ∈ oX11_areTwoIslands, decode cX11_areTwoIslands q.1 = .ok (q.2.1, q.2.2) := q_go qT_ok bbX11_areTwoIslands oX11_areTwoIslands 0 (by decide +kernel)
set_option maxRecDepth 100000 in
def bX11_isWay : List Nat := [27, 155, 0, 18, 27, 42, 180, 0, 23, 180, 1, 123, 162, 0, 7, 4, 167, 0, 4, 3, 172]
set_option maxRecDepth 100000 in
theorem bbX11_isWay : cX11_isWay.data.toList.map UInt8.toNat = bX11_isWay := by decide +kernel
set_option maxRecDepth 100000 in
def tX11_isWay : Lean.RArray dLf := .branch 9 (.branch 4 (.branch 1 (.leaf (0, .iload_n 1, 1)) (.leaf (1, .ifCond .lt 18, 3))) (.branch 5 (.leaf (4, .iload_n 1, 1)) (.branch 6 (.leaf (5, .aload_n 0, 1)) (.leaf (6, .getfield 23, 3))))) (.branch 16 (.branch 12 (.leaf (9, .getfield 379, 3)) (.branch 15 (.leaf (12, .if_icmp .ge 7, 3)) (.leaf (15, .iconst 1, 1)))) (.branch 19 (.leaf (16, .goto 4, 3)) (.branch 20 (.leaf (19, .iconst 0, 1)) (.leaf (20, .ireturn, 1)))))
noncomputable def oX11_isWay : List dLf := dFl tX11_isWay
theorem ofX11_isWay : dFl tX11_isWay = oX11_isWay := rfl
set_option maxRecDepth 100000 in
theorem odX11_isWay : ∀ q ∈ oX11_isWay, decode cX11_isWay q.1 = .ok (q.2.1, q.2.2) := q_go qT_ok bbX11_isWay oX11_isWay 0 (by decide +kernel)
theorem dX11_isWay_0 : decode cX11_isWay 0 = .ok (.iload_n 1, 1) := d_by (d_at odX11_isWay ofX11_isWay 0) rfl
theorem dX11_isWay_1 : decode cX11_isWay 1 = .ok (.ifCond .lt 18, 3) := d_by (d_at odX11_isWay ofX11_isWay 1) rfl
theorem dX11_isWay_4 : decode cX11_isWay 4 = .ok (.iload_n 1, 1) := d_by (d_at odX11_isWay ofX11_isWay 4) rfl
theorem dX11_isWay_5 : decode cX11_isWay 5 = .ok (.aload_n 0, 1) := d_by (d_at odX11_isWay ofX11_isWay 5) rfl
theorem dX11_isWay_6 : decode cX11_isWay 6 = .ok (.getfield 23, 3) := d_by (d_at odX11_isWay ofX11_isWay 6) rfl
theorem dX11_isWay_9 : decode cX11_isWay 9 = .ok (.getfield 379, 3) := d_by (d_at odX11_isWay ofX11_isWay 9) rfl
theorem dX11_isWay_12 : decode cX11_isWay 12 = .ok (.if_icmp .ge 7, 3) := d_by (d_at odX11_isWay ofX11_isWay 12) rfl
theorem dX11_isWay_15 : decode cX11_isWay 15 = .ok (.iconst 1, 1) := d_by (d_at odX11_isWay ofX11_isWay 15) rfl
theorem dX11_isWay_16 : decode cX11_isWay 16 = .ok (.goto 4, 3) := d_by (d_at odX11_isWay ofX11_isWay 16) rfl
theorem dX11_isWay_19 : decode cX11_isWay 19 = .ok (.iconst 0, 1) := d_by (d_at odX11_isWay ofX11_isWay 19) rfl
theorem dX11_isWay_20 : decode cX11_isWay 20 = .ok (.ireturn, 1) := d_by (d_at odX11_isWay ofX11_isWay 20) rfl
set_option maxRecDepth 100000 in
def bX11_isWhale : List Nat := [27, 155, 0, 18, 27, 42, 180, 0, 23, 180, 1, 126, 162, 0, 7, 4, 167, 0, 4, 3, 172]
set_option maxRecDepth 100000 in
theorem bbX11_isWhale : cX11_isWhale.data.toList.map UInt8.toNat = bX11_isWhale := by decide +kernel
set_option maxRecDepth 100000 in
def tX11_isWhale : Lean.RArray dLf := .branch 9 (.branch 4 (.branch 1 (.leaf (0, .iload_n 1, 1)) (.leaf (1, .ifCond .lt 18, 3))) (.branch 5 (.leaf (4, .iload_n 1, 1)) (.branch 6 (.leaf (5, .aload_n 0, 1)) (.leaf (6, .getfield 23, 3))))) (.branch 16 (.branch 12 (.leaf (9, .getfield 382, 3)) (.branch 15 (.leaf (12, .if_icmp .ge 7, 3)) (.leaf (15, .iconst 1, 1)))) (.branch 19 (.leaf (16, .goto 4, 3)) (.branch 20 (.leaf (19, .iconst 0, 1)) (.leaf (20, .ireturn, 1)))))
noncomputable def oX11_isWhale : List dLf := dFl tX11_isWhale
theorem ofX11_isWhale : dFl tX11_isWhale = oX11_isWhale := rfl
set_option maxRecDepth 100000 in
theorem odX11_isWhale : ∀ q ∈ oX11_isWhale, decode cX11_isWhale q.1 = .ok (q.2.1, q.2.2) := q_go qT_ok bbX11_isWhale oX11_isWhale 0 (by decide +kernel)
theorem dX11_isWhale_0 : decode cX11_isWhale 0 = .ok (.iload_n 1, 1) := d_by (d_at odX11_isWhale ofX11_isWhale 0) rfl
theorem dX11_isWhale_1 : decode cX11_isWhale 1 = .ok (.ifCond .lt 18, 3) := d_by (d_at odX11_isWhale ofX11_isWhale 1) rfl
theorem dX11_isWhale_4 : decode cX11_isWhale 4 = .ok (.iload_n 1, 1) := d_by (d_at odX11_isWhale ofX11_isWhale 4) rfl
theorem dX11_isWhale_5 : decode cX11_isWhale 5 = .ok (.aload_n 0, 1) := d_by (d_at odX11_isWhale ofX11_isWhale 5) rfl
theorem dX11_isWhale_6 : decode cX11_isWhale 6 = .ok (.getfield 23, 3) := d_by (d_at odX11_isWhale ofX11_isWhale 6) rfl
theorem dX11_isWhale_9 : decode cX11_isWhale 9 = .ok (.getfield 382, 3) := d_by (d_at odX11_isWhale ofX11_isWhale 9) rfl
theorem dX11_isWhale_12 : decode cX11_isWhale 12 = .ok (.if_icmp .ge 7, 3) := d_by (d_at odX11_isWhale ofX11_isWhale 12) rfl
theorem dX11_isWhale_15 : decode cX11_isWhale 15 = .ok (.iconst 1, 1) := d_by (d_at odX11_isWhale ofX11_isWhale 15) rfl
theorem dX11_isWhale_16 : decode cX11_isWhale 16 = .ok (.goto 4, 3) := d_by (d_at odX11_isWhale ofX11_isWhale 16) rfl
theorem dX11_isWhale_19 : decode cX11_isWhale 19 = .ok (.iconst 0, 1) := d_by (d_at odX11_isWhale ofX11_isWhale 19) rfl
theorem dX11_isWhale_20 : decode cX11_isWhale 20 = .ok (.ireturn, 1) := d_by (d_at odX11_isWhale ofX11_isWhale 20) rfl
set_option maxRecDepth 100000 in
def bX11_isBox : List Nat := [27, 155, 0, 18, 27, 42, 180, 0, 23, 180, 0, 239, 162, 0, 7, 4, 167, 0, 4, 3, 172]
set_option maxRecDepth 100000 in
theorem bbX11_isBox : cX11_isBox.data.toList.map UInt8.toNat = bX11_isBox := by decide +kernel
set_option maxRecDepth 100000 in
def tX11_isBox : Lean.RArray dLf := .branch 9 (.branch 4 (.branch 1 (.leaf (0, .iload_n 1, 1)) (.leaf (1, .ifCond .lt 18, 3))) (.branch 5 (.leaf (4, .iload_n 1, 1)) (.branch 6 (.leaf (5, .aload_n 0, 1)) (.leaf (6, .getfield 23, 3))))) (.branch 16 (.branch 12 (.leaf (9, .getfield 239, 3)) (.branch 15 (.leaf (12, .if_icmp .ge 7, 3)) (.leaf (15, .iconst 1, 1)))) (.branch 19 (.leaf (16, .goto 4, 3)) (.branch 20 (.leaf (19, .iconst 0, 1)) (.leaf (20, .ireturn, 1)))))
noncomputable def oX11_isBox : List dLf := dFl tX11_isBox
theorem ofX11_isBox : dFl tX11_isBox = oX11_isBox := rfl
set_option maxRecDepth 100000 in
theorem odX11_isBox : ∀ q ∈ oX11_isBox, decode cX11_isBox q.1 = .ok (q.2.1, q.2.2) := q_go qT_ok bbX11_isBox oX11_isBox 0 (by decide +kernel)
theorem dX11_isBox_0 : decode cX11_isBox 0 = .ok (.iload_n 1, 1) := d_by (d_at odX11_isBox ofX11_isBox 0) rfl
theorem dX11_isBox_1 : decode cX11_isBox 1 = .ok (.ifCond .lt 18, 3) := d_by (d_at odX11_isBox ofX11_isBox 1) rfl
theorem dX11_isBox_4 : decode cX11_isBox 4 = .ok (.iload_n 1, 1) := d_by (d_at odX11_isBox ofX11_isBox 4) rfl
theorem dX11_isBox_5 : decode cX11_isBox 5 = .ok (.aload_n 0, 1) := d_by (d_at odX11_isBox ofX11_isBox 5) rfl
theorem dX11_isBox_6 : decode cX11_isBox 6 = .ok (.getfield 23, 3) := d_by (d_at odX11_isBox ofX11_isBox 6) rfl
theorem dX11_isBox_9 : decode cX11_isBox 9 = .ok (.getfield 239, 3) := d_by (d_at odX11_isBox ofX11_isBox 9) rfl
theorem dX11_isBox_12 : decode cX11_isBox 12 = .ok (.if_icmp .ge 7, 3) := d_by (d_at odX11_isBox ofX11_isBox 12) rfl
theorem dX11_isBox_15 : decode cX11_isBox 15 = .ok (.iconst 1, 1) := d_by (d_at odX11_isBox ofX11_isBox 15) rfl
theorem dX11_isBox_16 : decode cX11_isBox 16 = .ok (.goto 4, 3) := d_by (d_at odX11_isBox ofX11_isBox 16) rfl
theorem dX11_isBox_19 : decode cX11_isBox 19 = .ok (.iconst 0, 1) := d_by (d_at odX11_isBox ofX11_isBox 19) rfl
theorem dX11_isBox_20 : decode cX11_isBox 20 = .ok (.ireturn, 1) := d_by (d_at odX11_isBox ofX11_isBox 20) rfl
set_option maxRecDepth 100000 in
def bX11_isNoteOfBox : List Nat := [42, 27, 182, 0, 147, 153, 0, 23, 28, 155, 0, 19, 28, 42, 180, 0, 23, 27, 182, 0, 198, 162, 0, 7, 4, 167, 0, 4, 3, 172]
set_option maxRecDepth 100000 in
theorem bbX11_isNoteOfBox : cX11_isNoteOfBox.data.toList.map UInt8.toNat = bX11_isNoteOfBox := by decide +kernel
set_option maxRecDepth 100000 in
def tX11_isNoteOfBox : Lean.RArray dLf := .branch 14 (.branch 8 (.branch 2 (.branch 1 (.leaf (0, .aload_n 0, 1)) (.leaf (1, .iload_n 1, 1))) (.branch 5 (.leaf (2, .invokevirtual 147, 3)) (.leaf (5, .ifCond .eq 23, 3)))) (.branch 12 (.branch 9 (.leaf (8, .iload_n 2, 1)) (.leaf (9, .ifCond .lt 19, 3))) (.branch 13 (.leaf (12, .iload_n 2, 1)) (.leaf (13, .aload_n 0, 1))))) (.branch 24 (.branch 18 (.branch 17 (.leaf (14, .getfield 23, 3)) (.leaf (17, .iload_n 1, 1))) (.branch 21 (.leaf (18, .invokevirtual 198, 3)) (.leaf (21, .if_icmp .ge 7, 3)))) (.branch 28 (.branch 25 (.leaf (24, .iconst 1, 1)) (.leaf (25, .goto 4, 3))) (.branch 29 (.leaf (28, .iconst 0, 1)) (.leaf (29, .ireturn, 1)))))
noncomputable def oX11_isNoteOfBox : List dLf := dFl tX11_isNoteOfBox
theorem ofX11_isNoteOfBox : dFl tX11_isNoteOfBox = oX11_isNoteOfBox := rfl
set_option maxRecDepth 100000 in
theorem odX11_isNoteOfBox : ∀ q ∈ oX11_isNoteOfBox, decode cX11_isNoteOfBox q.1 = .ok (q.2.1, q.2.2) := q_go qT_ok bbX11_isNoteOfBox oX11_isNoteOfBox 0 (by decide +kernel)
theorem dX11_isNoteOfBox_0 : decode cX11_isNoteOfBox 0 = .ok (.aload_n 0, 1) := d_by (d_at odX11_isNoteOfBox ofX11_isNoteOfBox 0) rfl
theorem dX11_isNoteOfBox_1 : decode cX11_isNoteOfBox 1 = .ok (.iload_n 1, 1) := d_by (d_at odX11_isNoteOfBox ofX11_isNoteOfBox 1) rfl
theorem dX11_isNoteOfBox_2 : decode cX11_isNoteOfBox 2 = .ok (.invokevirtual 147, 3) := d_by (d_at odX11_isNoteOfBox ofX11_isNoteOfBox 2) rfl
theorem dX11_isNoteOfBox_5 : decode cX11_isNoteOfBox 5 = .ok (.ifCond .eq 23, 3) := d_by (d_at odX11_isNoteOfBox ofX11_isNoteOfBox 5) rfl
theorem dX11_isNoteOfBox_8 : decode cX11_isNoteOfBox 8 = .ok (.iload_n 2, 1) := d_by (d_at odX11_isNoteOfBox ofX11_isNoteOfBox 8) rfl
theorem dX11_isNoteOfBox_9 : decode cX11_isNoteOfBox 9 = .ok (.ifCond .lt 19, 3) := d_by (d_at odX11_isNoteOfBox ofX11_isNoteOfBox 9) rfl
theorem dX11_isNoteOfBox_12 : decode cX11_isNoteOfBox 12 = .ok (.iload_n 2, 1) := d_by (d_at odX11_isNoteOfBox ofX11_isNoteOfBox 12) rfl
theorem dX11_isNoteOfBox_13 : decode cX11_isNoteOfBox 13 = .ok (.aload_n 0, 1) := d_by (d_at odX11_isNoteOfBox ofX11_isNoteOfBox 13) rfl
theorem dX11_isNoteOfBox_14 : decode cX11_isNoteOfBox 14 = .ok (.getfield 23, 3) := d_by (d_at odX11_isNoteOfBox ofX11_isNoteOfBox 14) rfl
theorem dX11_isNoteOfBox_17 : decode cX11_isNoteOfBox 17 = .ok (.iload_n 1, 1) := d_by (d_at odX11_isNoteOfBox ofX11_isNoteOfBox 17) rfl
theorem dX11_isNoteOfBox_18 : decode cX11_isNoteOfBox 18 = .ok (.invokevirtual 198, 3) := d_by (d_at odX11_isNoteOfBox ofX11_isNoteOfBox 18) rfl
theorem dX11_isNoteOfBox_21 : decode cX11_isNoteOfBox 21 = .ok (.if_icmp .ge 7, 3) := d_by (d_at odX11_isNoteOfBox ofX11_isNoteOfBox 21) rfl
theorem dX11_isNoteOfBox_24 : decode cX11_isNoteOfBox 24 = .ok (.iconst 1, 1) := d_by (d_at odX11_isNoteOfBox ofX11_isNoteOfBox 24) rfl
theorem dX11_isNoteOfBox_25 : decode cX11_isNoteOfBox 25 = .ok (.goto 4, 3) := d_by (d_at odX11_isNoteOfBox ofX11_isNoteOfBox 25) rfl
theorem dX11_isNoteOfBox_28 : decode cX11_isNoteOfBox 28 = .ok (.iconst 0, 1) := d_by (d_at odX11_isNoteOfBox ofX11_isNoteOfBox 28) rfl
theorem dX11_isNoteOfBox_29 : decode cX11_isNoteOfBox 29 = .ok (.ireturn, 1) := d_by (d_at odX11_isNoteOfBox ofX11_isNoteOfBox 29) rfl
set_option maxRecDepth 100000 in
def bX11_isWithin : List Nat := [26, 155, 0, 12, 26, 27, 163, 0, 7, 4, 167, 0, 4, 3, 172]
set_option maxRecDepth 100000 in
theorem bbX11_isWithin : cX11_isWithin.data.toList.map UInt8.toNat = bX11_isWithin := by decide +kernel
set_option maxRecDepth 100000 in
def tX11_isWithin : Lean.RArray dLf := .branch 6 (.branch 4 (.branch 1 (.leaf (0, .iload_n 0, 1)) (.leaf (1, .ifCond .lt 12, 3))) (.branch 5 (.leaf (4, .iload_n 0, 1)) (.leaf (5, .iload_n 1, 1)))) (.branch 10 (.branch 9 (.leaf (6, .if_icmp .gt 7, 3)) (.leaf (9, .iconst 1, 1))) (.branch 13 (.leaf (10, .goto 4, 3)) (.branch 14 (.leaf (13, .iconst 0, 1)) (.leaf (14, .ireturn, 1)))))
noncomputable def oX11_isWithin : List dLf := dFl tX11_isWithin
theorem ofX11_isWithin : dFl tX11_isWithin = oX11_isWithin := rfl
set_option maxRecDepth 100000 in
theorem odX11_isWithin : ∀ q ∈ oX11_isWithin, decode cX11_isWithin q.1 = .ok (q.2.1, q.2.2) := q_go qT_ok bbX11_isWithin oX11_isWithin 0 (by decide +kernel)
theorem dX11_isWithin_0 : decode cX11_isWithin 0 = .ok (.iload_n 0, 1) := d_by (d_at odX11_isWithin ofX11_isWithin 0) rfl
theorem dX11_isWithin_1 : decode cX11_isWithin 1 = .ok (.ifCond .lt 12, 3) := d_by (d_at odX11_isWithin ofX11_isWithin 1) rfl
theorem dX11_isWithin_4 : decode cX11_isWithin 4 = .ok (.iload_n 0, 1) := d_by (d_at odX11_isWithin ofX11_isWithin 4) rfl
theorem dX11_isWithin_5 : decode cX11_isWithin 5 = .ok (.iload_n 1, 1) := d_by (d_at odX11_isWithin ofX11_isWithin 5) rfl
theorem dX11_isWithin_6 : decode cX11_isWithin 6 = .ok (.if_icmp .gt 7, 3) := d_by (d_at odX11_isWithin ofX11_isWithin 6) rfl
theorem dX11_isWithin_9 : decode cX11_isWithin 9 = .ok (.iconst 1, 1) := d_by (d_at odX11_isWithin ofX11_isWithin 9) rfl
theorem dX11_isWithin_10 : decode cX11_isWithin 10 = .ok (.goto 4, 3) := d_by (d_at odX11_isWithin ofX11_isWithin 10) rfl
theorem dX11_isWithin_13 : decode cX11_isWithin 13 = .ok (.iconst 0, 1) := d_by (d_at odX11_isWithin ofX11_isWithin 13) rfl
theorem dX11_isWithin_14 : decode cX11_isWithin 14 = .ok (.ireturn, 1) := d_by (d_at odX11_isWithin ofX11_isWithin 14) rfl
set_option maxRecDepth 100000 in
def bX11_refusalOfNewSong : List Nat := [42, 182, 0, 222, 154, 0, 5, 4, 172, 27, 5, 161, 0, 22, 27, 8, 163, 0, 17, 28, 4, 161, 0, 12, 28, 8, 163, 0, 7, 4, 167, 0, 4, 3, 62, 29, 153, 0, 7, 3, 167, 0, 4, 5, 172]
set_option maxRecDepth 100000 in
theorem bbX11_refusalOfNewSong : cX11_refusalOfNewSong.data.toList.map UInt8.toNat = bX11_refusalOfNewSong := by decide +kernel
set_option maxRecDepth 100000 in
def tX11_refusalOfNewSong : Lean.RArray dLf := .branch 21 (.branch 10 (.branch 7 (.branch 1 (.leaf (0, .aload_n 0, 1)) (.branch 4 (.leaf (1, .invokevirtual 222, 3)) (.leaf (4, .ifCond .ne 5, 3)))) (.branch 8 (.leaf (7, .iconst 1, 1)) (.branch 9 (.leaf (8, .ireturn, 1)) (.leaf (9, .iload_n 1, 1))))) (.branch 15 (.branch 11 (.leaf (10, .iconst 2, 1)) (.branch 14 (.leaf (11, .if_icmp .lt 22, 3)) (.leaf (14, .iload_n 1, 1)))) (.branch 19 (.branch 16 (.leaf (15, .iconst 5, 1)) (.leaf (16, .if_icmp .gt 17, 3))) (.branch 20 (.leaf (19, .iload_n 2, 1)) (.leaf (20, .iconst 1, 1)))))) (.branch 34 (.branch 26 (.branch 24 (.leaf (21, .if_icmp .lt 12, 3)) (.branch 25 (.leaf (24, .iload_n 2, 1)) (.leaf (25, .iconst 5, 1)))) (.branch 30 (.branch 29 (.leaf (26, .if_icmp .gt 7, 3)) (.leaf (29, .iconst 1, 1))) (.branch 33 (.leaf (30, .goto 4, 3)) (.leaf (33, .iconst 0, 1))))) (.branch 39 (.branch 35 (.leaf (34, .istore_n 3, 1)) (.branch 36 (.leaf (35, .iload_n 3, 1)) (.leaf (36, .ifCond .eq 7, 3)))) (.branch 43 (.branch 40 (.leaf (39, .iconst 0, 1)) (.leaf (40, .goto 4, 3))) (.branch 44 (.leaf (43, .iconst 2, 1)) (.leaf (44, .ireturn, 1))))))
noncomputable def oX11_refusalOfNewSong : List dLf := dFl tX11_refusalOfNewSong
theorem ofX11_refusalOfNewSong : dFl tX11_refusalOfNewSong = oX11_refusalOfNewSong := rfl
set_option maxRecDepth 100000 in
theorem odX11_refusalOfNewSong : ∀ q ∈ oX11_refusalOfNewSong, decode cX11_refusalOfNewSong q.1 = .ok (q.2.1, q.2.2) := q_go qT_ok bbX11_refusalOfNewSong oX11_refusalOfNewSong 0 (by decide +kernel)
set_option maxRecDepth 100000 in
def bX11_appendBytes : List Nat := [16, 24, 61, 28, 155, 0, 32, 42, 180, 0, 9, 42, 180, 0, 13, 27, 28, 122, 145, 84, 42, 89, 180, 0, 13, 4, 96, 181, 0, 13, 132, 2, 248, 167, 255, 226, 177]
set_option maxRecDepth 100000 in
theorem bbX11_appendBytes : cX11_appendBytes.data.toList.map UInt8.toNat = bX11_appendBytes := by decide +kernel
set_option maxRecDepth 100000 in
def tX11_appendBytes : Lean.RArray dLf := .branch 18 (.branch 8 (.branch 3 (.branch 2 (.leaf (0, .bipush 24, 2)) (.leaf (2, .istore_n 2, 1))) (.branch 4 (.leaf (3, .iload_n 2, 1)) (.branch 7 (.leaf (4, .ifCond .lt 32, 3)) (.leaf (7, .aload_n 0, 1))))) (.branch 15 (.branch 11 (.leaf (8, .getfield 9, 3)) (.branch 12 (.leaf (11, .aload_n 0, 1)) (.leaf (12, .getfield 13, 3)))) (.branch 16 (.leaf (15, .iload_n 1, 1)) (.branch 17 (.leaf (16, .iload_n 2, 1)) (.leaf (17, .ishr, 1)))))) (.branch 25 (.branch 20 (.branch 19 (.leaf (18, .i2b, 1)) (.leaf (19, .bastore, 1))) (.branch 21 (.leaf (20, .aload_n 0, 1)) (.branch 22 (.leaf (21, .dup, 1)) (.leaf (22, .getfield 13, 3))))) (.branch 30 (.branch 26 (.leaf (25, .iconst 1, 1)) (.branch 27 (.leaf (26, .iadd, 1)) (.leaf (27, .putfield 13, 3)))) (.branch 33 (.leaf (30, .iinc 2 (-8), 3)) (.branch 36 (.leaf (33, .goto (-30), 3)) (.leaf (36, .return_, 1))))))
noncomputable def oX11_appendBytes : List dLf := dFl tX11_appendBytes
theorem ofX11_appendBytes : dFl tX11_appendBytes = oX11_appendBytes := rfl
set_option maxRecDepth 100000 in
theorem odX11_appendBytes : ∀ q ∈ oX11_appendBytes, decode cX11_appendBytes q.1 = .ok (q.2.1, q.2.2) := q_go qT_ok bbX11_appendBytes oX11_appendBytes 0 (by decide +kernel)
theorem dX11_appendBytes_0 : decode cX11_appendBytes 0 = .ok (.bipush 24, 2) := d_by (d_at odX11_appendBytes ofX11_appendBytes 0) rfl
theorem dX11_appendBytes_2 : decode cX11_appendBytes 2 = .ok (.istore_n 2, 1) := d_by (d_at odX11_appendBytes ofX11_appendBytes 2) rfl
theorem dX11_appendBytes_3 : decode cX11_appendBytes 3 = .ok (.iload_n 2, 1) := d_by (d_at odX11_appendBytes ofX11_appendBytes 3) rfl
theorem dX11_appendBytes_4 : decode cX11_appendBytes 4 = .ok (.ifCond .lt 32, 3) := d_by (d_at odX11_appendBytes ofX11_appendBytes 4) rfl
theorem dX11_appendBytes_7 : decode cX11_appendBytes 7 = .ok (.aload_n 0, 1) := d_by (d_at odX11_appendBytes ofX11_appendBytes 7) rfl
theorem dX11_appendBytes_8 : decode cX11_appendBytes 8 = .ok (.getfield 9, 3) := d_by (d_at odX11_appendBytes ofX11_appendBytes 8) rfl
theorem dX11_appendBytes_11 : decode cX11_appendBytes 11 = .ok (.aload_n 0, 1) := d_by (d_at odX11_appendBytes ofX11_appendBytes 11) rfl
theorem dX11_appendBytes_12 : decode cX11_appendBytes 12 = .ok (.getfield 13, 3) := d_by (d_at odX11_appendBytes ofX11_appendBytes 12) rfl
theorem dX11_appendBytes_15 : decode cX11_appendBytes 15 = .ok (.iload_n 1, 1) := d_by (d_at odX11_appendBytes ofX11_appendBytes 15) rfl
theorem dX11_appendBytes_16 : decode cX11_appendBytes 16 = .ok (.iload_n 2, 1) := d_by (d_at odX11_appendBytes ofX11_appendBytes 16) rfl
theorem dX11_appendBytes_17 : decode cX11_appendBytes 17 = .ok (.ishr, 1) := d_by (d_at odX11_appendBytes ofX11_appendBytes 17) rfl
theorem dX11_appendBytes_18 : decode cX11_appendBytes 18 = .ok (.i2b, 1) := d_by (d_at odX11_appendBytes ofX11_appendBytes 18) rfl
theorem dX11_appendBytes_19 : decode cX11_appendBytes 19 = .ok (.bastore, 1) := d_by (d_at odX11_appendBytes ofX11_appendBytes 19) rfl
theorem dX11_appendBytes_20 : decode cX11_appendBytes 20 = .ok (.aload_n 0, 1) := d_by (d_at odX11_appendBytes ofX11_appendBytes 20) rfl
theorem dX11_appendBytes_21 : decode cX11_appendBytes 21 = .ok (.dup, 1) := d_by (d_at odX11_appendBytes ofX11_appendBytes 21) rfl
theorem dX11_appendBytes_22 : decode cX11_appendBytes 22 = .ok (.getfield 13, 3) := d_by (d_at odX11_appendBytes ofX11_appendBytes 22) rfl
theorem dX11_appendBytes_25 : decode cX11_appendBytes 25 = .ok (.iconst 1, 1) := d_by (d_at odX11_appendBytes ofX11_appendBytes 25) rfl
theorem dX11_appendBytes_26 : decode cX11_appendBytes 26 = .ok (.iadd, 1) := d_by (d_at odX11_appendBytes ofX11_appendBytes 26) rfl
theorem dX11_appendBytes_27 : decode cX11_appendBytes 27 = .ok (.putfield 13, 3) := d_by (d_at odX11_appendBytes ofX11_appendBytes 27) rfl
theorem dX11_appendBytes_30 : decode cX11_appendBytes 30 = .ok (.iinc 2 (-8), 3) := d_by (d_at odX11_appendBytes ofX11_appendBytes 30) rfl
theorem dX11_appendBytes_33 : decode cX11_appendBytes 33 = .ok (.goto (-30), 3) := d_by (d_at odX11_appendBytes ofX11_appendBytes 33) rfl
theorem dX11_appendBytes_36 : decode cX11_appendBytes 36 = .ok (.return_, 1) := d_by (d_at odX11_appendBytes ofX11_appendBytes 36) rfl
set_option maxRecDepth 100000 in
def bX11_takeDraft : List Nat := [42, 180, 0, 23, 76, 42, 42, 180, 0, 27, 181, 0, 23, 42, 43, 181, 0, 27, 42, 180, 0, 51, 42, 180, 0, 23, 181, 1, 132, 42, 180, 0, 60, 42, 180, 0, 23, 181, 1, 133, 42, 180, 0, 67, 42, 180, 0, 23, 181, 1, 134, 42, 180, 0, 42, 42, 180, 0, 23, 182, 1, 135, 42, 3, 181, 0, 85, 42, 3, 181, 0, 91, 177]
set_option maxRecDepth 100000 in
theorem bbX11_takeDraft : cX11_takeDraft.data.toList.map UInt8.toNat = bX11_takeDraft := by decide +kernel
set_option maxRecDepth 100000 in
def tX11_takeDraft : Lean.RArray dLf := .branch 34 (.branch 15 (.branch 6 (.branch 4 (.branch 1 (.leaf (0, .aload_n 0, 1)) (.leaf (1, .getfield 23, 3))) (.branch 5 (.leaf (4, .astore_n 1, 1)) (.leaf (5, .aload_n 0, 1)))) (.branch 10 (.branch 7 (.leaf (6, .aload_n 0, 1)) (.leaf (7, .getfield 27, 3))) (.branch 13 (.leaf (10, .putfield 23, 3)) (.branch 14 (.leaf (13, .aload_n 0, 1)) (.leaf (14, .aload_n 1, 1)))))) (.branch 23 (.branch 19 (.branch 18 (.leaf (15, .putfield 27, 3)) (.leaf (18, .aload_n 0, 1))) (.branch 22 (.leaf (19, .getfield 51, 3)) (.leaf (22, .aload_n 0, 1)))) (.branch 29 (.branch 26 (.leaf (23, .getfield 23, 3)) (.leaf (26, .putfield 388, 3))) (.branch 30 (.leaf (29, .aload_n 0, 1)) (.branch 33 (.leaf (30, .getfield 60, 3)) (.leaf (33, .aload_n 0, 1))))))) (.branch 55 (.branch 44 (.branch 40 (.branch 37 (.leaf (34, .getfield 23, 3)) (.leaf (37, .putfield 389, 3))) (.branch 41 (.leaf (40, .aload_n 0, 1)) (.leaf (41, .getfield 67, 3)))) (.branch 48 (.branch 45 (.leaf (44, .aload_n 0, 1)) (.leaf (45, .getfield 23, 3))) (.branch 51 (.leaf (48, .putfield 390, 3)) (.branch 52 (.leaf (51, .aload_n 0, 1)) (.leaf (52, .getfield 42, 3)))))) (.branch 64 (.branch 59 (.branch 56 (.leaf (55, .aload_n 0, 1)) (.leaf (56, .getfield 23, 3))) (.branch 62 (.leaf (59, .invokevirtual 391, 3)) (.branch 63 (.leaf (62, .aload_n 0, 1)) (.leaf (63, .iconst 0, 1))))) (.branch 68 (.branch 67 (.leaf (64, .putfield 85, 3)) (.leaf (67, .aload_n 0, 1))) (.branch 69 (.leaf (68, .iconst 0, 1)) (.branch 72 (.leaf (69, .putfield 91, 3)) (.leaf (72, .return_, 1)))))))
noncomputable def oX11_takeDraft : List dLf := dFl tX11_takeDraft
theorem ofX11_takeDraft : dFl tX11_takeDraft = oX11_takeDraft := rfl
set_option maxRecDepth 100000 in
theorem odX11_takeDraft : ∀ q ∈ oX11_takeDraft, decode cX11_takeDraft q.1 = .ok (q.2.1, q.2.2) := q_go qT_ok bbX11_takeDraft oX11_takeDraft 0 (by decide +kernel)
theorem dX11_takeDraft_0 : decode cX11_takeDraft 0 = .ok (.aload_n 0, 1) := d_by (d_at odX11_takeDraft ofX11_takeDraft 0) rfl
theorem dX11_takeDraft_1 : decode cX11_takeDraft 1 = .ok (.getfield 23, 3) := d_by (d_at odX11_takeDraft ofX11_takeDraft 1) rfl
theorem dX11_takeDraft_4 : decode cX11_takeDraft 4 = .ok (.astore_n 1, 1) := d_by (d_at odX11_takeDraft ofX11_takeDraft 4) rfl
theorem dX11_takeDraft_5 : decode cX11_takeDraft 5 = .ok (.aload_n 0, 1) := d_by (d_at odX11_takeDraft ofX11_takeDraft 5) rfl
theorem dX11_takeDraft_6 : decode cX11_takeDraft 6 = .ok (.aload_n 0, 1) := d_by (d_at odX11_takeDraft ofX11_takeDraft 6) rfl
theorem dX11_takeDraft_7 : decode cX11_takeDraft 7 = .ok (.getfield 27, 3) := d_by (d_at odX11_takeDraft ofX11_takeDraft 7) rfl
theorem dX11_takeDraft_10 : decode cX11_takeDraft 10 = .ok (.putfield 23, 3) := d_by (d_at odX11_takeDraft ofX11_takeDraft 10) rfl
theorem dX11_takeDraft_13 : decode cX11_takeDraft 13 = .ok (.aload_n 0, 1) := d_by (d_at odX11_takeDraft ofX11_takeDraft 13) rfl
theorem dX11_takeDraft_14 : decode cX11_takeDraft 14 = .ok (.aload_n 1, 1) := d_by (d_at odX11_takeDraft ofX11_takeDraft 14) rfl
theorem dX11_takeDraft_15 : decode cX11_takeDraft 15 = .ok (.putfield 27, 3) := d_by (d_at odX11_takeDraft ofX11_takeDraft 15) rfl
theorem dX11_takeDraft_18 : decode cX11_takeDraft 18 = .ok (.aload_n 0, 1) := d_by (d_at odX11_takeDraft ofX11_takeDraft 18) rfl
theorem dX11_takeDraft_19 : decode cX11_takeDraft 19 = .ok (.getfield 51, 3) := d_by (d_at odX11_takeDraft ofX11_takeDraft 19) rfl
theorem dX11_takeDraft_22 : decode cX11_takeDraft 22 = .ok (.aload_n 0, 1) := d_by (d_at odX11_takeDraft ofX11_takeDraft 22) rfl
theorem dX11_takeDraft_23 : decode cX11_takeDraft 23 = .ok (.getfield 23, 3) := d_by (d_at odX11_takeDraft ofX11_takeDraft 23) rfl
theorem dX11_takeDraft_26 : decode cX11_takeDraft 26 = .ok (.putfield 388, 3) := d_by (d_at odX11_takeDraft ofX11_takeDraft 26) rfl
theorem dX11_takeDraft_29 : decode cX11_takeDraft 29 = .ok (.aload_n 0, 1) := d_by (d_at odX11_takeDraft ofX11_takeDraft 29) rfl
theorem dX11_takeDraft_30 : decode cX11_takeDraft 30 = .ok (.getfield 60, 3) := d_by (d_at odX11_takeDraft ofX11_takeDraft 30) rfl
theorem dX11_takeDraft_33 : decode cX11_takeDraft 33 = .ok (.aload_n 0, 1) := d_by (d_at odX11_takeDraft ofX11_takeDraft 33) rfl
theorem dX11_takeDraft_34 : decode cX11_takeDraft 34 = .ok (.getfield 23, 3) := d_by (d_at odX11_takeDraft ofX11_takeDraft 34) rfl
theorem dX11_takeDraft_37 : decode cX11_takeDraft 37 = .ok (.putfield 389, 3) := d_by (d_at odX11_takeDraft ofX11_takeDraft 37) rfl
theorem dX11_takeDraft_40 : decode cX11_takeDraft 40 = .ok (.aload_n 0, 1) := d_by (d_at odX11_takeDraft ofX11_takeDraft 40) rfl
theorem dX11_takeDraft_41 : decode cX11_takeDraft 41 = .ok (.getfield 67, 3) := d_by (d_at odX11_takeDraft ofX11_takeDraft 41) rfl
theorem dX11_takeDraft_44 : decode cX11_takeDraft 44 = .ok (.aload_n 0, 1) := d_by (d_at odX11_takeDraft ofX11_takeDraft 44) rfl
theorem dX11_takeDraft_45 : decode cX11_takeDraft 45 = .ok (.getfield 23, 3) := d_by (d_at odX11_takeDraft ofX11_takeDraft 45) rfl
theorem dX11_takeDraft_48 : decode cX11_takeDraft 48 = .ok (.putfield 390, 3) := d_by (d_at odX11_takeDraft ofX11_takeDraft 48) rfl
theorem dX11_takeDraft_51 : decode cX11_takeDraft 51 = .ok (.aload_n 0, 1) := d_by (d_at odX11_takeDraft ofX11_takeDraft 51) rfl
theorem dX11_takeDraft_52 : decode cX11_takeDraft 52 = .ok (.getfield 42, 3) := d_by (d_at odX11_takeDraft ofX11_takeDraft 52) rfl
theorem dX11_takeDraft_55 : decode cX11_takeDraft 55 = .ok (.aload_n 0, 1) := d_by (d_at odX11_takeDraft ofX11_takeDraft 55) rfl
theorem dX11_takeDraft_56 : decode cX11_takeDraft 56 = .ok (.getfield 23, 3) := d_by (d_at odX11_takeDraft ofX11_takeDraft 56) rfl
theorem dX11_takeDraft_59 : decode cX11_takeDraft 59 = .ok (.invokevirtual 391, 3) := d_by (d_at odX11_takeDraft ofX11_takeDraft 59) rfl
theorem dX11_takeDraft_62 : decode cX11_takeDraft 62 = .ok (.aload_n 0, 1) := d_by (d_at odX11_takeDraft ofX11_takeDraft 62) rfl
theorem dX11_takeDraft_63 : decode cX11_takeDraft 63 = .ok (.iconst 0, 1) := d_by (d_at odX11_takeDraft ofX11_takeDraft 63) rfl
theorem dX11_takeDraft_64 : decode cX11_takeDraft 64 = .ok (.putfield 85, 3) := d_by (d_at odX11_takeDraft ofX11_takeDraft 64) rfl
theorem dX11_takeDraft_67 : decode cX11_takeDraft 67 = .ok (.aload_n 0, 1) := d_by (d_at odX11_takeDraft ofX11_takeDraft 67) rfl
theorem dX11_takeDraft_68 : decode cX11_takeDraft 68 = .ok (.iconst 0, 1) := d_by (d_at odX11_takeDraft ofX11_takeDraft 68) rfl
theorem dX11_takeDraft_69 : decode cX11_takeDraft 69 = .ok (.putfield 91, 3) := d_by (d_at odX11_takeDraft ofX11_takeDraft 69) rfl
theorem dX11_takeDraft_72 : decode cX11_takeDraft 72 = .ok (.return_, 1) := d_by (d_at odX11_takeDraft ofX11_takeDraft 72) rfl
set_option maxRecDepth 100000 in
def bX11_keepForUndo : List Nat := [42, 42, 180, 0, 82, 4, 96, 16, 12, 112, 181, 0, 82, 42, 180, 0, 78, 42, 180, 0, 82, 50, 42, 180, 0, 42, 182, 1, 103, 42, 42, 180, 0, 85, 4, 96, 16, 12, 184, 1, 138, 181, 0, 85, 177]
set_option maxRecDepth 100000 in
theorem bbX11_keepForUndo : cX11_keepForUndo.data.toList.map UInt8.toNat = bX11_keepForUndo := by decide +kernel
set_option maxRecDepth 100000 in
def tX11_keepForUndo : Lean.RArray dLf := .branch 21 (.branch 9 (.branch 5 (.branch 1 (.leaf (0, .aload_n 0, 1)) (.branch 2 (.leaf (1, .aload_n 0, 1)) (.leaf (2, .getfield 82, 3)))) (.branch 6 (.leaf (5, .iconst 1, 1)) (.branch 7 (.leaf (6, .iadd, 1)) (.leaf (7, .bipush 12, 2))))) (.branch 14 (.branch 10 (.leaf (9, .irem, 1)) (.branch 13 (.leaf (10, .putfield 82, 3)) (.leaf (13, .aload_n 0, 1)))) (.branch 17 (.leaf (14, .getfield 78, 3)) (.branch 18 (.leaf (17, .aload_n 0, 1)) (.leaf (18, .getfield 82, 3)))))) (.branch 31 (.branch 26 (.branch 22 (.leaf (21, .aaload, 1)) (.branch 23 (.leaf (22, .aload_n 0, 1)) (.leaf (23, .getfield 42, 3)))) (.branch 29 (.leaf (26, .invokevirtual 359, 3)) (.branch 30 (.leaf (29, .aload_n 0, 1)) (.leaf (30, .aload_n 0, 1))))) (.branch 36 (.branch 34 (.leaf (31, .getfield 85, 3)) (.branch 35 (.leaf (34, .iconst 1, 1)) (.leaf (35, .iadd, 1)))) (.branch 41 (.branch 38 (.leaf (36, .bipush 12, 2)) (.leaf (38, .invokestatic 394, 3))) (.branch 44 (.leaf (41, .putfield 85, 3)) (.leaf (44, .return_, 1))))))
noncomputable def oX11_keepForUndo : List dLf := dFl tX11_keepForUndo
theorem ofX11_keepForUndo : dFl tX11_keepForUndo = oX11_keepForUndo := rfl
set_option maxRecDepth 100000 in
theorem odX11_keepForUndo : ∀ q ∈ oX11_keepForUndo, decode cX11_keepForUndo q.1 = .ok (q.2.1, q.2.2) := q_go qT_ok bbX11_keepForUndo oX11_keepForUndo 0 (by decide +kernel)
theorem dX11_keepForUndo_0 : decode cX11_keepForUndo 0 = .ok (.aload_n 0, 1) := d_by (d_at odX11_keepForUndo ofX11_keepForUndo 0) rfl
theorem dX11_keepForUndo_1 : decode cX11_keepForUndo 1 = .ok (.aload_n 0, 1) := d_by (d_at odX11_keepForUndo ofX11_keepForUndo 1) rfl
theorem dX11_keepForUndo_2 : decode cX11_keepForUndo 2 = .ok (.getfield 82, 3) := d_by (d_at odX11_keepForUndo ofX11_keepForUndo 2) rfl
theorem dX11_keepForUndo_5 : decode cX11_keepForUndo 5 = .ok (.iconst 1, 1) := d_by (d_at odX11_keepForUndo ofX11_keepForUndo 5) rfl
theorem dX11_keepForUndo_6 : decode cX11_keepForUndo 6 = .ok (.iadd, 1) := d_by (d_at odX11_keepForUndo ofX11_keepForUndo 6) rfl
theorem dX11_keepForUndo_7 : decode cX11_keepForUndo 7 = .ok (.bipush 12, 2) := d_by (d_at odX11_keepForUndo ofX11_keepForUndo 7) rfl
theorem dX11_keepForUndo_9 : decode cX11_keepForUndo 9 = .ok (.irem, 1) := d_by (d_at odX11_keepForUndo ofX11_keepForUndo 9) rfl
theorem dX11_keepForUndo_10 : decode cX11_keepForUndo 10 = .ok (.putfield 82, 3) := d_by (d_at odX11_keepForUndo ofX11_keepForUndo 10) rfl
theorem dX11_keepForUndo_13 : decode cX11_keepForUndo 13 = .ok (.aload_n 0, 1) := d_by (d_at odX11_keepForUndo ofX11_keepForUndo 13) rfl
theorem dX11_keepForUndo_14 : decode cX11_keepForUndo 14 = .ok (.getfield 78, 3) := d_by (d_at odX11_keepForUndo ofX11_keepForUndo 14) rfl
theorem dX11_keepForUndo_17 : decode cX11_keepForUndo 17 = .ok (.aload_n 0, 1) := d_by (d_at odX11_keepForUndo ofX11_keepForUndo 17) rfl
theorem dX11_keepForUndo_18 : decode cX11_keepForUndo 18 = .ok (.getfield 82, 3) := d_by (d_at odX11_keepForUndo ofX11_keepForUndo 18) rfl
theorem dX11_keepForUndo_21 : decode cX11_keepForUndo 21 = .ok (.aaload, 1) := d_by (d_at odX11_keepForUndo ofX11_keepForUndo 21) rfl
theorem dX11_keepForUndo_22 : decode cX11_keepForUndo 22 = .ok (.aload_n 0, 1) := d_by (d_at odX11_keepForUndo ofX11_keepForUndo 22) rfl
theorem dX11_keepForUndo_23 : decode cX11_keepForUndo 23 = .ok (.getfield 42, 3) := d_by (d_at odX11_keepForUndo ofX11_keepForUndo 23) rfl
theorem dX11_keepForUndo_26 : decode cX11_keepForUndo 26 = .ok (.invokevirtual 359, 3) := d_by (d_at odX11_keepForUndo ofX11_keepForUndo 26) rfl
theorem dX11_keepForUndo_29 : decode cX11_keepForUndo 29 = .ok (.aload_n 0, 1) := d_by (d_at odX11_keepForUndo ofX11_keepForUndo 29) rfl
theorem dX11_keepForUndo_30 : decode cX11_keepForUndo 30 = .ok (.aload_n 0, 1) := d_by (d_at odX11_keepForUndo ofX11_keepForUndo 30) rfl
theorem dX11_keepForUndo_31 : decode cX11_keepForUndo 31 = .ok (.getfield 85, 3) := d_by (d_at odX11_keepForUndo ofX11_keepForUndo 31) rfl
theorem dX11_keepForUndo_34 : decode cX11_keepForUndo 34 = .ok (.iconst 1, 1) := d_by (d_at odX11_keepForUndo ofX11_keepForUndo 34) rfl
theorem dX11_keepForUndo_35 : decode cX11_keepForUndo 35 = .ok (.iadd, 1) := d_by (d_at odX11_keepForUndo ofX11_keepForUndo 35) rfl
theorem dX11_keepForUndo_36 : decode cX11_keepForUndo 36 = .ok (.bipush 12, 2) := d_by (d_at odX11_keepForUndo ofX11_keepForUndo 36) rfl
theorem dX11_keepForUndo_38 : decode cX11_keepForUndo 38 = .ok (.invokestatic 394, 3) := d_by (d_at odX11_keepForUndo ofX11_keepForUndo 38) rfl
theorem dX11_keepForUndo_41 : decode cX11_keepForUndo 41 = .ok (.putfield 85, 3) := d_by (d_at odX11_keepForUndo ofX11_keepForUndo 41) rfl
theorem dX11_keepForUndo_44 : decode cX11_keepForUndo 44 = .ok (.return_, 1) := d_by (d_at odX11_keepForUndo ofX11_keepForUndo 44) rfl
set_option maxRecDepth 100000 in
def bX11_hearerIn : List Nat := [42, 180, 0, 51, 42, 180, 0, 42, 180, 0, 195, 27, 46, 42, 180, 0, 23, 27, 182, 0, 198, 28, 182, 1, 21, 172]
set_option maxRecDepth 100000 in
theorem bbX11_hearerIn : cX11_hearerIn.data.toList.map UInt8.toNat = bX11_hearerIn := by decide +kernel
set_option maxRecDepth 100000 in
def tX11_hearerIn : Lean.RArray dLf := .branch 13 (.branch 5 (.branch 1 (.leaf (0, .aload_n 0, 1)) (.branch 4 (.leaf (1, .getfield 51, 3)) (.leaf (4, .aload_n 0, 1)))) (.branch 11 (.branch 8 (.leaf (5, .getfield 42, 3)) (.leaf (8, .getfield 195, 3))) (.branch 12 (.leaf (11, .iload_n 1, 1)) (.leaf (12, .iaload, 1))))) (.branch 18 (.branch 14 (.leaf (13, .aload_n 0, 1)) (.branch 17 (.leaf (14, .getfield 23, 3)) (.leaf (17, .iload_n 1, 1)))) (.branch 22 (.branch 21 (.leaf (18, .invokevirtual 198, 3)) (.leaf (21, .iload_n 2, 1))) (.branch 25 (.leaf (22, .invokevirtual 277, 3)) (.leaf (25, .ireturn, 1)))))
noncomputable def oX11_hearerIn : List dLf := dFl tX11_hearerIn
theorem ofX11_hearerIn : dFl tX11_hearerIn = oX11_hearerIn := rfl
set_option maxRecDepth 100000 in
theorem odX11_hearerIn : ∀ q ∈ oX11_hearerIn, decode cX11_hearerIn q.1 = .ok (q.2.1, q.2.2) := q_go qT_ok bbX11_hearerIn oX11_hearerIn 0 (by decide +kernel)
theorem dX11_hearerIn_0 : decode cX11_hearerIn 0 = .ok (.aload_n 0, 1) := d_by (d_at odX11_hearerIn ofX11_hearerIn 0) rfl
theorem dX11_hearerIn_1 : decode cX11_hearerIn 1 = .ok (.getfield 51, 3) := d_by (d_at odX11_hearerIn ofX11_hearerIn 1) rfl
theorem dX11_hearerIn_4 : decode cX11_hearerIn 4 = .ok (.aload_n 0, 1) := d_by (d_at odX11_hearerIn ofX11_hearerIn 4) rfl
theorem dX11_hearerIn_5 : decode cX11_hearerIn 5 = .ok (.getfield 42, 3) := d_by (d_at odX11_hearerIn ofX11_hearerIn 5) rfl
theorem dX11_hearerIn_8 : decode cX11_hearerIn 8 = .ok (.getfield 195, 3) := d_by (d_at odX11_hearerIn ofX11_hearerIn 8) rfl
theorem dX11_hearerIn_11 : decode cX11_hearerIn 11 = .ok (.iload_n 1, 1) := d_by (d_at odX11_hearerIn ofX11_hearerIn 11) rfl
theorem dX11_hearerIn_12 : decode cX11_hearerIn 12 = .ok (.iaload, 1) := d_by (d_at odX11_hearerIn ofX11_hearerIn 12) rfl
theorem dX11_hearerIn_13 : decode cX11_hearerIn 13 = .ok (.aload_n 0, 1) := d_by (d_at odX11_hearerIn ofX11_hearerIn 13) rfl
theorem dX11_hearerIn_14 : decode cX11_hearerIn 14 = .ok (.getfield 23, 3) := d_by (d_at odX11_hearerIn ofX11_hearerIn 14) rfl
theorem dX11_hearerIn_17 : decode cX11_hearerIn 17 = .ok (.iload_n 1, 1) := d_by (d_at odX11_hearerIn ofX11_hearerIn 17) rfl
theorem dX11_hearerIn_18 : decode cX11_hearerIn 18 = .ok (.invokevirtual 198, 3) := d_by (d_at odX11_hearerIn ofX11_hearerIn 18) rfl
theorem dX11_hearerIn_21 : decode cX11_hearerIn 21 = .ok (.iload_n 2, 1) := d_by (d_at odX11_hearerIn ofX11_hearerIn 21) rfl
theorem dX11_hearerIn_22 : decode cX11_hearerIn 22 = .ok (.invokevirtual 277, 3) := d_by (d_at odX11_hearerIn ofX11_hearerIn 22) rfl
theorem dX11_hearerIn_25 : decode cX11_hearerIn 25 = .ok (.ireturn, 1) := d_by (d_at odX11_hearerIn ofX11_hearerIn 25) rfl
set_option maxRecDepth 100000 in
def bX11_sentPart : List Nat := [28, 154, 0, 5, 4, 172, 28, 4, 160, 0, 33, 42, 180, 0, 42, 180, 0, 171, 27, 46, 42, 180, 0, 23, 180, 0, 150, 27, 50, 180, 0, 159, 160, 0, 7, 4, 167, 0, 4, 3, 172, 42, 180, 0, 42, 180, 0, 168, 27, 46, 42, 180, 0, 23, 180, 0, 150, 27, 50, 180, 0, 165, 100, 172]
set_option maxRecDepth 100000 in
theorem bbX11_sentPart : cX11_sentPart.data.toList.map UInt8.toNat = bX11_sentPart := by decide +kernel
set_option maxRecDepth 100000 in
def tX11_sentPart : Lean.RArray dLf := .branch 32 (.branch 15 (.branch 6 (.branch 4 (.branch 1 (.leaf (0, .iload_n 2, 1)) (.leaf (1, .ifCond .ne 5, 3))) (.branch 5 (.leaf (4, .iconst 1, 1)) (.leaf (5, .ireturn, 1)))) (.branch 8 (.branch 7 (.leaf (6, .iload_n 2, 1)) (.leaf (7, .iconst 1, 1))) (.branch 11 (.leaf (8, .if_icmp .ne 33, 3)) (.branch 12 (.leaf (11, .aload_n 0, 1)) (.leaf (12, .getfield 42, 3)))))) (.branch 21 (.branch 19 (.branch 18 (.leaf (15, .getfield 171, 3)) (.leaf (18, .iload_n 1, 1))) (.branch 20 (.leaf (19, .iaload, 1)) (.leaf (20, .aload_n 0, 1)))) (.branch 27 (.branch 24 (.leaf (21, .getfield 23, 3)) (.leaf (24, .getfield 150, 3))) (.branch 28 (.leaf (27, .iload_n 1, 1)) (.branch 29 (.leaf (28, .aaload, 1)) (.leaf (29, .getfield 159, 3))))))) (.branch 49 (.branch 40 (.branch 36 (.branch 35 (.leaf (32, .if_icmp .ne 7, 3)) (.leaf (35, .iconst 1, 1))) (.branch 39 (.leaf (36, .goto 4, 3)) (.leaf (39, .iconst 0, 1)))) (.branch 42 (.branch 41 (.leaf (40, .ireturn, 1)) (.leaf (41, .aload_n 0, 1))) (.branch 45 (.leaf (42, .getfield 42, 3)) (.branch 48 (.leaf (45, .getfield 168, 3)) (.leaf (48, .iload_n 1, 1)))))) (.branch 57 (.branch 51 (.branch 50 (.leaf (49, .iaload, 1)) (.leaf (50, .aload_n 0, 1))) (.branch 54 (.leaf (51, .getfield 23, 3)) (.leaf (54, .getfield 150, 3)))) (.branch 59 (.branch 58 (.leaf (57, .iload_n 1, 1)) (.leaf (58, .aaload, 1))) (.branch 62 (.leaf (59, .getfield 165, 3)) (.branch 63 (.leaf (62, .isub, 1)) (.leaf (63, .ireturn, 1)))))))
noncomputable def oX11_sentPart : List dLf := dFl tX11_sentPart
theorem ofX11_sentPart : dFl tX11_sentPart = oX11_sentPart := rfl
set_option maxRecDepth 100000 in
theorem odX11_sentPart : ∀ q ∈ oX11_sentPart, decode cX11_sentPart q.1 = .ok (q.2.1, q.2.2) := q_go qT_ok bbX11_sentPart oX11_sentPart 0 (by decide +kernel)
set_option maxRecDepth 100000 in
def bX11_heardWithSlips : List Nat := [3, 61, 3, 62, 29, 42, 180, 0, 23, 180, 0, 239, 162, 0, 69, 42, 180, 0, 23, 29, 182, 0, 198, 54, 4, 42, 180, 0, 51, 42, 180, 0, 42, 180, 0, 195, 29, 46, 21, 4, 182, 1, 143, 54, 5, 42, 180, 0, 51, 21, 5, 21, 4, 27, 182, 1, 21, 42, 180, 0, 23, 180, 0, 150, 29, 50, 180, 0, 159, 160, 0, 6, 132, 2, 1, 132, 3, 1, 167, 255, 182, 28, 172]
set_option maxRecDepth 100000 in
theorem bbX11_heardWithSlips : cX11_heardWithSlips.data.toList.map UInt8.toNat = bX11_heardWithSlips := by decide +kernel
set_option maxRecDepth 100000 in
def tX11_heardWithSlips : Lean.RArray dLf := .branch 38 (.branch 16 (.branch 5 (.branch 2 (.branch 1 (.leaf (0, .iconst 0, 1)) (.leaf (1, .istore_n 2, 1))) (.branch 3 (.leaf (2, .iconst 0, 1)) (.branch 4 (.leaf (3, .istore_n 3, 1)) (.leaf (4, .iload_n 3, 1))))) (.branch 9 (.branch 6 (.leaf (5, .aload_n 0, 1)) (.leaf (6, .getfield 23, 3))) (.branch 12 (.leaf (9, .getfield 239, 3)) (.branch 15 (.leaf (12, .if_icmp .ge 69, 3)) (.leaf (15, .aload_n 0, 1)))))) (.branch 26 (.branch 20 (.branch 19 (.leaf (16, .getfield 23, 3)) (.leaf (19, .iload_n 3, 1))) (.branch 23 (.leaf (20, .invokevirtual 198, 3)) (.branch 25 (.leaf (23, .istore 4, 2)) (.leaf (25, .aload_n 0, 1))))) (.branch 33 (.branch 29 (.leaf (26, .getfield 51, 3)) (.branch 30 (.leaf (29, .aload_n 0, 1)) (.leaf (30, .getfield 42, 3)))) (.branch 36 (.leaf (33, .getfield 195, 3)) (.branch 37 (.leaf (36, .iload_n 3, 1)) (.leaf (37, .iaload, 1))))))) (.branch 58 (.branch 49 (.branch 43 (.branch 40 (.leaf (38, .iload 4, 2)) (.leaf (40, .invokevirtual 399, 3))) (.branch 45 (.leaf (43, .istore 5, 2)) (.branch 46 (.leaf (45, .aload_n 0, 1)) (.leaf (46, .getfield 51, 3))))) (.branch 53 (.branch 51 (.leaf (49, .iload 5, 2)) (.leaf (51, .iload 4, 2))) (.branch 54 (.leaf (53, .iload_n 1, 1)) (.branch 57 (.leaf (54, .invokevirtual 277, 3)) (.leaf (57, .aload_n 0, 1)))))) (.branch 69 (.branch 64 (.branch 61 (.leaf (58, .getfield 23, 3)) (.leaf (61, .getfield 150, 3))) (.branch 65 (.leaf (64, .iload_n 3, 1)) (.branch 66 (.leaf (65, .aaload, 1)) (.leaf (66, .getfield 159, 3))))) (.branch 78 (.branch 72 (.leaf (69, .if_icmp .ne 6, 3)) (.branch 75 (.leaf (72, .iinc 2 1, 3)) (.leaf (75, .iinc 3 1, 3)))) (.branch 81 (.leaf (78, .goto (-74), 3)) (.branch 82 (.leaf (81, .iload_n 2, 1)) (.leaf (82, .ireturn, 1)))))))
noncomputable def oX11_heardWithSlips : List dLf := dFl tX11_heardWithSlips
theorem ofX11_heardWithSlips : dFl tX11_heardWithSlips = oX11_heardWithSlips := rfl
set_option maxRecDepth 100000 in
theorem odX11_heardWithSlips : ∀ q ∈ oX11_heardWithSlips, decode cX11_heardWithSlips q.1 = .ok (q.2.1, q.2.2) := q_go qT_ok bbX11_heardWithSlips oX11_heardWithSlips 0 (by decide +kernel)
set_option maxRecDepth 100000 in
def bX11_solveMatch : List Nat := [3, 60, 27, 42, 180, 0, 23, 180, 0, 239, 162, 0, 50, 3, 61, 28, 42, 180, 0, 23, 180, 1, 126, 162, 0, 31, 42, 180, 0, 74, 180, 1, 146, 27, 8, 104, 28, 96, 42, 180, 0, 60, 28, 27, 182, 1, 27, 79, 132, 2, 1, 167, 255, 220, 132, 1, 1, 167, 255, 201, 42, 180, 0, 74, 42, 180, 0, 23, 180, 0, 239, 42, 180, 0, 23, 180, 1, 126, 182, 1, 148, 177]
set_option maxRecDepth 100000 in
theorem bbX11_solveMatch : cX11_solveMatch.data.toList.map UInt8.toNat = bX11_solveMatch := by decide +kernel
set_option maxRecDepth 100000 in
def tX11_solveMatch : Lean.RArray dLf := .branch 37 (.branch 16 (.branch 7 (.branch 2 (.branch 1 (.leaf (0, .iconst 0, 1)) (.leaf (1, .istore_n 1, 1))) (.branch 3 (.leaf (2, .iload_n 1, 1)) (.branch 4 (.leaf (3, .aload_n 0, 1)) (.leaf (4, .getfield 23, 3))))) (.branch 13 (.branch 10 (.leaf (7, .getfield 239, 3)) (.leaf (10, .if_icmp .ge 50, 3))) (.branch 14 (.leaf (13, .iconst 0, 1)) (.branch 15 (.leaf (14, .istore_n 2, 1)) (.leaf (15, .iload_n 2, 1)))))) (.branch 27 (.branch 20 (.branch 17 (.leaf (16, .aload_n 0, 1)) (.leaf (17, .getfield 23, 3))) (.branch 23 (.leaf (20, .getfield 382, 3)) (.branch 26 (.leaf (23, .if_icmp .ge 31, 3)) (.leaf (26, .aload_n 0, 1))))) (.branch 34 (.branch 30 (.leaf (27, .getfield 74, 3)) (.branch 33 (.leaf (30, .getfield 402, 3)) (.leaf (33, .iload_n 1, 1)))) (.branch 35 (.leaf (34, .iconst 5, 1)) (.branch 36 (.leaf (35, .imul, 1)) (.leaf (36, .iload_n 2, 1))))))) (.branch 57 (.branch 44 (.branch 39 (.branch 38 (.leaf (37, .iadd, 1)) (.leaf (38, .aload_n 0, 1))) (.branch 42 (.leaf (39, .getfield 60, 3)) (.branch 43 (.leaf (42, .iload_n 2, 1)) (.leaf (43, .iload_n 1, 1))))) (.branch 48 (.branch 47 (.leaf (44, .invokevirtual 283, 3)) (.leaf (47, .iastore, 1))) (.branch 51 (.leaf (48, .iinc 2 1, 3)) (.branch 54 (.leaf (51, .goto (-36), 3)) (.leaf (54, .iinc 1 1, 3)))))) (.branch 68 (.branch 61 (.branch 60 (.leaf (57, .goto (-55), 3)) (.leaf (60, .aload_n 0, 1))) (.branch 64 (.leaf (61, .getfield 74, 3)) (.branch 65 (.leaf (64, .aload_n 0, 1)) (.leaf (65, .getfield 23, 3))))) (.branch 75 (.branch 71 (.leaf (68, .getfield 239, 3)) (.branch 72 (.leaf (71, .aload_n 0, 1)) (.leaf (72, .getfield 23, 3)))) (.branch 78 (.leaf (75, .getfield 382, 3)) (.branch 81 (.leaf (78, .invokevirtual 404, 3)) (.leaf (81, .return_, 1)))))))
noncomputable def oX11_solveMatch : List dLf := dFl tX11_solveMatch
theorem ofX11_solveMatch : dFl tX11_solveMatch = oX11_solveMatch := rfl
set_option maxRecDepth 100000 in
theorem odX11_solveMatch : ∀ q ∈ oX11_solveMatch, decode cX11_solveMatch q.1 = .ok (q.2.1, q.2.2) := q_go qT_ok bbX11_solveMatch oX11_solveMatch 0 (by decide +kernel)
set_option maxRecDepth 100000 in
def bX11_commonDivisor : List Nat := [26, 61, 27, 62, 3, 54, 4, 21, 4, 16, 40, 162, 0, 23, 29, 153, 0, 19, 28, 29, 112, 54, 5, 29, 61, 21, 5, 62, 132, 4, 1, 167, 255, 232, 28, 4, 184, 1, 152, 172]
set_option maxRecDepth 100000 in
theorem bbX11_commonDivisor : cX11_commonDivisor.data.toList.map UInt8.toNat = bX11_commonDivisor := by decide +kernel
set_option maxRecDepth 100000 in
def tX11_commonDivisor : Lean.RArray dLf := .branch 19 (.branch 7 (.branch 3 (.branch 1 (.leaf (0, .iload_n 0, 1)) (.branch 2 (.leaf (1, .istore_n 2, 1)) (.leaf (2, .iload_n 1, 1)))) (.branch 4 (.leaf (3, .istore_n 3, 1)) (.branch 5 (.leaf (4, .iconst 0, 1)) (.leaf (5, .istore 4, 2))))) (.branch 14 (.branch 9 (.leaf (7, .iload 4, 2)) (.branch 11 (.leaf (9, .bipush 40, 2)) (.leaf (11, .if_icmp .ge 23, 3)))) (.branch 15 (.leaf (14, .iload_n 3, 1)) (.branch 18 (.leaf (15, .ifCond .eq 19, 3)) (.leaf (18, .iload_n 2, 1)))))) (.branch 27 (.branch 23 (.branch 20 (.leaf (19, .iload_n 3, 1)) (.branch 21 (.leaf (20, .irem, 1)) (.leaf (21, .istore 5, 2)))) (.branch 24 (.leaf (23, .iload_n 3, 1)) (.branch 25 (.leaf (24, .istore_n 2, 1)) (.leaf (25, .iload 5, 2))))) (.branch 34 (.branch 28 (.leaf (27, .istore_n 3, 1)) (.branch 31 (.leaf (28, .iinc 4 1, 3)) (.leaf (31, .goto (-24), 3)))) (.branch 36 (.branch 35 (.leaf (34, .iload_n 2, 1)) (.leaf (35, .iconst 1, 1))) (.branch 39 (.leaf (36, .invokestatic 408, 3)) (.leaf (39, .ireturn, 1))))))
noncomputable def oX11_commonDivisor : List dLf := dFl tX11_commonDivisor
theorem ofX11_commonDivisor : dFl tX11_commonDivisor = oX11_commonDivisor := rfl
set_option maxRecDepth 100000 in
theorem odX11_commonDivisor : ∀ q ∈ oX11_commonDivisor, decode cX11_commonDivisor q.1 = .ok (q.2.1, q.2.2) := q_go qT_ok bbX11_commonDivisor oX11_commonDivisor 0 (by decide +kernel)
