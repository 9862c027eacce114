set_option maxRecDepth 100000 in
def bX0_init : List Nat := [42, 183, 0, 1, 177]
set_option maxRecDepth 100000 in
theorem bbX0_init : cX0_init.data.toList.map UInt8.toNat = bX0_init := by decide +kernel
set_option maxRecDepth 100000 in
def tX0_init : Lean.RArray dLf := .branch 1 (.leaf (0, .aload_n 0, 1)) (.branch 4 (.leaf (1, .invokespecial 1, 3)) (.leaf (4, .return_, 1)))
noncomputable def oX0_init : List dLf := dFl tX0_init
theorem ofX0_init : dFl tX0_init = oX0_init := rfl
set_option maxRecDepth 100000 in
theorem odX0_init : ∀ q ∈ oX0_init, decode cX0_init q.1 = .ok (q.2.1, q.2.2) := q_go qT_ok bbX0_init oX0_init 0 (by decide +kernel)
theorem dX0_init_0 : decode cX0_init 0 = .ok (.aload_n 0, 1) := d_by (d_at odX0_init ofX0_init 0) rfl
theorem dX0_init_1 : decode cX0_init 1 = .ok (.invokespecial 1, 3) := d_by (d_at odX0_init ofX0_init 1) rfl
theorem dX0_init_4 : decode cX0_init 4 = .ok (.return_, 1) := d_by (d_at odX0_init ofX0_init 4) rfl
set_option maxRecDepth 100000 in
def bX1_init : List Nat := [42, 183, 0, 3, 42, 16, 40, 188, 10, 181, 0, 9, 42, 16, 8, 188, 10, 181, 0, 15, 42, 3, 181, 0, 18, 42, 3, 181, 0, 22, 42, 17, 1, 32, 188, 10, 181, 0, 25, 177]
set_option maxRecDepth 100000 in
theorem bbX1_init : cX1_init.data.toList.map UInt8.toNat = bX1_init := by decide +kernel
theorem eX1_init_7 : decode cX1_init 7 = .ok (.newarray .int, 2) := by decide +kernel
theorem eX1_init_15 : decode cX1_init 15 = .ok (.newarray .int, 2) := by decide +kernel
theorem eX1_init_34 : decode cX1_init 34 = .ok (.newarray .int, 2) := by decide +kernel
set_option maxRecDepth 100000 in
def oX1_inits0 : List dLf := [(0, .aload_n 0, 1), (1, .invokespecial 3, 3), (4, .aload_n 0, 1), (5, .bipush 40, 2)]
set_option maxRecDepth 100000 in
theorem odX1_inits0 : ∀ q ∈ oX1_inits0, decode cX1_init q.1 = .ok (q.2.1, q.2.2) := q_go qT_ok bbX1_init oX1_inits0 0 (by decide +kernel)
set_option maxRecDepth 100000 in
def oX1_inits2 : List dLf := [(9, .putfield 9, 3), (12, .aload_n 0, 1), (13, .bipush 8, 2)]
set_option maxRecDepth 100000 in
theorem odX1_inits2 : ∀ q ∈ oX1_inits2, decode cX1_init q.1 = .ok (q.2.1, q.2.2) := q_go qT_ok bbX1_init oX1_inits2 9 (by decide +kernel)
set_option maxRecDepth 100000 in
def oX1_inits4 : List dLf := [(17, .putfield 15, 3), (20, .aload_n 0, 1), (21, .iconst 0, 1), (22, .putfield 18, 3), (25, .aload_n 0, 1), (26, .iconst 0, 1), (27, .putfield 22, 3), (30, .aload_n 0, 1), (31, .sipush 288, 3)]
set_option maxRecDepth 100000 in
theorem odX1_inits4 : ∀ q ∈ oX1_inits4, decode cX1_init q.1 = .ok (q.2.1, q.2.2) := q_go qT_ok bbX1_init oX1_inits4 17 (by decide +kernel)
set_option maxRecDepth 100000 in
def oX1_inits6 : List dLf := [(36, .putfield 25, 3), (39, .return_, 1)]
set_option maxRecDepth 100000 in
theorem odX1_inits6 : ∀ q ∈ oX1_inits6, decode cX1_init q.1 = .ok (q.2.1, q.2.2) := q_go qT_ok bbX1_init oX1_inits6 36 (by decide +kernel)
set_option maxRecDepth 100000 in
def oX1_init : List dLf := [(0, .aload_n 0, 1), (1, .invokespecial 3, 3), (4, .aload_n 0, 1), (5, .bipush 40, 2), (7, .newarray .int, 2), (9, .putfield 9, 3), (12, .aload_n 0, 1), (13, .bipush 8, 2), (15, .newarray .int, 2), (17, .putfield 15, 3), (20, .aload_n 0, 1), (21, .iconst 0, 1), (22, .putfield 18, 3), (25, .aload_n 0, 1), (26, .iconst 0, 1), (27, .putfield 22, 3), (30, .aload_n 0, 1), (31, .sipush 288, 3), (34, .newarray .int, 2), (36, .putfield 25, 3), (39, .return_, 1)]
set_option maxRecDepth 100000 in
theorem odX1_init : ∀ q ∈ oX1_init, decode cX1_init q.1 = .ok (q.2.1, q.2.2) := by
  have e : oX1_init = oX1_inits0 ++ ([(7, .newarray .int, 2)] ++ (oX1_inits2 ++ ([(15, .newarray .int, 2)] ++ (oX1_inits4 ++ ([(34, .newarray .int, 2)] ++ (oX1_inits6)))))) := rfl
  rw [e]
  exact List.forall_mem_append.mpr ⟨odX1_inits0, List.forall_mem_append.mpr ⟨(List.forall_mem_singleton.mpr eX1_init_7), List.forall_mem_append.mpr ⟨odX1_inits2, List.forall_mem_append.mpr ⟨(List.forall_mem_singleton.mpr eX1_init_15), List.forall_mem_append.mpr ⟨odX1_inits4, List.forall_mem_append.mpr ⟨(List.forall_mem_singleton.mpr eX1_init_34), odX1_inits6⟩⟩⟩⟩⟩⟩
set_option maxRecDepth 100000 in
def tX1_init : Lean.RArray dLf := .branch 20 (.branch 9 (.branch 4 (.branch 1 (.leaf (0, .aload_n 0, 1)) (.leaf (1, .invokespecial 3, 3))) (.branch 5 (.leaf (4, .aload_n 0, 1)) (.branch 7 (.leaf (5, .bipush 40, 2)) (.leaf (7, .newarray .int, 2))))) (.branch 13 (.branch 12 (.leaf (9, .putfield 9, 3)) (.leaf (12, .aload_n 0, 1))) (.branch 15 (.leaf (13, .bipush 8, 2)) (.branch 17 (.leaf (15, .newarray .int, 2)) (.leaf (17, .putfield 15, 3)))))) (.branch 27 (.branch 22 (.branch 21 (.leaf (20, .aload_n 0, 1)) (.leaf (21, .iconst 0, 1))) (.branch 25 (.leaf (22, .putfield 18, 3)) (.branch 26 (.leaf (25, .aload_n 0, 1)) (.leaf (26, .iconst 0, 1))))) (.branch 34 (.branch 30 (.leaf (27, .putfield 22, 3)) (.branch 31 (.leaf (30, .aload_n 0, 1)) (.leaf (31, .sipush 288, 3)))) (.branch 36 (.leaf (34, .newarray .int, 2)) (.branch 39 (.leaf (36, .putfield 25, 3)) (.leaf (39, .return_, 1))))))
set_option maxRecDepth 100000 in
theorem ofX1_init : dFl tX1_init = oX1_init := rfl
theorem dX1_init_0 : decode cX1_init 0 = .ok (.aload_n 0, 1) := d_by (d_at odX1_init ofX1_init 0) rfl
theorem dX1_init_1 : decode cX1_init 1 = .ok (.invokespecial 3, 3) := d_by (d_at odX1_init ofX1_init 1) rfl
theorem dX1_init_4 : decode cX1_init 4 = .ok (.aload_n 0, 1) := d_by (d_at odX1_init ofX1_init 4) rfl
theorem dX1_init_5 : decode cX1_init 5 = .ok (.bipush 40, 2) := d_by (d_at odX1_init ofX1_init 5) rfl
theorem dX1_init_7 : decode cX1_init 7 = .ok (.newarray .int, 2) := d_by (d_at odX1_init ofX1_init 7) rfl
theorem dX1_init_9 : decode cX1_init 9 = .ok (.putfield 9, 3) := d_by (d_at odX1_init ofX1_init 9) rfl
theorem dX1_init_12 : decode cX1_init 12 = .ok (.aload_n 0, 1) := d_by (d_at odX1_init ofX1_init 12) rfl
theorem dX1_init_13 : decode cX1_init 13 = .ok (.bipush 8, 2) := d_by (d_at odX1_init ofX1_init 13) rfl
theorem dX1_init_15 : decode cX1_init 15 = .ok (.newarray .int, 2) := d_by (d_at odX1_init ofX1_init 15) rfl
theorem dX1_init_17 : decode cX1_init 17 = .ok (.putfield 15, 3) := d_by (d_at odX1_init ofX1_init 17) rfl
theorem dX1_init_20 : decode cX1_init 20 = .ok (.aload_n 0, 1) := d_by (d_at odX1_init ofX1_init 20) rfl
theorem dX1_init_21 : decode cX1_init 21 = .ok (.iconst 0, 1) := d_by (d_at odX1_init ofX1_init 21) rfl
theorem dX1_init_22 : decode cX1_init 22 = .ok (.putfield 18, 3) := d_by (d_at odX1_init ofX1_init 22) rfl
theorem dX1_init_25 : decode cX1_init 25 = .ok (.aload_n 0, 1) := d_by (d_at odX1_init ofX1_init 25) rfl
theorem dX1_init_26 : decode cX1_init 26 = .ok (.iconst 0, 1) := d_by (d_at odX1_init ofX1_init 26) rfl
theorem dX1_init_27 : decode cX1_init 27 = .ok (.putfield 22, 3) := d_by (d_at odX1_init ofX1_init 27) rfl
theorem dX1_init_30 : decode cX1_init 30 = .ok (.aload_n 0, 1) := d_by (d_at odX1_init ofX1_init 30) rfl
theorem dX1_init_31 : decode cX1_init 31 = .ok (.sipush 288, 3) := d_by (d_at odX1_init ofX1_init 31) rfl
theorem dX1_init_34 : decode cX1_init 34 = .ok (.newarray .int, 2) := d_by (d_at odX1_init ofX1_init 34) rfl
theorem dX1_init_36 : decode cX1_init 36 = .ok (.putfield 25, 3) := d_by (d_at odX1_init ofX1_init 36) rfl
theorem dX1_init_39 : decode cX1_init 39 = .ok (.return_, 1) := d_by (d_at odX1_init ofX1_init 39) rfl
set_option maxRecDepth 100000 in
def bX1_solve : List Nat := [42, 180, 0, 25, 3, 184, 0, 28, 27, 4, 100, 62, 29, 155, 0, 87, 3, 54, 4, 21, 4, 4, 28, 120, 162, 0, 70, 42, 180, 0, 25, 29, 4, 96, 16, 32, 104, 21, 4, 96, 46, 54, 5, 3, 54, 6, 21, 6, 28, 162, 0, 25, 21, 5, 42, 29, 21, 6, 21, 4, 182, 0, 34, 184, 0, 38, 54, 5, 132, 6, 1, 167, 255, 231, 42, 180, 0, 25, 29, 16, 32, 104, 21, 4, 96, 21, 5, 79, 132, 4, 1, 167, 255, 184, 132, 3, 255, 167, 255, 171, 42, 27, 28, 182, 0, 44, 177]
set_option maxRecDepth 100000 in
theorem bbX1_solve : cX1_solve.data.toList.map UInt8.toNat = bX1_solve := by decide +kernel
set_option maxRecDepth 100000 in
def tX1_solve : Lean.RArray dLf := .branch 46 (.branch 23 (.branch 11 (.branch 5 (.branch 1 (.leaf (0, .aload_n 0, 1)) (.branch 4 (.leaf (1, .getfield 25, 3)) (.leaf (4, .iconst 0, 1)))) (.branch 9 (.branch 8 (.leaf (5, .invokestatic 28, 3)) (.leaf (8, .iload_n 1, 1))) (.branch 10 (.leaf (9, .iconst 1, 1)) (.leaf (10, .isub, 1))))) (.branch 17 (.branch 13 (.branch 12 (.leaf (11, .istore_n 3, 1)) (.leaf (12, .iload_n 3, 1))) (.branch 16 (.leaf (13, .ifCond .lt 87, 3)) (.leaf (16, .iconst 0, 1)))) (.branch 21 (.branch 19 (.leaf (17, .istore 4, 2)) (.leaf (19, .iload 4, 2))) (.branch 22 (.leaf (21, .iconst 1, 1)) (.leaf (22, .iload_n 2, 1)))))) (.branch 34 (.branch 28 (.branch 24 (.leaf (23, .ishl, 1)) (.branch 27 (.leaf (24, .if_icmp .ge 70, 3)) (.leaf (27, .aload_n 0, 1)))) (.branch 32 (.branch 31 (.leaf (28, .getfield 25, 3)) (.leaf (31, .iload_n 3, 1))) (.branch 33 (.leaf (32, .iconst 1, 1)) (.leaf (33, .iadd, 1))))) (.branch 40 (.branch 37 (.branch 36 (.leaf (34, .bipush 32, 2)) (.leaf (36, .imul, 1))) (.branch 39 (.leaf (37, .iload 4, 2)) (.leaf (39, .iadd, 1)))) (.branch 43 (.branch 41 (.leaf (40, .iaload, 1)) (.leaf (41, .istore 5, 2))) (.branch 44 (.leaf (43, .iconst 0, 1)) (.leaf (44, .istore 6, 2))))))) (.branch 78 (.branch 58 (.branch 52 (.branch 48 (.leaf (46, .iload 6, 2)) (.branch 49 (.leaf (48, .iload_n 2, 1)) (.leaf (49, .if_icmp .ge 25, 3)))) (.branch 55 (.branch 54 (.leaf (52, .iload 5, 2)) (.leaf (54, .aload_n 0, 1))) (.branch 56 (.leaf (55, .iload_n 3, 1)) (.leaf (56, .iload 6, 2))))) (.branch 68 (.branch 63 (.branch 60 (.leaf (58, .iload 4, 2)) (.leaf (60, .invokevirtual 34, 3))) (.branch 66 (.leaf (63, .invokestatic 38, 3)) (.leaf (66, .istore 5, 2)))) (.branch 74 (.branch 71 (.leaf (68, .iinc 6 1, 3)) (.leaf (71, .goto (-25), 3))) (.branch 75 (.leaf (74, .aload_n 0, 1)) (.leaf (75, .getfield 25, 3)))))) (.branch 91 (.branch 84 (.branch 81 (.branch 79 (.leaf (78, .iload_n 3, 1)) (.leaf (79, .bipush 32, 2))) (.branch 82 (.leaf (81, .imul, 1)) (.leaf (82, .iload 4, 2)))) (.branch 87 (.branch 85 (.leaf (84, .iadd, 1)) (.leaf (85, .iload 5, 2))) (.branch 88 (.leaf (87, .iastore, 1)) (.leaf (88, .iinc 4 1, 3))))) (.branch 101 (.branch 97 (.branch 94 (.leaf (91, .goto (-72), 3)) (.leaf (94, .iinc 3 (-1), 3))) (.branch 100 (.leaf (97, .goto (-85), 3)) (.leaf (100, .aload_n 0, 1)))) (.branch 103 (.branch 102 (.leaf (101, .iload_n 1, 1)) (.leaf (102, .iload_n 2, 1))) (.branch 106 (.leaf (103, .invokevirtual 44, 3)) (.leaf (106, .return_, 1)))))))
noncomputable def oX1_solve : List dLf := dFl tX1_solve
theorem ofX1_solve : dFl tX1_solve = oX1_solve := rfl
set_option maxRecDepth 100000 in
theorem odX1_solve : ∀ q ∈ oX1_solve, decode cX1_solve q.1 = .ok (q.2.1, q.2.2) := q_go qT_ok bbX1_solve oX1_solve 0 (by decide +kernel)
set_option maxRecDepth 100000 in
def bX1_worth : List Nat := [42, 180, 0, 9, 27, 8, 104, 28, 96, 46, 54, 4, 21, 4, 16, 254, 159, 0, 11, 29, 28, 122, 4, 126, 153, 0, 6, 16, 254, 172, 18, 48, 21, 4, 100, 42, 180, 0, 25, 27, 4, 96, 16, 32, 104, 29, 4, 28, 120, 128, 96, 46, 96, 172]
set_option maxRecDepth 100000 in
theorem bbX1_worth : cX1_worth.data.toList.map UInt8.toNat = bX1_worth := by decide +kernel
set_option maxRecDepth 100000 in
def tX1_worth : Lean.RArray dLf := .branch 29 (.branch 12 (.branch 6 (.branch 4 (.branch 1 (.leaf (0, .aload_n 0, 1)) (.leaf (1, .getfield 9, 3))) (.branch 5 (.leaf (4, .iload_n 1, 1)) (.leaf (5, .iconst 5, 1)))) (.branch 8 (.branch 7 (.leaf (6, .imul, 1)) (.leaf (7, .iload_n 2, 1))) (.branch 9 (.leaf (8, .iadd, 1)) (.branch 10 (.leaf (9, .iaload, 1)) (.leaf (10, .istore 4, 2)))))) (.branch 21 (.branch 16 (.branch 14 (.leaf (12, .iload 4, 2)) (.leaf (14, .bipush (-2), 2))) (.branch 19 (.leaf (16, .if_icmp .eq 11, 3)) (.branch 20 (.leaf (19, .iload_n 3, 1)) (.leaf (20, .iload_n 2, 1))))) (.branch 23 (.branch 22 (.leaf (21, .ishr, 1)) (.leaf (22, .iconst 1, 1))) (.branch 24 (.leaf (23, .iand, 1)) (.branch 27 (.leaf (24, .ifCond .eq 6, 3)) (.leaf (27, .bipush (-2), 2))))))) (.branch 44 (.branch 36 (.branch 32 (.branch 30 (.leaf (29, .ireturn, 1)) (.leaf (30, .ldc 48, 2))) (.branch 34 (.leaf (32, .iload 4, 2)) (.branch 35 (.leaf (34, .isub, 1)) (.leaf (35, .aload_n 0, 1))))) (.branch 40 (.branch 39 (.leaf (36, .getfield 25, 3)) (.leaf (39, .iload_n 1, 1))) (.branch 41 (.leaf (40, .iconst 1, 1)) (.branch 42 (.leaf (41, .iadd, 1)) (.leaf (42, .bipush 32, 2)))))) (.branch 49 (.branch 46 (.branch 45 (.leaf (44, .imul, 1)) (.leaf (45, .iload_n 3, 1))) (.branch 47 (.leaf (46, .iconst 1, 1)) (.branch 48 (.leaf (47, .iload_n 2, 1)) (.leaf (48, .ishl, 1))))) (.branch 51 (.branch 50 (.leaf (49, .ior, 1)) (.leaf (50, .iadd, 1))) (.branch 52 (.leaf (51, .iaload, 1)) (.branch 53 (.leaf (52, .iadd, 1)) (.leaf (53, .ireturn, 1)))))))
noncomputable def oX1_worth : List dLf := dFl tX1_worth
theorem ofX1_worth : dFl tX1_worth = oX1_worth := rfl
set_option maxRecDepth 100000 in
theorem odX1_worth : ∀ q ∈ oX1_worth, decode cX1_worth q.1 = .ok (q.2.1, q.2.2) := q_go qT_ok bbX1_worth oX1_worth 0 (by decide +kernel)
set_option maxRecDepth 100000 in
def bX1_choose : List Nat := [42, 3, 181, 0, 18, 42, 3, 181, 0, 22, 3, 62, 3, 54, 4, 21, 4, 27, 162, 0, 73, 42, 21, 4, 28, 29, 182, 0, 49, 54, 5, 42, 180, 0, 15, 21, 4, 21, 5, 79, 21, 5, 16, 254, 159, 0, 41, 42, 89, 180, 0, 18, 4, 96, 181, 0, 18, 42, 89, 180, 0, 22, 42, 180, 0, 9, 21, 4, 8, 104, 21, 5, 96, 46, 96, 181, 0, 22, 29, 4, 21, 5, 120, 128, 62, 132, 4, 1, 167, 255, 183, 177]
set_option maxRecDepth 100000 in
theorem bbX1_choose : cX1_choose.data.toList.map UInt8.toNat = bX1_choose := by decide +kernel
set_option maxRecDepth 100000 in
def tX1_choose : Lean.RArray dLf := .branch 47 (.branch 21 (.branch 10 (.branch 5 (.branch 1 (.leaf (0, .aload_n 0, 1)) (.branch 2 (.leaf (1, .iconst 0, 1)) (.leaf (2, .putfield 18, 3)))) (.branch 6 (.leaf (5, .aload_n 0, 1)) (.branch 7 (.leaf (6, .iconst 0, 1)) (.leaf (7, .putfield 22, 3))))) (.branch 13 (.branch 11 (.leaf (10, .iconst 0, 1)) (.branch 12 (.leaf (11, .istore_n 3, 1)) (.leaf (12, .iconst 0, 1)))) (.branch 17 (.branch 15 (.leaf (13, .istore 4, 2)) (.leaf (15, .iload 4, 2))) (.branch 18 (.leaf (17, .iload_n 1, 1)) (.leaf (18, .if_icmp .ge 73, 3)))))) (.branch 32 (.branch 25 (.branch 22 (.leaf (21, .aload_n 0, 1)) (.branch 24 (.leaf (22, .iload 4, 2)) (.leaf (24, .iload_n 2, 1)))) (.branch 29 (.branch 26 (.leaf (25, .iload_n 3, 1)) (.leaf (26, .invokevirtual 49, 3))) (.branch 31 (.leaf (29, .istore 5, 2)) (.leaf (31, .aload_n 0, 1))))) (.branch 39 (.branch 35 (.leaf (32, .getfield 15, 3)) (.branch 37 (.leaf (35, .iload 4, 2)) (.leaf (37, .iload 5, 2)))) (.branch 42 (.branch 40 (.leaf (39, .iastore, 1)) (.leaf (40, .iload 5, 2))) (.branch 44 (.leaf (42, .bipush (-2), 2)) (.leaf (44, .if_icmp .eq 41, 3))))))) (.branch 70 (.branch 58 (.branch 52 (.branch 48 (.leaf (47, .aload_n 0, 1)) (.branch 49 (.leaf (48, .dup, 1)) (.leaf (49, .getfield 18, 3)))) (.branch 54 (.branch 53 (.leaf (52, .iconst 1, 1)) (.leaf (53, .iadd, 1))) (.branch 57 (.leaf (54, .putfield 18, 3)) (.leaf (57, .aload_n 0, 1))))) (.branch 63 (.branch 59 (.leaf (58, .dup, 1)) (.branch 62 (.leaf (59, .getfield 22, 3)) (.leaf (62, .aload_n 0, 1)))) (.branch 68 (.branch 66 (.leaf (63, .getfield 9, 3)) (.leaf (66, .iload 4, 2))) (.branch 69 (.leaf (68, .iconst 5, 1)) (.leaf (69, .imul, 1)))))) (.branch 80 (.branch 74 (.branch 72 (.leaf (70, .iload 5, 2)) (.branch 73 (.leaf (72, .iadd, 1)) (.leaf (73, .iaload, 1)))) (.branch 78 (.branch 75 (.leaf (74, .iadd, 1)) (.leaf (75, .putfield 22, 3))) (.branch 79 (.leaf (78, .iload_n 3, 1)) (.leaf (79, .iconst 1, 1))))) (.branch 84 (.branch 82 (.leaf (80, .iload 5, 2)) (.branch 83 (.leaf (82, .ishl, 1)) (.leaf (83, .ior, 1)))) (.branch 88 (.branch 85 (.leaf (84, .istore_n 3, 1)) (.leaf (85, .iinc 4 1, 3))) (.branch 91 (.leaf (88, .goto (-73), 3)) (.leaf (91, .return_, 1)))))))
noncomputable def oX1_choose : List dLf := dFl tX1_choose
theorem ofX1_choose : dFl tX1_choose = oX1_choose := rfl
set_option maxRecDepth 100000 in
theorem odX1_choose : ∀ q ∈ oX1_choose, decode cX1_choose q.1 = .ok (q.2.1, q.2.2) := q_go qT_ok bbX1_choose oX1_choose 0 (by decide +kernel)
set_option maxRecDepth 100000 in
def bX1_firstBest : List Nat := [3, 54, 4, 21, 4, 28, 162, 0, 34, 42, 27, 21, 4, 29, 182, 0, 34, 42, 180, 0, 25, 27, 16, 32, 104, 29, 96, 46, 160, 0, 6, 21, 4, 172, 132, 4, 1, 167, 255, 222, 16, 254, 172]
set_option maxRecDepth 100000 in
theorem bbX1_firstBest : cX1_firstBest.data.toList.map UInt8.toNat = bX1_firstBest := by decide +kernel
set_option maxRecDepth 100000 in
def tX1_firstBest : Lean.RArray dLf := .branch 21 (.branch 10 (.branch 5 (.branch 1 (.leaf (0, .iconst 0, 1)) (.branch 3 (.leaf (1, .istore 4, 2)) (.leaf (3, .iload 4, 2)))) (.branch 6 (.leaf (5, .iload_n 2, 1)) (.branch 9 (.leaf (6, .if_icmp .ge 34, 3)) (.leaf (9, .aload_n 0, 1))))) (.branch 14 (.branch 11 (.leaf (10, .iload_n 1, 1)) (.branch 13 (.leaf (11, .iload 4, 2)) (.leaf (13, .iload_n 3, 1)))) (.branch 17 (.leaf (14, .invokevirtual 34, 3)) (.branch 18 (.leaf (17, .aload_n 0, 1)) (.leaf (18, .getfield 25, 3)))))) (.branch 28 (.branch 25 (.branch 22 (.leaf (21, .iload_n 1, 1)) (.branch 24 (.leaf (22, .bipush 32, 2)) (.leaf (24, .imul, 1)))) (.branch 26 (.leaf (25, .iload_n 3, 1)) (.branch 27 (.leaf (26, .iadd, 1)) (.leaf (27, .iaload, 1))))) (.branch 34 (.branch 31 (.leaf (28, .if_icmp .ne 6, 3)) (.branch 33 (.leaf (31, .iload 4, 2)) (.leaf (33, .ireturn, 1)))) (.branch 40 (.branch 37 (.leaf (34, .iinc 4 1, 3)) (.leaf (37, .goto (-34), 3))) (.branch 42 (.leaf (40, .bipush (-2), 2)) (.leaf (42, .ireturn, 1))))))
noncomputable def oX1_firstBest : List dLf := dFl tX1_firstBest
theorem ofX1_firstBest : dFl tX1_firstBest = oX1_firstBest := rfl
set_option maxRecDepth 100000 in
theorem odX1_firstBest : ∀ q ∈ oX1_firstBest, decode cX1_firstBest q.1 = .ok (q.2.1, q.2.2) := q_go qT_ok bbX1_firstBest oX1_firstBest 0 (by decide +kernel)
set_option maxRecDepth 100000 in
def bX2_init : List Nat := [42, 183, 0, 3, 42, 3, 181, 0, 9, 42, 3, 181, 0, 15, 42, 8, 188, 10, 181, 0, 18, 42, 8, 188, 10, 181, 0, 22, 42, 16, 8, 188, 10, 181, 0, 25, 42, 16, 8, 188, 10, 181, 0, 28, 42, 16, 8, 188, 10, 181, 0, 31, 177]
set_option maxRecDepth 100000 in
theorem bbX2_init : cX2_init.data.toList.map UInt8.toNat = bX2_init := by decide +kernel
theorem eX2_init_16 : decode cX2_init 16 = .ok (.newarray .int, 2) := by decide +kernel
theorem eX2_init_23 : decode cX2_init 23 = .ok (.newarray .int, 2) := by decide +kernel
theorem eX2_init_31 : decode cX2_init 31 = .ok (.newarray .int, 2) := by decide +kernel
theorem eX2_init_39 : decode cX2_init 39 = .ok (.newarray .int, 2) := by decide +kernel
theorem eX2_init_47 : decode cX2_init 47 = .ok (.newarray .int, 2) := by decide +kernel
set_option maxRecDepth 100000 in
def oX2_inits0 : List dLf := [(0, .aload_n 0, 1), (1, .invokespecial 3, 3), (4, .aload_n 0, 1), (5, .iconst 0, 1), (6, .putfield 9, 3), (9, .aload_n 0, 1), (10, .iconst 0, 1), (11, .putfield 15, 3), (14, .aload_n 0, 1), (15, .iconst 5, 1)]
set_option maxRecDepth 100000 in
theorem odX2_inits0 : ∀ q ∈ oX2_inits0, decode cX2_init q.1 = .ok (q.2.1, q.2.2) := q_go qT_ok bbX2_init oX2_inits0 0 (by decide +kernel)
set_option maxRecDepth 100000 in
def oX2_inits2 : List dLf := [(18, .putfield 18, 3), (21, .aload_n 0, 1), (22, .iconst 5, 1)]
set_option maxRecDepth 100000 in
theorem odX2_inits2 : ∀ q ∈ oX2_inits2, decode cX2_init q.1 = .ok (q.2.1, q.2.2) := q_go qT_ok bbX2_init oX2_inits2 18 (by decide +kernel)
set_option maxRecDepth 100000 in
def oX2_inits4 : List dLf := [(25, .putfield 22, 3), (28, .aload_n 0, 1), (29, .bipush 8, 2)]
set_option maxRecDepth 100000 in
theorem odX2_inits4 : ∀ q ∈ oX2_inits4, decode cX2_init q.1 = .ok (q.2.1, q.2.2) := q_go qT_ok bbX2_init oX2_inits4 25 (by decide +kernel)
set_option maxRecDepth 100000 in
def oX2_inits6 : List dLf := [(33, .putfield 25, 3), (36, .aload_n 0, 1), (37, .bipush 8, 2)]
set_option maxRecDepth 100000 in
theorem odX2_inits6 : ∀ q ∈ oX2_inits6, decode cX2_init q.1 = .ok (q.2.1, q.2.2) := q_go qT_ok bbX2_init oX2_inits6 33 (by decide +kernel)
set_option maxRecDepth 100000 in
def oX2_inits8 : List dLf := [(41, .putfield 28, 3), (44, .aload_n 0, 1), (45, .bipush 8, 2)]
set_option maxRecDepth 100000 in
theorem odX2_inits8 : ∀ q ∈ oX2_inits8, decode cX2_init q.1 = .ok (q.2.1, q.2.2) := q_go qT_ok bbX2_init oX2_inits8 41 (by decide +kernel)
set_option maxRecDepth 100000 in
def oX2_inits10 : List dLf := [(49, .putfield 31, 3), (52, .return_, 1)]
set_option maxRecDepth 100000 in
theorem odX2_inits10 : ∀ q ∈ oX2_inits10, decode cX2_init q.1 = .ok (q.2.1, q.2.2) := q_go qT_ok bbX2_init oX2_inits10 49 (by decide +kernel)
set_option maxRecDepth 100000 in
def oX2_init : List dLf := [(0, .aload_n 0, 1), (1, .invokespecial 3, 3), (4, .aload_n 0, 1), (5, .iconst 0, 1), (6, .putfield 9, 3), (9, .aload_n 0, 1), (10, .iconst 0, 1), (11, .putfield 15, 3), (14, .aload_n 0, 1), (15, .iconst 5, 1), (16, .newarray .int, 2), (18, .putfield 18, 3), (21, .aload_n 0, 1), (22, .iconst 5, 1), (23, .newarray .int, 2), (25, .putfield 22, 3), (28, .aload_n 0, 1), (29, .bipush 8, 2), (31, .newarray .int, 2), (33, .putfield 25, 3), (36, .aload_n 0, 1), (37, .bipush 8, 2), (39, .newarray .int, 2), (41, .putfield 28, 3), (44, .aload_n 0, 1), (45, .bipush 8, 2), (47, .newarray .int, 2), (49, .putfield 31, 3), (52, .return_, 1)]
set_option maxRecDepth 100000 in
theorem odX2_init : ∀ q ∈ oX2_init, decode cX2_init q.1 = .ok (q.2.1, q.2.2) := by
  have e : oX2_init = oX2_inits0 ++ ([(16, .newarray .int, 2)] ++ (oX2_inits2 ++ ([(23, .newarray .int, 2)] ++ (oX2_inits4 ++ ([(31, .newarray .int, 2)] ++ (oX2_inits6 ++ ([(39, .newarray .int, 2)] ++ (oX2_inits8 ++ ([(47, .newarray .int, 2)] ++ (oX2_inits10)))))))))) := rfl
  rw [e]
  exact List.forall_mem_append.mpr ⟨odX2_inits0, List.forall_mem_append.mpr ⟨(List.forall_mem_singleton.mpr eX2_init_16), List.forall_mem_append.mpr ⟨odX2_inits2, List.forall_mem_append.mpr ⟨(List.forall_mem_singleton.mpr eX2_init_23), List.forall_mem_append.mpr ⟨odX2_inits4, List.forall_mem_append.mpr ⟨(List.forall_mem_singleton.mpr eX2_init_31), List.forall_mem_append.mpr ⟨odX2_inits6, List.forall_mem_append.mpr ⟨(List.forall_mem_singleton.mpr eX2_init_39), List.forall_mem_append.mpr ⟨odX2_inits8, List.forall_mem_append.mpr ⟨(List.forall_mem_singleton.mpr eX2_init_47), odX2_inits10⟩⟩⟩⟩⟩⟩⟩⟩⟩⟩
set_option maxRecDepth 100000 in
def tX2_init : Lean.RArray dLf := .branch 23 (.branch 11 (.branch 5 (.branch 1 (.leaf (0, .aload_n 0, 1)) (.branch 4 (.leaf (1, .invokespecial 3, 3)) (.leaf (4, .aload_n 0, 1)))) (.branch 9 (.branch 6 (.leaf (5, .iconst 0, 1)) (.leaf (6, .putfield 9, 3))) (.branch 10 (.leaf (9, .aload_n 0, 1)) (.leaf (10, .iconst 0, 1))))) (.branch 16 (.branch 14 (.leaf (11, .putfield 15, 3)) (.branch 15 (.leaf (14, .aload_n 0, 1)) (.leaf (15, .iconst 5, 1)))) (.branch 21 (.branch 18 (.leaf (16, .newarray .int, 2)) (.leaf (18, .putfield 18, 3))) (.branch 22 (.leaf (21, .aload_n 0, 1)) (.leaf (22, .iconst 5, 1)))))) (.branch 37 (.branch 29 (.branch 25 (.leaf (23, .newarray .int, 2)) (.branch 28 (.leaf (25, .putfield 22, 3)) (.leaf (28, .aload_n 0, 1)))) (.branch 33 (.branch 31 (.leaf (29, .bipush 8, 2)) (.leaf (31, .newarray .int, 2))) (.branch 36 (.leaf (33, .putfield 25, 3)) (.leaf (36, .aload_n 0, 1))))) (.branch 45 (.branch 41 (.branch 39 (.leaf (37, .bipush 8, 2)) (.leaf (39, .newarray .int, 2))) (.branch 44 (.leaf (41, .putfield 28, 3)) (.leaf (44, .aload_n 0, 1)))) (.branch 49 (.branch 47 (.leaf (45, .bipush 8, 2)) (.leaf (47, .newarray .int, 2))) (.branch 52 (.leaf (49, .putfield 31, 3)) (.leaf (52, .return_, 1))))))
set_option maxRecDepth 100000 in
theorem ofX2_init : dFl tX2_init = oX2_init := rfl
theorem dX2_init_0 : decode cX2_init 0 = .ok (.aload_n 0, 1) := d_by (d_at odX2_init ofX2_init 0) rfl
theorem dX2_init_1 : decode cX2_init 1 = .ok (.invokespecial 3, 3) := d_by (d_at odX2_init ofX2_init 1) rfl
theorem dX2_init_4 : decode cX2_init 4 = .ok (.aload_n 0, 1) := d_by (d_at odX2_init ofX2_init 4) rfl
theorem dX2_init_5 : decode cX2_init 5 = .ok (.iconst 0, 1) := d_by (d_at odX2_init ofX2_init 5) rfl
theorem dX2_init_6 : decode cX2_init 6 = .ok (.putfield 9, 3) := d_by (d_at odX2_init ofX2_init 6) rfl
theorem dX2_init_9 : decode cX2_init 9 = .ok (.aload_n 0, 1) := d_by (d_at odX2_init ofX2_init 9) rfl
theorem dX2_init_10 : decode cX2_init 10 = .ok (.iconst 0, 1) := d_by (d_at odX2_init ofX2_init 10) rfl
theorem dX2_init_11 : decode cX2_init 11 = .ok (.putfield 15, 3) := d_by (d_at odX2_init ofX2_init 11) rfl
theorem dX2_init_14 : decode cX2_init 14 = .ok (.aload_n 0, 1) := d_by (d_at odX2_init ofX2_init 14) rfl
theorem dX2_init_15 : decode cX2_init 15 = .ok (.iconst 5, 1) := d_by (d_at odX2_init ofX2_init 15) rfl
theorem dX2_init_16 : decode cX2_init 16 = .ok (.newarray .int, 2) := d_by (d_at odX2_init ofX2_init 16) rfl
theorem dX2_init_18 : decode cX2_init 18 = .ok (.putfield 18, 3) := d_by (d_at odX2_init ofX2_init 18) rfl
theorem dX2_init_21 : decode cX2_init 21 = .ok (.aload_n 0, 1) := d_by (d_at odX2_init ofX2_init 21) rfl
theorem dX2_init_22 : decode cX2_init 22 = .ok (.iconst 5, 1) := d_by (d_at odX2_init ofX2_init 22) rfl
theorem dX2_init_23 : decode cX2_init 23 = .ok (.newarray .int, 2) := d_by (d_at odX2_init ofX2_init 23) rfl
theorem dX2_init_25 : decode cX2_init 25 = .ok (.putfield 22, 3) := d_by (d_at odX2_init ofX2_init 25) rfl
theorem dX2_init_28 : decode cX2_init 28 = .ok (.aload_n 0, 1) := d_by (d_at odX2_init ofX2_init 28) rfl
theorem dX2_init_29 : decode cX2_init 29 = .ok (.bipush 8, 2) := d_by (d_at odX2_init ofX2_init 29) rfl
theorem dX2_init_31 : decode cX2_init 31 = .ok (.newarray .int, 2) := d_by (d_at odX2_init ofX2_init 31) rfl
theorem dX2_init_33 : decode cX2_init 33 = .ok (.putfield 25, 3) := d_by (d_at odX2_init ofX2_init 33) rfl
theorem dX2_init_36 : decode cX2_init 36 = .ok (.aload_n 0, 1) := d_by (d_at odX2_init ofX2_init 36) rfl
theorem dX2_init_37 : decode cX2_init 37 = .ok (.bipush 8, 2) := d_by (d_at odX2_init ofX2_init 37) rfl
theorem dX2_init_39 : decode cX2_init 39 = .ok (.newarray .int, 2) := d_by (d_at odX2_init ofX2_init 39) rfl
theorem dX2_init_41 : decode cX2_init 41 = .ok (.putfield 28, 3) := d_by (d_at odX2_init ofX2_init 41) rfl
theorem dX2_init_44 : decode cX2_init 44 = .ok (.aload_n 0, 1) := d_by (d_at odX2_init ofX2_init 44) rfl
theorem dX2_init_45 : decode cX2_init 45 = .ok (.bipush 8, 2) := d_by (d_at odX2_init ofX2_init 45) rfl
theorem dX2_init_47 : decode cX2_init 47 = .ok (.newarray .int, 2) := d_by (d_at odX2_init ofX2_init 47) rfl
theorem dX2_init_49 : decode cX2_init 49 = .ok (.putfield 31, 3) := d_by (d_at odX2_init ofX2_init 49) rfl
theorem dX2_init_52 : decode cX2_init 52 = .ok (.return_, 1) := d_by (d_at odX2_init ofX2_init 52) rfl
set_option maxRecDepth 100000 in
def bX2_begin : List Nat := [42, 3, 181, 0, 9, 42, 3, 181, 0, 15, 3, 61, 28, 43, 180, 0, 34, 162, 0, 31, 42, 180, 0, 18, 28, 43, 180, 0, 39, 28, 50, 180, 0, 43, 79, 42, 180, 0, 22, 28, 3, 79, 132, 2, 1, 167, 255, 223, 3, 61, 28, 43, 180, 0, 48, 162, 0, 45, 42, 180, 0, 25, 28, 16, 254, 79, 42, 180, 0, 28, 28, 16, 254, 79, 42, 180, 0, 31, 28, 43, 180, 0, 51, 43, 180, 0, 54, 28, 50, 180, 0, 58, 46, 79, 132, 2, 1, 167, 255, 209, 177]
set_option maxRecDepth 100000 in
theorem bbX2_begin : cX2_begin.data.toList.map UInt8.toNat = bX2_begin := by decide +kernel
set_option maxRecDepth 100000 in
def tX2_begin : Lean.RArray dLf := .branch 49 (.branch 24 (.branch 11 (.branch 5 (.branch 1 (.leaf (0, .aload_n 0, 1)) (.branch 2 (.leaf (1, .iconst 0, 1)) (.leaf (2, .putfield 9, 3)))) (.branch 7 (.branch 6 (.leaf (5, .aload_n 0, 1)) (.leaf (6, .iconst 0, 1))) (.branch 10 (.leaf (7, .putfield 15, 3)) (.leaf (10, .iconst 0, 1))))) (.branch 14 (.branch 12 (.leaf (11, .istore_n 2, 1)) (.branch 13 (.leaf (12, .iload_n 2, 1)) (.leaf (13, .aload_n 1, 1)))) (.branch 20 (.branch 17 (.leaf (14, .getfield 34, 3)) (.leaf (17, .if_icmp .ge 31, 3))) (.branch 21 (.leaf (20, .aload_n 0, 1)) (.leaf (21, .getfield 18, 3)))))) (.branch 35 (.branch 29 (.branch 25 (.leaf (24, .iload_n 2, 1)) (.branch 26 (.leaf (25, .aload_n 1, 1)) (.leaf (26, .getfield 39, 3)))) (.branch 31 (.branch 30 (.leaf (29, .iload_n 2, 1)) (.leaf (30, .aaload, 1))) (.branch 34 (.leaf (31, .getfield 43, 3)) (.leaf (34, .iastore, 1))))) (.branch 41 (.branch 39 (.branch 36 (.leaf (35, .aload_n 0, 1)) (.leaf (36, .getfield 22, 3))) (.branch 40 (.leaf (39, .iload_n 2, 1)) (.leaf (40, .iconst 0, 1)))) (.branch 45 (.branch 42 (.leaf (41, .iastore, 1)) (.leaf (42, .iinc 2 1, 3))) (.branch 48 (.leaf (45, .goto (-33), 3)) (.leaf (48, .iconst 0, 1))))))) (.branch 74 (.branch 62 (.branch 52 (.branch 50 (.leaf (49, .istore_n 2, 1)) (.branch 51 (.leaf (50, .iload_n 2, 1)) (.leaf (51, .aload_n 1, 1)))) (.branch 58 (.branch 55 (.leaf (52, .getfield 48, 3)) (.leaf (55, .if_icmp .ge 45, 3))) (.branch 59 (.leaf (58, .aload_n 0, 1)) (.leaf (59, .getfield 25, 3))))) (.branch 67 (.branch 65 (.branch 63 (.leaf (62, .iload_n 2, 1)) (.leaf (63, .bipush (-2), 2))) (.branch 66 (.leaf (65, .iastore, 1)) (.leaf (66, .aload_n 0, 1)))) (.branch 71 (.branch 70 (.leaf (67, .getfield 28, 3)) (.leaf (70, .iload_n 2, 1))) (.branch 73 (.leaf (71, .bipush (-2), 2)) (.leaf (73, .iastore, 1)))))) (.branch 87 (.branch 79 (.branch 75 (.leaf (74, .aload_n 0, 1)) (.branch 78 (.leaf (75, .getfield 31, 3)) (.leaf (78, .iload_n 2, 1)))) (.branch 83 (.branch 80 (.leaf (79, .aload_n 1, 1)) (.leaf (80, .getfield 51, 3))) (.branch 84 (.leaf (83, .aload_n 1, 1)) (.leaf (84, .getfield 54, 3))))) (.branch 93 (.branch 89 (.branch 88 (.leaf (87, .iload_n 2, 1)) (.leaf (88, .aaload, 1))) (.branch 92 (.leaf (89, .getfield 58, 3)) (.leaf (92, .iaload, 1)))) (.branch 97 (.branch 94 (.leaf (93, .iastore, 1)) (.leaf (94, .iinc 2 1, 3))) (.branch 100 (.leaf (97, .goto (-47), 3)) (.leaf (100, .return_, 1)))))))
noncomputable def oX2_begin : List dLf := dFl tX2_begin
theorem ofX2_begin : dFl tX2_begin = oX2_begin := rfl
set_option maxRecDepth 100000 in
theorem odX2_begin : ∀ q ∈ oX2_begin, decode cX2_begin q.1 = .ok (q.2.1, q.2.2) := q_go qT_ok bbX2_begin oX2_begin 0 (by decide +kernel)
theorem dX2_begin_0 : decode cX2_begin 0 = .ok (.aload_n 0, 1) := d_by (d_at odX2_begin ofX2_begin 0) rfl
theorem dX2_begin_1 : decode cX2_begin 1 = .ok (.iconst 0, 1) := d_by (d_at odX2_begin ofX2_begin 1) rfl
theorem dX2_begin_2 : decode cX2_begin 2 = .ok (.putfield 9, 3) := d_by (d_at odX2_begin ofX2_begin 2) rfl
theorem dX2_begin_5 : decode cX2_begin 5 = .ok (.aload_n 0, 1) := d_by (d_at odX2_begin ofX2_begin 5) rfl
theorem dX2_begin_6 : decode cX2_begin 6 = .ok (.iconst 0, 1) := d_by (d_at odX2_begin ofX2_begin 6) rfl
theorem dX2_begin_7 : decode cX2_begin 7 = .ok (.putfield 15, 3) := d_by (d_at odX2_begin ofX2_begin 7) rfl
theorem dX2_begin_10 : decode cX2_begin 10 = .ok (.iconst 0, 1) := d_by (d_at odX2_begin ofX2_begin 10) rfl
theorem dX2_begin_11 : decode cX2_begin 11 = .ok (.istore_n 2, 1) := d_by (d_at odX2_begin ofX2_begin 11) rfl
theorem dX2_begin_12 : decode cX2_begin 12 = .ok (.iload_n 2, 1) := d_by (d_at odX2_begin ofX2_begin 12) rfl
theorem dX2_begin_13 : decode cX2_begin 13 = .ok (.aload_n 1, 1) := d_by (d_at odX2_begin ofX2_begin 13) rfl
theorem dX2_begin_14 : decode cX2_begin 14 = .ok (.getfield 34, 3) := d_by (d_at odX2_begin ofX2_begin 14) rfl
theorem dX2_begin_17 : decode cX2_begin 17 = .ok (.if_icmp .ge 31, 3) := d_by (d_at odX2_begin ofX2_begin 17) rfl
theorem dX2_begin_20 : decode cX2_begin 20 = .ok (.aload_n 0, 1) := d_by (d_at odX2_begin ofX2_begin 20) rfl
theorem dX2_begin_21 : decode cX2_begin 21 = .ok (.getfield 18, 3) := d_by (d_at odX2_begin ofX2_begin 21) rfl
theorem dX2_begin_24 : decode cX2_begin 24 = .ok (.iload_n 2, 1) := d_by (d_at odX2_begin ofX2_begin 24) rfl
theorem dX2_begin_25 : decode cX2_begin 25 = .ok (.aload_n 1, 1) := d_by (d_at odX2_begin ofX2_begin 25) rfl
theorem dX2_begin_26 : decode cX2_begin 26 = .ok (.getfield 39, 3) := d_by (d_at odX2_begin ofX2_begin 26) rfl
theorem dX2_begin_29 : decode cX2_begin 29 = .ok (.iload_n 2, 1) := d_by (d_at odX2_begin ofX2_begin 29) rfl
theorem dX2_begin_30 : decode cX2_begin 30 = .ok (.aaload, 1) := d_by (d_at odX2_begin ofX2_begin 30) rfl
theorem dX2_begin_31 : decode cX2_begin 31 = .ok (.getfield 43, 3) := d_by (d_at odX2_begin ofX2_begin 31) rfl
theorem dX2_begin_34 : decode cX2_begin 34 = .ok (.iastore, 1) := d_by (d_at odX2_begin ofX2_begin 34) rfl
theorem dX2_begin_35 : decode cX2_begin 35 = .ok (.aload_n 0, 1) := d_by (d_at odX2_begin ofX2_begin 35) rfl
theorem dX2_begin_36 : decode cX2_begin 36 = .ok (.getfield 22, 3) := d_by (d_at odX2_begin ofX2_begin 36) rfl
theorem dX2_begin_39 : decode cX2_begin 39 = .ok (.iload_n 2, 1) := d_by (d_at odX2_begin ofX2_begin 39) rfl
theorem dX2_begin_40 : decode cX2_begin 40 = .ok (.iconst 0, 1) := d_by (d_at odX2_begin ofX2_begin 40) rfl
theorem dX2_begin_41 : decode cX2_begin 41 = .ok (.iastore, 1) := d_by (d_at odX2_begin ofX2_begin 41) rfl
theorem dX2_begin_42 : decode cX2_begin 42 = .ok (.iinc 2 1, 3) := d_by (d_at odX2_begin ofX2_begin 42) rfl
theorem dX2_begin_45 : decode cX2_begin 45 = .ok (.goto (-33), 3) := d_by (d_at odX2_begin ofX2_begin 45) rfl
theorem dX2_begin_48 : decode cX2_begin 48 = .ok (.iconst 0, 1) := d_by (d_at odX2_begin ofX2_begin 48) rfl
theorem dX2_begin_49 : decode cX2_begin 49 = .ok (.istore_n 2, 1) := d_by (d_at odX2_begin ofX2_begin 49) rfl
theorem dX2_begin_50 : decode cX2_begin 50 = .ok (.iload_n 2, 1) := d_by (d_at odX2_begin ofX2_begin 50) rfl
theorem dX2_begin_51 : decode cX2_begin 51 = .ok (.aload_n 1, 1) := d_by (d_at odX2_begin ofX2_begin 51) rfl
theorem dX2_begin_52 : decode cX2_begin 52 = .ok (.getfield 48, 3) := d_by (d_at odX2_begin ofX2_begin 52) rfl
theorem dX2_begin_55 : decode cX2_begin 55 = .ok (.if_icmp .ge 45, 3) := d_by (d_at odX2_begin ofX2_begin 55) rfl
theorem dX2_begin_58 : decode cX2_begin 58 = .ok (.aload_n 0, 1) := d_by (d_at odX2_begin ofX2_begin 58) rfl
theorem dX2_begin_59 : decode cX2_begin 59 = .ok (.getfield 25, 3) := d_by (d_at odX2_begin ofX2_begin 59) rfl
theorem dX2_begin_62 : decode cX2_begin 62 = .ok (.iload_n 2, 1) := d_by (d_at odX2_begin ofX2_begin 62) rfl
theorem dX2_begin_63 : decode cX2_begin 63 = .ok (.bipush (-2), 2) := d_by (d_at odX2_begin ofX2_begin 63) rfl
theorem dX2_begin_65 : decode cX2_begin 65 = .ok (.iastore, 1) := d_by (d_at odX2_begin ofX2_begin 65) rfl
theorem dX2_begin_66 : decode cX2_begin 66 = .ok (.aload_n 0, 1) := d_by (d_at odX2_begin ofX2_begin 66) rfl
theorem dX2_begin_67 : decode cX2_begin 67 = .ok (.getfield 28, 3) := d_by (d_at odX2_begin ofX2_begin 67) rfl
theorem dX2_begin_70 : decode cX2_begin 70 = .ok (.iload_n 2, 1) := d_by (d_at odX2_begin ofX2_begin 70) rfl
theorem dX2_begin_71 : decode cX2_begin 71 = .ok (.bipush (-2), 2) := d_by (d_at odX2_begin ofX2_begin 71) rfl
theorem dX2_begin_73 : decode cX2_begin 73 = .ok (.iastore, 1) := d_by (d_at odX2_begin ofX2_begin 73) rfl
theorem dX2_begin_74 : decode cX2_begin 74 = .ok (.aload_n 0, 1) := d_by (d_at odX2_begin ofX2_begin 74) rfl
theorem dX2_begin_75 : decode cX2_begin 75 = .ok (.getfield 31, 3) := d_by (d_at odX2_begin ofX2_begin 75) rfl
theorem dX2_begin_78 : decode cX2_begin 78 = .ok (.iload_n 2, 1) := d_by (d_at odX2_begin ofX2_begin 78) rfl
theorem dX2_begin_79 : decode cX2_begin 79 = .ok (.aload_n 1, 1) := d_by (d_at odX2_begin ofX2_begin 79) rfl
theorem dX2_begin_80 : decode cX2_begin 80 = .ok (.getfield 51, 3) := d_by (d_at odX2_begin ofX2_begin 80) rfl
theorem dX2_begin_83 : decode cX2_begin 83 = .ok (.aload_n 1, 1) := d_by (d_at odX2_begin ofX2_begin 83) rfl
theorem dX2_begin_84 : decode cX2_begin 84 = .ok (.getfield 54, 3) := d_by (d_at odX2_begin ofX2_begin 84) rfl
theorem dX2_begin_87 : decode cX2_begin 87 = .ok (.iload_n 2, 1) := d_by (d_at odX2_begin ofX2_begin 87) rfl
theorem dX2_begin_88 : decode cX2_begin 88 = .ok (.aaload, 1) := d_by (d_at odX2_begin ofX2_begin 88) rfl
theorem dX2_begin_89 : decode cX2_begin 89 = .ok (.getfield 58, 3) := d_by (d_at odX2_begin ofX2_begin 89) rfl
theorem dX2_begin_92 : decode cX2_begin 92 = .ok (.iaload, 1) := d_by (d_at odX2_begin ofX2_begin 92) rfl
theorem dX2_begin_93 : decode cX2_begin 93 = .ok (.iastore, 1) := d_by (d_at odX2_begin ofX2_begin 93) rfl
theorem dX2_begin_94 : decode cX2_begin 94 = .ok (.iinc 2 1, 3) := d_by (d_at odX2_begin ofX2_begin 94) rfl
theorem dX2_begin_97 : decode cX2_begin 97 = .ok (.goto (-47), 3) := d_by (d_at odX2_begin ofX2_begin 97) rfl
theorem dX2_begin_100 : decode cX2_begin 100 = .ok (.return_, 1) := d_by (d_at odX2_begin ofX2_begin 100) rfl
set_option maxRecDepth 100000 in
def bX2_copyFrom : List Nat := [42, 43, 180, 0, 9, 181, 0, 9, 42, 43, 180, 0, 15, 181, 0, 15, 43, 180, 0, 18, 3, 42, 180, 0, 18, 3, 8, 184, 0, 63, 43, 180, 0, 22, 3, 42, 180, 0, 22, 3, 8, 184, 0, 63, 43, 180, 0, 25, 3, 42, 180, 0, 25, 3, 16, 8, 184, 0, 63, 43, 180, 0, 28, 3, 42, 180, 0, 28, 3, 16, 8, 184, 0, 63, 43, 180, 0, 31, 3, 42, 180, 0, 31, 3, 16, 8, 184, 0, 63, 177]
set_option maxRecDepth 100000 in
theorem bbX2_copyFrom : cX2_copyFrom.data.toList.map UInt8.toNat = bX2_copyFrom := by decide +kernel
set_option maxRecDepth 100000 in
def tX2_copyFrom : Lean.RArray dLf := .branch 44 (.branch 22 (.branch 10 (.branch 5 (.branch 1 (.leaf (0, .aload_n 0, 1)) (.branch 2 (.leaf (1, .aload_n 1, 1)) (.leaf (2, .getfield 9, 3)))) (.branch 8 (.leaf (5, .putfield 9, 3)) (.branch 9 (.leaf (8, .aload_n 0, 1)) (.leaf (9, .aload_n 1, 1))))) (.branch 17 (.branch 13 (.leaf (10, .getfield 15, 3)) (.branch 16 (.leaf (13, .putfield 15, 3)) (.leaf (16, .aload_n 1, 1)))) (.branch 20 (.leaf (17, .getfield 18, 3)) (.branch 21 (.leaf (20, .iconst 0, 1)) (.leaf (21, .aload_n 0, 1)))))) (.branch 34 (.branch 27 (.branch 25 (.leaf (22, .getfield 18, 3)) (.branch 26 (.leaf (25, .iconst 0, 1)) (.leaf (26, .iconst 5, 1)))) (.branch 30 (.leaf (27, .invokestatic 63, 3)) (.branch 31 (.leaf (30, .aload_n 1, 1)) (.leaf (31, .getfield 22, 3))))) (.branch 39 (.branch 35 (.leaf (34, .iconst 0, 1)) (.branch 36 (.leaf (35, .aload_n 0, 1)) (.leaf (36, .getfield 22, 3)))) (.branch 40 (.leaf (39, .iconst 0, 1)) (.branch 41 (.leaf (40, .iconst 5, 1)) (.leaf (41, .invokestatic 63, 3))))))) (.branch 65 (.branch 54 (.branch 49 (.branch 45 (.leaf (44, .aload_n 1, 1)) (.branch 48 (.leaf (45, .getfield 25, 3)) (.leaf (48, .iconst 0, 1)))) (.branch 50 (.leaf (49, .aload_n 0, 1)) (.branch 53 (.leaf (50, .getfield 25, 3)) (.leaf (53, .iconst 0, 1))))) (.branch 60 (.branch 56 (.leaf (54, .bipush 8, 2)) (.branch 59 (.leaf (56, .invokestatic 63, 3)) (.leaf (59, .aload_n 1, 1)))) (.branch 63 (.leaf (60, .getfield 28, 3)) (.branch 64 (.leaf (63, .iconst 0, 1)) (.leaf (64, .aload_n 0, 1)))))) (.branch 78 (.branch 71 (.branch 68 (.leaf (65, .getfield 28, 3)) (.branch 69 (.leaf (68, .iconst 0, 1)) (.leaf (69, .bipush 8, 2)))) (.branch 74 (.leaf (71, .invokestatic 63, 3)) (.branch 75 (.leaf (74, .aload_n 1, 1)) (.leaf (75, .getfield 31, 3))))) (.branch 83 (.branch 79 (.leaf (78, .iconst 0, 1)) (.branch 80 (.leaf (79, .aload_n 0, 1)) (.leaf (80, .getfield 31, 3)))) (.branch 86 (.branch 84 (.leaf (83, .iconst 0, 1)) (.leaf (84, .bipush 8, 2))) (.branch 89 (.leaf (86, .invokestatic 63, 3)) (.leaf (89, .return_, 1)))))))
noncomputable def oX2_copyFrom : List dLf := dFl tX2_copyFrom
theorem ofX2_copyFrom : dFl tX2_copyFrom = oX2_copyFrom := rfl
set_option maxRecDepth 100000 in
theorem odX2_copyFrom : ∀ q ∈ oX2_copyFrom, decode cX2_copyFrom q.1 = .ok (q.2.1, q.2.2) := q_go qT_ok bbX2_copyFrom oX2_copyFrom 0 (by decide +kernel)
theorem dX2_copyFrom_0 : decode cX2_copyFrom 0 = .ok (.aload_n 0, 1) := d_by (d_at odX2_copyFrom ofX2_copyFrom 0) rfl
theorem dX2_copyFrom_1 : decode cX2_copyFrom 1 = .ok (.aload_n 1, 1) := d_by (d_at odX2_copyFrom ofX2_copyFrom 1) rfl
theorem dX2_copyFrom_2 : decode cX2_copyFrom 2 = .ok (.getfield 9, 3) := d_by (d_at odX2_copyFrom ofX2_copyFrom 2) rfl
theorem dX2_copyFrom_5 : decode cX2_copyFrom 5 = .ok (.putfield 9, 3) := d_by (d_at odX2_copyFrom ofX2_copyFrom 5) rfl
theorem dX2_copyFrom_8 : decode cX2_copyFrom 8 = .ok (.aload_n 0, 1) := d_by (d_at odX2_copyFrom ofX2_copyFrom 8) rfl
theorem dX2_copyFrom_9 : decode cX2_copyFrom 9 = .ok (.aload_n 1, 1) := d_by (d_at odX2_copyFrom ofX2_copyFrom 9) rfl
theorem dX2_copyFrom_10 : decode cX2_copyFrom 10 = .ok (.getfield 15, 3) := d_by (d_at odX2_copyFrom ofX2_copyFrom 10) rfl
theorem dX2_copyFrom_13 : decode cX2_copyFrom 13 = .ok (.putfield 15, 3) := d_by (d_at odX2_copyFrom ofX2_copyFrom 13) rfl
theorem dX2_copyFrom_16 : decode cX2_copyFrom 16 = .ok (.aload_n 1, 1) := d_by (d_at odX2_copyFrom ofX2_copyFrom 16) rfl
theorem dX2_copyFrom_17 : decode cX2_copyFrom 17 = .ok (.getfield 18, 3) := d_by (d_at odX2_copyFrom ofX2_copyFrom 17) rfl
theorem dX2_copyFrom_20 : decode cX2_copyFrom 20 = .ok (.iconst 0, 1) := d_by (d_at odX2_copyFrom ofX2_copyFrom 20) rfl
theorem dX2_copyFrom_21 : decode cX2_copyFrom 21 = .ok (.aload_n 0, 1) := d_by (d_at odX2_copyFrom ofX2_copyFrom 21) rfl
theorem dX2_copyFrom_22 : decode cX2_copyFrom 22 = .ok (.getfield 18, 3) := d_by (d_at odX2_copyFrom ofX2_copyFrom 22) rfl
theorem dX2_copyFrom_25 : decode cX2_copyFrom 25 = .ok (.iconst 0, 1) := d_by (d_at odX2_copyFrom ofX2_copyFrom 25) rfl
theorem dX2_copyFrom_26 : decode cX2_copyFrom 26 = .ok (.iconst 5, 1) := d_by (d_at odX2_copyFrom ofX2_copyFrom 26) rfl
theorem dX2_copyFrom_27 : decode cX2_copyFrom 27 = .ok (.invokestatic 63, 3) := d_by (d_at odX2_copyFrom ofX2_copyFrom 27) rfl
theorem dX2_copyFrom_30 : decode cX2_copyFrom 30 = .ok (.aload_n 1, 1) := d_by (d_at odX2_copyFrom ofX2_copyFrom 30) rfl
theorem dX2_copyFrom_31 : decode cX2_copyFrom 31 = .ok (.getfield 22, 3) := d_by (d_at odX2_copyFrom ofX2_copyFrom 31) rfl
theorem dX2_copyFrom_34 : decode cX2_copyFrom 34 = .ok (.iconst 0, 1) := d_by (d_at odX2_copyFrom ofX2_copyFrom 34) rfl
theorem dX2_copyFrom_35 : decode cX2_copyFrom 35 = .ok (.aload_n 0, 1) := d_by (d_at odX2_copyFrom ofX2_copyFrom 35) rfl
theorem dX2_copyFrom_36 : decode cX2_copyFrom 36 = .ok (.getfield 22, 3) := d_by (d_at odX2_copyFrom ofX2_copyFrom 36) rfl
theorem dX2_copyFrom_39 : decode cX2_copyFrom 39 = .ok (.iconst 0, 1) := d_by (d_at odX2_copyFrom ofX2_copyFrom 39) rfl
theorem dX2_copyFrom_40 : decode cX2_copyFrom 40 = .ok (.iconst 5, 1) := d_by (d_at odX2_copyFrom ofX2_copyFrom 40) rfl
theorem dX2_copyFrom_41 : decode cX2_copyFrom 41 = .ok (.invokestatic 63, 3) := d_by (d_at odX2_copyFrom ofX2_copyFrom 41) rfl
theorem dX2_copyFrom_44 : decode cX2_copyFrom 44 = .ok (.aload_n 1, 1) := d_by (d_at odX2_copyFrom ofX2_copyFrom 44) rfl
theorem dX2_copyFrom_45 : decode cX2_copyFrom 45 = .ok (.getfield 25, 3) := d_by (d_at odX2_copyFrom ofX2_copyFrom 45) rfl
theorem dX2_copyFrom_48 : decode cX2_copyFrom 48 = .ok (.iconst 0, 1) := d_by (d_at odX2_copyFrom ofX2_copyFrom 48) rfl
theorem dX2_copyFrom_49 : decode cX2_copyFrom 49 = .ok (.aload_n 0, 1) := d_by (d_at odX2_copyFrom ofX2_copyFrom 49) rfl
theorem dX2_copyFrom_50 : decode cX2_copyFrom 50 = .ok (.getfield 25, 3) := d_by (d_at odX2_copyFrom ofX2_copyFrom 50) rfl
theorem dX2_copyFrom_53 : decode cX2_copyFrom 53 = .ok (.iconst 0, 1) := d_by (d_at odX2_copyFrom ofX2_copyFrom 53) rfl
theorem dX2_copyFrom_54 : decode cX2_copyFrom 54 = .ok (.bipush 8, 2) := d_by (d_at odX2_copyFrom ofX2_copyFrom 54) rfl
theorem dX2_copyFrom_56 : decode cX2_copyFrom 56 = .ok (.invokestatic 63, 3) := d_by (d_at odX2_copyFrom ofX2_copyFrom 56) rfl
theorem dX2_copyFrom_59 : decode cX2_copyFrom 59 = .ok (.aload_n 1, 1) := d_by (d_at odX2_copyFrom ofX2_copyFrom 59) rfl
theorem dX2_copyFrom_60 : decode cX2_copyFrom 60 = .ok (.getfield 28, 3) := d_by (d_at odX2_copyFrom ofX2_copyFrom 60) rfl
theorem dX2_copyFrom_63 : decode cX2_copyFrom 63 = .ok (.iconst 0, 1) := d_by (d_at odX2_copyFrom ofX2_copyFrom 63) rfl
theorem dX2_copyFrom_64 : decode cX2_copyFrom 64 = .ok (.aload_n 0, 1) := d_by (d_at odX2_copyFrom ofX2_copyFrom 64) rfl
theorem dX2_copyFrom_65 : decode cX2_copyFrom 65 = .ok (.getfield 28, 3) := d_by (d_at odX2_copyFrom ofX2_copyFrom 65) rfl
theorem dX2_copyFrom_68 : decode cX2_copyFrom 68 = .ok (.iconst 0, 1) := d_by (d_at odX2_copyFrom ofX2_copyFrom 68) rfl
theorem dX2_copyFrom_69 : decode cX2_copyFrom 69 = .ok (.bipush 8, 2) := d_by (d_at odX2_copyFrom ofX2_copyFrom 69) rfl
theorem dX2_copyFrom_71 : decode cX2_copyFrom 71 = .ok (.invokestatic 63, 3) := d_by (d_at odX2_copyFrom ofX2_copyFrom 71) rfl
theorem dX2_copyFrom_74 : decode cX2_copyFrom 74 = .ok (.aload_n 1, 1) := d_by (d_at odX2_copyFrom ofX2_copyFrom 74) rfl
theorem dX2_copyFrom_75 : decode cX2_copyFrom 75 = .ok (.getfield 31, 3) := d_by (d_at odX2_copyFrom ofX2_copyFrom 75) rfl
theorem dX2_copyFrom_78 : decode cX2_copyFrom 78 = .ok (.iconst 0, 1) := d_by (d_at odX2_copyFrom ofX2_copyFrom 78) rfl
theorem dX2_copyFrom_79 : decode cX2_copyFrom 79 = .ok (.aload_n 0, 1) := d_by (d_at odX2_copyFrom ofX2_copyFrom 79) rfl
theorem dX2_copyFrom_80 : decode cX2_copyFrom 80 = .ok (.getfield 31, 3) := d_by (d_at odX2_copyFrom ofX2_copyFrom 80) rfl
theorem dX2_copyFrom_83 : decode cX2_copyFrom 83 = .ok (.iconst 0, 1) := d_by (d_at odX2_copyFrom ofX2_copyFrom 83) rfl
theorem dX2_copyFrom_84 : decode cX2_copyFrom 84 = .ok (.bipush 8, 2) := d_by (d_at odX2_copyFrom ofX2_copyFrom 84) rfl
theorem dX2_copyFrom_86 : decode cX2_copyFrom 86 = .ok (.invokestatic 63, 3) := d_by (d_at odX2_copyFrom ofX2_copyFrom 86) rfl
theorem dX2_copyFrom_89 : decode cX2_copyFrom 89 = .ok (.return_, 1) := d_by (d_at odX2_copyFrom ofX2_copyFrom 89) rfl
set_option maxRecDepth 100000 in
def bX2_isClosed : List Nat := [42, 180, 0, 15, 27, 122, 4, 126, 153, 0, 7, 4, 167, 0, 4, 3, 172]
set_option maxRecDepth 100000 in
theorem bbX2_isClosed : cX2_isClosed.data.toList.map UInt8.toNat = bX2_isClosed := by decide +kernel
set_option maxRecDepth 100000 in
def tX2_isClosed : Lean.RArray dLf := .branch 7 (.branch 4 (.branch 1 (.leaf (0, .aload_n 0, 1)) (.leaf (1, .getfield 15, 3))) (.branch 5 (.leaf (4, .iload_n 1, 1)) (.branch 6 (.leaf (5, .ishr, 1)) (.leaf (6, .iconst 1, 1))))) (.branch 12 (.branch 8 (.leaf (7, .iand, 1)) (.branch 11 (.leaf (8, .ifCond .eq 7, 3)) (.leaf (11, .iconst 1, 1)))) (.branch 15 (.leaf (12, .goto 4, 3)) (.branch 16 (.leaf (15, .iconst 0, 1)) (.leaf (16, .ireturn, 1)))))
noncomputable def oX2_isClosed : List dLf := dFl tX2_isClosed
theorem ofX2_isClosed : dFl tX2_isClosed = oX2_isClosed := rfl
set_option maxRecDepth 100000 in
theorem odX2_isClosed : ∀ q ∈ oX2_isClosed, decode cX2_isClosed q.1 = .ok (q.2.1, q.2.2) := q_go qT_ok bbX2_isClosed oX2_isClosed 0 (by decide +kernel)
theorem dX2_isClosed_0 : decode cX2_isClosed 0 = .ok (.aload_n 0, 1) := d_by (d_at odX2_isClosed ofX2_isClosed 0) rfl
theorem dX2_isClosed_1 : decode cX2_isClosed 1 = .ok (.getfield 15, 3) := d_by (d_at odX2_isClosed ofX2_isClosed 1) rfl
theorem dX2_isClosed_4 : decode cX2_isClosed 4 = .ok (.iload_n 1, 1) := d_by (d_at odX2_isClosed ofX2_isClosed 4) rfl
theorem dX2_isClosed_5 : decode cX2_isClosed 5 = .ok (.ishr, 1) := d_by (d_at odX2_isClosed ofX2_isClosed 5) rfl
theorem dX2_isClosed_6 : decode cX2_isClosed 6 = .ok (.iconst 1, 1) := d_by (d_at odX2_isClosed ofX2_isClosed 6) rfl
theorem dX2_isClosed_7 : decode cX2_isClosed 7 = .ok (.iand, 1) := d_by (d_at odX2_isClosed ofX2_isClosed 7) rfl
theorem dX2_isClosed_8 : decode cX2_isClosed 8 = .ok (.ifCond .eq 7, 3) := d_by (d_at odX2_isClosed ofX2_isClosed 8) rfl
theorem dX2_isClosed_11 : decode cX2_isClosed 11 = .ok (.iconst 1, 1) := d_by (d_at odX2_isClosed ofX2_isClosed 11) rfl
theorem dX2_isClosed_12 : decode cX2_isClosed 12 = .ok (.goto 4, 3) := d_by (d_at odX2_isClosed ofX2_isClosed 12) rfl
theorem dX2_isClosed_15 : decode cX2_isClosed 15 = .ok (.iconst 0, 1) := d_by (d_at odX2_isClosed ofX2_isClosed 15) rfl
theorem dX2_isClosed_16 : decode cX2_isClosed 16 = .ok (.ireturn, 1) := d_by (d_at odX2_isClosed ofX2_isClosed 16) rfl
set_option maxRecDepth 100000 in
def bX2_isSent : List Nat := [42, 180, 0, 25, 27, 46, 16, 254, 159, 0, 7, 4, 167, 0, 4, 3, 172]
set_option maxRecDepth 100000 in
theorem bbX2_isSent : cX2_isSent.data.toList.map UInt8.toNat = bX2_isSent := by decide +kernel
set_option maxRecDepth 100000 in
def tX2_isSent : Lean.RArray dLf := .branch 8 (.branch 4 (.branch 1 (.leaf (0, .aload_n 0, 1)) (.leaf (1, .getfield 25, 3))) (.branch 5 (.leaf (4, .iload_n 1, 1)) (.branch 6 (.leaf (5, .iaload, 1)) (.leaf (6, .bipush (-2), 2))))) (.branch 12 (.branch 11 (.leaf (8, .if_icmp .eq 7, 3)) (.leaf (11, .iconst 1, 1))) (.branch 15 (.leaf (12, .goto 4, 3)) (.branch 16 (.leaf (15, .iconst 0, 1)) (.leaf (16, .ireturn, 1)))))
noncomputable def oX2_isSent : List dLf := dFl tX2_isSent
theorem ofX2_isSent : dFl tX2_isSent = oX2_isSent := rfl
set_option maxRecDepth 100000 in
theorem odX2_isSent : ∀ q ∈ oX2_isSent, decode cX2_isSent q.1 = .ok (q.2.1, q.2.2) := q_go qT_ok bbX2_isSent oX2_isSent 0 (by decide +kernel)
theorem dX2_isSent_0 : decode cX2_isSent 0 = .ok (.aload_n 0, 1) := d_by (d_at odX2_isSent ofX2_isSent 0) rfl
theorem dX2_isSent_1 : decode cX2_isSent 1 = .ok (.getfield 25, 3) := d_by (d_at odX2_isSent ofX2_isSent 1) rfl
theorem dX2_isSent_4 : decode cX2_isSent 4 = .ok (.iload_n 1, 1) := d_by (d_at odX2_isSent ofX2_isSent 4) rfl
theorem dX2_isSent_5 : decode cX2_isSent 5 = .ok (.iaload, 1) := d_by (d_at odX2_isSent ofX2_isSent 5) rfl
theorem dX2_isSent_6 : decode cX2_isSent 6 = .ok (.bipush (-2), 2) := d_by (d_at odX2_isSent ofX2_isSent 6) rfl
theorem dX2_isSent_8 : decode cX2_isSent 8 = .ok (.if_icmp .eq 7, 3) := d_by (d_at odX2_isSent ofX2_isSent 8) rfl
theorem dX2_isSent_11 : decode cX2_isSent 11 = .ok (.iconst 1, 1) := d_by (d_at odX2_isSent ofX2_isSent 11) rfl
theorem dX2_isSent_12 : decode cX2_isSent 12 = .ok (.goto 4, 3) := d_by (d_at odX2_isSent ofX2_isSent 12) rfl
theorem dX2_isSent_15 : decode cX2_isSent 15 = .ok (.iconst 0, 1) := d_by (d_at odX2_isSent ofX2_isSent 15) rfl
theorem dX2_isSent_16 : decode cX2_isSent 16 = .ok (.ireturn, 1) := d_by (d_at odX2_isSent ofX2_isSent 16) rfl
set_option maxRecDepth 100000 in
def bX3_init : List Nat := [42, 183, 0, 3, 42, 16, 7, 188, 10, 181, 0, 9, 42, 16, 49, 188, 10, 181, 0, 15, 42, 17, 3, 128, 188, 10, 181, 0, 18, 42, 43, 181, 0, 21, 177]
set_option maxRecDepth 100000 in
theorem bbX3_init : cX3_init.data.toList.map UInt8.toNat = bX3_init := by decide +kernel
theorem eX3_init_7 : decode cX3_init 7 = .ok (.newarray .int, 2) := by decide +kernel
theorem eX3_init_15 : decode cX3_init 15 = .ok (.newarray .int, 2) := by decide +kernel
theorem eX3_init_24 : decode cX3_init 24 = .ok (.newarray .int, 2) := by decide +kernel
set_option maxRecDepth 100000 in
def oX3_inits0 : List dLf := [(0, .aload_n 0, 1), (1, .invokespecial 3, 3), (4, .aload_n 0, 1), (5, .bipush 7, 2)]
set_option maxRecDepth 100000 in
theorem odX3_inits0 : ∀ q ∈ oX3_inits0, decode cX3_init q.1 = .ok (q.2.1, q.2.2) := q_go qT_ok bbX3_init oX3_inits0 0 (by decide +kernel)
set_option maxRecDepth 100000 in
def oX3_inits2 : List dLf := [(9, .putfield 9, 3), (12, .aload_n 0, 1), (13, .bipush 49, 2)]
set_option maxRecDepth 100000 in
theorem odX3_inits2 : ∀ q ∈ oX3_inits2, decode cX3_init q.1 = .ok (q.2.1, q.2.2) := q_go qT_ok bbX3_init oX3_inits2 9 (by decide +kernel)
set_option maxRecDepth 100000 in
def oX3_inits4 : List dLf := [(17, .putfield 15, 3), (20, .aload_n 0, 1), (21, .sipush 896, 3)]
set_option maxRecDepth 100000 in
theorem odX3_inits4 : ∀ q ∈ oX3_inits4, decode cX3_init q.1 = .ok (q.2.1, q.2.2) := q_go qT_ok bbX3_init oX3_inits4 17 (by decide +kernel)
set_option maxRecDepth 100000 in
def oX3_inits6 : List dLf := [(26, .putfield 18, 3), (29, .aload_n 0, 1), (30, .aload_n 1, 1), (31, .putfield 21, 3), (34, .return_, 1)]
set_option maxRecDepth 100000 in
theorem odX3_inits6 : ∀ q ∈ oX3_inits6, decode cX3_init q.1 = .ok (q.2.1, q.2.2) := q_go qT_ok bbX3_init oX3_inits6 26 (by decide +kernel)
set_option maxRecDepth 100000 in
def oX3_init : List dLf := [(0, .aload_n 0, 1), (1, .invokespecial 3, 3), (4, .aload_n 0, 1), (5, .bipush 7, 2), (7, .newarray .int, 2), (9, .putfield 9, 3), (12, .aload_n 0, 1), (13, .bipush 49, 2), (15, .newarray .int, 2), (17, .putfield 15, 3), (20, .aload_n 0, 1), (21, .sipush 896, 3), (24, .newarray .int, 2), (26, .putfield 18, 3), (29, .aload_n 0, 1), (30, .aload_n 1, 1), (31, .putfield 21, 3), (34, .return_, 1)]
set_option maxRecDepth 100000 in
theorem odX3_init : ∀ q ∈ oX3_init, decode cX3_init q.1 = .ok (q.2.1, q.2.2) := by
  have e : oX3_init = oX3_inits0 ++ ([(7, .newarray .int, 2)] ++ (oX3_inits2 ++ ([(15, .newarray .int, 2)] ++ (oX3_inits4 ++ ([(24, .newarray .int, 2)] ++ (oX3_inits6)))))) := rfl
  rw [e]
  exact List.forall_mem_append.mpr ⟨odX3_inits0, List.forall_mem_append.mpr ⟨(List.forall_mem_singleton.mpr eX3_init_7), List.forall_mem_append.mpr ⟨odX3_inits2, List.forall_mem_append.mpr ⟨(List.forall_mem_singleton.mpr eX3_init_15), List.forall_mem_append.mpr ⟨odX3_inits4, List.forall_mem_append.mpr ⟨(List.forall_mem_singleton.mpr eX3_init_24), odX3_inits6⟩⟩⟩⟩⟩⟩
set_option maxRecDepth 100000 in
def tX3_init : Lean.RArray dLf := .branch 17 (.branch 7 (.branch 4 (.branch 1 (.leaf (0, .aload_n 0, 1)) (.leaf (1, .invokespecial 3, 3))) (.branch 5 (.leaf (4, .aload_n 0, 1)) (.leaf (5, .bipush 7, 2)))) (.branch 12 (.branch 9 (.leaf (7, .newarray .int, 2)) (.leaf (9, .putfield 9, 3))) (.branch 13 (.leaf (12, .aload_n 0, 1)) (.branch 15 (.leaf (13, .bipush 49, 2)) (.leaf (15, .newarray .int, 2)))))) (.branch 26 (.branch 21 (.branch 20 (.leaf (17, .putfield 15, 3)) (.leaf (20, .aload_n 0, 1))) (.branch 24 (.leaf (21, .sipush 896, 3)) (.leaf (24, .newarray .int, 2)))) (.branch 30 (.branch 29 (.leaf (26, .putfield 18, 3)) (.leaf (29, .aload_n 0, 1))) (.branch 31 (.leaf (30, .aload_n 1, 1)) (.branch 34 (.leaf (31, .putfield 21, 3)) (.leaf (34, .return_, 1))))))
set_option maxRecDepth 100000 in
theorem ofX3_init : dFl tX3_init = oX3_init := rfl
theorem dX3_init_0 : decode cX3_init 0 = .ok (.aload_n 0, 1) := d_by (d_at odX3_init ofX3_init 0) rfl
theorem dX3_init_1 : decode cX3_init 1 = .ok (.invokespecial 3, 3) := d_by (d_at odX3_init ofX3_init 1) rfl
theorem dX3_init_4 : decode cX3_init 4 = .ok (.aload_n 0, 1) := d_by (d_at odX3_init ofX3_init 4) rfl
theorem dX3_init_5 : decode cX3_init 5 = .ok (.bipush 7, 2) := d_by (d_at odX3_init ofX3_init 5) rfl
theorem dX3_init_7 : decode cX3_init 7 = .ok (.newarray .int, 2) := d_by (d_at odX3_init ofX3_init 7) rfl
theorem dX3_init_9 : decode cX3_init 9 = .ok (.putfield 9, 3) := d_by (d_at odX3_init ofX3_init 9) rfl
theorem dX3_init_12 : decode cX3_init 12 = .ok (.aload_n 0, 1) := d_by (d_at odX3_init ofX3_init 12) rfl
theorem dX3_init_13 : decode cX3_init 13 = .ok (.bipush 49, 2) := d_by (d_at odX3_init ofX3_init 13) rfl
theorem dX3_init_15 : decode cX3_init 15 = .ok (.newarray .int, 2) := d_by (d_at odX3_init ofX3_init 15) rfl
theorem dX3_init_17 : decode cX3_init 17 = .ok (.putfield 15, 3) := d_by (d_at odX3_init ofX3_init 17) rfl
theorem dX3_init_20 : decode cX3_init 20 = .ok (.aload_n 0, 1) := d_by (d_at odX3_init ofX3_init 20) rfl
theorem dX3_init_21 : decode cX3_init 21 = .ok (.sipush 896, 3) := d_by (d_at odX3_init ofX3_init 21) rfl
theorem dX3_init_24 : decode cX3_init 24 = .ok (.newarray .int, 2) := d_by (d_at odX3_init ofX3_init 24) rfl
theorem dX3_init_26 : decode cX3_init 26 = .ok (.putfield 18, 3) := d_by (d_at odX3_init ofX3_init 26) rfl
theorem dX3_init_29 : decode cX3_init 29 = .ok (.aload_n 0, 1) := d_by (d_at odX3_init ofX3_init 29) rfl
theorem dX3_init_30 : decode cX3_init 30 = .ok (.aload_n 1, 1) := d_by (d_at odX3_init ofX3_init 30) rfl
theorem dX3_init_31 : decode cX3_init 31 = .ok (.putfield 21, 3) := d_by (d_at odX3_init ofX3_init 31) rfl
theorem dX3_init_34 : decode cX3_init 34 = .ok (.return_, 1) := d_by (d_at odX3_init ofX3_init 34) rfl
set_option maxRecDepth 100000 in
def bX3_fewestToWatch : List Nat := [16, 254, 54, 4, 16, 13, 54, 5, 3, 54, 6, 21, 6, 4, 42, 180, 0, 21, 180, 0, 25, 120, 162, 0, 75, 21, 6, 27, 122, 4, 126, 153, 0, 60, 21, 6, 28, 122, 4, 126, 154, 0, 51, 42, 21, 6, 182, 0, 31, 29, 2, 130, 126, 54, 7, 21, 7, 184, 0, 35, 54, 8, 21, 8, 21, 5, 161, 0, 17, 21, 8, 21, 5, 160, 0, 18, 21, 7, 21, 4, 162, 0, 11, 21, 7, 54, 4, 21, 8, 54, 5, 132, 6, 1, 167, 255, 173, 21, 4, 172]
set_option maxRecDepth 100000 in
theorem bbX3_fewestToWatch : cX3_fewestToWatch.data.toList.map UInt8.toNat = bX3_fewestToWatch := by decide +kernel
set_option maxRecDepth 100000 in
def tX3_fewestToWatch : Lean.RArray dLf := .branch 44 (.branch 25 (.branch 11 (.branch 6 (.branch 2 (.leaf (0, .bipush (-2), 2)) (.branch 4 (.leaf (2, .istore 4, 2)) (.leaf (4, .bipush 13, 2)))) (.branch 8 (.leaf (6, .istore 5, 2)) (.branch 9 (.leaf (8, .iconst 0, 1)) (.leaf (9, .istore 6, 2))))) (.branch 15 (.branch 13 (.leaf (11, .iload 6, 2)) (.branch 14 (.leaf (13, .iconst 1, 1)) (.leaf (14, .aload_n 0, 1)))) (.branch 21 (.branch 18 (.leaf (15, .getfield 21, 3)) (.leaf (18, .getfield 25, 3))) (.branch 22 (.leaf (21, .ishl, 1)) (.leaf (22, .if_icmp .ge 75, 3)))))) (.branch 34 (.branch 29 (.branch 27 (.leaf (25, .iload 6, 2)) (.branch 28 (.leaf (27, .iload_n 1, 1)) (.leaf (28, .ishr, 1)))) (.branch 30 (.leaf (29, .iconst 1, 1)) (.branch 31 (.leaf (30, .iand, 1)) (.leaf (31, .ifCond .eq 60, 3))))) (.branch 38 (.branch 36 (.leaf (34, .iload 6, 2)) (.branch 37 (.leaf (36, .iload_n 2, 1)) (.leaf (37, .ishr, 1)))) (.branch 40 (.branch 39 (.leaf (38, .iconst 1, 1)) (.leaf (39, .iand, 1))) (.branch 43 (.leaf (40, .ifCond .ne 51, 3)) (.leaf (43, .aload_n 0, 1))))))) (.branch 69 (.branch 53 (.branch 50 (.branch 46 (.leaf (44, .iload 6, 2)) (.branch 49 (.leaf (46, .invokevirtual 31, 3)) (.leaf (49, .iload_n 3, 1)))) (.branch 51 (.leaf (50, .iconst (-1), 1)) (.branch 52 (.leaf (51, .ixor, 1)) (.leaf (52, .iand, 1))))) (.branch 60 (.branch 55 (.leaf (53, .istore 7, 2)) (.branch 57 (.leaf (55, .iload 7, 2)) (.leaf (57, .invokestatic 35, 3)))) (.branch 64 (.branch 62 (.leaf (60, .istore 8, 2)) (.leaf (62, .iload 8, 2))) (.branch 66 (.leaf (64, .iload 5, 2)) (.leaf (66, .if_icmp .lt 17, 3)))))) (.branch 85 (.branch 76 (.branch 71 (.leaf (69, .iload 8, 2)) (.branch 73 (.leaf (71, .iload 5, 2)) (.leaf (73, .if_icmp .ne 18, 3)))) (.branch 80 (.branch 78 (.leaf (76, .iload 7, 2)) (.leaf (78, .iload 4, 2))) (.branch 83 (.leaf (80, .if_icmp .ge 11, 3)) (.leaf (83, .iload 7, 2))))) (.branch 91 (.branch 87 (.leaf (85, .istore 4, 2)) (.branch 89 (.leaf (87, .iload 8, 2)) (.leaf (89, .istore 5, 2)))) (.branch 97 (.branch 94 (.leaf (91, .iinc 6 1, 3)) (.leaf (94, .goto (-83), 3))) (.branch 99 (.leaf (97, .iload 4, 2)) (.leaf (99, .ireturn, 1)))))))
noncomputable def oX3_fewestToWatch : List dLf := dFl tX3_fewestToWatch
theorem ofX3_fewestToWatch : dFl tX3_fewestToWatch = oX3_fewestToWatch := rfl
set_option maxRecDepth 100000 in
theorem odX3_fewestToWatch : ∀ q ∈ oX3_fewestToWatch, decode cX3_fewestToWatch q.1 = .ok (q.2.1, q.2.2) := q_go qT_ok bbX3_fewestToWatch oX3_fewestToWatch 0 (by decide +kernel)
set_option maxRecDepth 100000 in
def bX3_waysOutOf : List Nat := [3, 61, 3, 62, 29, 42, 180, 0, 21, 180, 0, 40, 162, 0, 50, 27, 42, 180, 0, 21, 180, 0, 43, 29, 50, 180, 0, 47, 122, 4, 126, 27, 42, 180, 0, 21, 180, 0, 43, 29, 50, 180, 0, 52, 122, 4, 126, 159, 0, 9, 28, 4, 29, 120, 128, 61, 132, 3, 1, 167, 255, 201, 28, 172]
set_option maxRecDepth 100000 in
theorem bbX3_waysOutOf : cX3_waysOutOf.data.toList.map UInt8.toNat = bX3_waysOutOf := by decide +kernel
set_option maxRecDepth 100000 in
def tX3_waysOutOf : Lean.RArray dLf := .branch 32 (.branch 16 (.branch 5 (.branch 2 (.branch 1 (.leaf (0, .iconst 0, 1)) (.leaf (1, .istore_n 2, 1))) (.branch 3 (.leaf (2, .iconst 0, 1)) (.branch 4 (.leaf (3, .istore_n 3, 1)) (.leaf (4, .iload_n 3, 1))))) (.branch 9 (.branch 6 (.leaf (5, .aload_n 0, 1)) (.leaf (6, .getfield 21, 3))) (.branch 12 (.leaf (9, .getfield 40, 3)) (.branch 15 (.leaf (12, .if_icmp .ge 50, 3)) (.leaf (15, .iload_n 1, 1)))))) (.branch 25 (.branch 20 (.branch 17 (.leaf (16, .aload_n 0, 1)) (.leaf (17, .getfield 21, 3))) (.branch 23 (.leaf (20, .getfield 43, 3)) (.branch 24 (.leaf (23, .iload_n 3, 1)) (.leaf (24, .aaload, 1))))) (.branch 29 (.branch 28 (.leaf (25, .getfield 47, 3)) (.leaf (28, .ishr, 1))) (.branch 30 (.leaf (29, .iconst 1, 1)) (.branch 31 (.leaf (30, .iand, 1)) (.leaf (31, .iload_n 1, 1))))))) (.branch 50 (.branch 41 (.branch 36 (.branch 33 (.leaf (32, .aload_n 0, 1)) (.leaf (33, .getfield 21, 3))) (.branch 39 (.leaf (36, .getfield 43, 3)) (.branch 40 (.leaf (39, .iload_n 3, 1)) (.leaf (40, .aaload, 1))))) (.branch 45 (.branch 44 (.leaf (41, .getfield 52, 3)) (.leaf (44, .ishr, 1))) (.branch 46 (.leaf (45, .iconst 1, 1)) (.branch 47 (.leaf (46, .iand, 1)) (.leaf (47, .if_icmp .eq 9, 3)))))) (.branch 55 (.branch 52 (.branch 51 (.leaf (50, .iload_n 2, 1)) (.leaf (51, .iconst 1, 1))) (.branch 53 (.leaf (52, .iload_n 3, 1)) (.branch 54 (.leaf (53, .ishl, 1)) (.leaf (54, .ior, 1))))) (.branch 59 (.branch 56 (.leaf (55, .istore_n 2, 1)) (.leaf (56, .iinc 3 1, 3))) (.branch 62 (.leaf (59, .goto (-55), 3)) (.branch 63 (.leaf (62, .iload_n 2, 1)) (.leaf (63, .ireturn, 1)))))))
noncomputable def oX3_waysOutOf : List dLf := dFl tX3_waysOutOf
theorem ofX3_waysOutOf : dFl tX3_waysOutOf = oX3_waysOutOf := rfl
set_option maxRecDepth 100000 in
theorem odX3_waysOutOf : ∀ q ∈ oX3_waysOutOf, decode cX3_waysOutOf q.1 = .ok (q.2.1, q.2.2) := q_go qT_ok bbX3_waysOutOf oX3_waysOutOf 0 (by decide +kernel)
set_option maxRecDepth 100000 in
def bX3_findRound : List Nat := [42, 28, 182, 0, 55, 42, 182, 0, 59, 42, 180, 0, 18, 4, 27, 120, 16, 7, 104, 27, 96, 46, 62, 29, 18, 62, 161, 0, 6, 16, 254, 172, 4, 27, 120, 54, 4, 42, 180, 0, 9, 3, 27, 79, 4, 54, 5, 21, 5, 42, 180, 0, 21, 180, 0, 25, 162, 0, 45, 42, 180, 0, 9, 21, 5, 42, 21, 4, 42, 180, 0, 9, 21, 5, 4, 100, 46, 182, 0, 63, 79, 21, 4, 4, 42, 180, 0, 9, 21, 5, 46, 120, 128, 54, 4, 132, 5, 1, 167, 255, 205, 29, 172]
set_option maxRecDepth 100000 in
theorem bbX3_findRound : cX3_findRound.data.toList.map UInt8.toNat = bX3_findRound := by decide +kernel
set_option maxRecDepth 100000 in
def tX3_findRound : Lean.RArray dLf := .branch 45 (.branch 22 (.branch 13 (.branch 5 (.branch 1 (.leaf (0, .aload_n 0, 1)) (.branch 2 (.leaf (1, .iload_n 2, 1)) (.leaf (2, .invokevirtual 55, 3)))) (.branch 9 (.branch 6 (.leaf (5, .aload_n 0, 1)) (.leaf (6, .invokevirtual 59, 3))) (.branch 10 (.leaf (9, .aload_n 0, 1)) (.leaf (10, .getfield 18, 3))))) (.branch 18 (.branch 15 (.branch 14 (.leaf (13, .iconst 1, 1)) (.leaf (14, .iload_n 1, 1))) (.branch 16 (.leaf (15, .ishl, 1)) (.leaf (16, .bipush 7, 2)))) (.branch 20 (.branch 19 (.leaf (18, .imul, 1)) (.leaf (19, .iload_n 1, 1))) (.branch 21 (.leaf (20, .iadd, 1)) (.leaf (21, .iaload, 1)))))) (.branch 34 (.branch 29 (.branch 24 (.branch 23 (.leaf (22, .istore_n 3, 1)) (.leaf (23, .iload_n 3, 1))) (.branch 26 (.leaf (24, .ldc 62, 2)) (.leaf (26, .if_icmp .lt 6, 3)))) (.branch 32 (.branch 31 (.leaf (29, .bipush (-2), 2)) (.leaf (31, .ireturn, 1))) (.branch 33 (.leaf (32, .iconst 1, 1)) (.leaf (33, .iload_n 1, 1))))) (.branch 41 (.branch 37 (.branch 35 (.leaf (34, .ishl, 1)) (.leaf (35, .istore 4, 2))) (.branch 38 (.leaf (37, .aload_n 0, 1)) (.leaf (38, .getfield 9, 3)))) (.branch 43 (.branch 42 (.leaf (41, .iconst 0, 1)) (.leaf (42, .iload_n 1, 1))) (.branch 44 (.leaf (43, .iastore, 1)) (.leaf (44, .iconst 1, 1))))))) (.branch 76 (.branch 63 (.branch 53 (.branch 49 (.branch 47 (.leaf (45, .istore 5, 2)) (.leaf (47, .iload 5, 2))) (.branch 50 (.leaf (49, .aload_n 0, 1)) (.leaf (50, .getfield 21, 3)))) (.branch 59 (.branch 56 (.leaf (53, .getfield 25, 3)) (.leaf (56, .if_icmp .ge 45, 3))) (.branch 60 (.leaf (59, .aload_n 0, 1)) (.leaf (60, .getfield 9, 3))))) (.branch 69 (.branch 66 (.branch 65 (.leaf (63, .iload 5, 2)) (.leaf (65, .aload_n 0, 1))) (.branch 68 (.leaf (66, .iload 4, 2)) (.leaf (68, .aload_n 0, 1)))) (.branch 74 (.branch 72 (.leaf (69, .getfield 9, 3)) (.leaf (72, .iload 5, 2))) (.branch 75 (.leaf (74, .iconst 1, 1)) (.leaf (75, .isub, 1)))))) (.branch 90 (.branch 83 (.branch 80 (.branch 77 (.leaf (76, .iaload, 1)) (.leaf (77, .invokevirtual 63, 3))) (.branch 81 (.leaf (80, .iastore, 1)) (.leaf (81, .iload 4, 2)))) (.branch 85 (.branch 84 (.leaf (83, .iconst 1, 1)) (.leaf (84, .aload_n 0, 1))) (.branch 88 (.leaf (85, .getfield 9, 3)) (.leaf (88, .iload 5, 2))))) (.branch 95 (.branch 92 (.branch 91 (.leaf (90, .iaload, 1)) (.leaf (91, .ishl, 1))) (.branch 93 (.leaf (92, .ior, 1)) (.leaf (93, .istore 4, 2)))) (.branch 101 (.branch 98 (.leaf (95, .iinc 5 1, 3)) (.leaf (98, .goto (-51), 3))) (.branch 102 (.leaf (101, .iload_n 3, 1)) (.leaf (102, .ireturn, 1)))))))
noncomputable def oX3_findRound : List dLf := dFl tX3_findRound
theorem ofX3_findRound : dFl tX3_findRound = oX3_findRound := rfl
set_option maxRecDepth 100000 in
theorem odX3_findRound : ∀ q ∈ oX3_findRound, decode cX3_findRound q.1 = .ok (q.2.1, q.2.2) := q_go qT_ok bbX3_findRound oX3_findRound 0 (by decide +kernel)
set_option maxRecDepth 100000 in
def bX3_findShortest : List Nat := [42, 180, 0, 15, 18, 62, 184, 0, 67, 3, 61, 28, 42, 180, 0, 21, 180, 0, 40, 162, 0, 107, 27, 28, 122, 4, 126, 154, 0, 93, 42, 180, 0, 15, 42, 180, 0, 21, 180, 0, 43, 28, 50, 180, 0, 47, 16, 7, 104, 42, 180, 0, 21, 180, 0, 43, 28, 50, 180, 0, 52, 96, 42, 180, 0, 21, 180, 0, 43, 28, 50, 180, 0, 73, 79, 42, 180, 0, 15, 42, 180, 0, 21, 180, 0, 43, 28, 50, 180, 0, 52, 16, 7, 104, 42, 180, 0, 21, 180, 0, 43, 28, 50, 180, 0, 47, 96, 42, 180, 0, 21, 180, 0, 43, 28, 50, 180, 0, 73, 79, 132, 2, 1, 167, 255, 144, 3, 61, 28, 42, 180, 0, 21, 180, 0, 25, 162, 0, 104, 3, 62, 29, 42, 180, 0, 21, 180, 0, 25, 162, 0, 85, 3, 54, 4, 21, 4, 42, 180, 0, 21, 180, 0, 25, 162, 0, 64, 42, 180, 0, 15, 29, 16, 7, 104, 28, 96, 46, 42, 180, 0, 15, 28, 16, 7, 104, 21, 4, 96, 46, 96, 54, 5, 42, 180, 0, 15, 29, 16, 7, 104, 21, 4, 96, 42, 180, 0, 15, 29, 16, 7, 104, 21, 4, 96, 46, 21, 5, 184, 0, 76, 79, 132, 4, 1, 167, 255, 186, 132, 3, 1, 167, 255, 166, 132, 2, 1, 167, 255, 147, 177]
set_option maxRecDepth 100000 in
theorem bbX3_findShortest : cX3_findShortest.data.toList.map UInt8.toNat = bX3_findShortest := by decide +kernel
set_option maxRecDepth 100000 in
def tX3_findShortest : Lean.RArray dLf := .branch 120 (.branch 58 (.branch 27 (.branch 13 (.branch 9 (.branch 4 (.branch 1 (.leaf (0, .aload_n 0, 1)) (.leaf (1, .getfield 15, 3))) (.branch 6 (.leaf (4, .ldc 62, 2)) (.leaf (6, .invokestatic 67, 3)))) (.branch 11 (.branch 10 (.leaf (9, .iconst 0, 1)) (.leaf (10, .istore_n 2, 1))) (.branch 12 (.leaf (11, .iload_n 2, 1)) (.leaf (12, .aload_n 0, 1))))) (.branch 23 (.branch 19 (.branch 16 (.leaf (13, .getfield 21, 3)) (.leaf (16, .getfield 40, 3))) (.branch 22 (.leaf (19, .if_icmp .ge 107, 3)) (.leaf (22, .iload_n 1, 1)))) (.branch 25 (.branch 24 (.leaf (23, .iload_n 2, 1)) (.leaf (24, .ishr, 1))) (.branch 26 (.leaf (25, .iconst 1, 1)) (.leaf (26, .iand, 1)))))) (.branch 43 (.branch 35 (.branch 31 (.branch 30 (.leaf (27, .ifCond .ne 93, 3)) (.leaf (30, .aload_n 0, 1))) (.branch 34 (.leaf (31, .getfield 15, 3)) (.leaf (34, .aload_n 0, 1)))) (.branch 41 (.branch 38 (.leaf (35, .getfield 21, 3)) (.leaf (38, .getfield 43, 3))) (.branch 42 (.leaf (41, .iload_n 2, 1)) (.leaf (42, .aaload, 1))))) (.branch 50 (.branch 48 (.branch 46 (.leaf (43, .getfield 47, 3)) (.leaf (46, .bipush 7, 2))) (.branch 49 (.leaf (48, .imul, 1)) (.leaf (49, .aload_n 0, 1)))) (.branch 56 (.branch 53 (.leaf (50, .getfield 21, 3)) (.leaf (53, .getfield 43, 3))) (.branch 57 (.leaf (56, .iload_n 2, 1)) (.leaf (57, .aaload, 1))))))) (.branch 88 (.branch 74 (.branch 66 (.branch 62 (.branch 61 (.leaf (58, .getfield 52, 3)) (.leaf (61, .iadd, 1))) (.branch 63 (.leaf (62, .aload_n 0, 1)) (.leaf (63, .getfield 21, 3)))) (.branch 70 (.branch 69 (.leaf (66, .getfield 43, 3)) (.leaf (69, .iload_n 2, 1))) (.branch 71 (.leaf (70, .aaload, 1)) (.leaf (71, .getfield 73, 3))))) (.branch 80 (.branch 76 (.branch 75 (.leaf (74, .iastore, 1)) (.leaf (75, .aload_n 0, 1))) (.branch 79 (.leaf (76, .getfield 15, 3)) (.leaf (79, .aload_n 0, 1)))) (.branch 86 (.branch 83 (.leaf (80, .getfield 21, 3)) (.leaf (83, .getfield 43, 3))) (.branch 87 (.leaf (86, .iload_n 2, 1)) (.leaf (87, .aaload, 1)))))) (.branch 103 (.branch 95 (.branch 93 (.branch 91 (.leaf (88, .getfield 52, 3)) (.leaf (91, .bipush 7, 2))) (.branch 94 (.leaf (93, .imul, 1)) (.leaf (94, .aload_n 0, 1)))) (.branch 101 (.branch 98 (.leaf (95, .getfield 21, 3)) (.leaf (98, .getfield 43, 3))) (.branch 102 (.leaf (101, .iload_n 2, 1)) (.leaf (102, .aaload, 1))))) (.branch 111 (.branch 107 (.branch 106 (.leaf (103, .getfield 47, 3)) (.leaf (106, .iadd, 1))) (.branch 108 (.leaf (107, .aload_n 0, 1)) (.leaf (108, .getfield 21, 3)))) (.branch 115 (.branch 114 (.leaf (111, .getfield 43, 3)) (.leaf (114, .iload_n 2, 1))) (.branch 116 (.leaf (115, .aaload, 1)) (.branch 119 (.leaf (116, .getfield 73, 3)) (.leaf (119, .iastore, 1))))))))) (.branch 182 (.branch 152 (.branch 136 (.branch 128 (.branch 126 (.branch 123 (.leaf (120, .iinc 2 1, 3)) (.leaf (123, .goto (-112), 3))) (.branch 127 (.leaf (126, .iconst 0, 1)) (.leaf (127, .istore_n 2, 1)))) (.branch 130 (.branch 129 (.leaf (128, .iload_n 2, 1)) (.leaf (129, .aload_n 0, 1))) (.branch 133 (.leaf (130, .getfield 21, 3)) (.leaf (133, .getfield 25, 3))))) (.branch 142 (.branch 140 (.branch 139 (.leaf (136, .if_icmp .ge 104, 3)) (.leaf (139, .iconst 0, 1))) (.branch 141 (.leaf (140, .istore_n 3, 1)) (.leaf (141, .iload_n 3, 1)))) (.branch 146 (.branch 143 (.leaf (142, .aload_n 0, 1)) (.leaf (143, .getfield 21, 3))) (.branch 149 (.leaf (146, .getfield 25, 3)) (.leaf (149, .if_icmp .ge 85, 3)))))) (.branch 168 (.branch 158 (.branch 155 (.branch 153 (.leaf (152, .iconst 0, 1)) (.leaf (153, .istore 4, 2))) (.branch 157 (.leaf (155, .iload 4, 2)) (.leaf (157, .aload_n 0, 1)))) (.branch 164 (.branch 161 (.leaf (158, .getfield 21, 3)) (.leaf (161, .getfield 25, 3))) (.branch 167 (.leaf (164, .if_icmp .ge 64, 3)) (.leaf (167, .aload_n 0, 1))))) (.branch 175 (.branch 172 (.branch 171 (.leaf (168, .getfield 15, 3)) (.leaf (171, .iload_n 3, 1))) (.branch 174 (.leaf (172, .bipush 7, 2)) (.leaf (174, .imul, 1)))) (.branch 177 (.branch 176 (.leaf (175, .iload_n 2, 1)) (.leaf (176, .iadd, 1))) (.branch 178 (.leaf (177, .iaload, 1)) (.branch 179 (.leaf (178, .aload_n 0, 1)) (.leaf (179, .getfield 15, 3)))))))) (.branch 205 (.branch 193 (.branch 188 (.branch 185 (.branch 183 (.leaf (182, .iload_n 2, 1)) (.leaf (183, .bipush 7, 2))) (.branch 186 (.leaf (185, .imul, 1)) (.leaf (186, .iload 4, 2)))) (.branch 190 (.branch 189 (.leaf (188, .iadd, 1)) (.leaf (189, .iaload, 1))) (.branch 191 (.leaf (190, .iadd, 1)) (.leaf (191, .istore 5, 2))))) (.branch 200 (.branch 197 (.branch 194 (.leaf (193, .aload_n 0, 1)) (.leaf (194, .getfield 15, 3))) (.branch 198 (.leaf (197, .iload_n 3, 1)) (.leaf (198, .bipush 7, 2)))) (.branch 203 (.branch 201 (.leaf (200, .imul, 1)) (.leaf (201, .iload 4, 2))) (.branch 204 (.leaf (203, .iadd, 1)) (.leaf (204, .aload_n 0, 1)))))) (.branch 218 (.branch 212 (.branch 209 (.branch 208 (.leaf (205, .getfield 15, 3)) (.leaf (208, .iload_n 3, 1))) (.branch 211 (.leaf (209, .bipush 7, 2)) (.leaf (211, .imul, 1)))) (.branch 215 (.branch 214 (.leaf (212, .iload 4, 2)) (.leaf (214, .iadd, 1))) (.branch 216 (.leaf (215, .iaload, 1)) (.leaf (216, .iload 5, 2))))) (.branch 228 (.branch 222 (.branch 221 (.leaf (218, .invokestatic 76, 3)) (.leaf (221, .iastore, 1))) (.branch 225 (.leaf (222, .iinc 4 1, 3)) (.leaf (225, .goto (-70), 3)))) (.branch 234 (.branch 231 (.leaf (228, .iinc 3 1, 3)) (.leaf (231, .goto (-90), 3))) (.branch 237 (.leaf (234, .iinc 2 1, 3)) (.branch 240 (.leaf (237, .goto (-109), 3)) (.leaf (240, .return_, 1)))))))))
noncomputable def oX3_findShortest : List dLf := dFl tX3_findShortest
theorem ofX3_findShortest : dFl tX3_findShortest = oX3_findShortest := rfl
set_option maxRecDepth 100000 in
theorem odX3_findShortest : ∀ q ∈ oX3_findShortest, decode cX3_findShortest q.1 = .ok (q.2.1, q.2.2) := q_go qT_ok bbX3_findShortest oX3_findShortest 0 (by decide +kernel)
set_option maxRecDepth 100000 in
def bX3_findRests : List Nat := [4, 42, 180, 0, 21, 180, 0, 25, 120, 4, 100, 60, 27, 61, 28, 158, 0, 99, 3, 62, 29, 42, 180, 0, 21, 180, 0, 25, 162, 0, 80, 28, 27, 160, 0, 7, 3, 167, 0, 5, 18, 62, 54, 4, 3, 54, 5, 21, 5, 42, 180, 0, 21, 180, 0, 25, 162, 0, 33, 28, 21, 5, 122, 4, 126, 154, 0, 18, 21, 4, 42, 28, 29, 21, 5, 182, 0, 81, 184, 0, 76, 54, 4, 132, 5, 1, 167, 255, 217, 42, 180, 0, 18, 28, 16, 7, 104, 29, 96, 21, 4, 79, 132, 3, 1, 167, 255, 171, 132, 2, 255, 167, 255, 159, 177]
set_option maxRecDepth 100000 in
theorem bbX3_findRests : cX3_findRests.data.toList.map UInt8.toNat = bX3_findRests := by decide +kernel
set_option maxRecDepth 100000 in
def tX3_findRests : Lean.RArray dLf := .branch 53 (.branch 21 (.branch 11 (.branch 5 (.branch 1 (.leaf (0, .iconst 1, 1)) (.branch 2 (.leaf (1, .aload_n 0, 1)) (.leaf (2, .getfield 21, 3)))) (.branch 9 (.branch 8 (.leaf (5, .getfield 25, 3)) (.leaf (8, .ishl, 1))) (.branch 10 (.leaf (9, .iconst 1, 1)) (.leaf (10, .isub, 1))))) (.branch 15 (.branch 13 (.branch 12 (.leaf (11, .istore_n 1, 1)) (.leaf (12, .iload_n 1, 1))) (.branch 14 (.leaf (13, .istore_n 2, 1)) (.leaf (14, .iload_n 2, 1)))) (.branch 19 (.branch 18 (.leaf (15, .ifCond .le 99, 3)) (.leaf (18, .iconst 0, 1))) (.branch 20 (.leaf (19, .istore_n 3, 1)) (.leaf (20, .iload_n 3, 1)))))) (.branch 37 (.branch 31 (.branch 25 (.branch 22 (.leaf (21, .aload_n 0, 1)) (.leaf (22, .getfield 21, 3))) (.branch 28 (.leaf (25, .getfield 25, 3)) (.leaf (28, .if_icmp .ge 80, 3)))) (.branch 33 (.branch 32 (.leaf (31, .iload_n 2, 1)) (.leaf (32, .iload_n 1, 1))) (.branch 36 (.leaf (33, .if_icmp .ne 7, 3)) (.leaf (36, .iconst 0, 1))))) (.branch 45 (.branch 42 (.branch 40 (.leaf (37, .goto 5, 3)) (.leaf (40, .ldc 62, 2))) (.branch 44 (.leaf (42, .istore 4, 2)) (.leaf (44, .iconst 0, 1)))) (.branch 49 (.branch 47 (.leaf (45, .istore 5, 2)) (.leaf (47, .iload 5, 2))) (.branch 50 (.leaf (49, .aload_n 0, 1)) (.leaf (50, .getfield 21, 3))))))) (.branch 83 (.branch 68 (.branch 62 (.branch 59 (.branch 56 (.leaf (53, .getfield 25, 3)) (.leaf (56, .if_icmp .ge 33, 3))) (.branch 60 (.leaf (59, .iload_n 2, 1)) (.leaf (60, .iload 5, 2)))) (.branch 64 (.branch 63 (.leaf (62, .ishr, 1)) (.leaf (63, .iconst 1, 1))) (.branch 65 (.leaf (64, .iand, 1)) (.leaf (65, .ifCond .ne 18, 3))))) (.branch 73 (.branch 71 (.branch 70 (.leaf (68, .iload 4, 2)) (.leaf (70, .aload_n 0, 1))) (.branch 72 (.leaf (71, .iload_n 2, 1)) (.leaf (72, .iload_n 3, 1)))) (.branch 78 (.branch 75 (.leaf (73, .iload 5, 2)) (.leaf (75, .invokevirtual 81, 3))) (.branch 81 (.leaf (78, .invokestatic 76, 3)) (.leaf (81, .istore 4, 2)))))) (.branch 98 (.branch 93 (.branch 89 (.branch 86 (.leaf (83, .iinc 5 1, 3)) (.leaf (86, .goto (-39), 3))) (.branch 90 (.leaf (89, .aload_n 0, 1)) (.leaf (90, .getfield 18, 3)))) (.branch 96 (.branch 94 (.leaf (93, .iload_n 2, 1)) (.leaf (94, .bipush 7, 2))) (.branch 97 (.leaf (96, .imul, 1)) (.leaf (97, .iload_n 3, 1))))) (.branch 105 (.branch 101 (.branch 99 (.leaf (98, .iadd, 1)) (.leaf (99, .iload 4, 2))) (.branch 102 (.leaf (101, .iastore, 1)) (.leaf (102, .iinc 3 1, 3)))) (.branch 111 (.branch 108 (.leaf (105, .goto (-85), 3)) (.leaf (108, .iinc 2 (-1), 3))) (.branch 114 (.leaf (111, .goto (-97), 3)) (.leaf (114, .return_, 1)))))))
noncomputable def oX3_findRests : List dLf := dFl tX3_findRests
theorem ofX3_findRests : dFl tX3_findRests = oX3_findRests := rfl
set_option maxRecDepth 100000 in
theorem odX3_findRests : ∀ q ∈ oX3_findRests, decode cX3_findRests q.1 = .ok (q.2.1, q.2.2) := q_go qT_ok bbX3_findRests oX3_findRests 0 (by decide +kernel)
set_option maxRecDepth 100000 in
def bX3_daysOver : List Nat := [42, 180, 0, 15, 28, 16, 7, 104, 29, 96, 46, 42, 180, 0, 18, 27, 4, 29, 120, 128, 16, 7, 104, 29, 96, 46, 96, 172]
set_option maxRecDepth 100000 in
theorem bbX3_daysOver : cX3_daysOver.data.toList.map UInt8.toNat = bX3_daysOver := by decide +kernel
set_option maxRecDepth 100000 in
def tX3_daysOver : Lean.RArray dLf := .branch 16 (.branch 8 (.branch 4 (.branch 1 (.leaf (0, .aload_n 0, 1)) (.leaf (1, .getfield 15, 3))) (.branch 5 (.leaf (4, .iload_n 2, 1)) (.branch 7 (.leaf (5, .bipush 7, 2)) (.leaf (7, .imul, 1))))) (.branch 11 (.branch 9 (.leaf (8, .iload_n 3, 1)) (.branch 10 (.leaf (9, .iadd, 1)) (.leaf (10, .iaload, 1)))) (.branch 12 (.leaf (11, .aload_n 0, 1)) (.branch 15 (.leaf (12, .getfield 18, 3)) (.leaf (15, .iload_n 1, 1)))))) (.branch 22 (.branch 18 (.branch 17 (.leaf (16, .iconst 1, 1)) (.leaf (17, .iload_n 3, 1))) (.branch 19 (.leaf (18, .ishl, 1)) (.branch 20 (.leaf (19, .ior, 1)) (.leaf (20, .bipush 7, 2))))) (.branch 25 (.branch 23 (.leaf (22, .imul, 1)) (.branch 24 (.leaf (23, .iload_n 3, 1)) (.leaf (24, .iadd, 1)))) (.branch 26 (.leaf (25, .iaload, 1)) (.branch 27 (.leaf (26, .iadd, 1)) (.leaf (27, .ireturn, 1))))))
noncomputable def oX3_daysOver : List dLf := dFl tX3_daysOver
theorem ofX3_daysOver : dFl tX3_daysOver = oX3_daysOver := rfl
set_option maxRecDepth 100000 in
theorem odX3_daysOver : ∀ q ∈ oX3_daysOver, decode cX3_daysOver q.1 = .ok (q.2.1, q.2.2) := q_go qT_ok bbX3_daysOver oX3_daysOver 0 (by decide +kernel)
set_option maxRecDepth 100000 in
def bX3_nextOf : List Nat := [3, 62, 29, 42, 180, 0, 21, 180, 0, 25, 162, 0, 40, 27, 29, 122, 4, 126, 154, 0, 26, 42, 27, 28, 29, 182, 0, 81, 42, 180, 0, 18, 27, 16, 7, 104, 28, 96, 46, 160, 0, 5, 29, 172, 132, 3, 1, 167, 255, 211, 28, 172]
set_option maxRecDepth 100000 in
theorem bbX3_nextOf : cX3_nextOf.data.toList.map UInt8.toNat = bX3_nextOf := by decide +kernel
set_option maxRecDepth 100000 in
def tX3_nextOf : Lean.RArray dLf := .branch 24 (.branch 14 (.branch 4 (.branch 2 (.branch 1 (.leaf (0, .iconst 0, 1)) (.leaf (1, .istore_n 3, 1))) (.branch 3 (.leaf (2, .iload_n 3, 1)) (.leaf (3, .aload_n 0, 1)))) (.branch 10 (.branch 7 (.leaf (4, .getfield 21, 3)) (.leaf (7, .getfield 25, 3))) (.branch 13 (.leaf (10, .if_icmp .ge 40, 3)) (.leaf (13, .iload_n 1, 1))))) (.branch 18 (.branch 16 (.branch 15 (.leaf (14, .iload_n 3, 1)) (.leaf (15, .ishr, 1))) (.branch 17 (.leaf (16, .iconst 1, 1)) (.leaf (17, .iand, 1)))) (.branch 22 (.branch 21 (.leaf (18, .ifCond .ne 26, 3)) (.leaf (21, .aload_n 0, 1))) (.branch 23 (.leaf (22, .iload_n 1, 1)) (.leaf (23, .iload_n 2, 1)))))) (.branch 37 (.branch 32 (.branch 28 (.branch 25 (.leaf (24, .iload_n 3, 1)) (.leaf (25, .invokevirtual 81, 3))) (.branch 29 (.leaf (28, .aload_n 0, 1)) (.leaf (29, .getfield 18, 3)))) (.branch 35 (.branch 33 (.leaf (32, .iload_n 1, 1)) (.leaf (33, .bipush 7, 2))) (.branch 36 (.leaf (35, .imul, 1)) (.leaf (36, .iload_n 2, 1))))) (.branch 43 (.branch 39 (.branch 38 (.leaf (37, .iadd, 1)) (.leaf (38, .iaload, 1))) (.branch 42 (.leaf (39, .if_icmp .ne 5, 3)) (.leaf (42, .iload_n 3, 1)))) (.branch 47 (.branch 44 (.leaf (43, .ireturn, 1)) (.leaf (44, .iinc 3 1, 3))) (.branch 50 (.leaf (47, .goto (-45), 3)) (.branch 51 (.leaf (50, .iload_n 2, 1)) (.leaf (51, .ireturn, 1)))))))
noncomputable def oX3_nextOf : List dLf := dFl tX3_nextOf
theorem ofX3_nextOf : dFl tX3_nextOf = oX3_nextOf := rfl
set_option maxRecDepth 100000 in
theorem odX3_nextOf : ∀ q ∈ oX3_nextOf, decode cX3_nextOf q.1 = .ok (q.2.1, q.2.2) := q_go qT_ok bbX3_nextOf oX3_nextOf 0 (by decide +kernel)
set_option maxRecDepth 100000 in
def bX4_init : List Nat := [42, 183, 0, 3, 42, 16, 7, 188, 10, 181, 0, 9, 42, 16, 7, 188, 10, 181, 0, 15, 42, 16, 12, 189, 0, 18, 181, 0, 20, 42, 8, 189, 0, 24, 181, 0, 26, 42, 16, 8, 189, 0, 30, 181, 0, 32, 42, 16, 8, 189, 0, 36, 181, 0, 38, 3, 60, 27, 16, 12, 162, 0, 22, 42, 180, 0, 20, 27, 187, 0, 18, 89, 183, 0, 42, 83, 132, 1, 1, 167, 255, 234, 3, 60, 27, 8, 162, 0, 22, 42, 180, 0, 26, 27, 187, 0, 24, 89, 183, 0, 43, 83, 132, 1, 1, 167, 255, 235, 3, 60, 27, 16, 8, 162, 0, 22, 42, 180, 0, 32, 27, 187, 0, 30, 89, 183, 0, 44, 83, 132, 1, 1, 167, 255, 234, 3, 60, 27, 16, 8, 162, 0, 22, 42, 180, 0, 38, 27, 187, 0, 36, 89, 183, 0, 45, 83, 132, 1, 1, 167, 255, 234, 177]
set_option maxRecDepth 100000 in
theorem bbX4_init : cX4_init.data.toList.map UInt8.toNat = bX4_init := by decide +kernel
theorem eX4_init_7 : decode cX4_init 7 = .ok (.newarray .int, 2) := by decide +kernel
theorem eX4_init_15 : decode cX4_init 15 = .ok (.newarray .int, 2) := by decide +kernel
set_option maxRecDepth 100000 in
def oX4_inits0 : List dLf := [(0, .aload_n 0, 1), (1, .invokespecial 3, 3), (4, .aload_n 0, 1), (5, .bipush 7, 2)]
set_option maxRecDepth 100000 in
theorem odX4_inits0 : ∀ q ∈ oX4_inits0, decode cX4_init q.1 = .ok (q.2.1, q.2.2) := q_go qT_ok bbX4_init oX4_inits0 0 (by decide +kernel)
set_option maxRecDepth 100000 in
def oX4_inits2 : List dLf := [(9, .putfield 9, 3), (12, .aload_n 0, 1), (13, .bipush 7, 2)]
set_option maxRecDepth 100000 in
theorem odX4_inits2 : ∀ q ∈ oX4_inits2, decode cX4_init q.1 = .ok (q.2.1, q.2.2) := q_go qT_ok bbX4_init oX4_inits2 9 (by decide +kernel)
set_option maxRecDepth 100000 in
def oX4_inits4 : List dLf := [(17, .putfield 15, 3), (20, .aload_n 0, 1), (21, .bipush 12, 2), (23, .anewarray 18, 3), (26, .putfield 20, 3), (29, .aload_n 0, 1), (30, .iconst 5, 1), (31, .anewarray 24, 3), (34, .putfield 26, 3), (37, .aload_n 0, 1), (38, .bipush 8, 2), (40, .anewarray 30, 3), (43, .putfield 32, 3), (46, .aload_n 0, 1), (47, .bipush 8, 2), (49, .anewarray 36, 3), (52, .putfield 38, 3), (55, .iconst 0, 1), (56, .istore_n 1, 1), (57, .iload_n 1, 1), (58, .bipush 12, 2), (60, .if_icmp .ge 22, 3), (63, .aload_n 0, 1), (64, .getfield 20, 3), (67, .iload_n 1, 1), (68, .new 18, 3), (71, .dup, 1), (72, .invokespecial 42, 3), (75, .aastore, 1), (76, .iinc 1 1, 3), (79, .goto (-22), 3), (82, .iconst 0, 1), (83, .istore_n 1, 1), (84, .iload_n 1, 1), (85, .iconst 5, 1), (86, .if_icmp .ge 22, 3), (89, .aload_n 0, 1), (90, .getfield 26, 3), (93, .iload_n 1, 1), (94, .new 24, 3), (97, .dup, 1), (98, .invokespecial 43, 3), (101, .aastore, 1), (102, .iinc 1 1, 3), (105, .goto (-21), 3), (108, .iconst 0, 1), (109, .istore_n 1, 1), (110, .iload_n 1, 1), (111, .bipush 8, 2), (113, .if_icmp .ge 22, 3), (116, .aload_n 0, 1), (117, .getfield 32, 3), (120, .iload_n 1, 1), (121, .new 30, 3), (124, .dup, 1), (125, .invokespecial 44, 3), (128, .aastore, 1), (129, .iinc 1 1, 3), (132, .goto (-22), 3), (135, .iconst 0, 1), (136, .istore_n 1, 1), (137, .iload_n 1, 1), (138, .bipush 8, 2), (140, .if_icmp .ge 22, 3), (143, .aload_n 0, 1), (144, .getfield 38, 3), (147, .iload_n 1, 1), (148, .new 36, 3), (151, .dup, 1), (152, .invokespecial 45, 3), (155, .aastore, 1), (156, .iinc 1 1, 3), (159, .goto (-22), 3), (162, .return_, 1)]
set_option maxRecDepth 100000 in
theorem odX4_inits4 : ∀ q ∈ oX4_inits4, decode cX4_init q.1 = .ok (q.2.1, q.2.2) := q_go qT_ok bbX4_init oX4_inits4 17 (by decide +kernel)
set_option maxRecDepth 100000 in
def oX4_init : List dLf := [(0, .aload_n 0, 1), (1, .invokespecial 3, 3), (4, .aload_n 0, 1), (5, .bipush 7, 2), (7, .newarray .int, 2), (9, .putfield 9, 3), (12, .aload_n 0, 1), (13, .bipush 7, 2), (15, .newarray .int, 2), (17, .putfield 15, 3), (20, .aload_n 0, 1), (21, .bipush 12, 2), (23, .anewarray 18, 3), (26, .putfield 20, 3), (29, .aload_n 0, 1), (30, .iconst 5, 1), (31, .anewarray 24, 3), (34, .putfield 26, 3), (37, .aload_n 0, 1), (38, .bipush 8, 2), (40, .anewarray 30, 3), (43, .putfield 32, 3), (46, .aload_n 0, 1), (47, .bipush 8, 2), (49, .anewarray 36, 3), (52, .putfield 38, 3), (55, .iconst 0, 1), (56, .istore_n 1, 1), (57, .iload_n 1, 1), (58, .bipush 12, 2), (60, .if_icmp .ge 22, 3), (63, .aload_n 0, 1), (64, .getfield 20, 3), (67, .iload_n 1, 1), (68, .new 18, 3), (71, .dup, 1), (72, .invokespecial 42, 3), (75, .aastore, 1), (76, .iinc 1 1, 3), (79, .goto (-22), 3), (82, .iconst 0, 1), (83, .istore_n 1, 1), (84, .iload_n 1, 1), (85, .iconst 5, 1), (86, .if_icmp .ge 22, 3), (89, .aload_n 0, 1), (90, .getfield 26, 3), (93, .iload_n 1, 1), (94, .new 24, 3), (97, .dup, 1), (98, .invokespecial 43, 3), (101, .aastore, 1), (102, .iinc 1 1, 3), (105, .goto (-21), 3), (108, .iconst 0, 1), (109, .istore_n 1, 1), (110, .iload_n 1, 1), (111, .bipush 8, 2), (113, .if_icmp .ge 22, 3), (116, .aload_n 0, 1), (117, .getfield 32, 3), (120, .iload_n 1, 1), (121, .new 30, 3), (124, .dup, 1), (125, .invokespecial 44, 3), (128, .aastore, 1), (129, .iinc 1 1, 3), (132, .goto (-22), 3), (135, .iconst 0, 1), (136, .istore_n 1, 1), (137, .iload_n 1, 1), (138, .bipush 8, 2), (140, .if_icmp .ge 22, 3), (143, .aload_n 0, 1), (144, .getfield 38, 3), (147, .iload_n 1, 1), (148, .new 36, 3), (151, .dup, 1), (152, .invokespecial 45, 3), (155, .aastore, 1), (156, .iinc 1 1, 3), (159, .goto (-22), 3), (162, .return_, 1)]
set_option maxRecDepth 100000 in
theorem odX4_init : ∀ q ∈ oX4_init, decode cX4_init q.1 = .ok (q.2.1, q.2.2) := by
  have e : oX4_init = oX4_inits0 ++ ([(7, .newarray .int, 2)] ++ (oX4_inits2 ++ ([(15, .newarray .int, 2)] ++ (oX4_inits4)))) := rfl
  rw [e]
  exact List.forall_mem_append.mpr ⟨odX4_inits0, List.forall_mem_append.mpr ⟨(List.forall_mem_singleton.mpr eX4_init_7), List.forall_mem_append.mpr ⟨odX4_inits2, List.forall_mem_append.mpr ⟨(List.forall_mem_singleton.mpr eX4_init_15), odX4_inits4⟩⟩⟩⟩
set_option maxRecDepth 100000 in
def tX4_init : Lean.RArray dLf := .branch 83 (.branch 40 (.branch 20 (.branch 9 (.branch 4 (.branch 1 (.leaf (0, .aload_n 0, 1)) (.leaf (1, .invokespecial 3, 3))) (.branch 5 (.leaf (4, .aload_n 0, 1)) (.branch 7 (.leaf (5, .bipush 7, 2)) (.leaf (7, .newarray .int, 2))))) (.branch 13 (.branch 12 (.leaf (9, .putfield 9, 3)) (.leaf (12, .aload_n 0, 1))) (.branch 15 (.leaf (13, .bipush 7, 2)) (.branch 17 (.leaf (15, .newarray .int, 2)) (.leaf (17, .putfield 15, 3)))))) (.branch 30 (.branch 23 (.branch 21 (.leaf (20, .aload_n 0, 1)) (.leaf (21, .bipush 12, 2))) (.branch 26 (.leaf (23, .anewarray 18, 3)) (.branch 29 (.leaf (26, .putfield 20, 3)) (.leaf (29, .aload_n 0, 1))))) (.branch 34 (.branch 31 (.leaf (30, .iconst 5, 1)) (.leaf (31, .anewarray 24, 3))) (.branch 37 (.leaf (34, .putfield 26, 3)) (.branch 38 (.leaf (37, .aload_n 0, 1)) (.leaf (38, .bipush 8, 2))))))) (.branch 60 (.branch 52 (.branch 46 (.branch 43 (.leaf (40, .anewarray 30, 3)) (.leaf (43, .putfield 32, 3))) (.branch 47 (.leaf (46, .aload_n 0, 1)) (.branch 49 (.leaf (47, .bipush 8, 2)) (.leaf (49, .anewarray 36, 3))))) (.branch 56 (.branch 55 (.leaf (52, .putfield 38, 3)) (.leaf (55, .iconst 0, 1))) (.branch 57 (.leaf (56, .istore_n 1, 1)) (.branch 58 (.leaf (57, .iload_n 1, 1)) (.leaf (58, .bipush 12, 2)))))) (.branch 71 (.branch 64 (.branch 63 (.leaf (60, .if_icmp .ge 22, 3)) (.leaf (63, .aload_n 0, 1))) (.branch 67 (.leaf (64, .getfield 20, 3)) (.branch 68 (.leaf (67, .iload_n 1, 1)) (.leaf (68, .new 18, 3))))) (.branch 76 (.branch 72 (.leaf (71, .dup, 1)) (.branch 75 (.leaf (72, .invokespecial 42, 3)) (.leaf (75, .aastore, 1)))) (.branch 79 (.leaf (76, .iinc 1 1, 3)) (.branch 82 (.leaf (79, .goto (-22), 3)) (.leaf (82, .iconst 0, 1)))))))) (.branch 121 (.branch 101 (.branch 90 (.branch 85 (.branch 84 (.leaf (83, .istore_n 1, 1)) (.leaf (84, .iload_n 1, 1))) (.branch 86 (.leaf (85, .iconst 5, 1)) (.branch 89 (.leaf (86, .if_icmp .ge 22, 3)) (.leaf (89, .aload_n 0, 1))))) (.branch 94 (.branch 93 (.leaf (90, .getfield 26, 3)) (.leaf (93, .iload_n 1, 1))) (.branch 97 (.leaf (94, .new 24, 3)) (.branch 98 (.leaf (97, .dup, 1)) (.leaf (98, .invokespecial 43, 3)))))) (.branch 110 (.branch 105 (.branch 102 (.leaf (101, .aastore, 1)) (.leaf (102, .iinc 1 1, 3))) (.branch 108 (.leaf (105, .goto (-21), 3)) (.branch 109 (.leaf (108, .iconst 0, 1)) (.leaf (109, .istore_n 1, 1))))) (.branch 116 (.branch 111 (.leaf (110, .iload_n 1, 1)) (.branch 113 (.leaf (111, .bipush 8, 2)) (.leaf (113, .if_icmp .ge 22, 3)))) (.branch 117 (.leaf (116, .aload_n 0, 1)) (.branch 120 (.leaf (117, .getfield 32, 3)) (.leaf (120, .iload_n 1, 1))))))) (.branch 140 (.branch 132 (.branch 125 (.branch 124 (.leaf (121, .new 30, 3)) (.leaf (124, .dup, 1))) (.branch 128 (.leaf (125, .invokespecial 44, 3)) (.branch 129 (.leaf (128, .aastore, 1)) (.leaf (129, .iinc 1 1, 3))))) (.branch 136 (.branch 135 (.leaf (132, .goto (-22), 3)) (.leaf (135, .iconst 0, 1))) (.branch 137 (.leaf (136, .istore_n 1, 1)) (.branch 138 (.leaf (137, .iload_n 1, 1)) (.leaf (138, .bipush 8, 2)))))) (.branch 151 (.branch 144 (.branch 143 (.leaf (140, .if_icmp .ge 22, 3)) (.leaf (143, .aload_n 0, 1))) (.branch 147 (.leaf (144, .getfield 38, 3)) (.branch 148 (.leaf (147, .iload_n 1, 1)) (.leaf (148, .new 36, 3))))) (.branch 156 (.branch 152 (.leaf (151, .dup, 1)) (.branch 155 (.leaf (152, .invokespecial 45, 3)) (.leaf (155, .aastore, 1)))) (.branch 159 (.leaf (156, .iinc 1 1, 3)) (.branch 162 (.leaf (159, .goto (-22), 3)) (.leaf (162, .return_, 1))))))))
set_option maxRecDepth 100000 in
theorem ofX4_init : dFl tX4_init = oX4_init := rfl
theorem dX4_init_0 : decode cX4_init 0 = .ok (.aload_n 0, 1) := d_by (d_at odX4_init ofX4_init 0) rfl
theorem dX4_init_1 : decode cX4_init 1 = .ok (.invokespecial 3, 3) := d_by (d_at odX4_init ofX4_init 1) rfl
theorem dX4_init_4 : decode cX4_init 4 = .ok (.aload_n 0, 1) := d_by (d_at odX4_init ofX4_init 4) rfl
theorem dX4_init_5 : decode cX4_init 5 = .ok (.bipush 7, 2) := d_by (d_at odX4_init ofX4_init 5) rfl
theorem dX4_init_7 : decode cX4_init 7 = .ok (.newarray .int, 2) := d_by (d_at odX4_init ofX4_init 7) rfl
theorem dX4_init_9 : decode cX4_init 9 = .ok (.putfield 9, 3) := d_by (d_at odX4_init ofX4_init 9) rfl
theorem dX4_init_12 : decode cX4_init 12 = .ok (.aload_n 0, 1) := d_by (d_at odX4_init ofX4_init 12) rfl
theorem dX4_init_13 : decode cX4_init 13 = .ok (.bipush 7, 2) := d_by (d_at odX4_init ofX4_init 13) rfl
theorem dX4_init_15 : decode cX4_init 15 = .ok (.newarray .int, 2) := d_by (d_at odX4_init ofX4_init 15) rfl
theorem dX4_init_17 : decode cX4_init 17 = .ok (.putfield 15, 3) := d_by (d_at odX4_init ofX4_init 17) rfl
theorem dX4_init_20 : decode cX4_init 20 = .ok (.aload_n 0, 1) := d_by (d_at odX4_init ofX4_init 20) rfl
theorem dX4_init_21 : decode cX4_init 21 = .ok (.bipush 12, 2) := d_by (d_at odX4_init ofX4_init 21) rfl
theorem dX4_init_23 : decode cX4_init 23 = .ok (.anewarray 18, 3) := d_by (d_at odX4_init ofX4_init 23) rfl
theorem dX4_init_26 : decode cX4_init 26 = .ok (.putfield 20, 3) := d_by (d_at odX4_init ofX4_init 26) rfl
theorem dX4_init_29 : decode cX4_init 29 = .ok (.aload_n 0, 1) := d_by (d_at odX4_init ofX4_init 29) rfl
theorem dX4_init_30 : decode cX4_init 30 = .ok (.iconst 5, 1) := d_by (d_at odX4_init ofX4_init 30) rfl
theorem dX4_init_31 : decode cX4_init 31 = .ok (.anewarray 24, 3) := d_by (d_at odX4_init ofX4_init 31) rfl
theorem dX4_init_34 : decode cX4_init 34 = .ok (.putfield 26, 3) := d_by (d_at odX4_init ofX4_init 34) rfl
theorem dX4_init_37 : decode cX4_init 37 = .ok (.aload_n 0, 1) := d_by (d_at odX4_init ofX4_init 37) rfl
theorem dX4_init_38 : decode cX4_init 38 = .ok (.bipush 8, 2) := d_by (d_at odX4_init ofX4_init 38) rfl
theorem dX4_init_40 : decode cX4_init 40 = .ok (.anewarray 30, 3) := d_by (d_at odX4_init ofX4_init 40) rfl
theorem dX4_init_43 : decode cX4_init 43 = .ok (.putfield 32, 3) := d_by (d_at odX4_init ofX4_init 43) rfl
theorem dX4_init_46 : decode cX4_init 46 = .ok (.aload_n 0, 1) := d_by (d_at odX4_init ofX4_init 46) rfl
theorem dX4_init_47 : decode cX4_init 47 = .ok (.bipush 8, 2) := d_by (d_at odX4_init ofX4_init 47) rfl
theorem dX4_init_49 : decode cX4_init 49 = .ok (.anewarray 36, 3) := d_by (d_at odX4_init ofX4_init 49) rfl
theorem dX4_init_52 : decode cX4_init 52 = .ok (.putfield 38, 3) := d_by (d_at odX4_init ofX4_init 52) rfl
theorem dX4_init_55 : decode cX4_init 55 = .ok (.iconst 0, 1) := d_by (d_at odX4_init ofX4_init 55) rfl
theorem dX4_init_56 : decode cX4_init 56 = .ok (.istore_n 1, 1) := d_by (d_at odX4_init ofX4_init 56) rfl
theorem dX4_init_57 : decode cX4_init 57 = .ok (.iload_n 1, 1) := d_by (d_at odX4_init ofX4_init 57) rfl
theorem dX4_init_58 : decode cX4_init 58 = .ok (.bipush 12, 2) := d_by (d_at odX4_init ofX4_init 58) rfl
theorem dX4_init_60 : decode cX4_init 60 = .ok (.if_icmp .ge 22, 3) := d_by (d_at odX4_init ofX4_init 60) rfl
theorem dX4_init_63 : decode cX4_init 63 = .ok (.aload_n 0, 1) := d_by (d_at odX4_init ofX4_init 63) rfl
theorem dX4_init_64 : decode cX4_init 64 = .ok (.getfield 20, 3) := d_by (d_at odX4_init ofX4_init 64) rfl
theorem dX4_init_67 : decode cX4_init 67 = .ok (.iload_n 1, 1) := d_by (d_at odX4_init ofX4_init 67) rfl
theorem dX4_init_68 : decode cX4_init 68 = .ok (.new 18, 3) := d_by (d_at odX4_init ofX4_init 68) rfl
theorem dX4_init_71 : decode cX4_init 71 = .ok (.dup, 1) := d_by (d_at odX4_init ofX4_init 71) rfl
theorem dX4_init_72 : decode cX4_init 72 = .ok (.invokespecial 42, 3) := d_by (d_at odX4_init ofX4_init 72) rfl
theorem dX4_init_75 : decode cX4_init 75 = .ok (.aastore, 1) := d_by (d_at odX4_init ofX4_init 75) rfl
theorem dX4_init_76 : decode cX4_init 76 = .ok (.iinc 1 1, 3) := d_by (d_at odX4_init ofX4_init 76) rfl
theorem dX4_init_79 : decode cX4_init 79 = .ok (.goto (-22), 3) := d_by (d_at odX4_init ofX4_init 79) rfl
theorem dX4_init_82 : decode cX4_init 82 = .ok (.iconst 0, 1) := d_by (d_at odX4_init ofX4_init 82) rfl
theorem dX4_init_83 : decode cX4_init 83 = .ok (.istore_n 1, 1) := d_by (d_at odX4_init ofX4_init 83) rfl
theorem dX4_init_84 : decode cX4_init 84 = .ok (.iload_n 1, 1) := d_by (d_at odX4_init ofX4_init 84) rfl
theorem dX4_init_85 : decode cX4_init 85 = .ok (.iconst 5, 1) := d_by (d_at odX4_init ofX4_init 85) rfl
theorem dX4_init_86 : decode cX4_init 86 = .ok (.if_icmp .ge 22, 3) := d_by (d_at odX4_init ofX4_init 86) rfl
theorem dX4_init_89 : decode cX4_init 89 = .ok (.aload_n 0, 1) := d_by (d_at odX4_init ofX4_init 89) rfl
theorem dX4_init_90 : decode cX4_init 90 = .ok (.getfield 26, 3) := d_by (d_at odX4_init ofX4_init 90) rfl
theorem dX4_init_93 : decode cX4_init 93 = .ok (.iload_n 1, 1) := d_by (d_at odX4_init ofX4_init 93) rfl
theorem dX4_init_94 : decode cX4_init 94 = .ok (.new 24, 3) := d_by (d_at odX4_init ofX4_init 94) rfl
theorem dX4_init_97 : decode cX4_init 97 = .ok (.dup, 1) := d_by (d_at odX4_init ofX4_init 97) rfl
theorem dX4_init_98 : decode cX4_init 98 = .ok (.invokespecial 43, 3) := d_by (d_at odX4_init ofX4_init 98) rfl
theorem dX4_init_101 : decode cX4_init 101 = .ok (.aastore, 1) := d_by (d_at odX4_init ofX4_init 101) rfl
theorem dX4_init_102 : decode cX4_init 102 = .ok (.iinc 1 1, 3) := d_by (d_at odX4_init ofX4_init 102) rfl
theorem dX4_init_105 : decode cX4_init 105 = .ok (.goto (-21), 3) := d_by (d_at odX4_init ofX4_init 105) rfl
theorem dX4_init_108 : decode cX4_init 108 = .ok (.iconst 0, 1) := d_by (d_at odX4_init ofX4_init 108) rfl
theorem dX4_init_109 : decode cX4_init 109 = .ok (.istore_n 1, 1) := d_by (d_at odX4_init ofX4_init 109) rfl
theorem dX4_init_110 : decode cX4_init 110 = .ok (.iload_n 1, 1) := d_by (d_at odX4_init ofX4_init 110) rfl
theorem dX4_init_111 : decode cX4_init 111 = .ok (.bipush 8, 2) := d_by (d_at odX4_init ofX4_init 111) rfl
theorem dX4_init_113 : decode cX4_init 113 = .ok (.if_icmp .ge 22, 3) := d_by (d_at odX4_init ofX4_init 113) rfl
theorem dX4_init_116 : decode cX4_init 116 = .ok (.aload_n 0, 1) := d_by (d_at odX4_init ofX4_init 116) rfl
theorem dX4_init_117 : decode cX4_init 117 = .ok (.getfield 32, 3) := d_by (d_at odX4_init ofX4_init 117) rfl
theorem dX4_init_120 : decode cX4_init 120 = .ok (.iload_n 1, 1) := d_by (d_at odX4_init ofX4_init 120) rfl
theorem dX4_init_121 : decode cX4_init 121 = .ok (.new 30, 3) := d_by (d_at odX4_init ofX4_init 121) rfl
theorem dX4_init_124 : decode cX4_init 124 = .ok (.dup, 1) := d_by (d_at odX4_init ofX4_init 124) rfl
theorem dX4_init_125 : decode cX4_init 125 = .ok (.invokespecial 44, 3) := d_by (d_at odX4_init ofX4_init 125) rfl
theorem dX4_init_128 : decode cX4_init 128 = .ok (.aastore, 1) := d_by (d_at odX4_init ofX4_init 128) rfl
theorem dX4_init_129 : decode cX4_init 129 = .ok (.iinc 1 1, 3) := d_by (d_at odX4_init ofX4_init 129) rfl
theorem dX4_init_132 : decode cX4_init 132 = .ok (.goto (-22), 3) := d_by (d_at odX4_init ofX4_init 132) rfl
theorem dX4_init_135 : decode cX4_init 135 = .ok (.iconst 0, 1) := d_by (d_at odX4_init ofX4_init 135) rfl
theorem dX4_init_136 : decode cX4_init 136 = .ok (.istore_n 1, 1) := d_by (d_at odX4_init ofX4_init 136) rfl
theorem dX4_init_137 : decode cX4_init 137 = .ok (.iload_n 1, 1) := d_by (d_at odX4_init ofX4_init 137) rfl
theorem dX4_init_138 : decode cX4_init 138 = .ok (.bipush 8, 2) := d_by (d_at odX4_init ofX4_init 138) rfl
theorem dX4_init_140 : decode cX4_init 140 = .ok (.if_icmp .ge 22, 3) := d_by (d_at odX4_init ofX4_init 140) rfl
theorem dX4_init_143 : decode cX4_init 143 = .ok (.aload_n 0, 1) := d_by (d_at odX4_init ofX4_init 143) rfl
theorem dX4_init_144 : decode cX4_init 144 = .ok (.getfield 38, 3) := d_by (d_at odX4_init ofX4_init 144) rfl
theorem dX4_init_147 : decode cX4_init 147 = .ok (.iload_n 1, 1) := d_by (d_at odX4_init ofX4_init 147) rfl
theorem dX4_init_148 : decode cX4_init 148 = .ok (.new 36, 3) := d_by (d_at odX4_init ofX4_init 148) rfl
theorem dX4_init_151 : decode cX4_init 151 = .ok (.dup, 1) := d_by (d_at odX4_init ofX4_init 151) rfl
theorem dX4_init_152 : decode cX4_init 152 = .ok (.invokespecial 45, 3) := d_by (d_at odX4_init ofX4_init 152) rfl
theorem dX4_init_155 : decode cX4_init 155 = .ok (.aastore, 1) := d_by (d_at odX4_init ofX4_init 155) rfl
theorem dX4_init_156 : decode cX4_init 156 = .ok (.iinc 1 1, 3) := d_by (d_at odX4_init ofX4_init 156) rfl
theorem dX4_init_159 : decode cX4_init 159 = .ok (.goto (-22), 3) := d_by (d_at odX4_init ofX4_init 159) rfl
theorem dX4_init_162 : decode cX4_init 162 = .ok (.return_, 1) := d_by (d_at odX4_init ofX4_init 162) rfl
set_option maxRecDepth 100000 in
def bX4_clear : List Nat := [42, 3, 181, 0, 46, 42, 3, 181, 0, 50, 42, 3, 181, 0, 53, 42, 3, 181, 0, 56, 42, 3, 181, 0, 59, 42, 3, 181, 0, 62, 42, 3, 181, 0, 65, 42, 3, 181, 0, 68, 42, 3, 181, 0, 71, 177]
set_option maxRecDepth 100000 in
theorem bbX4_clear : cX4_clear.data.toList.map UInt8.toNat = bX4_clear := by decide +kernel
set_option maxRecDepth 100000 in
def tX4_clear : Lean.RArray dLf := .branch 22 (.branch 11 (.branch 5 (.branch 1 (.leaf (0, .aload_n 0, 1)) (.branch 2 (.leaf (1, .iconst 0, 1)) (.leaf (2, .putfield 46, 3)))) (.branch 7 (.branch 6 (.leaf (5, .aload_n 0, 1)) (.leaf (6, .iconst 0, 1))) (.branch 10 (.leaf (7, .putfield 50, 3)) (.leaf (10, .aload_n 0, 1))))) (.branch 16 (.branch 12 (.leaf (11, .iconst 0, 1)) (.branch 15 (.leaf (12, .putfield 53, 3)) (.leaf (15, .aload_n 0, 1)))) (.branch 20 (.branch 17 (.leaf (16, .iconst 0, 1)) (.leaf (17, .putfield 56, 3))) (.branch 21 (.leaf (20, .aload_n 0, 1)) (.leaf (21, .iconst 0, 1)))))) (.branch 35 (.branch 27 (.branch 25 (.leaf (22, .putfield 59, 3)) (.branch 26 (.leaf (25, .aload_n 0, 1)) (.leaf (26, .iconst 0, 1)))) (.branch 31 (.branch 30 (.leaf (27, .putfield 62, 3)) (.leaf (30, .aload_n 0, 1))) (.branch 32 (.leaf (31, .iconst 0, 1)) (.leaf (32, .putfield 65, 3))))) (.branch 40 (.branch 36 (.leaf (35, .aload_n 0, 1)) (.branch 37 (.leaf (36, .iconst 0, 1)) (.leaf (37, .putfield 68, 3)))) (.branch 42 (.branch 41 (.leaf (40, .aload_n 0, 1)) (.leaf (41, .iconst 0, 1))) (.branch 45 (.leaf (42, .putfield 71, 3)) (.leaf (45, .return_, 1))))))
noncomputable def oX4_clear : List dLf := dFl tX4_clear
theorem ofX4_clear : dFl tX4_clear = oX4_clear := rfl
set_option maxRecDepth 100000 in
theorem odX4_clear : ∀ q ∈ oX4_clear, decode cX4_clear q.1 = .ok (q.2.1, q.2.2) := q_go qT_ok bbX4_clear oX4_clear 0 (by decide +kernel)
theorem dX4_clear_0 : decode cX4_clear 0 = .ok (.aload_n 0, 1) := d_by (d_at odX4_clear ofX4_clear 0) rfl
theorem dX4_clear_1 : decode cX4_clear 1 = .ok (.iconst 0, 1) := d_by (d_at odX4_clear ofX4_clear 1) rfl
theorem dX4_clear_2 : decode cX4_clear 2 = .ok (.putfield 46, 3) := d_by (d_at odX4_clear ofX4_clear 2) rfl
theorem dX4_clear_5 : decode cX4_clear 5 = .ok (.aload_n 0, 1) := d_by (d_at odX4_clear ofX4_clear 5) rfl
theorem dX4_clear_6 : decode cX4_clear 6 = .ok (.iconst 0, 1) := d_by (d_at odX4_clear ofX4_clear 6) rfl
theorem dX4_clear_7 : decode cX4_clear 7 = .ok (.putfield 50, 3) := d_by (d_at odX4_clear ofX4_clear 7) rfl
theorem dX4_clear_10 : decode cX4_clear 10 = .ok (.aload_n 0, 1) := d_by (d_at odX4_clear ofX4_clear 10) rfl
theorem dX4_clear_11 : decode cX4_clear 11 = .ok (.iconst 0, 1) := d_by (d_at odX4_clear ofX4_clear 11) rfl
theorem dX4_clear_12 : decode cX4_clear 12 = .ok (.putfield 53, 3) := d_by (d_at odX4_clear ofX4_clear 12) rfl
theorem dX4_clear_15 : decode cX4_clear 15 = .ok (.aload_n 0, 1) := d_by (d_at odX4_clear ofX4_clear 15) rfl
theorem dX4_clear_16 : decode cX4_clear 16 = .ok (.iconst 0, 1) := d_by (d_at odX4_clear ofX4_clear 16) rfl
theorem dX4_clear_17 : decode cX4_clear 17 = .ok (.putfield 56, 3) := d_by (d_at odX4_clear ofX4_clear 17) rfl
theorem dX4_clear_20 : decode cX4_clear 20 = .ok (.aload_n 0, 1) := d_by (d_at odX4_clear ofX4_clear 20) rfl
theorem dX4_clear_21 : decode cX4_clear 21 = .ok (.iconst 0, 1) := d_by (d_at odX4_clear ofX4_clear 21) rfl
theorem dX4_clear_22 : decode cX4_clear 22 = .ok (.putfield 59, 3) := d_by (d_at odX4_clear ofX4_clear 22) rfl
theorem dX4_clear_25 : decode cX4_clear 25 = .ok (.aload_n 0, 1) := d_by (d_at odX4_clear ofX4_clear 25) rfl
theorem dX4_clear_26 : decode cX4_clear 26 = .ok (.iconst 0, 1) := d_by (d_at odX4_clear ofX4_clear 26) rfl
theorem dX4_clear_27 : decode cX4_clear 27 = .ok (.putfield 62, 3) := d_by (d_at odX4_clear ofX4_clear 27) rfl
theorem dX4_clear_30 : decode cX4_clear 30 = .ok (.aload_n 0, 1) := d_by (d_at odX4_clear ofX4_clear 30) rfl
theorem dX4_clear_31 : decode cX4_clear 31 = .ok (.iconst 0, 1) := d_by (d_at odX4_clear ofX4_clear 31) rfl
theorem dX4_clear_32 : decode cX4_clear 32 = .ok (.putfield 65, 3) := d_by (d_at odX4_clear ofX4_clear 32) rfl
theorem dX4_clear_35 : decode cX4_clear 35 = .ok (.aload_n 0, 1) := d_by (d_at odX4_clear ofX4_clear 35) rfl
theorem dX4_clear_36 : decode cX4_clear 36 = .ok (.iconst 0, 1) := d_by (d_at odX4_clear ofX4_clear 36) rfl
theorem dX4_clear_37 : decode cX4_clear 37 = .ok (.putfield 68, 3) := d_by (d_at odX4_clear ofX4_clear 37) rfl
theorem dX4_clear_40 : decode cX4_clear 40 = .ok (.aload_n 0, 1) := d_by (d_at odX4_clear ofX4_clear 40) rfl
theorem dX4_clear_41 : decode cX4_clear 41 = .ok (.iconst 0, 1) := d_by (d_at odX4_clear ofX4_clear 41) rfl
theorem dX4_clear_42 : decode cX4_clear 42 = .ok (.putfield 71, 3) := d_by (d_at odX4_clear ofX4_clear 42) rfl
theorem dX4_clear_45 : decode cX4_clear 45 = .ok (.return_, 1) := d_by (d_at odX4_clear ofX4_clear 45) rfl
set_option maxRecDepth 100000 in
def bX4_boxLength : List Nat := [42, 180, 0, 15, 42, 180, 0, 32, 27, 50, 180, 0, 74, 46, 172]
set_option maxRecDepth 100000 in
theorem bbX4_boxLength : cX4_boxLength.data.toList.map UInt8.toNat = bX4_boxLength := by decide +kernel
set_option maxRecDepth 100000 in
def tX4_boxLength : Lean.RArray dLf := .branch 8 (.branch 4 (.branch 1 (.leaf (0, .aload_n 0, 1)) (.leaf (1, .getfield 15, 3))) (.branch 5 (.leaf (4, .aload_n 0, 1)) (.leaf (5, .getfield 32, 3)))) (.branch 10 (.branch 9 (.leaf (8, .iload_n 1, 1)) (.leaf (9, .aaload, 1))) (.branch 13 (.leaf (10, .getfield 74, 3)) (.branch 14 (.leaf (13, .iaload, 1)) (.leaf (14, .ireturn, 1)))))
noncomputable def oX4_boxLength : List dLf := dFl tX4_boxLength
theorem ofX4_boxLength : dFl tX4_boxLength = oX4_boxLength := rfl
set_option maxRecDepth 100000 in
theorem odX4_boxLength : ∀ q ∈ oX4_boxLength, decode cX4_boxLength q.1 = .ok (q.2.1, q.2.2) := q_go qT_ok bbX4_boxLength oX4_boxLength 0 (by decide +kernel)
theorem dX4_boxLength_0 : decode cX4_boxLength 0 = .ok (.aload_n 0, 1) := d_by (d_at odX4_boxLength ofX4_boxLength 0) rfl
theorem dX4_boxLength_1 : decode cX4_boxLength 1 = .ok (.getfield 15, 3) := d_by (d_at odX4_boxLength ofX4_boxLength 1) rfl
theorem dX4_boxLength_4 : decode cX4_boxLength 4 = .ok (.aload_n 0, 1) := d_by (d_at odX4_boxLength ofX4_boxLength 4) rfl
theorem dX4_boxLength_5 : decode cX4_boxLength 5 = .ok (.getfield 32, 3) := d_by (d_at odX4_boxLength ofX4_boxLength 5) rfl
theorem dX4_boxLength_8 : decode cX4_boxLength 8 = .ok (.iload_n 1, 1) := d_by (d_at odX4_boxLength ofX4_boxLength 8) rfl
theorem dX4_boxLength_9 : decode cX4_boxLength 9 = .ok (.aaload, 1) := d_by (d_at odX4_boxLength ofX4_boxLength 9) rfl
theorem dX4_boxLength_10 : decode cX4_boxLength 10 = .ok (.getfield 74, 3) := d_by (d_at odX4_boxLength ofX4_boxLength 10) rfl
theorem dX4_boxLength_13 : decode cX4_boxLength 13 = .ok (.iaload, 1) := d_by (d_at odX4_boxLength ofX4_boxLength 13) rfl
theorem dX4_boxLength_14 : decode cX4_boxLength 14 = .ok (.ireturn, 1) := d_by (d_at odX4_boxLength ofX4_boxLength 14) rfl
set_option maxRecDepth 100000 in
def bX4_wayBetween : List Nat := [3, 62, 29, 42, 180, 0, 62, 162, 0, 75, 42, 180, 0, 20, 29, 50, 180, 0, 77, 27, 160, 0, 20, 42, 180, 0, 20, 29, 50, 180, 0, 80, 28, 160, 0, 7, 4, 167, 0, 4, 3, 54, 4, 21, 4, 154, 0, 29, 42, 180, 0, 20, 29, 50, 180, 0, 77, 28, 160, 0, 18, 42, 180, 0, 20, 29, 50, 180, 0, 80, 27, 160, 0, 5, 29, 172, 132, 3, 1, 167, 255, 179, 16, 254, 172]
set_option maxRecDepth 100000 in
theorem bbX4_wayBetween : cX4_wayBetween.data.toList.map UInt8.toNat = bX4_wayBetween := by decide +kernel
set_option maxRecDepth 100000 in
def tX4_wayBetween : Lean.RArray dLf := .branch 41 (.branch 19 (.branch 7 (.branch 2 (.branch 1 (.leaf (0, .iconst 0, 1)) (.leaf (1, .istore_n 3, 1))) (.branch 3 (.leaf (2, .iload_n 3, 1)) (.branch 4 (.leaf (3, .aload_n 0, 1)) (.leaf (4, .getfield 62, 3))))) (.branch 14 (.branch 10 (.leaf (7, .if_icmp .ge 75, 3)) (.branch 11 (.leaf (10, .aload_n 0, 1)) (.leaf (11, .getfield 20, 3)))) (.branch 15 (.leaf (14, .iload_n 3, 1)) (.branch 16 (.leaf (15, .aaload, 1)) (.leaf (16, .getfield 77, 3)))))) (.branch 29 (.branch 24 (.branch 20 (.leaf (19, .iload_n 1, 1)) (.branch 23 (.leaf (20, .if_icmp .ne 20, 3)) (.leaf (23, .aload_n 0, 1)))) (.branch 27 (.leaf (24, .getfield 20, 3)) (.branch 28 (.leaf (27, .iload_n 3, 1)) (.leaf (28, .aaload, 1))))) (.branch 36 (.branch 32 (.leaf (29, .getfield 80, 3)) (.branch 33 (.leaf (32, .iload_n 2, 1)) (.leaf (33, .if_icmp .ne 7, 3)))) (.branch 37 (.leaf (36, .iconst 1, 1)) (.branch 40 (.leaf (37, .goto 4, 3)) (.leaf (40, .iconst 0, 1))))))) (.branch 62 (.branch 52 (.branch 45 (.branch 43 (.leaf (41, .istore 4, 2)) (.leaf (43, .iload 4, 2))) (.branch 48 (.leaf (45, .ifCond .ne 29, 3)) (.branch 49 (.leaf (48, .aload_n 0, 1)) (.leaf (49, .getfield 20, 3))))) (.branch 57 (.branch 53 (.leaf (52, .iload_n 3, 1)) (.branch 54 (.leaf (53, .aaload, 1)) (.leaf (54, .getfield 77, 3)))) (.branch 58 (.leaf (57, .iload_n 2, 1)) (.branch 61 (.leaf (58, .if_icmp .ne 18, 3)) (.leaf (61, .aload_n 0, 1)))))) (.branch 74 (.branch 67 (.branch 65 (.leaf (62, .getfield 20, 3)) (.branch 66 (.leaf (65, .iload_n 3, 1)) (.leaf (66, .aaload, 1)))) (.branch 70 (.leaf (67, .getfield 80, 3)) (.branch 71 (.leaf (70, .iload_n 1, 1)) (.leaf (71, .if_icmp .ne 5, 3))))) (.branch 79 (.branch 75 (.leaf (74, .iload_n 3, 1)) (.branch 76 (.leaf (75, .ireturn, 1)) (.leaf (76, .iinc 3 1, 3)))) (.branch 82 (.leaf (79, .goto (-77), 3)) (.branch 84 (.leaf (82, .bipush (-2), 2)) (.leaf (84, .ireturn, 1)))))))
noncomputable def oX4_wayBetween : List dLf := dFl tX4_wayBetween
theorem ofX4_wayBetween : dFl tX4_wayBetween = oX4_wayBetween := rfl
set_option maxRecDepth 100000 in
theorem odX4_wayBetween : ∀ q ∈ oX4_wayBetween, decode cX4_wayBetween q.1 = .ok (q.2.1, q.2.2) := q_go qT_ok bbX4_wayBetween oX4_wayBetween 0 (by decide +kernel)
theorem dX4_wayBetween_0 : decode cX4_wayBetween 0 = .ok (.iconst 0, 1) := d_by (d_at odX4_wayBetween ofX4_wayBetween 0) rfl
theorem dX4_wayBetween_1 : decode cX4_wayBetween 1 = .ok (.istore_n 3, 1) := d_by (d_at odX4_wayBetween ofX4_wayBetween 1) rfl
theorem dX4_wayBetween_2 : decode cX4_wayBetween 2 = .ok (.iload_n 3, 1) := d_by (d_at odX4_wayBetween ofX4_wayBetween 2) rfl
theorem dX4_wayBetween_3 : decode cX4_wayBetween 3 = .ok (.aload_n 0, 1) := d_by (d_at odX4_wayBetween ofX4_wayBetween 3) rfl
theorem dX4_wayBetween_4 : decode cX4_wayBetween 4 = .ok (.getfield 62, 3) := d_by (d_at odX4_wayBetween ofX4_wayBetween 4) rfl
theorem dX4_wayBetween_7 : decode cX4_wayBetween 7 = .ok (.if_icmp .ge 75, 3) := d_by (d_at odX4_wayBetween ofX4_wayBetween 7) rfl
theorem dX4_wayBetween_10 : decode cX4_wayBetween 10 = .ok (.aload_n 0, 1) := d_by (d_at odX4_wayBetween ofX4_wayBetween 10) rfl
theorem dX4_wayBetween_11 : decode cX4_wayBetween 11 = .ok (.getfield 20, 3) := d_by (d_at odX4_wayBetween ofX4_wayBetween 11) rfl
theorem dX4_wayBetween_14 : decode cX4_wayBetween 14 = .ok (.iload_n 3, 1) := d_by (d_at odX4_wayBetween ofX4_wayBetween 14) rfl
theorem dX4_wayBetween_15 : decode cX4_wayBetween 15 = .ok (.aaload, 1) := d_by (d_at odX4_wayBetween ofX4_wayBetween 15) rfl
theorem dX4_wayBetween_16 : decode cX4_wayBetween 16 = .ok (.getfield 77, 3) := d_by (d_at odX4_wayBetween ofX4_wayBetween 16) rfl
theorem dX4_wayBetween_19 : decode cX4_wayBetween 19 = .ok (.iload_n 1, 1) := d_by (d_at odX4_wayBetween ofX4_wayBetween 19) rfl
theorem dX4_wayBetween_20 : decode cX4_wayBetween 20 = .ok (.if_icmp .ne 20, 3) := d_by (d_at odX4_wayBetween ofX4_wayBetween 20) rfl
theorem dX4_wayBetween_23 : decode cX4_wayBetween 23 = .ok (.aload_n 0, 1) := d_by (d_at odX4_wayBetween ofX4_wayBetween 23) rfl
theorem dX4_wayBetween_24 : decode cX4_wayBetween 24 = .ok (.getfield 20, 3) := d_by (d_at odX4_wayBetween ofX4_wayBetween 24) rfl
theorem dX4_wayBetween_27 : decode cX4_wayBetween 27 = .ok (.iload_n 3, 1) := d_by (d_at odX4_wayBetween ofX4_wayBetween 27) rfl
theorem dX4_wayBetween_28 : decode cX4_wayBetween 28 = .ok (.aaload, 1) := d_by (d_at odX4_wayBetween ofX4_wayBetween 28) rfl
theorem dX4_wayBetween_29 : decode cX4_wayBetween 29 = .ok (.getfield 80, 3) := d_by (d_at odX4_wayBetween ofX4_wayBetween 29) rfl
theorem dX4_wayBetween_32 : decode cX4_wayBetween 32 = .ok (.iload_n 2, 1) := d_by (d_at odX4_wayBetween ofX4_wayBetween 32) rfl
theorem dX4_wayBetween_33 : decode cX4_wayBetween 33 = .ok (.if_icmp .ne 7, 3) := d_by (d_at odX4_wayBetween ofX4_wayBetween 33) rfl
theorem dX4_wayBetween_36 : decode cX4_wayBetween 36 = .ok (.iconst 1, 1) := d_by (d_at odX4_wayBetween ofX4_wayBetween 36) rfl
theorem dX4_wayBetween_37 : decode cX4_wayBetween 37 = .ok (.goto 4, 3) := d_by (d_at odX4_wayBetween ofX4_wayBetween 37) rfl
theorem dX4_wayBetween_40 : decode cX4_wayBetween 40 = .ok (.iconst 0, 1) := d_by (d_at odX4_wayBetween ofX4_wayBetween 40) rfl
theorem dX4_wayBetween_41 : decode cX4_wayBetween 41 = .ok (.istore 4, 2) := d_by (d_at odX4_wayBetween ofX4_wayBetween 41) rfl
theorem dX4_wayBetween_43 : decode cX4_wayBetween 43 = .ok (.iload 4, 2) := d_by (d_at odX4_wayBetween ofX4_wayBetween 43) rfl
theorem dX4_wayBetween_45 : decode cX4_wayBetween 45 = .ok (.ifCond .ne 29, 3) := d_by (d_at odX4_wayBetween ofX4_wayBetween 45) rfl
theorem dX4_wayBetween_48 : decode cX4_wayBetween 48 = .ok (.aload_n 0, 1) := d_by (d_at odX4_wayBetween ofX4_wayBetween 48) rfl
theorem dX4_wayBetween_49 : decode cX4_wayBetween 49 = .ok (.getfield 20, 3) := d_by (d_at odX4_wayBetween ofX4_wayBetween 49) rfl
theorem dX4_wayBetween_52 : decode cX4_wayBetween 52 = .ok (.iload_n 3, 1) := d_by (d_at odX4_wayBetween ofX4_wayBetween 52) rfl
theorem dX4_wayBetween_53 : decode cX4_wayBetween 53 = .ok (.aaload, 1) := d_by (d_at odX4_wayBetween ofX4_wayBetween 53) rfl
theorem dX4_wayBetween_54 : decode cX4_wayBetween 54 = .ok (.getfield 77, 3) := d_by (d_at odX4_wayBetween ofX4_wayBetween 54) rfl
theorem dX4_wayBetween_57 : decode cX4_wayBetween 57 = .ok (.iload_n 2, 1) := d_by (d_at odX4_wayBetween ofX4_wayBetween 57) rfl
theorem dX4_wayBetween_58 : decode cX4_wayBetween 58 = .ok (.if_icmp .ne 18, 3) := d_by (d_at odX4_wayBetween ofX4_wayBetween 58) rfl
theorem dX4_wayBetween_61 : decode cX4_wayBetween 61 = .ok (.aload_n 0, 1) := d_by (d_at odX4_wayBetween ofX4_wayBetween 61) rfl
theorem dX4_wayBetween_62 : decode cX4_wayBetween 62 = .ok (.getfield 20, 3) := d_by (d_at odX4_wayBetween ofX4_wayBetween 62) rfl
theorem dX4_wayBetween_65 : decode cX4_wayBetween 65 = .ok (.iload_n 3, 1) := d_by (d_at odX4_wayBetween ofX4_wayBetween 65) rfl
theorem dX4_wayBetween_66 : decode cX4_wayBetween 66 = .ok (.aaload, 1) := d_by (d_at odX4_wayBetween ofX4_wayBetween 66) rfl
theorem dX4_wayBetween_67 : decode cX4_wayBetween 67 = .ok (.getfield 80, 3) := d_by (d_at odX4_wayBetween ofX4_wayBetween 67) rfl
theorem dX4_wayBetween_70 : decode cX4_wayBetween 70 = .ok (.iload_n 1, 1) := d_by (d_at odX4_wayBetween ofX4_wayBetween 70) rfl
theorem dX4_wayBetween_71 : decode cX4_wayBetween 71 = .ok (.if_icmp .ne 5, 3) := d_by (d_at odX4_wayBetween ofX4_wayBetween 71) rfl
theorem dX4_wayBetween_74 : decode cX4_wayBetween 74 = .ok (.iload_n 3, 1) := d_by (d_at odX4_wayBetween ofX4_wayBetween 74) rfl
theorem dX4_wayBetween_75 : decode cX4_wayBetween 75 = .ok (.ireturn, 1) := d_by (d_at odX4_wayBetween ofX4_wayBetween 75) rfl
theorem dX4_wayBetween_76 : decode cX4_wayBetween 76 = .ok (.iinc 3 1, 3) := d_by (d_at odX4_wayBetween ofX4_wayBetween 76) rfl
theorem dX4_wayBetween_79 : decode cX4_wayBetween 79 = .ok (.goto (-77), 3) := d_by (d_at odX4_wayBetween ofX4_wayBetween 79) rfl
theorem dX4_wayBetween_82 : decode cX4_wayBetween 82 = .ok (.bipush (-2), 2) := d_by (d_at odX4_wayBetween ofX4_wayBetween 82) rfl
theorem dX4_wayBetween_84 : decode cX4_wayBetween 84 = .ok (.ireturn, 1) := d_by (d_at odX4_wayBetween ofX4_wayBetween 84) rfl
set_option maxRecDepth 100000 in
def bX4_hasSong : List Nat := [3, 62, 29, 42, 180, 0, 59, 162, 0, 31, 42, 180, 0, 9, 29, 46, 27, 160, 0, 15, 42, 180, 0, 15, 29, 46, 28, 160, 0, 5, 4, 172, 132, 3, 1, 167, 255, 223, 3, 172]
set_option maxRecDepth 100000 in
theorem bbX4_hasSong : cX4_hasSong.data.toList.map UInt8.toNat = bX4_hasSong := by decide +kernel
set_option maxRecDepth 100000 in
def tX4_hasSong : Lean.RArray dLf := .branch 20 (.branch 10 (.branch 3 (.branch 1 (.leaf (0, .iconst 0, 1)) (.branch 2 (.leaf (1, .istore_n 3, 1)) (.leaf (2, .iload_n 3, 1)))) (.branch 4 (.leaf (3, .aload_n 0, 1)) (.branch 7 (.leaf (4, .getfield 59, 3)) (.leaf (7, .if_icmp .ge 31, 3))))) (.branch 15 (.branch 11 (.leaf (10, .aload_n 0, 1)) (.branch 14 (.leaf (11, .getfield 9, 3)) (.leaf (14, .iload_n 3, 1)))) (.branch 16 (.leaf (15, .iaload, 1)) (.branch 17 (.leaf (16, .iload_n 1, 1)) (.leaf (17, .if_icmp .ne 15, 3)))))) (.branch 30 (.branch 25 (.branch 21 (.leaf (20, .aload_n 0, 1)) (.branch 24 (.leaf (21, .getfield 15, 3)) (.leaf (24, .iload_n 3, 1)))) (.branch 26 (.leaf (25, .iaload, 1)) (.branch 27 (.leaf (26, .iload_n 2, 1)) (.leaf (27, .if_icmp .ne 5, 3))))) (.branch 35 (.branch 31 (.leaf (30, .iconst 1, 1)) (.branch 32 (.leaf (31, .ireturn, 1)) (.leaf (32, .iinc 3 1, 3)))) (.branch 38 (.leaf (35, .goto (-33), 3)) (.branch 39 (.leaf (38, .iconst 0, 1)) (.leaf (39, .ireturn, 1))))))
noncomputable def oX4_hasSong : List dLf := dFl tX4_hasSong
theorem ofX4_hasSong : dFl tX4_hasSong = oX4_hasSong := rfl
set_option maxRecDepth 100000 in
theorem odX4_hasSong : ∀ q ∈ oX4_hasSong, decode cX4_hasSong q.1 = .ok (q.2.1, q.2.2) := q_go qT_ok bbX4_hasSong oX4_hasSong 0 (by decide +kernel)
theorem dX4_hasSong_0 : decode cX4_hasSong 0 = .ok (.iconst 0, 1) := d_by (d_at odX4_hasSong ofX4_hasSong 0) rfl
theorem dX4_hasSong_1 : decode cX4_hasSong 1 = .ok (.istore_n 3, 1) := d_by (d_at odX4_hasSong ofX4_hasSong 1) rfl
theorem dX4_hasSong_2 : decode cX4_hasSong 2 = .ok (.iload_n 3, 1) := d_by (d_at odX4_hasSong ofX4_hasSong 2) rfl
theorem dX4_hasSong_3 : decode cX4_hasSong 3 = .ok (.aload_n 0, 1) := d_by (d_at odX4_hasSong ofX4_hasSong 3) rfl
theorem dX4_hasSong_4 : decode cX4_hasSong 4 = .ok (.getfield 59, 3) := d_by (d_at odX4_hasSong ofX4_hasSong 4) rfl
theorem dX4_hasSong_7 : decode cX4_hasSong 7 = .ok (.if_icmp .ge 31, 3) := d_by (d_at odX4_hasSong ofX4_hasSong 7) rfl
theorem dX4_hasSong_10 : decode cX4_hasSong 10 = .ok (.aload_n 0, 1) := d_by (d_at odX4_hasSong ofX4_hasSong 10) rfl
theorem dX4_hasSong_11 : decode cX4_hasSong 11 = .ok (.getfield 9, 3) := d_by (d_at odX4_hasSong ofX4_hasSong 11) rfl
theorem dX4_hasSong_14 : decode cX4_hasSong 14 = .ok (.iload_n 3, 1) := d_by (d_at odX4_hasSong ofX4_hasSong 14) rfl
theorem dX4_hasSong_15 : decode cX4_hasSong 15 = .ok (.iaload, 1) := d_by (d_at odX4_hasSong ofX4_hasSong 15) rfl
theorem dX4_hasSong_16 : decode cX4_hasSong 16 = .ok (.iload_n 1, 1) := d_by (d_at odX4_hasSong ofX4_hasSong 16) rfl
theorem dX4_hasSong_17 : decode cX4_hasSong 17 = .ok (.if_icmp .ne 15, 3) := d_by (d_at odX4_hasSong ofX4_hasSong 17) rfl
theorem dX4_hasSong_20 : decode cX4_hasSong 20 = .ok (.aload_n 0, 1) := d_by (d_at odX4_hasSong ofX4_hasSong 20) rfl
theorem dX4_hasSong_21 : decode cX4_hasSong 21 = .ok (.getfield 15, 3) := d_by (d_at odX4_hasSong ofX4_hasSong 21) rfl
theorem dX4_hasSong_24 : decode cX4_hasSong 24 = .ok (.iload_n 3, 1) := d_by (d_at odX4_hasSong ofX4_hasSong 24) rfl
theorem dX4_hasSong_25 : decode cX4_hasSong 25 = .ok (.iaload, 1) := d_by (d_at odX4_hasSong ofX4_hasSong 25) rfl
theorem dX4_hasSong_26 : decode cX4_hasSong 26 = .ok (.iload_n 2, 1) := d_by (d_at odX4_hasSong ofX4_hasSong 26) rfl
theorem dX4_hasSong_27 : decode cX4_hasSong 27 = .ok (.if_icmp .ne 5, 3) := d_by (d_at odX4_hasSong ofX4_hasSong 27) rfl
theorem dX4_hasSong_30 : decode cX4_hasSong 30 = .ok (.iconst 1, 1) := d_by (d_at odX4_hasSong ofX4_hasSong 30) rfl
theorem dX4_hasSong_31 : decode cX4_hasSong 31 = .ok (.ireturn, 1) := d_by (d_at odX4_hasSong ofX4_hasSong 31) rfl
theorem dX4_hasSong_32 : decode cX4_hasSong 32 = .ok (.iinc 3 1, 3) := d_by (d_at odX4_hasSong ofX4_hasSong 32) rfl
theorem dX4_hasSong_35 : decode cX4_hasSong 35 = .ok (.goto (-33), 3) := d_by (d_at odX4_hasSong ofX4_hasSong 35) rfl
theorem dX4_hasSong_38 : decode cX4_hasSong 38 = .ok (.iconst 0, 1) := d_by (d_at odX4_hasSong ofX4_hasSong 38) rfl
theorem dX4_hasSong_39 : decode cX4_hasSong 39 = .ok (.ireturn, 1) := d_by (d_at odX4_hasSong ofX4_hasSong 39) rfl
set_option maxRecDepth 100000 in
def bX4_lastSpoutOf : List Nat := [42, 180, 0, 71, 4, 100, 61, 28, 155, 0, 24, 42, 180, 0, 38, 28, 50, 180, 0, 83, 27, 160, 0, 5, 28, 172, 132, 2, 255, 167, 255, 234, 16, 254, 172]
set_option maxRecDepth 100000 in
theorem bbX4_lastSpoutOf : cX4_lastSpoutOf.data.toList.map UInt8.toNat = bX4_lastSpoutOf := by decide +kernel
set_option maxRecDepth 100000 in
def tX4_lastSpoutOf : Lean.RArray dLf := .branch 16 (.branch 7 (.branch 4 (.branch 1 (.leaf (0, .aload_n 0, 1)) (.leaf (1, .getfield 71, 3))) (.branch 5 (.leaf (4, .iconst 1, 1)) (.branch 6 (.leaf (5, .isub, 1)) (.leaf (6, .istore_n 2, 1))))) (.branch 11 (.branch 8 (.leaf (7, .iload_n 2, 1)) (.leaf (8, .ifCond .lt 24, 3))) (.branch 12 (.leaf (11, .aload_n 0, 1)) (.branch 15 (.leaf (12, .getfield 38, 3)) (.leaf (15, .iload_n 2, 1)))))) (.branch 25 (.branch 20 (.branch 17 (.leaf (16, .aaload, 1)) (.leaf (17, .getfield 83, 3))) (.branch 21 (.leaf (20, .iload_n 1, 1)) (.branch 24 (.leaf (21, .if_icmp .ne 5, 3)) (.leaf (24, .iload_n 2, 1))))) (.branch 29 (.branch 26 (.leaf (25, .ireturn, 1)) (.leaf (26, .iinc 2 (-1), 3))) (.branch 32 (.leaf (29, .goto (-22), 3)) (.branch 34 (.leaf (32, .bipush (-2), 2)) (.leaf (34, .ireturn, 1))))))
noncomputable def oX4_lastSpoutOf : List dLf := dFl tX4_lastSpoutOf
theorem ofX4_lastSpoutOf : dFl tX4_lastSpoutOf = oX4_lastSpoutOf := rfl
set_option maxRecDepth 100000 in
theorem odX4_lastSpoutOf : ∀ q ∈ oX4_lastSpoutOf, decode cX4_lastSpoutOf q.1 = .ok (q.2.1, q.2.2) := q_go qT_ok bbX4_lastSpoutOf oX4_lastSpoutOf 0 (by decide +kernel)
theorem dX4_lastSpoutOf_0 : decode cX4_lastSpoutOf 0 = .ok (.aload_n 0, 1) := d_by (d_at odX4_lastSpoutOf ofX4_lastSpoutOf 0) rfl
theorem dX4_lastSpoutOf_1 : decode cX4_lastSpoutOf 1 = .ok (.getfield 71, 3) := d_by (d_at odX4_lastSpoutOf ofX4_lastSpoutOf 1) rfl
theorem dX4_lastSpoutOf_4 : decode cX4_lastSpoutOf 4 = .ok (.iconst 1, 1) := d_by (d_at odX4_lastSpoutOf ofX4_lastSpoutOf 4) rfl
theorem dX4_lastSpoutOf_5 : decode cX4_lastSpoutOf 5 = .ok (.isub, 1) := d_by (d_at odX4_lastSpoutOf ofX4_lastSpoutOf 5) rfl
theorem dX4_lastSpoutOf_6 : decode cX4_lastSpoutOf 6 = .ok (.istore_n 2, 1) := d_by (d_at odX4_lastSpoutOf ofX4_lastSpoutOf 6) rfl
theorem dX4_lastSpoutOf_7 : decode cX4_lastSpoutOf 7 = .ok (.iload_n 2, 1) := d_by (d_at odX4_lastSpoutOf ofX4_lastSpoutOf 7) rfl
theorem dX4_lastSpoutOf_8 : decode cX4_lastSpoutOf 8 = .ok (.ifCond .lt 24, 3) := d_by (d_at odX4_lastSpoutOf ofX4_lastSpoutOf 8) rfl
theorem dX4_lastSpoutOf_11 : decode cX4_lastSpoutOf 11 = .ok (.aload_n 0, 1) := d_by (d_at odX4_lastSpoutOf ofX4_lastSpoutOf 11) rfl
theorem dX4_lastSpoutOf_12 : decode cX4_lastSpoutOf 12 = .ok (.getfield 38, 3) := d_by (d_at odX4_lastSpoutOf ofX4_lastSpoutOf 12) rfl
theorem dX4_lastSpoutOf_15 : decode cX4_lastSpoutOf 15 = .ok (.iload_n 2, 1) := d_by (d_at odX4_lastSpoutOf ofX4_lastSpoutOf 15) rfl
theorem dX4_lastSpoutOf_16 : decode cX4_lastSpoutOf 16 = .ok (.aaload, 1) := d_by (d_at odX4_lastSpoutOf ofX4_lastSpoutOf 16) rfl
theorem dX4_lastSpoutOf_17 : decode cX4_lastSpoutOf 17 = .ok (.getfield 83, 3) := d_by (d_at odX4_lastSpoutOf ofX4_lastSpoutOf 17) rfl
theorem dX4_lastSpoutOf_20 : decode cX4_lastSpoutOf 20 = .ok (.iload_n 1, 1) := d_by (d_at odX4_lastSpoutOf ofX4_lastSpoutOf 20) rfl
theorem dX4_lastSpoutOf_21 : decode cX4_lastSpoutOf 21 = .ok (.if_icmp .ne 5, 3) := d_by (d_at odX4_lastSpoutOf ofX4_lastSpoutOf 21) rfl
theorem dX4_lastSpoutOf_24 : decode cX4_lastSpoutOf 24 = .ok (.iload_n 2, 1) := d_by (d_at odX4_lastSpoutOf ofX4_lastSpoutOf 24) rfl
theorem dX4_lastSpoutOf_25 : decode cX4_lastSpoutOf 25 = .ok (.ireturn, 1) := d_by (d_at odX4_lastSpoutOf ofX4_lastSpoutOf 25) rfl
theorem dX4_lastSpoutOf_26 : decode cX4_lastSpoutOf 26 = .ok (.iinc 2 (-1), 3) := d_by (d_at odX4_lastSpoutOf ofX4_lastSpoutOf 26) rfl
theorem dX4_lastSpoutOf_29 : decode cX4_lastSpoutOf 29 = .ok (.goto (-22), 3) := d_by (d_at odX4_lastSpoutOf ofX4_lastSpoutOf 29) rfl
theorem dX4_lastSpoutOf_32 : decode cX4_lastSpoutOf 32 = .ok (.bipush (-2), 2) := d_by (d_at odX4_lastSpoutOf ofX4_lastSpoutOf 32) rfl
theorem dX4_lastSpoutOf_34 : decode cX4_lastSpoutOf 34 = .ok (.ireturn, 1) := d_by (d_at odX4_lastSpoutOf ofX4_lastSpoutOf 34) rfl
set_option maxRecDepth 100000 in
def bX5_init : List Nat := [42, 183, 0, 3, 42, 3, 181, 0, 9, 42, 3, 181, 0, 15, 42, 3, 181, 0, 18, 42, 3, 181, 0, 21, 42, 3, 181, 0, 24, 42, 16, 20, 188, 11, 181, 0, 27, 42, 16, 20, 188, 10, 181, 0, 31, 42, 16, 20, 188, 10, 181, 0, 35, 42, 3, 181, 0, 38, 42, 3, 181, 0, 41, 42, 2, 181, 0, 44, 42, 43, 181, 0, 47, 42, 44, 181, 0, 51, 177]
set_option maxRecDepth 100000 in
theorem bbX5_init : cX5_init.data.toList.map UInt8.toNat = bX5_init := by decide +kernel
theorem eX5_init_32 : decode cX5_init 32 = .ok (.newarray .long, 2) := by decide +kernel
theorem eX5_init_40 : decode cX5_init 40 = .ok (.newarray .int, 2) := by decide +kernel
theorem eX5_init_48 : decode cX5_init 48 = .ok (.newarray .int, 2) := by decide +kernel
set_option maxRecDepth 100000 in
def oX5_inits0 : List dLf := [(0, .aload_n 0, 1), (1, .invokespecial 3, 3), (4, .aload_n 0, 1), (5, .iconst 0, 1), (6, .putfield 9, 3), (9, .aload_n 0, 1), (10, .iconst 0, 1), (11, .putfield 15, 3), (14, .aload_n 0, 1), (15, .iconst 0, 1), (16, .putfield 18, 3), (19, .aload_n 0, 1), (20, .iconst 0, 1), (21, .putfield 21, 3), (24, .aload_n 0, 1), (25, .iconst 0, 1), (26, .putfield 24, 3), (29, .aload_n 0, 1), (30, .bipush 20, 2)]
set_option maxRecDepth 100000 in
theorem odX5_inits0 : ∀ q ∈ oX5_inits0, decode cX5_init q.1 = .ok (q.2.1, q.2.2) := q_go qT_ok bbX5_init oX5_inits0 0 (by decide +kernel)
set_option maxRecDepth 100000 in
def oX5_inits2 : List dLf := [(34, .putfield 27, 3), (37, .aload_n 0, 1), (38, .bipush 20, 2)]
set_option maxRecDepth 100000 in
theorem odX5_inits2 : ∀ q ∈ oX5_inits2, decode cX5_init q.1 = .ok (q.2.1, q.2.2) := q_go qT_ok bbX5_init oX5_inits2 34 (by decide +kernel)
set_option maxRecDepth 100000 in
def oX5_inits4 : List dLf := [(42, .putfield 31, 3), (45, .aload_n 0, 1), (46, .bipush 20, 2)]
set_option maxRecDepth 100000 in
theorem odX5_inits4 : ∀ q ∈ oX5_inits4, decode cX5_init q.1 = .ok (q.2.1, q.2.2) := q_go qT_ok bbX5_init oX5_inits4 42 (by decide +kernel)
set_option maxRecDepth 100000 in
def oX5_inits6 : List dLf := [(50, .putfield 35, 3), (53, .aload_n 0, 1), (54, .iconst 0, 1), (55, .putfield 38, 3), (58, .aload_n 0, 1), (59, .iconst 0, 1), (60, .putfield 41, 3), (63, .aload_n 0, 1), (64, .iconst (-1), 1), (65, .putfield 44, 3), (68, .aload_n 0, 1), (69, .aload_n 1, 1), (70, .putfield 47, 3), (73, .aload_n 0, 1), (74, .aload_n 2, 1), (75, .putfield 51, 3), (78, .return_, 1)]
set_option maxRecDepth 100000 in
theorem odX5_inits6 : ∀ q ∈ oX5_inits6, decode cX5_init q.1 = .ok (q.2.1, q.2.2) := q_go qT_ok bbX5_init oX5_inits6 50 (by decide +kernel)
set_option maxRecDepth 100000 in
def oX5_init : List dLf := [(0, .aload_n 0, 1), (1, .invokespecial 3, 3), (4, .aload_n 0, 1), (5, .iconst 0, 1), (6, .putfield 9, 3), (9, .aload_n 0, 1), (10, .iconst 0, 1), (11, .putfield 15, 3), (14, .aload_n 0, 1), (15, .iconst 0, 1), (16, .putfield 18, 3), (19, .aload_n 0, 1), (20, .iconst 0, 1), (21, .putfield 21, 3), (24, .aload_n 0, 1), (25, .iconst 0, 1), (26, .putfield 24, 3), (29, .aload_n 0, 1), (30, .bipush 20, 2), (32, .newarray .long, 2), (34, .putfield 27, 3), (37, .aload_n 0, 1), (38, .bipush 20, 2), (40, .newarray .int, 2), (42, .putfield 31, 3), (45, .aload_n 0, 1), (46, .bipush 20, 2), (48, .newarray .int, 2), (50, .putfield 35, 3), (53, .aload_n 0, 1), (54, .iconst 0, 1), (55, .putfield 38, 3), (58, .aload_n 0, 1), (59, .iconst 0, 1), (60, .putfield 41, 3), (63, .aload_n 0, 1), (64, .iconst (-1), 1), (65, .putfield 44, 3), (68, .aload_n 0, 1), (69, .aload_n 1, 1), (70, .putfield 47, 3), (73, .aload_n 0, 1), (74, .aload_n 2, 1), (75, .putfield 51, 3), (78, .return_, 1)]
set_option maxRecDepth 100000 in
theorem odX5_init : ∀ q ∈ oX5_init, decode cX5_init q.1 = .ok (q.2.1, q.2.2) := by
  have e : oX5_init = oX5_inits0 ++ ([(32, .newarray .long, 2)] ++ (oX5_inits2 ++ ([(40, .newarray .int, 2)] ++ (oX5_inits4 ++ ([(48, .newarray .int, 2)] ++ (oX5_inits6)))))) := rfl
  rw [e]
  exact List.forall_mem_append.mpr ⟨odX5_inits0, List.forall_mem_append.mpr ⟨(List.forall_mem_singleton.mpr eX5_init_32), List.forall_mem_append.mpr ⟨odX5_inits2, List.forall_mem_append.mpr ⟨(List.forall_mem_singleton.mpr eX5_init_40), List.forall_mem_append.mpr ⟨odX5_inits4, List.forall_mem_append.mpr ⟨(List.forall_mem_singleton.mpr eX5_init_48), odX5_inits6⟩⟩⟩⟩⟩⟩
set_option maxRecDepth 100000 in
def tX5_init : Lean.RArray dLf := .branch 38 (.branch 19 (.branch 9 (.branch 4 (.branch 1 (.leaf (0, .aload_n 0, 1)) (.leaf (1, .invokespecial 3, 3))) (.branch 5 (.leaf (4, .aload_n 0, 1)) (.branch 6 (.leaf (5, .iconst 0, 1)) (.leaf (6, .putfield 9, 3))))) (.branch 14 (.branch 10 (.leaf (9, .aload_n 0, 1)) (.branch 11 (.leaf (10, .iconst 0, 1)) (.leaf (11, .putfield 15, 3)))) (.branch 15 (.leaf (14, .aload_n 0, 1)) (.branch 16 (.leaf (15, .iconst 0, 1)) (.leaf (16, .putfield 18, 3)))))) (.branch 26 (.branch 21 (.branch 20 (.leaf (19, .aload_n 0, 1)) (.leaf (20, .iconst 0, 1))) (.branch 24 (.leaf (21, .putfield 21, 3)) (.branch 25 (.leaf (24, .aload_n 0, 1)) (.leaf (25, .iconst 0, 1))))) (.branch 32 (.branch 29 (.leaf (26, .putfield 24, 3)) (.branch 30 (.leaf (29, .aload_n 0, 1)) (.leaf (30, .bipush 20, 2)))) (.branch 34 (.leaf (32, .newarray .long, 2)) (.branch 37 (.leaf (34, .putfield 27, 3)) (.leaf (37, .aload_n 0, 1))))))) (.branch 59 (.branch 48 (.branch 42 (.branch 40 (.leaf (38, .bipush 20, 2)) (.leaf (40, .newarray .int, 2))) (.branch 45 (.leaf (42, .putfield 31, 3)) (.branch 46 (.leaf (45, .aload_n 0, 1)) (.leaf (46, .bipush 20, 2))))) (.branch 54 (.branch 50 (.leaf (48, .newarray .int, 2)) (.branch 53 (.leaf (50, .putfield 35, 3)) (.leaf (53, .aload_n 0, 1)))) (.branch 55 (.leaf (54, .iconst 0, 1)) (.branch 58 (.leaf (55, .putfield 38, 3)) (.leaf (58, .aload_n 0, 1)))))) (.branch 69 (.branch 64 (.branch 60 (.leaf (59, .iconst 0, 1)) (.branch 63 (.leaf (60, .putfield 41, 3)) (.leaf (63, .aload_n 0, 1)))) (.branch 65 (.leaf (64, .iconst (-1), 1)) (.branch 68 (.leaf (65, .putfield 44, 3)) (.leaf (68, .aload_n 0, 1))))) (.branch 74 (.branch 70 (.leaf (69, .aload_n 1, 1)) (.branch 73 (.leaf (70, .putfield 47, 3)) (.leaf (73, .aload_n 0, 1)))) (.branch 75 (.leaf (74, .aload_n 2, 1)) (.branch 78 (.leaf (75, .putfield 51, 3)) (.leaf (78, .return_, 1)))))))
set_option maxRecDepth 100000 in
theorem ofX5_init : dFl tX5_init = oX5_init := rfl
theorem dX5_init_0 : decode cX5_init 0 = .ok (.aload_n 0, 1) := d_by (d_at odX5_init ofX5_init 0) rfl
theorem dX5_init_1 : decode cX5_init 1 = .ok (.invokespecial 3, 3) := d_by (d_at odX5_init ofX5_init 1) rfl
theorem dX5_init_4 : decode cX5_init 4 = .ok (.aload_n 0, 1) := d_by (d_at odX5_init ofX5_init 4) rfl
theorem dX5_init_5 : decode cX5_init 5 = .ok (.iconst 0, 1) := d_by (d_at odX5_init ofX5_init 5) rfl
theorem dX5_init_6 : decode cX5_init 6 = .ok (.putfield 9, 3) := d_by (d_at odX5_init ofX5_init 6) rfl
theorem dX5_init_9 : decode cX5_init 9 = .ok (.aload_n 0, 1) := d_by (d_at odX5_init ofX5_init 9) rfl
theorem dX5_init_10 : decode cX5_init 10 = .ok (.iconst 0, 1) := d_by (d_at odX5_init ofX5_init 10) rfl
theorem dX5_init_11 : decode cX5_init 11 = .ok (.putfield 15, 3) := d_by (d_at odX5_init ofX5_init 11) rfl
theorem dX5_init_14 : decode cX5_init 14 = .ok (.aload_n 0, 1) := d_by (d_at odX5_init ofX5_init 14) rfl
theorem dX5_init_15 : decode cX5_init 15 = .ok (.iconst 0, 1) := d_by (d_at odX5_init ofX5_init 15) rfl
theorem dX5_init_16 : decode cX5_init 16 = .ok (.putfield 18, 3) := d_by (d_at odX5_init ofX5_init 16) rfl
theorem dX5_init_19 : decode cX5_init 19 = .ok (.aload_n 0, 1) := d_by (d_at odX5_init ofX5_init 19) rfl
theorem dX5_init_20 : decode cX5_init 20 = .ok (.iconst 0, 1) := d_by (d_at odX5_init ofX5_init 20) rfl
theorem dX5_init_21 : decode cX5_init 21 = .ok (.putfield 21, 3) := d_by (d_at odX5_init ofX5_init 21) rfl
theorem dX5_init_24 : decode cX5_init 24 = .ok (.aload_n 0, 1) := d_by (d_at odX5_init ofX5_init 24) rfl
theorem dX5_init_25 : decode cX5_init 25 = .ok (.iconst 0, 1) := d_by (d_at odX5_init ofX5_init 25) rfl
theorem dX5_init_26 : decode cX5_init 26 = .ok (.putfield 24, 3) := d_by (d_at odX5_init ofX5_init 26) rfl
theorem dX5_init_29 : decode cX5_init 29 = .ok (.aload_n 0, 1) := d_by (d_at odX5_init ofX5_init 29) rfl
theorem dX5_init_30 : decode cX5_init 30 = .ok (.bipush 20, 2) := d_by (d_at odX5_init ofX5_init 30) rfl
theorem dX5_init_32 : decode cX5_init 32 = .ok (.newarray .long, 2) := d_by (d_at odX5_init ofX5_init 32) rfl
theorem dX5_init_34 : decode cX5_init 34 = .ok (.putfield 27, 3) := d_by (d_at odX5_init ofX5_init 34) rfl
theorem dX5_init_37 : decode cX5_init 37 = .ok (.aload_n 0, 1) := d_by (d_at odX5_init ofX5_init 37) rfl
theorem dX5_init_38 : decode cX5_init 38 = .ok (.bipush 20, 2) := d_by (d_at odX5_init ofX5_init 38) rfl
theorem dX5_init_40 : decode cX5_init 40 = .ok (.newarray .int, 2) := d_by (d_at odX5_init ofX5_init 40) rfl
theorem dX5_init_42 : decode cX5_init 42 = .ok (.putfield 31, 3) := d_by (d_at odX5_init ofX5_init 42) rfl
theorem dX5_init_45 : decode cX5_init 45 = .ok (.aload_n 0, 1) := d_by (d_at odX5_init ofX5_init 45) rfl
theorem dX5_init_46 : decode cX5_init 46 = .ok (.bipush 20, 2) := d_by (d_at odX5_init ofX5_init 46) rfl
theorem dX5_init_48 : decode cX5_init 48 = .ok (.newarray .int, 2) := d_by (d_at odX5_init ofX5_init 48) rfl
theorem dX5_init_50 : decode cX5_init 50 = .ok (.putfield 35, 3) := d_by (d_at odX5_init ofX5_init 50) rfl
theorem dX5_init_53 : decode cX5_init 53 = .ok (.aload_n 0, 1) := d_by (d_at odX5_init ofX5_init 53) rfl
theorem dX5_init_54 : decode cX5_init 54 = .ok (.iconst 0, 1) := d_by (d_at odX5_init ofX5_init 54) rfl
theorem dX5_init_55 : decode cX5_init 55 = .ok (.putfield 38, 3) := d_by (d_at odX5_init ofX5_init 55) rfl
theorem dX5_init_58 : decode cX5_init 58 = .ok (.aload_n 0, 1) := d_by (d_at odX5_init ofX5_init 58) rfl
theorem dX5_init_59 : decode cX5_init 59 = .ok (.iconst 0, 1) := d_by (d_at odX5_init ofX5_init 59) rfl
theorem dX5_init_60 : decode cX5_init 60 = .ok (.putfield 41, 3) := d_by (d_at odX5_init ofX5_init 60) rfl
theorem dX5_init_63 : decode cX5_init 63 = .ok (.aload_n 0, 1) := d_by (d_at odX5_init ofX5_init 63) rfl
theorem dX5_init_64 : decode cX5_init 64 = .ok (.iconst (-1), 1) := d_by (d_at odX5_init ofX5_init 64) rfl
theorem dX5_init_65 : decode cX5_init 65 = .ok (.putfield 44, 3) := d_by (d_at odX5_init ofX5_init 65) rfl
theorem dX5_init_68 : decode cX5_init 68 = .ok (.aload_n 0, 1) := d_by (d_at odX5_init ofX5_init 68) rfl
theorem dX5_init_69 : decode cX5_init 69 = .ok (.aload_n 1, 1) := d_by (d_at odX5_init ofX5_init 69) rfl
theorem dX5_init_70 : decode cX5_init 70 = .ok (.putfield 47, 3) := d_by (d_at odX5_init ofX5_init 70) rfl
theorem dX5_init_73 : decode cX5_init 73 = .ok (.aload_n 0, 1) := d_by (d_at odX5_init ofX5_init 73) rfl
theorem dX5_init_74 : decode cX5_init 74 = .ok (.aload_n 2, 1) := d_by (d_at odX5_init ofX5_init 74) rfl
theorem dX5_init_75 : decode cX5_init 75 = .ok (.putfield 51, 3) := d_by (d_at odX5_init ofX5_init 75) rfl
theorem dX5_init_78 : decode cX5_init 78 = .ok (.return_, 1) := d_by (d_at odX5_init ofX5_init 78) rfl
set_option maxRecDepth 100000 in
def bX5_readPost : List Nat := [42, 44, 181, 0, 51, 42, 180, 0, 51, 182, 0, 55, 42, 27, 42, 180, 0, 47, 190, 184, 0, 60, 181, 0, 9, 42, 3, 181, 0, 15, 42, 3, 181, 0, 38, 42, 3, 181, 0, 41, 42, 2, 181, 0, 44, 3, 62, 29, 42, 180, 0, 9, 163, 0, 68, 42, 182, 0, 66, 154, 0, 5, 3, 172, 42, 182, 0, 70, 42, 180, 0, 18, 154, 0, 28, 42, 180, 0, 51, 180, 0, 73, 157, 0, 12, 42, 16, 6, 182, 0, 76, 153, 0, 7, 4, 167, 0, 4, 3, 172, 42, 180, 0, 18, 6, 159, 0, 9, 42, 4, 182, 0, 76, 172, 132, 3, 1, 167, 255, 186, 42, 4, 182, 0, 76, 172]
set_option maxRecDepth 100000 in
theorem bbX5_readPost : cX5_readPost.data.toList.map UInt8.toNat = bX5_readPost := by decide +kernel
set_option maxRecDepth 100000 in
def tX5_readPost : Lean.RArray dLf := .branch 59 (.branch 30 (.branch 14 (.branch 6 (.branch 2 (.branch 1 (.leaf (0, .aload_n 0, 1)) (.leaf (1, .aload_n 2, 1))) (.branch 5 (.leaf (2, .putfield 51, 3)) (.leaf (5, .aload_n 0, 1)))) (.branch 12 (.branch 9 (.leaf (6, .getfield 51, 3)) (.leaf (9, .invokevirtual 55, 3))) (.branch 13 (.leaf (12, .aload_n 0, 1)) (.leaf (13, .iload_n 1, 1))))) (.branch 22 (.branch 18 (.branch 15 (.leaf (14, .aload_n 0, 1)) (.leaf (15, .getfield 47, 3))) (.branch 19 (.leaf (18, .arraylength, 1)) (.leaf (19, .invokestatic 60, 3)))) (.branch 26 (.branch 25 (.leaf (22, .putfield 9, 3)) (.leaf (25, .aload_n 0, 1))) (.branch 27 (.leaf (26, .iconst 0, 1)) (.leaf (27, .putfield 15, 3)))))) (.branch 42 (.branch 36 (.branch 32 (.branch 31 (.leaf (30, .aload_n 0, 1)) (.leaf (31, .iconst 0, 1))) (.branch 35 (.leaf (32, .putfield 38, 3)) (.leaf (35, .aload_n 0, 1)))) (.branch 40 (.branch 37 (.leaf (36, .iconst 0, 1)) (.leaf (37, .putfield 41, 3))) (.branch 41 (.leaf (40, .aload_n 0, 1)) (.leaf (41, .iconst (-1), 1))))) (.branch 48 (.branch 46 (.branch 45 (.leaf (42, .putfield 44, 3)) (.leaf (45, .iconst 0, 1))) (.branch 47 (.leaf (46, .istore_n 3, 1)) (.leaf (47, .iload_n 3, 1)))) (.branch 52 (.branch 49 (.leaf (48, .aload_n 0, 1)) (.leaf (49, .getfield 9, 3))) (.branch 55 (.leaf (52, .if_icmp .gt 68, 3)) (.branch 56 (.leaf (55, .aload_n 0, 1)) (.leaf (56, .invokevirtual 66, 3)))))))) (.branch 95 (.branch 75 (.branch 65 (.branch 63 (.branch 62 (.leaf (59, .ifCond .ne 5, 3)) (.leaf (62, .iconst 0, 1))) (.branch 64 (.leaf (63, .ireturn, 1)) (.leaf (64, .aload_n 0, 1)))) (.branch 69 (.branch 68 (.leaf (65, .invokevirtual 70, 3)) (.leaf (68, .aload_n 0, 1))) (.branch 72 (.leaf (69, .getfield 18, 3)) (.leaf (72, .ifCond .ne 28, 3))))) (.branch 85 (.branch 79 (.branch 76 (.leaf (75, .aload_n 0, 1)) (.leaf (76, .getfield 51, 3))) (.branch 82 (.leaf (79, .getfield 73, 3)) (.leaf (82, .ifCond .gt 12, 3)))) (.branch 88 (.branch 86 (.leaf (85, .aload_n 0, 1)) (.leaf (86, .bipush 6, 2))) (.branch 91 (.leaf (88, .invokevirtual 76, 3)) (.branch 94 (.leaf (91, .ifCond .eq 7, 3)) (.leaf (94, .iconst 1, 1))))))) (.branch 109 (.branch 101 (.branch 99 (.branch 98 (.leaf (95, .goto 4, 3)) (.leaf (98, .iconst 0, 1))) (.branch 100 (.leaf (99, .ireturn, 1)) (.leaf (100, .aload_n 0, 1)))) (.branch 105 (.branch 104 (.leaf (101, .getfield 18, 3)) (.leaf (104, .iconst 3, 1))) (.branch 108 (.leaf (105, .if_icmp .eq 9, 3)) (.leaf (108, .aload_n 0, 1))))) (.branch 117 (.branch 113 (.branch 110 (.leaf (109, .iconst 1, 1)) (.leaf (110, .invokevirtual 76, 3))) (.branch 114 (.leaf (113, .ireturn, 1)) (.leaf (114, .iinc 3 1, 3)))) (.branch 121 (.branch 120 (.leaf (117, .goto (-70), 3)) (.leaf (120, .aload_n 0, 1))) (.branch 122 (.leaf (121, .iconst 1, 1)) (.branch 125 (.leaf (122, .invokevirtual 76, 3)) (.leaf (125, .ireturn, 1))))))))
noncomputable def oX5_readPost : List dLf := dFl tX5_readPost
theorem ofX5_readPost : dFl tX5_readPost = oX5_readPost := rfl
set_option maxRecDepth 100000 in
theorem odX5_readPost : ∀ q ∈ oX5_readPost, decode cX5_readPost q.1 = .ok (q.2.1, q.2.2) := q_go qT_ok bbX5_readPost oX5_readPost 0 (by decide +kernel)
theorem dX5_readPost_0 : decode cX5_readPost 0 = .ok (.aload_n 0, 1) := d_by (d_at odX5_readPost ofX5_readPost 0) rfl
theorem dX5_readPost_1 : decode cX5_readPost 1 = .ok (.aload_n 2, 1) := d_by (d_at odX5_readPost ofX5_readPost 1) rfl
theorem dX5_readPost_2 : decode cX5_readPost 2 = .ok (.putfield 51, 3) := d_by (d_at odX5_readPost ofX5_readPost 2) rfl
theorem dX5_readPost_5 : decode cX5_readPost 5 = .ok (.aload_n 0, 1) := d_by (d_at odX5_readPost ofX5_readPost 5) rfl
theorem dX5_readPost_6 : decode cX5_readPost 6 = .ok (.getfield 51, 3) := d_by (d_at odX5_readPost ofX5_readPost 6) rfl
theorem dX5_readPost_9 : decode cX5_readPost 9 = .ok (.invokevirtual 55, 3) := d_by (d_at odX5_readPost ofX5_readPost 9) rfl
theorem dX5_readPost_12 : decode cX5_readPost 12 = .ok (.aload_n 0, 1) := d_by (d_at odX5_readPost ofX5_readPost 12) rfl
theorem dX5_readPost_13 : decode cX5_readPost 13 = .ok (.iload_n 1, 1) := d_by (d_at odX5_readPost ofX5_readPost 13) rfl
theorem dX5_readPost_14 : decode cX5_readPost 14 = .ok (.aload_n 0, 1) := d_by (d_at odX5_readPost ofX5_readPost 14) rfl
theorem dX5_readPost_15 : decode cX5_readPost 15 = .ok (.getfield 47, 3) := d_by (d_at odX5_readPost ofX5_readPost 15) rfl
theorem dX5_readPost_18 : decode cX5_readPost 18 = .ok (.arraylength, 1) := d_by (d_at odX5_readPost ofX5_readPost 18) rfl
theorem dX5_readPost_19 : decode cX5_readPost 19 = .ok (.invokestatic 60, 3) := d_by (d_at odX5_readPost ofX5_readPost 19) rfl
theorem dX5_readPost_22 : decode cX5_readPost 22 = .ok (.putfield 9, 3) := d_by (d_at odX5_readPost ofX5_readPost 22) rfl
theorem dX5_readPost_25 : decode cX5_readPost 25 = .ok (.aload_n 0, 1) := d_by (d_at odX5_readPost ofX5_readPost 25) rfl
theorem dX5_readPost_26 : decode cX5_readPost 26 = .ok (.iconst 0, 1) := d_by (d_at odX5_readPost ofX5_readPost 26) rfl
theorem dX5_readPost_27 : decode cX5_readPost 27 = .ok (.putfield 15, 3) := d_by (d_at odX5_readPost ofX5_readPost 27) rfl
theorem dX5_readPost_30 : decode cX5_readPost 30 = .ok (.aload_n 0, 1) := d_by (d_at odX5_readPost ofX5_readPost 30) rfl
theorem dX5_readPost_31 : decode cX5_readPost 31 = .ok (.iconst 0, 1) := d_by (d_at odX5_readPost ofX5_readPost 31) rfl
theorem dX5_readPost_32 : decode cX5_readPost 32 = .ok (.putfield 38, 3) := d_by (d_at odX5_readPost ofX5_readPost 32) rfl
theorem dX5_readPost_35 : decode cX5_readPost 35 = .ok (.aload_n 0, 1) := d_by (d_at odX5_readPost ofX5_readPost 35) rfl
theorem dX5_readPost_36 : decode cX5_readPost 36 = .ok (.iconst 0, 1) := d_by (d_at odX5_readPost ofX5_readPost 36) rfl
theorem dX5_readPost_37 : decode cX5_readPost 37 = .ok (.putfield 41, 3) := d_by (d_at odX5_readPost ofX5_readPost 37) rfl
theorem dX5_readPost_40 : decode cX5_readPost 40 = .ok (.aload_n 0, 1) := d_by (d_at odX5_readPost ofX5_readPost 40) rfl
theorem dX5_readPost_41 : decode cX5_readPost 41 = .ok (.iconst (-1), 1) := d_by (d_at odX5_readPost ofX5_readPost 41) rfl
theorem dX5_readPost_42 : decode cX5_readPost 42 = .ok (.putfield 44, 3) := d_by (d_at odX5_readPost ofX5_readPost 42) rfl
theorem dX5_readPost_45 : decode cX5_readPost 45 = .ok (.iconst 0, 1) := d_by (d_at odX5_readPost ofX5_readPost 45) rfl
theorem dX5_readPost_46 : decode cX5_readPost 46 = .ok (.istore_n 3, 1) := d_by (d_at odX5_readPost ofX5_readPost 46) rfl
theorem dX5_readPost_47 : decode cX5_readPost 47 = .ok (.iload_n 3, 1) := d_by (d_at odX5_readPost ofX5_readPost 47) rfl
theorem dX5_readPost_48 : decode cX5_readPost 48 = .ok (.aload_n 0, 1) := d_by (d_at odX5_readPost ofX5_readPost 48) rfl
theorem dX5_readPost_49 : decode cX5_readPost 49 = .ok (.getfield 9, 3) := d_by (d_at odX5_readPost ofX5_readPost 49) rfl
theorem dX5_readPost_52 : decode cX5_readPost 52 = .ok (.if_icmp .gt 68, 3) := d_by (d_at odX5_readPost ofX5_readPost 52) rfl
theorem dX5_readPost_55 : decode cX5_readPost 55 = .ok (.aload_n 0, 1) := d_by (d_at odX5_readPost ofX5_readPost 55) rfl
theorem dX5_readPost_56 : decode cX5_readPost 56 = .ok (.invokevirtual 66, 3) := d_by (d_at odX5_readPost ofX5_readPost 56) rfl
theorem dX5_readPost_59 : decode cX5_readPost 59 = .ok (.ifCond .ne 5, 3) := d_by (d_at odX5_readPost ofX5_readPost 59) rfl
theorem dX5_readPost_62 : decode cX5_readPost 62 = .ok (.iconst 0, 1) := d_by (d_at odX5_readPost ofX5_readPost 62) rfl
theorem dX5_readPost_63 : decode cX5_readPost 63 = .ok (.ireturn, 1) := d_by (d_at odX5_readPost ofX5_readPost 63) rfl
theorem dX5_readPost_64 : decode cX5_readPost 64 = .ok (.aload_n 0, 1) := d_by (d_at odX5_readPost ofX5_readPost 64) rfl
theorem dX5_readPost_65 : decode cX5_readPost 65 = .ok (.invokevirtual 70, 3) := d_by (d_at odX5_readPost ofX5_readPost 65) rfl
theorem dX5_readPost_68 : decode cX5_readPost 68 = .ok (.aload_n 0, 1) := d_by (d_at odX5_readPost ofX5_readPost 68) rfl
theorem dX5_readPost_69 : decode cX5_readPost 69 = .ok (.getfield 18, 3) := d_by (d_at odX5_readPost ofX5_readPost 69) rfl
theorem dX5_readPost_72 : decode cX5_readPost 72 = .ok (.ifCond .ne 28, 3) := d_by (d_at odX5_readPost ofX5_readPost 72) rfl
theorem dX5_readPost_75 : decode cX5_readPost 75 = .ok (.aload_n 0, 1) := d_by (d_at odX5_readPost ofX5_readPost 75) rfl
theorem dX5_readPost_76 : decode cX5_readPost 76 = .ok (.getfield 51, 3) := d_by (d_at odX5_readPost ofX5_readPost 76) rfl
theorem dX5_readPost_79 : decode cX5_readPost 79 = .ok (.getfield 73, 3) := d_by (d_at odX5_readPost ofX5_readPost 79) rfl
theorem dX5_readPost_82 : decode cX5_readPost 82 = .ok (.ifCond .gt 12, 3) := d_by (d_at odX5_readPost ofX5_readPost 82) rfl
theorem dX5_readPost_85 : decode cX5_readPost 85 = .ok (.aload_n 0, 1) := d_by (d_at odX5_readPost ofX5_readPost 85) rfl
theorem dX5_readPost_86 : decode cX5_readPost 86 = .ok (.bipush 6, 2) := d_by (d_at odX5_readPost ofX5_readPost 86) rfl
theorem dX5_readPost_88 : decode cX5_readPost 88 = .ok (.invokevirtual 76, 3) := d_by (d_at odX5_readPost ofX5_readPost 88) rfl
theorem dX5_readPost_91 : decode cX5_readPost 91 = .ok (.ifCond .eq 7, 3) := d_by (d_at odX5_readPost ofX5_readPost 91) rfl
theorem dX5_readPost_94 : decode cX5_readPost 94 = .ok (.iconst 1, 1) := d_by (d_at odX5_readPost ofX5_readPost 94) rfl
theorem dX5_readPost_95 : decode cX5_readPost 95 = .ok (.goto 4, 3) := d_by (d_at odX5_readPost ofX5_readPost 95) rfl
theorem dX5_readPost_98 : decode cX5_readPost 98 = .ok (.iconst 0, 1) := d_by (d_at odX5_readPost ofX5_readPost 98) rfl
theorem dX5_readPost_99 : decode cX5_readPost 99 = .ok (.ireturn, 1) := d_by (d_at odX5_readPost ofX5_readPost 99) rfl
theorem dX5_readPost_100 : decode cX5_readPost 100 = .ok (.aload_n 0, 1) := d_by (d_at odX5_readPost ofX5_readPost 100) rfl
theorem dX5_readPost_101 : decode cX5_readPost 101 = .ok (.getfield 18, 3) := d_by (d_at odX5_readPost ofX5_readPost 101) rfl
theorem dX5_readPost_104 : decode cX5_readPost 104 = .ok (.iconst 3, 1) := d_by (d_at odX5_readPost ofX5_readPost 104) rfl
theorem dX5_readPost_105 : decode cX5_readPost 105 = .ok (.if_icmp .eq 9, 3) := d_by (d_at odX5_readPost ofX5_readPost 105) rfl
theorem dX5_readPost_108 : decode cX5_readPost 108 = .ok (.aload_n 0, 1) := d_by (d_at odX5_readPost ofX5_readPost 108) rfl
theorem dX5_readPost_109 : decode cX5_readPost 109 = .ok (.iconst 1, 1) := d_by (d_at odX5_readPost ofX5_readPost 109) rfl
theorem dX5_readPost_110 : decode cX5_readPost 110 = .ok (.invokevirtual 76, 3) := d_by (d_at odX5_readPost ofX5_readPost 110) rfl
theorem dX5_readPost_113 : decode cX5_readPost 113 = .ok (.ireturn, 1) := d_by (d_at odX5_readPost ofX5_readPost 113) rfl
theorem dX5_readPost_114 : decode cX5_readPost 114 = .ok (.iinc 3 1, 3) := d_by (d_at odX5_readPost ofX5_readPost 114) rfl
theorem dX5_readPost_117 : decode cX5_readPost 117 = .ok (.goto (-70), 3) := d_by (d_at odX5_readPost ofX5_readPost 117) rfl
set_option maxRecDepth 100000 in
def bX5_faulty : List Nat := [42, 27, 181, 0, 41, 42, 42, 180, 0, 21, 181, 0, 44, 3, 172]
set_option maxRecDepth 100000 in
theorem bbX5_faulty : cX5_faulty.data.toList.map UInt8.toNat = bX5_faulty := by decide +kernel
set_option maxRecDepth 100000 in
def tX5_faulty : Lean.RArray dLf := .branch 6 (.branch 2 (.branch 1 (.leaf (0, .aload_n 0, 1)) (.leaf (1, .iload_n 1, 1))) (.branch 5 (.leaf (2, .putfield 41, 3)) (.leaf (5, .aload_n 0, 1)))) (.branch 10 (.branch 7 (.leaf (6, .aload_n 0, 1)) (.leaf (7, .getfield 21, 3))) (.branch 13 (.leaf (10, .putfield 44, 3)) (.branch 14 (.leaf (13, .iconst 0, 1)) (.leaf (14, .ireturn, 1)))))
noncomputable def oX5_faulty : List dLf := dFl tX5_faulty
theorem ofX5_faulty : dFl tX5_faulty = oX5_faulty := rfl
set_option maxRecDepth 100000 in
theorem odX5_faulty : ∀ q ∈ oX5_faulty, decode cX5_faulty q.1 = .ok (q.2.1, q.2.2) := q_go qT_ok bbX5_faulty oX5_faulty 0 (by decide +kernel)
theorem dX5_faulty_0 : decode cX5_faulty 0 = .ok (.aload_n 0, 1) := d_by (d_at odX5_faulty ofX5_faulty 0) rfl
theorem dX5_faulty_1 : decode cX5_faulty 1 = .ok (.iload_n 1, 1) := d_by (d_at odX5_faulty ofX5_faulty 1) rfl
theorem dX5_faulty_2 : decode cX5_faulty 2 = .ok (.putfield 41, 3) := d_by (d_at odX5_faulty ofX5_faulty 2) rfl
theorem dX5_faulty_5 : decode cX5_faulty 5 = .ok (.aload_n 0, 1) := d_by (d_at odX5_faulty ofX5_faulty 5) rfl
theorem dX5_faulty_6 : decode cX5_faulty 6 = .ok (.aload_n 0, 1) := d_by (d_at odX5_faulty ofX5_faulty 6) rfl
theorem dX5_faulty_7 : decode cX5_faulty 7 = .ok (.getfield 21, 3) := d_by (d_at odX5_faulty ofX5_faulty 7) rfl
theorem dX5_faulty_10 : decode cX5_faulty 10 = .ok (.putfield 44, 3) := d_by (d_at odX5_faulty ofX5_faulty 10) rfl
theorem dX5_faulty_13 : decode cX5_faulty 13 = .ok (.iconst 0, 1) := d_by (d_at odX5_faulty ofX5_faulty 13) rfl
theorem dX5_faulty_14 : decode cX5_faulty 14 = .ok (.ireturn, 1) := d_by (d_at odX5_faulty ofX5_faulty 14) rfl
set_option maxRecDepth 100000 in
def bX5_readLine : List Nat := [42, 182, 0, 70, 42, 182, 0, 80, 60, 27, 16, 254, 160, 0, 9, 42, 4, 182, 0, 76, 172, 42, 180, 0, 51, 180, 0, 84, 158, 0, 7, 4, 167, 0, 4, 3, 61, 27, 154, 0, 20, 28, 153, 0, 11, 42, 6, 182, 0, 76, 167, 0, 7, 42, 182, 0, 87, 172, 28, 154, 0, 10, 42, 16, 6, 182, 0, 76, 172, 27, 170, 0, 0, 0, 0, 174, 0, 0, 0, 1, 0, 0, 0, 4, 0, 0, 0, 30, 0, 0, 0, 55, 0, 0, 0, 95, 0, 0, 0, 134, 42, 180, 0, 51, 180, 0, 73, 16, 7, 162, 0, 10, 42, 182, 0, 90, 167, 0, 8, 42, 8, 182, 0, 76, 172, 42, 180, 0, 51, 180, 0, 93, 16, 12, 162, 0, 25, 42, 42, 180, 0, 51, 180, 0, 96, 42, 180, 0, 51, 180, 0, 93, 50, 182, 0, 100, 167, 0, 8, 42, 8, 182, 0, 76, 172, 42, 180, 0, 51, 180, 0, 104, 8, 162, 0, 25, 42, 42, 180, 0, 51, 180, 0, 107, 42, 180, 0, 51, 180, 0, 104, 50, 182, 0, 111, 167, 0, 8, 42, 8, 182, 0, 76, 172, 42, 180, 0, 51, 180, 0, 115, 16, 8, 162, 0, 25, 42, 42, 180, 0, 51, 180, 0, 118, 42, 180, 0, 51, 180, 0, 115, 50, 182, 0, 122, 167, 0, 8, 42, 8, 182, 0, 76, 172, 42, 180, 0, 51, 180, 0, 126, 16, 8, 162, 0, 25, 42, 42, 180, 0, 51, 180, 0, 129, 42, 180, 0, 51, 180, 0, 126, 50, 182, 0, 133, 167, 0, 8, 42, 8, 182, 0, 76, 172]
set_option maxRecDepth 100000 in
theorem bbX5_readLine : cX5_readLine.data.toList.map UInt8.toNat = bX5_readLine := by decide +kernel
theorem eX5_readLine_70 : decode cX5_readLine 70 = .ok (.tableswitch 174 1 4 #[30, 55, 95, 134], 30) := by decide +kernel
set_option maxRecDepth 100000 in
def oX5_readLines0 : List dLf := [(0, .aload_n 0, 1), (1, .invokevirtual 70, 3), (4, .aload_n 0, 1), (5, .invokevirtual 80, 3), (8, .istore_n 1, 1), (9, .iload_n 1, 1), (10, .bipush (-2), 2), (12, .if_icmp .ne 9, 3), (15, .aload_n 0, 1), (16, .iconst 1, 1), (17, .invokevirtual 76, 3), (20, .ireturn, 1), (21, .aload_n 0, 1), (22, .getfield 51, 3), (25, .getfield 84, 3), (28, .ifCond .le 7, 3), (31, .iconst 1, 1), (32, .goto 4, 3), (35, .iconst 0, 1), (36, .istore_n 2, 1), (37, .iload_n 1, 1), (38, .ifCond .ne 20, 3), (41, .iload_n 2, 1), (42, .ifCond .eq 11, 3), (45, .aload_n 0, 1), (46, .iconst 3, 1), (47, .invokevirtual 76, 3), (50, .goto 7, 3), (53, .aload_n 0, 1), (54, .invokevirtual 87, 3), (57, .ireturn, 1), (58, .iload_n 2, 1), (59, .ifCond .ne 10, 3), (62, .aload_n 0, 1), (63, .bipush 6, 2), (65, .invokevirtual 76, 3), (68, .ireturn, 1), (69, .iload_n 1, 1)]
set_option maxRecDepth 100000 in
theorem odX5_readLines0 : ∀ q ∈ oX5_readLines0, decode cX5_readLine q.1 = .ok (q.2.1, q.2.2) := q_go qT_ok bbX5_readLine oX5_readLines0 0 (by decide +kernel)
set_option maxRecDepth 100000 in
def oX5_readLines2 : List dLf := [(100, .aload_n 0, 1), (101, .getfield 51, 3), (104, .getfield 73, 3), (107, .bipush 7, 2), (109, .if_icmp .ge 10, 3), (112, .aload_n 0, 1), (113, .invokevirtual 90, 3), (116, .goto 8, 3), (119, .aload_n 0, 1), (120, .iconst 5, 1), (121, .invokevirtual 76, 3), (124, .ireturn, 1), (125, .aload_n 0, 1), (126, .getfield 51, 3), (129, .getfield 93, 3), (132, .bipush 12, 2), (134, .if_icmp .ge 25, 3), (137, .aload_n 0, 1), (138, .aload_n 0, 1), (139, .getfield 51, 3), (142, .getfield 96, 3), (145, .aload_n 0, 1), (146, .getfield 51, 3), (149, .getfield 93, 3), (152, .aaload, 1), (153, .invokevirtual 100, 3), (156, .goto 8, 3), (159, .aload_n 0, 1), (160, .iconst 5, 1), (161, .invokevirtual 76, 3), (164, .ireturn, 1), (165, .aload_n 0, 1), (166, .getfield 51, 3), (169, .getfield 104, 3), (172, .iconst 5, 1), (173, .if_icmp .ge 25, 3), (176, .aload_n 0, 1), (177, .aload_n 0, 1), (178, .getfield 51, 3), (181, .getfield 107, 3), (184, .aload_n 0, 1), (185, .getfield 51, 3), (188, .getfield 104, 3), (191, .aaload, 1), (192, .invokevirtual 111, 3), (195, .goto 8, 3), (198, .aload_n 0, 1), (199, .iconst 5, 1), (200, .invokevirtual 76, 3), (203, .ireturn, 1), (204, .aload_n 0, 1), (205, .getfield 51, 3), (208, .getfield 115, 3), (211, .bipush 8, 2), (213, .if_icmp .ge 25, 3), (216, .aload_n 0, 1), (217, .aload_n 0, 1), (218, .getfield 51, 3), (221, .getfield 118, 3), (224, .aload_n 0, 1), (225, .getfield 51, 3), (228, .getfield 115, 3), (231, .aaload, 1), (232, .invokevirtual 122, 3), (235, .goto 8, 3), (238, .aload_n 0, 1), (239, .iconst 5, 1), (240, .invokevirtual 76, 3), (243, .ireturn, 1), (244, .aload_n 0, 1), (245, .getfield 51, 3), (248, .getfield 126, 3), (251, .bipush 8, 2), (253, .if_icmp .ge 25, 3), (256, .aload_n 0, 1), (257, .aload_n 0, 1), (258, .getfield 51, 3), (261, .getfield 129, 3), (264, .aload_n 0, 1), (265, .getfield 51, 3), (268, .getfield 126, 3), (271, .aaload, 1), (272, .invokevirtual 133, 3), (275, .goto 8, 3), (278, .aload_n 0, 1), (279, .iconst 5, 1), (280, .invokevirtual 76, 3), (283, .ireturn, 1)]
set_option maxRecDepth 100000 in
theorem odX5_readLines2 : ∀ q ∈ oX5_readLines2, decode cX5_readLine q.1 = .ok (q.2.1, q.2.2) := q_go qT_ok bbX5_readLine oX5_readLines2 100 (by decide +kernel)
set_option maxRecDepth 100000 in
def oX5_readLine : List dLf := [(0, .aload_n 0, 1), (1, .invokevirtual 70, 3), (4, .aload_n 0, 1), (5, .invokevirtual 80, 3), (8, .istore_n 1, 1), (9, .iload_n 1, 1), (10, .bipush (-2), 2), (12, .if_icmp .ne 9, 3), (15, .aload_n 0, 1), (16, .iconst 1, 1), (17, .invokevirtual 76, 3), (20, .ireturn, 1), (21, .aload_n 0, 1), (22, .getfield 51, 3), (25, .getfield 84, 3), (28, .ifCond .le 7, 3), (31, .iconst 1, 1), (32, .goto 4, 3), (35, .iconst 0, 1), (36, .istore_n 2, 1), (37, .iload_n 1, 1), (38, .ifCond .ne 20, 3), (41, .iload_n 2, 1), (42, .ifCond .eq 11, 3), (45, .aload_n 0, 1), (46, .iconst 3, 1), (47, .invokevirtual 76, 3), (50, .goto 7, 3), (53, .aload_n 0, 1), (54, .invokevirtual 87, 3), (57, .ireturn, 1), (58, .iload_n 2, 1), (59, .ifCond .ne 10, 3), (62, .aload_n 0, 1), (63, .bipush 6, 2), (65, .invokevirtual 76, 3), (68, .ireturn, 1), (69, .iload_n 1, 1), (70, .tableswitch 174 1 4 #[30, 55, 95, 134], 30), (100, .aload_n 0, 1), (101, .getfield 51, 3), (104, .getfield 73, 3), (107, .bipush 7, 2), (109, .if_icmp .ge 10, 3), (112, .aload_n 0, 1), (113, .invokevirtual 90, 3), (116, .goto 8, 3), (119, .aload_n 0, 1), (120, .iconst 5, 1), (121, .invokevirtual 76, 3), (124, .ireturn, 1), (125, .aload_n 0, 1), (126, .getfield 51, 3), (129, .getfield 93, 3), (132, .bipush 12, 2), (134, .if_icmp .ge 25, 3), (137, .aload_n 0, 1), (138, .aload_n 0, 1), (139, .getfield 51, 3), (142, .getfield 96, 3), (145, .aload_n 0, 1), (146, .getfield 51, 3), (149, .getfield 93, 3), (152, .aaload, 1), (153, .invokevirtual 100, 3), (156, .goto 8, 3), (159, .aload_n 0, 1), (160, .iconst 5, 1), (161, .invokevirtual 76, 3), (164, .ireturn, 1), (165, .aload_n 0, 1), (166, .getfield 51, 3), (169, .getfield 104, 3), (172, .iconst 5, 1), (173, .if_icmp .ge 25, 3), (176, .aload_n 0, 1), (177, .aload_n 0, 1), (178, .getfield 51, 3), (181, .getfield 107, 3), (184, .aload_n 0, 1), (185, .getfield 51, 3), (188, .getfield 104, 3), (191, .aaload, 1), (192, .invokevirtual 111, 3), (195, .goto 8, 3), (198, .aload_n 0, 1), (199, .iconst 5, 1), (200, .invokevirtual 76, 3), (203, .ireturn, 1), (204, .aload_n 0, 1), (205, .getfield 51, 3), (208, .getfield 115, 3), (211, .bipush 8, 2), (213, .if_icmp .ge 25, 3), (216, .aload_n 0, 1), (217, .aload_n 0, 1), (218, .getfield 51, 3), (221, .getfield 118, 3), (224, .aload_n 0, 1), (225, .getfield 51, 3), (228, .getfield 115, 3), (231, .aaload, 1), (232, .invokevirtual 122, 3), (235, .goto 8, 3), (238, .aload_n 0, 1), (239, .iconst 5, 1), (240, .invokevirtual 76, 3), (243, .ireturn, 1), (244, .aload_n 0, 1), (245, .getfield 51, 3), (248, .getfield 126, 3), (251, .bipush 8, 2), (253, .if_icmp .ge 25, 3), (256, .aload_n 0, 1), (257, .aload_n 0, 1), (258, .getfield 51, 3), (261, .getfield 129, 3), (264, .aload_n 0, 1), (265, .getfield 51, 3), (268, .getfield 126, 3), (271, .aaload, 1), (272, .invokevirtual 133, 3), (275, .goto 8, 3), (278, .aload_n 0, 1), (279, .iconst 5, 1), (280, .invokevirtual 76, 3), (283, .ireturn, 1)]
set_option maxRecDepth 100000 in
theorem odX5_readLine : ∀ q ∈ oX5_readLine, decode cX5_readLine q.1 = .ok (q.2.1, q.2.2) := by
  have e : oX5_readLine = oX5_readLines0 ++ ([(70, .tableswitch 174 1 4 #[30, 55, 95, 134], 30)] ++ (oX5_readLines2)) := rfl
  rw [e]
  exact List.forall_mem_append.mpr ⟨odX5_readLines0, List.forall_mem_append.mpr ⟨(List.forall_mem_singleton.mpr eX5_readLine_70), odX5_readLines2⟩⟩
set_option maxRecDepth 100000 in
def tX5_readLine : Lean.RArray dLf := .branch 152 (.branch 58 (.branch 28 (.branch 12 (.branch 5 (.branch 1 (.leaf (0, .aload_n 0, 1)) (.branch 4 (.leaf (1, .invokevirtual 70, 3)) (.leaf (4, .aload_n 0, 1)))) (.branch 9 (.branch 8 (.leaf (5, .invokevirtual 80, 3)) (.leaf (8, .istore_n 1, 1))) (.branch 10 (.leaf (9, .iload_n 1, 1)) (.leaf (10, .bipush (-2), 2))))) (.branch 20 (.branch 16 (.branch 15 (.leaf (12, .if_icmp .ne 9, 3)) (.leaf (15, .aload_n 0, 1))) (.branch 17 (.leaf (16, .iconst 1, 1)) (.leaf (17, .invokevirtual 76, 3)))) (.branch 22 (.branch 21 (.leaf (20, .ireturn, 1)) (.leaf (21, .aload_n 0, 1))) (.branch 25 (.leaf (22, .getfield 51, 3)) (.leaf (25, .getfield 84, 3)))))) (.branch 42 (.branch 36 (.branch 32 (.branch 31 (.leaf (28, .ifCond .le 7, 3)) (.leaf (31, .iconst 1, 1))) (.branch 35 (.leaf (32, .goto 4, 3)) (.leaf (35, .iconst 0, 1)))) (.branch 38 (.branch 37 (.leaf (36, .istore_n 2, 1)) (.leaf (37, .iload_n 1, 1))) (.branch 41 (.leaf (38, .ifCond .ne 20, 3)) (.leaf (41, .iload_n 2, 1))))) (.branch 50 (.branch 46 (.branch 45 (.leaf (42, .ifCond .eq 11, 3)) (.leaf (45, .aload_n 0, 1))) (.branch 47 (.leaf (46, .iconst 3, 1)) (.leaf (47, .invokevirtual 76, 3)))) (.branch 54 (.branch 53 (.leaf (50, .goto 7, 3)) (.leaf (53, .aload_n 0, 1))) (.branch 57 (.leaf (54, .invokevirtual 87, 3)) (.leaf (57, .ireturn, 1))))))) (.branch 119 (.branch 100 (.branch 65 (.branch 62 (.branch 59 (.leaf (58, .iload_n 2, 1)) (.leaf (59, .ifCond .ne 10, 3))) (.branch 63 (.leaf (62, .aload_n 0, 1)) (.leaf (63, .bipush 6, 2)))) (.branch 69 (.branch 68 (.leaf (65, .invokevirtual 76, 3)) (.leaf (68, .ireturn, 1))) (.branch 70 (.leaf (69, .iload_n 1, 1)) (.leaf (70, .tableswitch 174 1 4 #[30, 55, 95, 134], 30))))) (.branch 109 (.branch 104 (.branch 101 (.leaf (100, .aload_n 0, 1)) (.leaf (101, .getfield 51, 3))) (.branch 107 (.leaf (104, .getfield 73, 3)) (.leaf (107, .bipush 7, 2)))) (.branch 113 (.branch 112 (.leaf (109, .if_icmp .ge 10, 3)) (.leaf (112, .aload_n 0, 1))) (.branch 116 (.leaf (113, .invokevirtual 90, 3)) (.leaf (116, .goto 8, 3)))))) (.branch 134 (.branch 125 (.branch 121 (.branch 120 (.leaf (119, .aload_n 0, 1)) (.leaf (120, .iconst 5, 1))) (.branch 124 (.leaf (121, .invokevirtual 76, 3)) (.leaf (124, .ireturn, 1)))) (.branch 129 (.branch 126 (.leaf (125, .aload_n 0, 1)) (.leaf (126, .getfield 51, 3))) (.branch 132 (.leaf (129, .getfield 93, 3)) (.leaf (132, .bipush 12, 2))))) (.branch 142 (.branch 138 (.branch 137 (.leaf (134, .if_icmp .ge 25, 3)) (.leaf (137, .aload_n 0, 1))) (.branch 139 (.leaf (138, .aload_n 0, 1)) (.leaf (139, .getfield 51, 3)))) (.branch 146 (.branch 145 (.leaf (142, .getfield 96, 3)) (.leaf (145, .aload_n 0, 1))) (.branch 149 (.leaf (146, .getfield 51, 3)) (.leaf (149, .getfield 93, 3)))))))) (.branch 217 (.branch 184 (.branch 166 (.branch 160 (.branch 156 (.branch 153 (.leaf (152, .aaload, 1)) (.leaf (153, .invokevirtual 100, 3))) (.branch 159 (.leaf (156, .goto 8, 3)) (.leaf (159, .aload_n 0, 1)))) (.branch 164 (.branch 161 (.leaf (160, .iconst 5, 1)) (.leaf (161, .invokevirtual 76, 3))) (.branch 165 (.leaf (164, .ireturn, 1)) (.leaf (165, .aload_n 0, 1))))) (.branch 176 (.branch 172 (.branch 169 (.leaf (166, .getfield 51, 3)) (.leaf (169, .getfield 104, 3))) (.branch 173 (.leaf (172, .iconst 5, 1)) (.leaf (173, .if_icmp .ge 25, 3)))) (.branch 178 (.branch 177 (.leaf (176, .aload_n 0, 1)) (.leaf (177, .aload_n 0, 1))) (.branch 181 (.leaf (178, .getfield 51, 3)) (.leaf (181, .getfield 107, 3)))))) (.branch 200 (.branch 192 (.branch 188 (.branch 185 (.leaf (184, .aload_n 0, 1)) (.leaf (185, .getfield 51, 3))) (.branch 191 (.leaf (188, .getfield 104, 3)) (.leaf (191, .aaload, 1)))) (.branch 198 (.branch 195 (.leaf (192, .invokevirtual 111, 3)) (.leaf (195, .goto 8, 3))) (.branch 199 (.leaf (198, .aload_n 0, 1)) (.leaf (199, .iconst 5, 1))))) (.branch 208 (.branch 204 (.branch 203 (.leaf (200, .invokevirtual 76, 3)) (.leaf (203, .ireturn, 1))) (.branch 205 (.leaf (204, .aload_n 0, 1)) (.leaf (205, .getfield 51, 3)))) (.branch 213 (.branch 211 (.leaf (208, .getfield 115, 3)) (.leaf (211, .bipush 8, 2))) (.branch 216 (.leaf (213, .if_icmp .ge 25, 3)) (.leaf (216, .aload_n 0, 1))))))) (.branch 251 (.branch 235 (.branch 225 (.branch 221 (.branch 218 (.leaf (217, .aload_n 0, 1)) (.leaf (218, .getfield 51, 3))) (.branch 224 (.leaf (221, .getfield 118, 3)) (.leaf (224, .aload_n 0, 1)))) (.branch 231 (.branch 228 (.leaf (225, .getfield 51, 3)) (.leaf (228, .getfield 115, 3))) (.branch 232 (.leaf (231, .aaload, 1)) (.leaf (232, .invokevirtual 122, 3))))) (.branch 243 (.branch 239 (.branch 238 (.leaf (235, .goto 8, 3)) (.leaf (238, .aload_n 0, 1))) (.branch 240 (.leaf (239, .iconst 5, 1)) (.leaf (240, .invokevirtual 76, 3)))) (.branch 245 (.branch 244 (.leaf (243, .ireturn, 1)) (.leaf (244, .aload_n 0, 1))) (.branch 248 (.leaf (245, .getfield 51, 3)) (.leaf (248, .getfield 126, 3)))))) (.branch 268 (.branch 258 (.branch 256 (.branch 253 (.leaf (251, .bipush 8, 2)) (.leaf (253, .if_icmp .ge 25, 3))) (.branch 257 (.leaf (256, .aload_n 0, 1)) (.leaf (257, .aload_n 0, 1)))) (.branch 264 (.branch 261 (.leaf (258, .getfield 51, 3)) (.leaf (261, .getfield 129, 3))) (.branch 265 (.leaf (264, .aload_n 0, 1)) (.leaf (265, .getfield 51, 3))))) (.branch 278 (.branch 272 (.branch 271 (.leaf (268, .getfield 126, 3)) (.leaf (271, .aaload, 1))) (.branch 275 (.leaf (272, .invokevirtual 133, 3)) (.leaf (275, .goto 8, 3)))) (.branch 280 (.branch 279 (.leaf (278, .aload_n 0, 1)) (.leaf (279, .iconst 5, 1))) (.branch 283 (.leaf (280, .invokevirtual 76, 3)) (.leaf (283, .ireturn, 1))))))))
set_option maxRecDepth 100000 in
theorem ofX5_readLine : dFl tX5_readLine = oX5_readLine := rfl
theorem dX5_readLine_0 : decode cX5_readLine 0 = .ok (.aload_n 0, 1) := d_by (d_at odX5_readLine ofX5_readLine 0) rfl
theorem dX5_readLine_1 : decode cX5_readLine 1 = .ok (.invokevirtual 70, 3) := d_by (d_at odX5_readLine ofX5_readLine 1) rfl
theorem dX5_readLine_4 : decode cX5_readLine 4 = .ok (.aload_n 0, 1) := d_by (d_at odX5_readLine ofX5_readLine 4) rfl
theorem dX5_readLine_5 : decode cX5_readLine 5 = .ok (.invokevirtual 80, 3) := d_by (d_at odX5_readLine ofX5_readLine 5) rfl
theorem dX5_readLine_8 : decode cX5_readLine 8 = .ok (.istore_n 1, 1) := d_by (d_at odX5_readLine ofX5_readLine 8) rfl
theorem dX5_readLine_9 : decode cX5_readLine 9 = .ok (.iload_n 1, 1) := d_by (d_at odX5_readLine ofX5_readLine 9) rfl
theorem dX5_readLine_10 : decode cX5_readLine 10 = .ok (.bipush (-2), 2) := d_by (d_at odX5_readLine ofX5_readLine 10) rfl
theorem dX5_readLine_12 : decode cX5_readLine 12 = .ok (.if_icmp .ne 9, 3) := d_by (d_at odX5_readLine ofX5_readLine 12) rfl
theorem dX5_readLine_15 : decode cX5_readLine 15 = .ok (.aload_n 0, 1) := d_by (d_at odX5_readLine ofX5_readLine 15) rfl
theorem dX5_readLine_16 : decode cX5_readLine 16 = .ok (.iconst 1, 1) := d_by (d_at odX5_readLine ofX5_readLine 16) rfl
theorem dX5_readLine_17 : decode cX5_readLine 17 = .ok (.invokevirtual 76, 3) := d_by (d_at odX5_readLine ofX5_readLine 17) rfl
theorem dX5_readLine_20 : decode cX5_readLine 20 = .ok (.ireturn, 1) := d_by (d_at odX5_readLine ofX5_readLine 20) rfl
theorem dX5_readLine_21 : decode cX5_readLine 21 = .ok (.aload_n 0, 1) := d_by (d_at odX5_readLine ofX5_readLine 21) rfl
theorem dX5_readLine_22 : decode cX5_readLine 22 = .ok (.getfield 51, 3) := d_by (d_at odX5_readLine ofX5_readLine 22) rfl
theorem dX5_readLine_25 : decode cX5_readLine 25 = .ok (.getfield 84, 3) := d_by (d_at odX5_readLine ofX5_readLine 25) rfl
theorem dX5_readLine_28 : decode cX5_readLine 28 = .ok (.ifCond .le 7, 3) := d_by (d_at odX5_readLine ofX5_readLine 28) rfl
theorem dX5_readLine_31 : decode cX5_readLine 31 = .ok (.iconst 1, 1) := d_by (d_at odX5_readLine ofX5_readLine 31) rfl
theorem dX5_readLine_32 : decode cX5_readLine 32 = .ok (.goto 4, 3) := d_by (d_at odX5_readLine ofX5_readLine 32) rfl
theorem dX5_readLine_35 : decode cX5_readLine 35 = .ok (.iconst 0, 1) := d_by (d_at odX5_readLine ofX5_readLine 35) rfl
theorem dX5_readLine_36 : decode cX5_readLine 36 = .ok (.istore_n 2, 1) := d_by (d_at odX5_readLine ofX5_readLine 36) rfl
theorem dX5_readLine_37 : decode cX5_readLine 37 = .ok (.iload_n 1, 1) := d_by (d_at odX5_readLine ofX5_readLine 37) rfl
theorem dX5_readLine_38 : decode cX5_readLine 38 = .ok (.ifCond .ne 20, 3) := d_by (d_at odX5_readLine ofX5_readLine 38) rfl
theorem dX5_readLine_41 : decode cX5_readLine 41 = .ok (.iload_n 2, 1) := d_by (d_at odX5_readLine ofX5_readLine 41) rfl
theorem dX5_readLine_42 : decode cX5_readLine 42 = .ok (.ifCond .eq 11, 3) := d_by (d_at odX5_readLine ofX5_readLine 42) rfl
theorem dX5_readLine_45 : decode cX5_readLine 45 = .ok (.aload_n 0, 1) := d_by (d_at odX5_readLine ofX5_readLine 45) rfl
theorem dX5_readLine_46 : decode cX5_readLine 46 = .ok (.iconst 3, 1) := d_by (d_at odX5_readLine ofX5_readLine 46) rfl
theorem dX5_readLine_47 : decode cX5_readLine 47 = .ok (.invokevirtual 76, 3) := d_by (d_at odX5_readLine ofX5_readLine 47) rfl
theorem dX5_readLine_50 : decode cX5_readLine 50 = .ok (.goto 7, 3) := d_by (d_at odX5_readLine ofX5_readLine 50) rfl
theorem dX5_readLine_53 : decode cX5_readLine 53 = .ok (.aload_n 0, 1) := d_by (d_at odX5_readLine ofX5_readLine 53) rfl
theorem dX5_readLine_54 : decode cX5_readLine 54 = .ok (.invokevirtual 87, 3) := d_by (d_at odX5_readLine ofX5_readLine 54) rfl
theorem dX5_readLine_57 : decode cX5_readLine 57 = .ok (.ireturn, 1) := d_by (d_at odX5_readLine ofX5_readLine 57) rfl
theorem dX5_readLine_58 : decode cX5_readLine 58 = .ok (.iload_n 2, 1) := d_by (d_at odX5_readLine ofX5_readLine 58) rfl
theorem dX5_readLine_59 : decode cX5_readLine 59 = .ok (.ifCond .ne 10, 3) := d_by (d_at odX5_readLine ofX5_readLine 59) rfl
theorem dX5_readLine_62 : decode cX5_readLine 62 = .ok (.aload_n 0, 1) := d_by (d_at odX5_readLine ofX5_readLine 62) rfl
theorem dX5_readLine_63 : decode cX5_readLine 63 = .ok (.bipush 6, 2) := d_by (d_at odX5_readLine ofX5_readLine 63) rfl
theorem dX5_readLine_65 : decode cX5_readLine 65 = .ok (.invokevirtual 76, 3) := d_by (d_at odX5_readLine ofX5_readLine 65) rfl
theorem dX5_readLine_68 : decode cX5_readLine 68 = .ok (.ireturn, 1) := d_by (d_at odX5_readLine ofX5_readLine 68) rfl
theorem dX5_readLine_69 : decode cX5_readLine 69 = .ok (.iload_n 1, 1) := d_by (d_at odX5_readLine ofX5_readLine 69) rfl
theorem dX5_readLine_70 : decode cX5_readLine 70 = .ok (.tableswitch 174 1 4 #[30, 55, 95, 134], 30) := d_by (d_at odX5_readLine ofX5_readLine 70) rfl
theorem dX5_readLine_100 : decode cX5_readLine 100 = .ok (.aload_n 0, 1) := d_by (d_at odX5_readLine ofX5_readLine 100) rfl
theorem dX5_readLine_101 : decode cX5_readLine 101 = .ok (.getfield 51, 3) := d_by (d_at odX5_readLine ofX5_readLine 101) rfl
theorem dX5_readLine_104 : decode cX5_readLine 104 = .ok (.getfield 73, 3) := d_by (d_at odX5_readLine ofX5_readLine 104) rfl
theorem dX5_readLine_107 : decode cX5_readLine 107 = .ok (.bipush 7, 2) := d_by (d_at odX5_readLine ofX5_readLine 107) rfl
theorem dX5_readLine_109 : decode cX5_readLine 109 = .ok (.if_icmp .ge 10, 3) := d_by (d_at odX5_readLine ofX5_readLine 109) rfl
theorem dX5_readLine_112 : decode cX5_readLine 112 = .ok (.aload_n 0, 1) := d_by (d_at odX5_readLine ofX5_readLine 112) rfl
theorem dX5_readLine_113 : decode cX5_readLine 113 = .ok (.invokevirtual 90, 3) := d_by (d_at odX5_readLine ofX5_readLine 113) rfl
theorem dX5_readLine_116 : decode cX5_readLine 116 = .ok (.goto 8, 3) := d_by (d_at odX5_readLine ofX5_readLine 116) rfl
theorem dX5_readLine_119 : decode cX5_readLine 119 = .ok (.aload_n 0, 1) := d_by (d_at odX5_readLine ofX5_readLine 119) rfl
theorem dX5_readLine_120 : decode cX5_readLine 120 = .ok (.iconst 5, 1) := d_by (d_at odX5_readLine ofX5_readLine 120) rfl
theorem dX5_readLine_121 : decode cX5_readLine 121 = .ok (.invokevirtual 76, 3) := d_by (d_at odX5_readLine ofX5_readLine 121) rfl
theorem dX5_readLine_124 : decode cX5_readLine 124 = .ok (.ireturn, 1) := d_by (d_at odX5_readLine ofX5_readLine 124) rfl
theorem dX5_readLine_125 : decode cX5_readLine 125 = .ok (.aload_n 0, 1) := d_by (d_at odX5_readLine ofX5_readLine 125) rfl
theorem dX5_readLine_126 : decode cX5_readLine 126 = .ok (.getfield 51, 3) := d_by (d_at odX5_readLine ofX5_readLine 126) rfl
theorem dX5_readLine_129 : decode cX5_readLine 129 = .ok (.getfield 93, 3) := d_by (d_at odX5_readLine ofX5_readLine 129) rfl
theorem dX5_readLine_132 : decode cX5_readLine 132 = .ok (.bipush 12, 2) := d_by (d_at odX5_readLine ofX5_readLine 132) rfl
theorem dX5_readLine_134 : decode cX5_readLine 134 = .ok (.if_icmp .ge 25, 3) := d_by (d_at odX5_readLine ofX5_readLine 134) rfl
theorem dX5_readLine_137 : decode cX5_readLine 137 = .ok (.aload_n 0, 1) := d_by (d_at odX5_readLine ofX5_readLine 137) rfl
theorem dX5_readLine_138 : decode cX5_readLine 138 = .ok (.aload_n 0, 1) := d_by (d_at odX5_readLine ofX5_readLine 138) rfl
theorem dX5_readLine_139 : decode cX5_readLine 139 = .ok (.getfield 51, 3) := d_by (d_at odX5_readLine ofX5_readLine 139) rfl
theorem dX5_readLine_142 : decode cX5_readLine 142 = .ok (.getfield 96, 3) := d_by (d_at odX5_readLine ofX5_readLine 142) rfl
theorem dX5_readLine_145 : decode cX5_readLine 145 = .ok (.aload_n 0, 1) := d_by (d_at odX5_readLine ofX5_readLine 145) rfl
theorem dX5_readLine_146 : decode cX5_readLine 146 = .ok (.getfield 51, 3) := d_by (d_at odX5_readLine ofX5_readLine 146) rfl
theorem dX5_readLine_149 : decode cX5_readLine 149 = .ok (.getfield 93, 3) := d_by (d_at odX5_readLine ofX5_readLine 149) rfl
theorem dX5_readLine_152 : decode cX5_readLine 152 = .ok (.aaload, 1) := d_by (d_at odX5_readLine ofX5_readLine 152) rfl
theorem dX5_readLine_153 : decode cX5_readLine 153 = .ok (.invokevirtual 100, 3) := d_by (d_at odX5_readLine ofX5_readLine 153) rfl
theorem dX5_readLine_156 : decode cX5_readLine 156 = .ok (.goto 8, 3) := d_by (d_at odX5_readLine ofX5_readLine 156) rfl
theorem dX5_readLine_159 : decode cX5_readLine 159 = .ok (.aload_n 0, 1) := d_by (d_at odX5_readLine ofX5_readLine 159) rfl
theorem dX5_readLine_160 : decode cX5_readLine 160 = .ok (.iconst 5, 1) := d_by (d_at odX5_readLine ofX5_readLine 160) rfl
theorem dX5_readLine_161 : decode cX5_readLine 161 = .ok (.invokevirtual 76, 3) := d_by (d_at odX5_readLine ofX5_readLine 161) rfl
theorem dX5_readLine_164 : decode cX5_readLine 164 = .ok (.ireturn, 1) := d_by (d_at odX5_readLine ofX5_readLine 164) rfl
theorem dX5_readLine_165 : decode cX5_readLine 165 = .ok (.aload_n 0, 1) := d_by (d_at odX5_readLine ofX5_readLine 165) rfl
theorem dX5_readLine_166 : decode cX5_readLine 166 = .ok (.getfield 51, 3) := d_by (d_at odX5_readLine ofX5_readLine 166) rfl
theorem dX5_readLine_169 : decode cX5_readLine 169 = .ok (.getfield 104, 3) := d_by (d_at odX5_readLine ofX5_readLine 169) rfl
theorem dX5_readLine_172 : decode cX5_readLine 172 = .ok (.iconst 5, 1) := d_by (d_at odX5_readLine ofX5_readLine 172) rfl
theorem dX5_readLine_173 : decode cX5_readLine 173 = .ok (.if_icmp .ge 25, 3) := d_by (d_at odX5_readLine ofX5_readLine 173) rfl
theorem dX5_readLine_176 : decode cX5_readLine 176 = .ok (.aload_n 0, 1) := d_by (d_at odX5_readLine ofX5_readLine 176) rfl
theorem dX5_readLine_177 : decode cX5_readLine 177 = .ok (.aload_n 0, 1) := d_by (d_at odX5_readLine ofX5_readLine 177) rfl
theorem dX5_readLine_178 : decode cX5_readLine 178 = .ok (.getfield 51, 3) := d_by (d_at odX5_readLine ofX5_readLine 178) rfl
theorem dX5_readLine_181 : decode cX5_readLine 181 = .ok (.getfield 107, 3) := d_by (d_at odX5_readLine ofX5_readLine 181) rfl
theorem dX5_readLine_184 : decode cX5_readLine 184 = .ok (.aload_n 0, 1) := d_by (d_at odX5_readLine ofX5_readLine 184) rfl
theorem dX5_readLine_185 : decode cX5_readLine 185 = .ok (.getfield 51, 3) := d_by (d_at odX5_readLine ofX5_readLine 185) rfl
theorem dX5_readLine_188 : decode cX5_readLine 188 = .ok (.getfield 104, 3) := d_by (d_at odX5_readLine ofX5_readLine 188) rfl
theorem dX5_readLine_191 : decode cX5_readLine 191 = .ok (.aaload, 1) := d_by (d_at odX5_readLine ofX5_readLine 191) rfl
theorem dX5_readLine_192 : decode cX5_readLine 192 = .ok (.invokevirtual 111, 3) := d_by (d_at odX5_readLine ofX5_readLine 192) rfl
theorem dX5_readLine_195 : decode cX5_readLine 195 = .ok (.goto 8, 3) := d_by (d_at odX5_readLine ofX5_readLine 195) rfl
theorem dX5_readLine_198 : decode cX5_readLine 198 = .ok (.aload_n 0, 1) := d_by (d_at odX5_readLine ofX5_readLine 198) rfl
theorem dX5_readLine_199 : decode cX5_readLine 199 = .ok (.iconst 5, 1) := d_by (d_at odX5_readLine ofX5_readLine 199) rfl
theorem dX5_readLine_200 : decode cX5_readLine 200 = .ok (.invokevirtual 76, 3) := d_by (d_at odX5_readLine ofX5_readLine 200) rfl
theorem dX5_readLine_203 : decode cX5_readLine 203 = .ok (.ireturn, 1) := d_by (d_at odX5_readLine ofX5_readLine 203) rfl
theorem dX5_readLine_204 : decode cX5_readLine 204 = .ok (.aload_n 0, 1) := d_by (d_at odX5_readLine ofX5_readLine 204) rfl
theorem dX5_readLine_205 : decode cX5_readLine 205 = .ok (.getfield 51, 3) := d_by (d_at odX5_readLine ofX5_readLine 205) rfl
theorem dX5_readLine_208 : decode cX5_readLine 208 = .ok (.getfield 115, 3) := d_by (d_at odX5_readLine ofX5_readLine 208) rfl
theorem dX5_readLine_211 : decode cX5_readLine 211 = .ok (.bipush 8, 2) := d_by (d_at odX5_readLine ofX5_readLine 211) rfl
theorem dX5_readLine_213 : decode cX5_readLine 213 = .ok (.if_icmp .ge 25, 3) := d_by (d_at odX5_readLine ofX5_readLine 213) rfl
theorem dX5_readLine_216 : decode cX5_readLine 216 = .ok (.aload_n 0, 1) := d_by (d_at odX5_readLine ofX5_readLine 216) rfl
theorem dX5_readLine_217 : decode cX5_readLine 217 = .ok (.aload_n 0, 1) := d_by (d_at odX5_readLine ofX5_readLine 217) rfl
theorem dX5_readLine_218 : decode cX5_readLine 218 = .ok (.getfield 51, 3) := d_by (d_at odX5_readLine ofX5_readLine 218) rfl
theorem dX5_readLine_221 : decode cX5_readLine 221 = .ok (.getfield 118, 3) := d_by (d_at odX5_readLine ofX5_readLine 221) rfl
theorem dX5_readLine_224 : decode cX5_readLine 224 = .ok (.aload_n 0, 1) := d_by (d_at odX5_readLine ofX5_readLine 224) rfl
theorem dX5_readLine_225 : decode cX5_readLine 225 = .ok (.getfield 51, 3) := d_by (d_at odX5_readLine ofX5_readLine 225) rfl
theorem dX5_readLine_228 : decode cX5_readLine 228 = .ok (.getfield 115, 3) := d_by (d_at odX5_readLine ofX5_readLine 228) rfl
theorem dX5_readLine_231 : decode cX5_readLine 231 = .ok (.aaload, 1) := d_by (d_at odX5_readLine ofX5_readLine 231) rfl
theorem dX5_readLine_232 : decode cX5_readLine 232 = .ok (.invokevirtual 122, 3) := d_by (d_at odX5_readLine ofX5_readLine 232) rfl
theorem dX5_readLine_235 : decode cX5_readLine 235 = .ok (.goto 8, 3) := d_by (d_at odX5_readLine ofX5_readLine 235) rfl
theorem dX5_readLine_238 : decode cX5_readLine 238 = .ok (.aload_n 0, 1) := d_by (d_at odX5_readLine ofX5_readLine 238) rfl
theorem dX5_readLine_239 : decode cX5_readLine 239 = .ok (.iconst 5, 1) := d_by (d_at odX5_readLine ofX5_readLine 239) rfl
theorem dX5_readLine_240 : decode cX5_readLine 240 = .ok (.invokevirtual 76, 3) := d_by (d_at odX5_readLine ofX5_readLine 240) rfl
theorem dX5_readLine_243 : decode cX5_readLine 243 = .ok (.ireturn, 1) := d_by (d_at odX5_readLine ofX5_readLine 243) rfl
theorem dX5_readLine_244 : decode cX5_readLine 244 = .ok (.aload_n 0, 1) := d_by (d_at odX5_readLine ofX5_readLine 244) rfl
theorem dX5_readLine_245 : decode cX5_readLine 245 = .ok (.getfield 51, 3) := d_by (d_at odX5_readLine ofX5_readLine 245) rfl
theorem dX5_readLine_248 : decode cX5_readLine 248 = .ok (.getfield 126, 3) := d_by (d_at odX5_readLine ofX5_readLine 248) rfl
theorem dX5_readLine_251 : decode cX5_readLine 251 = .ok (.bipush 8, 2) := d_by (d_at odX5_readLine ofX5_readLine 251) rfl
theorem dX5_readLine_253 : decode cX5_readLine 253 = .ok (.if_icmp .ge 25, 3) := d_by (d_at odX5_readLine ofX5_readLine 253) rfl
theorem dX5_readLine_256 : decode cX5_readLine 256 = .ok (.aload_n 0, 1) := d_by (d_at odX5_readLine ofX5_readLine 256) rfl
theorem dX5_readLine_257 : decode cX5_readLine 257 = .ok (.aload_n 0, 1) := d_by (d_at odX5_readLine ofX5_readLine 257) rfl
theorem dX5_readLine_258 : decode cX5_readLine 258 = .ok (.getfield 51, 3) := d_by (d_at odX5_readLine ofX5_readLine 258) rfl
theorem dX5_readLine_261 : decode cX5_readLine 261 = .ok (.getfield 129, 3) := d_by (d_at odX5_readLine ofX5_readLine 261) rfl
theorem dX5_readLine_264 : decode cX5_readLine 264 = .ok (.aload_n 0, 1) := d_by (d_at odX5_readLine ofX5_readLine 264) rfl
theorem dX5_readLine_265 : decode cX5_readLine 265 = .ok (.getfield 51, 3) := d_by (d_at odX5_readLine ofX5_readLine 265) rfl
theorem dX5_readLine_268 : decode cX5_readLine 268 = .ok (.getfield 126, 3) := d_by (d_at odX5_readLine ofX5_readLine 268) rfl
theorem dX5_readLine_271 : decode cX5_readLine 271 = .ok (.aaload, 1) := d_by (d_at odX5_readLine ofX5_readLine 271) rfl
theorem dX5_readLine_272 : decode cX5_readLine 272 = .ok (.invokevirtual 133, 3) := d_by (d_at odX5_readLine ofX5_readLine 272) rfl
theorem dX5_readLine_275 : decode cX5_readLine 275 = .ok (.goto 8, 3) := d_by (d_at odX5_readLine ofX5_readLine 275) rfl
theorem dX5_readLine_278 : decode cX5_readLine 278 = .ok (.aload_n 0, 1) := d_by (d_at odX5_readLine ofX5_readLine 278) rfl
theorem dX5_readLine_279 : decode cX5_readLine 279 = .ok (.iconst 5, 1) := d_by (d_at odX5_readLine ofX5_readLine 279) rfl
theorem dX5_readLine_280 : decode cX5_readLine 280 = .ok (.invokevirtual 76, 3) := d_by (d_at odX5_readLine ofX5_readLine 280) rfl
theorem dX5_readLine_283 : decode cX5_readLine 283 = .ok (.ireturn, 1) := d_by (d_at odX5_readLine ofX5_readLine 283) rfl
set_option maxRecDepth 100000 in
def bX5_readHead : List Nat := [42, 18, 137, 182, 0, 138, 153, 0, 12, 42, 5, 7, 182, 0, 142, 154, 0, 5, 3, 172, 42, 180, 0, 51, 42, 180, 0, 24, 181, 0, 84, 42, 18, 146, 182, 0, 138, 153, 0, 12, 42, 3, 6, 182, 0, 142, 154, 0, 5, 3, 172, 42, 180, 0, 51, 42, 180, 0, 24, 181, 0, 148, 42, 18, 150, 182, 0, 138, 153, 0, 13, 42, 3, 16, 50, 182, 0, 142, 154, 0, 5, 3, 172, 42, 180, 0, 51, 42, 180, 0, 24, 181, 0, 152, 42, 18, 154, 182, 0, 138, 153, 0, 13, 42, 3, 16, 100, 182, 0, 142, 154, 0, 5, 3, 172, 42, 180, 0, 51, 42, 180, 0, 24, 181, 0, 156, 4, 172]
set_option maxRecDepth 100000 in
theorem bbX5_readHead : cX5_readHead.data.toList.map UInt8.toNat = bX5_readHead := by decide +kernel
set_option maxRecDepth 100000 in
def tX5_readHead : Lean.RArray dLf := .branch 63 (.branch 31 (.branch 15 (.branch 9 (.branch 3 (.branch 1 (.leaf (0, .aload_n 0, 1)) (.leaf (1, .ldc 137, 2))) (.branch 6 (.leaf (3, .invokevirtual 138, 3)) (.leaf (6, .ifCond .eq 12, 3)))) (.branch 11 (.branch 10 (.leaf (9, .aload_n 0, 1)) (.leaf (10, .iconst 2, 1))) (.branch 12 (.leaf (11, .iconst 4, 1)) (.leaf (12, .invokevirtual 142, 3))))) (.branch 21 (.branch 19 (.branch 18 (.leaf (15, .ifCond .ne 5, 3)) (.leaf (18, .iconst 0, 1))) (.branch 20 (.leaf (19, .ireturn, 1)) (.leaf (20, .aload_n 0, 1)))) (.branch 25 (.branch 24 (.leaf (21, .getfield 51, 3)) (.leaf (24, .aload_n 0, 1))) (.branch 28 (.leaf (25, .getfield 24, 3)) (.leaf (28, .putfield 84, 3)))))) (.branch 46 (.branch 40 (.branch 34 (.branch 32 (.leaf (31, .aload_n 0, 1)) (.leaf (32, .ldc 146, 2))) (.branch 37 (.leaf (34, .invokevirtual 138, 3)) (.leaf (37, .ifCond .eq 12, 3)))) (.branch 42 (.branch 41 (.leaf (40, .aload_n 0, 1)) (.leaf (41, .iconst 0, 1))) (.branch 43 (.leaf (42, .iconst 3, 1)) (.leaf (43, .invokevirtual 142, 3))))) (.branch 52 (.branch 50 (.branch 49 (.leaf (46, .ifCond .ne 5, 3)) (.leaf (49, .iconst 0, 1))) (.branch 51 (.leaf (50, .ireturn, 1)) (.leaf (51, .aload_n 0, 1)))) (.branch 56 (.branch 55 (.leaf (52, .getfield 51, 3)) (.leaf (55, .aload_n 0, 1))) (.branch 59 (.leaf (56, .getfield 24, 3)) (.branch 62 (.leaf (59, .putfield 148, 3)) (.leaf (62, .aload_n 0, 1)))))))) (.branch 95 (.branch 81 (.branch 72 (.branch 68 (.branch 65 (.leaf (63, .ldc 150, 2)) (.leaf (65, .invokevirtual 138, 3))) (.branch 71 (.leaf (68, .ifCond .eq 13, 3)) (.leaf (71, .aload_n 0, 1)))) (.branch 75 (.branch 73 (.leaf (72, .iconst 0, 1)) (.leaf (73, .bipush 50, 2))) (.branch 78 (.leaf (75, .invokevirtual 142, 3)) (.leaf (78, .ifCond .ne 5, 3))))) (.branch 87 (.branch 83 (.branch 82 (.leaf (81, .iconst 0, 1)) (.leaf (82, .ireturn, 1))) (.branch 84 (.leaf (83, .aload_n 0, 1)) (.leaf (84, .getfield 51, 3)))) (.branch 91 (.branch 88 (.leaf (87, .aload_n 0, 1)) (.leaf (88, .getfield 24, 3))) (.branch 94 (.leaf (91, .putfield 152, 3)) (.leaf (94, .aload_n 0, 1)))))) (.branch 113 (.branch 104 (.branch 100 (.branch 97 (.leaf (95, .ldc 154, 2)) (.leaf (97, .invokevirtual 138, 3))) (.branch 103 (.leaf (100, .ifCond .eq 13, 3)) (.leaf (103, .aload_n 0, 1)))) (.branch 107 (.branch 105 (.leaf (104, .iconst 0, 1)) (.leaf (105, .bipush 100, 2))) (.branch 110 (.leaf (107, .invokevirtual 142, 3)) (.leaf (110, .ifCond .ne 5, 3))))) (.branch 119 (.branch 115 (.branch 114 (.leaf (113, .iconst 0, 1)) (.leaf (114, .ireturn, 1))) (.branch 116 (.leaf (115, .aload_n 0, 1)) (.leaf (116, .getfield 51, 3)))) (.branch 123 (.branch 120 (.leaf (119, .aload_n 0, 1)) (.leaf (120, .getfield 24, 3))) (.branch 126 (.leaf (123, .putfield 156, 3)) (.branch 127 (.leaf (126, .iconst 1, 1)) (.leaf (127, .ireturn, 1))))))))
noncomputable def oX5_readHead : List dLf := dFl tX5_readHead
theorem ofX5_readHead : dFl tX5_readHead = oX5_readHead := rfl
set_option maxRecDepth 100000 in
theorem odX5_readHead : ∀ q ∈ oX5_readHead, decode cX5_readHead q.1 = .ok (q.2.1, q.2.2) := q_go qT_ok bbX5_readHead oX5_readHead 0 (by decide +kernel)
theorem dX5_readHead_0 : decode cX5_readHead 0 = .ok (.aload_n 0, 1) := d_by (d_at odX5_readHead ofX5_readHead 0) rfl
theorem dX5_readHead_1 : decode cX5_readHead 1 = .ok (.ldc 137, 2) := d_by (d_at odX5_readHead ofX5_readHead 1) rfl
theorem dX5_readHead_3 : decode cX5_readHead 3 = .ok (.invokevirtual 138, 3) := d_by (d_at odX5_readHead ofX5_readHead 3) rfl
theorem dX5_readHead_6 : decode cX5_readHead 6 = .ok (.ifCond .eq 12, 3) := d_by (d_at odX5_readHead ofX5_readHead 6) rfl
theorem dX5_readHead_9 : decode cX5_readHead 9 = .ok (.aload_n 0, 1) := d_by (d_at odX5_readHead ofX5_readHead 9) rfl
theorem dX5_readHead_10 : decode cX5_readHead 10 = .ok (.iconst 2, 1) := d_by (d_at odX5_readHead ofX5_readHead 10) rfl
theorem dX5_readHead_11 : decode cX5_readHead 11 = .ok (.iconst 4, 1) := d_by (d_at odX5_readHead ofX5_readHead 11) rfl
theorem dX5_readHead_12 : decode cX5_readHead 12 = .ok (.invokevirtual 142, 3) := d_by (d_at odX5_readHead ofX5_readHead 12) rfl
theorem dX5_readHead_15 : decode cX5_readHead 15 = .ok (.ifCond .ne 5, 3) := d_by (d_at odX5_readHead ofX5_readHead 15) rfl
theorem dX5_readHead_18 : decode cX5_readHead 18 = .ok (.iconst 0, 1) := d_by (d_at odX5_readHead ofX5_readHead 18) rfl
theorem dX5_readHead_19 : decode cX5_readHead 19 = .ok (.ireturn, 1) := d_by (d_at odX5_readHead ofX5_readHead 19) rfl
theorem dX5_readHead_20 : decode cX5_readHead 20 = .ok (.aload_n 0, 1) := d_by (d_at odX5_readHead ofX5_readHead 20) rfl
theorem dX5_readHead_21 : decode cX5_readHead 21 = .ok (.getfield 51, 3) := d_by (d_at odX5_readHead ofX5_readHead 21) rfl
theorem dX5_readHead_24 : decode cX5_readHead 24 = .ok (.aload_n 0, 1) := d_by (d_at odX5_readHead ofX5_readHead 24) rfl
theorem dX5_readHead_25 : decode cX5_readHead 25 = .ok (.getfield 24, 3) := d_by (d_at odX5_readHead ofX5_readHead 25) rfl
theorem dX5_readHead_28 : decode cX5_readHead 28 = .ok (.putfield 84, 3) := d_by (d_at odX5_readHead ofX5_readHead 28) rfl
theorem dX5_readHead_31 : decode cX5_readHead 31 = .ok (.aload_n 0, 1) := d_by (d_at odX5_readHead ofX5_readHead 31) rfl
theorem dX5_readHead_32 : decode cX5_readHead 32 = .ok (.ldc 146, 2) := d_by (d_at odX5_readHead ofX5_readHead 32) rfl
theorem dX5_readHead_34 : decode cX5_readHead 34 = .ok (.invokevirtual 138, 3) := d_by (d_at odX5_readHead ofX5_readHead 34) rfl
theorem dX5_readHead_37 : decode cX5_readHead 37 = .ok (.ifCond .eq 12, 3) := d_by (d_at odX5_readHead ofX5_readHead 37) rfl
theorem dX5_readHead_40 : decode cX5_readHead 40 = .ok (.aload_n 0, 1) := d_by (d_at odX5_readHead ofX5_readHead 40) rfl
theorem dX5_readHead_41 : decode cX5_readHead 41 = .ok (.iconst 0, 1) := d_by (d_at odX5_readHead ofX5_readHead 41) rfl
theorem dX5_readHead_42 : decode cX5_readHead 42 = .ok (.iconst 3, 1) := d_by (d_at odX5_readHead ofX5_readHead 42) rfl
theorem dX5_readHead_43 : decode cX5_readHead 43 = .ok (.invokevirtual 142, 3) := d_by (d_at odX5_readHead ofX5_readHead 43) rfl
theorem dX5_readHead_46 : decode cX5_readHead 46 = .ok (.ifCond .ne 5, 3) := d_by (d_at odX5_readHead ofX5_readHead 46) rfl
theorem dX5_readHead_49 : decode cX5_readHead 49 = .ok (.iconst 0, 1) := d_by (d_at odX5_readHead ofX5_readHead 49) rfl
theorem dX5_readHead_50 : decode cX5_readHead 50 = .ok (.ireturn, 1) := d_by (d_at odX5_readHead ofX5_readHead 50) rfl
theorem dX5_readHead_51 : decode cX5_readHead 51 = .ok (.aload_n 0, 1) := d_by (d_at odX5_readHead ofX5_readHead 51) rfl
theorem dX5_readHead_52 : decode cX5_readHead 52 = .ok (.getfield 51, 3) := d_by (d_at odX5_readHead ofX5_readHead 52) rfl
theorem dX5_readHead_55 : decode cX5_readHead 55 = .ok (.aload_n 0, 1) := d_by (d_at odX5_readHead ofX5_readHead 55) rfl
theorem dX5_readHead_56 : decode cX5_readHead 56 = .ok (.getfield 24, 3) := d_by (d_at odX5_readHead ofX5_readHead 56) rfl
theorem dX5_readHead_59 : decode cX5_readHead 59 = .ok (.putfield 148, 3) := d_by (d_at odX5_readHead ofX5_readHead 59) rfl
theorem dX5_readHead_62 : decode cX5_readHead 62 = .ok (.aload_n 0, 1) := d_by (d_at odX5_readHead ofX5_readHead 62) rfl
theorem dX5_readHead_63 : decode cX5_readHead 63 = .ok (.ldc 150, 2) := d_by (d_at odX5_readHead ofX5_readHead 63) rfl
theorem dX5_readHead_65 : decode cX5_readHead 65 = .ok (.invokevirtual 138, 3) := d_by (d_at odX5_readHead ofX5_readHead 65) rfl
theorem dX5_readHead_68 : decode cX5_readHead 68 = .ok (.ifCond .eq 13, 3) := d_by (d_at odX5_readHead ofX5_readHead 68) rfl
theorem dX5_readHead_71 : decode cX5_readHead 71 = .ok (.aload_n 0, 1) := d_by (d_at odX5_readHead ofX5_readHead 71) rfl
theorem dX5_readHead_72 : decode cX5_readHead 72 = .ok (.iconst 0, 1) := d_by (d_at odX5_readHead ofX5_readHead 72) rfl
theorem dX5_readHead_73 : decode cX5_readHead 73 = .ok (.bipush 50, 2) := d_by (d_at odX5_readHead ofX5_readHead 73) rfl
theorem dX5_readHead_75 : decode cX5_readHead 75 = .ok (.invokevirtual 142, 3) := d_by (d_at odX5_readHead ofX5_readHead 75) rfl
theorem dX5_readHead_78 : decode cX5_readHead 78 = .ok (.ifCond .ne 5, 3) := d_by (d_at odX5_readHead ofX5_readHead 78) rfl
theorem dX5_readHead_81 : decode cX5_readHead 81 = .ok (.iconst 0, 1) := d_by (d_at odX5_readHead ofX5_readHead 81) rfl
theorem dX5_readHead_82 : decode cX5_readHead 82 = .ok (.ireturn, 1) := d_by (d_at odX5_readHead ofX5_readHead 82) rfl
theorem dX5_readHead_83 : decode cX5_readHead 83 = .ok (.aload_n 0, 1) := d_by (d_at odX5_readHead ofX5_readHead 83) rfl
theorem dX5_readHead_84 : decode cX5_readHead 84 = .ok (.getfield 51, 3) := d_by (d_at odX5_readHead ofX5_readHead 84) rfl
theorem dX5_readHead_87 : decode cX5_readHead 87 = .ok (.aload_n 0, 1) := d_by (d_at odX5_readHead ofX5_readHead 87) rfl
theorem dX5_readHead_88 : decode cX5_readHead 88 = .ok (.getfield 24, 3) := d_by (d_at odX5_readHead ofX5_readHead 88) rfl
theorem dX5_readHead_91 : decode cX5_readHead 91 = .ok (.putfield 152, 3) := d_by (d_at odX5_readHead ofX5_readHead 91) rfl
theorem dX5_readHead_94 : decode cX5_readHead 94 = .ok (.aload_n 0, 1) := d_by (d_at odX5_readHead ofX5_readHead 94) rfl
theorem dX5_readHead_95 : decode cX5_readHead 95 = .ok (.ldc 154, 2) := d_by (d_at odX5_readHead ofX5_readHead 95) rfl
theorem dX5_readHead_97 : decode cX5_readHead 97 = .ok (.invokevirtual 138, 3) := d_by (d_at odX5_readHead ofX5_readHead 97) rfl
theorem dX5_readHead_100 : decode cX5_readHead 100 = .ok (.ifCond .eq 13, 3) := d_by (d_at odX5_readHead ofX5_readHead 100) rfl
theorem dX5_readHead_103 : decode cX5_readHead 103 = .ok (.aload_n 0, 1) := d_by (d_at odX5_readHead ofX5_readHead 103) rfl
theorem dX5_readHead_104 : decode cX5_readHead 104 = .ok (.iconst 0, 1) := d_by (d_at odX5_readHead ofX5_readHead 104) rfl
theorem dX5_readHead_105 : decode cX5_readHead 105 = .ok (.bipush 100, 2) := d_by (d_at odX5_readHead ofX5_readHead 105) rfl
theorem dX5_readHead_107 : decode cX5_readHead 107 = .ok (.invokevirtual 142, 3) := d_by (d_at odX5_readHead ofX5_readHead 107) rfl
theorem dX5_readHead_110 : decode cX5_readHead 110 = .ok (.ifCond .ne 5, 3) := d_by (d_at odX5_readHead ofX5_readHead 110) rfl
theorem dX5_readHead_113 : decode cX5_readHead 113 = .ok (.iconst 0, 1) := d_by (d_at odX5_readHead ofX5_readHead 113) rfl
theorem dX5_readHead_114 : decode cX5_readHead 114 = .ok (.ireturn, 1) := d_by (d_at odX5_readHead ofX5_readHead 114) rfl
theorem dX5_readHead_115 : decode cX5_readHead 115 = .ok (.aload_n 0, 1) := d_by (d_at odX5_readHead ofX5_readHead 115) rfl
theorem dX5_readHead_116 : decode cX5_readHead 116 = .ok (.getfield 51, 3) := d_by (d_at odX5_readHead ofX5_readHead 116) rfl
theorem dX5_readHead_119 : decode cX5_readHead 119 = .ok (.aload_n 0, 1) := d_by (d_at odX5_readHead ofX5_readHead 119) rfl
theorem dX5_readHead_120 : decode cX5_readHead 120 = .ok (.getfield 24, 3) := d_by (d_at odX5_readHead ofX5_readHead 120) rfl
theorem dX5_readHead_123 : decode cX5_readHead 123 = .ok (.putfield 156, 3) := d_by (d_at odX5_readHead ofX5_readHead 123) rfl
theorem dX5_readHead_126 : decode cX5_readHead 126 = .ok (.iconst 1, 1) := d_by (d_at odX5_readHead ofX5_readHead 126) rfl
theorem dX5_readHead_127 : decode cX5_readHead 127 = .ok (.ireturn, 1) := d_by (d_at odX5_readHead ofX5_readHead 127) rfl
set_option maxRecDepth 100000 in
def bX5_readIsland : List Nat := [42, 4, 42, 180, 0, 51, 180, 0, 73, 182, 0, 158, 154, 0, 5, 3, 172, 42, 182, 0, 70, 42, 180, 0, 18, 4, 159, 0, 9, 42, 4, 182, 0, 76, 172, 42, 180, 0, 15, 42, 180, 0, 21, 100, 60, 42, 182, 0, 161, 61, 28, 16, 254, 160, 0, 10, 42, 16, 7, 182, 0, 76, 172, 42, 180, 0, 51, 28, 27, 182, 0, 164, 153, 0, 9, 42, 6, 182, 0, 76, 172, 42, 180, 0, 51, 180, 0, 167, 42, 180, 0, 51, 180, 0, 73, 28, 79, 42, 180, 0, 51, 180, 0, 170, 42, 180, 0, 51, 180, 0, 73, 27, 79, 42, 180, 0, 51, 89, 180, 0, 73, 4, 96, 181, 0, 73, 4, 172]
set_option maxRecDepth 100000 in
theorem bbX5_readIsland : cX5_readIsland.data.toList.map UInt8.toNat = bX5_readIsland := by decide +kernel
set_option maxRecDepth 100000 in
def tX5_readIsland : Lean.RArray dLf := .branch 63 (.branch 31 (.branch 16 (.branch 6 (.branch 2 (.branch 1 (.leaf (0, .aload_n 0, 1)) (.leaf (1, .iconst 1, 1))) (.branch 3 (.leaf (2, .aload_n 0, 1)) (.leaf (3, .getfield 51, 3)))) (.branch 12 (.branch 9 (.leaf (6, .getfield 73, 3)) (.leaf (9, .invokevirtual 158, 3))) (.branch 15 (.leaf (12, .ifCond .ne 5, 3)) (.leaf (15, .iconst 0, 1))))) (.branch 22 (.branch 18 (.branch 17 (.leaf (16, .ireturn, 1)) (.leaf (17, .aload_n 0, 1))) (.branch 21 (.leaf (18, .invokevirtual 70, 3)) (.leaf (21, .aload_n 0, 1)))) (.branch 26 (.branch 25 (.leaf (22, .getfield 18, 3)) (.leaf (25, .iconst 1, 1))) (.branch 29 (.leaf (26, .if_icmp .eq 9, 3)) (.branch 30 (.leaf (29, .aload_n 0, 1)) (.leaf (30, .iconst 1, 1))))))) (.branch 46 (.branch 39 (.branch 35 (.branch 34 (.leaf (31, .invokevirtual 76, 3)) (.leaf (34, .ireturn, 1))) (.branch 36 (.leaf (35, .aload_n 0, 1)) (.leaf (36, .getfield 15, 3)))) (.branch 43 (.branch 40 (.leaf (39, .aload_n 0, 1)) (.leaf (40, .getfield 21, 3))) (.branch 44 (.leaf (43, .isub, 1)) (.branch 45 (.leaf (44, .istore_n 1, 1)) (.leaf (45, .aload_n 0, 1)))))) (.branch 53 (.branch 50 (.branch 49 (.leaf (46, .invokevirtual 161, 3)) (.leaf (49, .istore_n 2, 1))) (.branch 51 (.leaf (50, .iload_n 2, 1)) (.leaf (51, .bipush (-2), 2)))) (.branch 57 (.branch 56 (.leaf (53, .if_icmp .ne 10, 3)) (.leaf (56, .aload_n 0, 1))) (.branch 59 (.leaf (57, .bipush 7, 2)) (.branch 62 (.leaf (59, .invokevirtual 76, 3)) (.leaf (62, .ireturn, 1)))))))) (.branch 96 (.branch 77 (.branch 69 (.branch 67 (.branch 64 (.leaf (63, .aload_n 0, 1)) (.leaf (64, .getfield 51, 3))) (.branch 68 (.leaf (67, .iload_n 2, 1)) (.leaf (68, .iload_n 1, 1)))) (.branch 75 (.branch 72 (.leaf (69, .invokevirtual 164, 3)) (.leaf (72, .ifCond .eq 9, 3))) (.branch 76 (.leaf (75, .aload_n 0, 1)) (.leaf (76, .iconst 3, 1))))) (.branch 85 (.branch 81 (.branch 80 (.leaf (77, .invokevirtual 76, 3)) (.leaf (80, .ireturn, 1))) (.branch 82 (.leaf (81, .aload_n 0, 1)) (.leaf (82, .getfield 51, 3)))) (.branch 89 (.branch 88 (.leaf (85, .getfield 167, 3)) (.leaf (88, .aload_n 0, 1))) (.branch 92 (.leaf (89, .getfield 51, 3)) (.branch 95 (.leaf (92, .getfield 73, 3)) (.leaf (95, .iload_n 2, 1))))))) (.branch 113 (.branch 104 (.branch 98 (.branch 97 (.leaf (96, .iastore, 1)) (.leaf (97, .aload_n 0, 1))) (.branch 101 (.leaf (98, .getfield 51, 3)) (.leaf (101, .getfield 170, 3)))) (.branch 108 (.branch 105 (.leaf (104, .aload_n 0, 1)) (.leaf (105, .getfield 51, 3))) (.branch 111 (.leaf (108, .getfield 73, 3)) (.branch 112 (.leaf (111, .iload_n 1, 1)) (.leaf (112, .iastore, 1)))))) (.branch 121 (.branch 117 (.branch 114 (.leaf (113, .aload_n 0, 1)) (.leaf (114, .getfield 51, 3))) (.branch 118 (.leaf (117, .dup, 1)) (.leaf (118, .getfield 73, 3)))) (.branch 123 (.branch 122 (.leaf (121, .iconst 1, 1)) (.leaf (122, .iadd, 1))) (.branch 126 (.leaf (123, .putfield 73, 3)) (.branch 127 (.leaf (126, .iconst 1, 1)) (.leaf (127, .ireturn, 1))))))))
noncomputable def oX5_readIsland : List dLf := dFl tX5_readIsland
theorem ofX5_readIsland : dFl tX5_readIsland = oX5_readIsland := rfl
set_option maxRecDepth 100000 in
theorem odX5_readIsland : ∀ q ∈ oX5_readIsland, decode cX5_readIsland q.1 = .ok (q.2.1, q.2.2) := q_go qT_ok bbX5_readIsland oX5_readIsland 0 (by decide +kernel)
theorem dX5_readIsland_0 : decode cX5_readIsland 0 = .ok (.aload_n 0, 1) := d_by (d_at odX5_readIsland ofX5_readIsland 0) rfl
theorem dX5_readIsland_1 : decode cX5_readIsland 1 = .ok (.iconst 1, 1) := d_by (d_at odX5_readIsland ofX5_readIsland 1) rfl
theorem dX5_readIsland_2 : decode cX5_readIsland 2 = .ok (.aload_n 0, 1) := d_by (d_at odX5_readIsland ofX5_readIsland 2) rfl
theorem dX5_readIsland_3 : decode cX5_readIsland 3 = .ok (.getfield 51, 3) := d_by (d_at odX5_readIsland ofX5_readIsland 3) rfl
theorem dX5_readIsland_6 : decode cX5_readIsland 6 = .ok (.getfield 73, 3) := d_by (d_at odX5_readIsland ofX5_readIsland 6) rfl
theorem dX5_readIsland_9 : decode cX5_readIsland 9 = .ok (.invokevirtual 158, 3) := d_by (d_at odX5_readIsland ofX5_readIsland 9) rfl
theorem dX5_readIsland_12 : decode cX5_readIsland 12 = .ok (.ifCond .ne 5, 3) := d_by (d_at odX5_readIsland ofX5_readIsland 12) rfl
theorem dX5_readIsland_15 : decode cX5_readIsland 15 = .ok (.iconst 0, 1) := d_by (d_at odX5_readIsland ofX5_readIsland 15) rfl
theorem dX5_readIsland_16 : decode cX5_readIsland 16 = .ok (.ireturn, 1) := d_by (d_at odX5_readIsland ofX5_readIsland 16) rfl
theorem dX5_readIsland_17 : decode cX5_readIsland 17 = .ok (.aload_n 0, 1) := d_by (d_at odX5_readIsland ofX5_readIsland 17) rfl
theorem dX5_readIsland_18 : decode cX5_readIsland 18 = .ok (.invokevirtual 70, 3) := d_by (d_at odX5_readIsland ofX5_readIsland 18) rfl
theorem dX5_readIsland_21 : decode cX5_readIsland 21 = .ok (.aload_n 0, 1) := d_by (d_at odX5_readIsland ofX5_readIsland 21) rfl
theorem dX5_readIsland_22 : decode cX5_readIsland 22 = .ok (.getfield 18, 3) := d_by (d_at odX5_readIsland ofX5_readIsland 22) rfl
theorem dX5_readIsland_25 : decode cX5_readIsland 25 = .ok (.iconst 1, 1) := d_by (d_at odX5_readIsland ofX5_readIsland 25) rfl
theorem dX5_readIsland_26 : decode cX5_readIsland 26 = .ok (.if_icmp .eq 9, 3) := d_by (d_at odX5_readIsland ofX5_readIsland 26) rfl
theorem dX5_readIsland_29 : decode cX5_readIsland 29 = .ok (.aload_n 0, 1) := d_by (d_at odX5_readIsland ofX5_readIsland 29) rfl
theorem dX5_readIsland_30 : decode cX5_readIsland 30 = .ok (.iconst 1, 1) := d_by (d_at odX5_readIsland ofX5_readIsland 30) rfl
theorem dX5_readIsland_31 : decode cX5_readIsland 31 = .ok (.invokevirtual 76, 3) := d_by (d_at odX5_readIsland ofX5_readIsland 31) rfl
theorem dX5_readIsland_34 : decode cX5_readIsland 34 = .ok (.ireturn, 1) := d_by (d_at odX5_readIsland ofX5_readIsland 34) rfl
theorem dX5_readIsland_35 : decode cX5_readIsland 35 = .ok (.aload_n 0, 1) := d_by (d_at odX5_readIsland ofX5_readIsland 35) rfl
theorem dX5_readIsland_36 : decode cX5_readIsland 36 = .ok (.getfield 15, 3) := d_by (d_at odX5_readIsland ofX5_readIsland 36) rfl
theorem dX5_readIsland_39 : decode cX5_readIsland 39 = .ok (.aload_n 0, 1) := d_by (d_at odX5_readIsland ofX5_readIsland 39) rfl
theorem dX5_readIsland_40 : decode cX5_readIsland 40 = .ok (.getfield 21, 3) := d_by (d_at odX5_readIsland ofX5_readIsland 40) rfl
theorem dX5_readIsland_43 : decode cX5_readIsland 43 = .ok (.isub, 1) := d_by (d_at odX5_readIsland ofX5_readIsland 43) rfl
theorem dX5_readIsland_44 : decode cX5_readIsland 44 = .ok (.istore_n 1, 1) := d_by (d_at odX5_readIsland ofX5_readIsland 44) rfl
theorem dX5_readIsland_45 : decode cX5_readIsland 45 = .ok (.aload_n 0, 1) := d_by (d_at odX5_readIsland ofX5_readIsland 45) rfl
theorem dX5_readIsland_46 : decode cX5_readIsland 46 = .ok (.invokevirtual 161, 3) := d_by (d_at odX5_readIsland ofX5_readIsland 46) rfl
theorem dX5_readIsland_49 : decode cX5_readIsland 49 = .ok (.istore_n 2, 1) := d_by (d_at odX5_readIsland ofX5_readIsland 49) rfl
theorem dX5_readIsland_50 : decode cX5_readIsland 50 = .ok (.iload_n 2, 1) := d_by (d_at odX5_readIsland ofX5_readIsland 50) rfl
theorem dX5_readIsland_51 : decode cX5_readIsland 51 = .ok (.bipush (-2), 2) := d_by (d_at odX5_readIsland ofX5_readIsland 51) rfl
theorem dX5_readIsland_53 : decode cX5_readIsland 53 = .ok (.if_icmp .ne 10, 3) := d_by (d_at odX5_readIsland ofX5_readIsland 53) rfl
theorem dX5_readIsland_56 : decode cX5_readIsland 56 = .ok (.aload_n 0, 1) := d_by (d_at odX5_readIsland ofX5_readIsland 56) rfl
theorem dX5_readIsland_57 : decode cX5_readIsland 57 = .ok (.bipush 7, 2) := d_by (d_at odX5_readIsland ofX5_readIsland 57) rfl
theorem dX5_readIsland_59 : decode cX5_readIsland 59 = .ok (.invokevirtual 76, 3) := d_by (d_at odX5_readIsland ofX5_readIsland 59) rfl
theorem dX5_readIsland_62 : decode cX5_readIsland 62 = .ok (.ireturn, 1) := d_by (d_at odX5_readIsland ofX5_readIsland 62) rfl
theorem dX5_readIsland_63 : decode cX5_readIsland 63 = .ok (.aload_n 0, 1) := d_by (d_at odX5_readIsland ofX5_readIsland 63) rfl
theorem dX5_readIsland_64 : decode cX5_readIsland 64 = .ok (.getfield 51, 3) := d_by (d_at odX5_readIsland ofX5_readIsland 64) rfl
theorem dX5_readIsland_67 : decode cX5_readIsland 67 = .ok (.iload_n 2, 1) := d_by (d_at odX5_readIsland ofX5_readIsland 67) rfl
theorem dX5_readIsland_68 : decode cX5_readIsland 68 = .ok (.iload_n 1, 1) := d_by (d_at odX5_readIsland ofX5_readIsland 68) rfl
theorem dX5_readIsland_69 : decode cX5_readIsland 69 = .ok (.invokevirtual 164, 3) := d_by (d_at odX5_readIsland ofX5_readIsland 69) rfl
theorem dX5_readIsland_72 : decode cX5_readIsland 72 = .ok (.ifCond .eq 9, 3) := d_by (d_at odX5_readIsland ofX5_readIsland 72) rfl
theorem dX5_readIsland_75 : decode cX5_readIsland 75 = .ok (.aload_n 0, 1) := d_by (d_at odX5_readIsland ofX5_readIsland 75) rfl
theorem dX5_readIsland_76 : decode cX5_readIsland 76 = .ok (.iconst 3, 1) := d_by (d_at odX5_readIsland ofX5_readIsland 76) rfl
theorem dX5_readIsland_77 : decode cX5_readIsland 77 = .ok (.invokevirtual 76, 3) := d_by (d_at odX5_readIsland ofX5_readIsland 77) rfl
theorem dX5_readIsland_80 : decode cX5_readIsland 80 = .ok (.ireturn, 1) := d_by (d_at odX5_readIsland ofX5_readIsland 80) rfl
theorem dX5_readIsland_81 : decode cX5_readIsland 81 = .ok (.aload_n 0, 1) := d_by (d_at odX5_readIsland ofX5_readIsland 81) rfl
theorem dX5_readIsland_82 : decode cX5_readIsland 82 = .ok (.getfield 51, 3) := d_by (d_at odX5_readIsland ofX5_readIsland 82) rfl
theorem dX5_readIsland_85 : decode cX5_readIsland 85 = .ok (.getfield 167, 3) := d_by (d_at odX5_readIsland ofX5_readIsland 85) rfl
theorem dX5_readIsland_88 : decode cX5_readIsland 88 = .ok (.aload_n 0, 1) := d_by (d_at odX5_readIsland ofX5_readIsland 88) rfl
theorem dX5_readIsland_89 : decode cX5_readIsland 89 = .ok (.getfield 51, 3) := d_by (d_at odX5_readIsland ofX5_readIsland 89) rfl
theorem dX5_readIsland_92 : decode cX5_readIsland 92 = .ok (.getfield 73, 3) := d_by (d_at odX5_readIsland ofX5_readIsland 92) rfl
theorem dX5_readIsland_95 : decode cX5_readIsland 95 = .ok (.iload_n 2, 1) := d_by (d_at odX5_readIsland ofX5_readIsland 95) rfl
theorem dX5_readIsland_96 : decode cX5_readIsland 96 = .ok (.iastore, 1) := d_by (d_at odX5_readIsland ofX5_readIsland 96) rfl
theorem dX5_readIsland_97 : decode cX5_readIsland 97 = .ok (.aload_n 0, 1) := d_by (d_at odX5_readIsland ofX5_readIsland 97) rfl
theorem dX5_readIsland_98 : decode cX5_readIsland 98 = .ok (.getfield 51, 3) := d_by (d_at odX5_readIsland ofX5_readIsland 98) rfl
theorem dX5_readIsland_101 : decode cX5_readIsland 101 = .ok (.getfield 170, 3) := d_by (d_at odX5_readIsland ofX5_readIsland 101) rfl
theorem dX5_readIsland_104 : decode cX5_readIsland 104 = .ok (.aload_n 0, 1) := d_by (d_at odX5_readIsland ofX5_readIsland 104) rfl
theorem dX5_readIsland_105 : decode cX5_readIsland 105 = .ok (.getfield 51, 3) := d_by (d_at odX5_readIsland ofX5_readIsland 105) rfl
theorem dX5_readIsland_108 : decode cX5_readIsland 108 = .ok (.getfield 73, 3) := d_by (d_at odX5_readIsland ofX5_readIsland 108) rfl
theorem dX5_readIsland_111 : decode cX5_readIsland 111 = .ok (.iload_n 1, 1) := d_by (d_at odX5_readIsland ofX5_readIsland 111) rfl
theorem dX5_readIsland_112 : decode cX5_readIsland 112 = .ok (.iastore, 1) := d_by (d_at odX5_readIsland ofX5_readIsland 112) rfl
theorem dX5_readIsland_113 : decode cX5_readIsland 113 = .ok (.aload_n 0, 1) := d_by (d_at odX5_readIsland ofX5_readIsland 113) rfl
theorem dX5_readIsland_114 : decode cX5_readIsland 114 = .ok (.getfield 51, 3) := d_by (d_at odX5_readIsland ofX5_readIsland 114) rfl
theorem dX5_readIsland_117 : decode cX5_readIsland 117 = .ok (.dup, 1) := d_by (d_at odX5_readIsland ofX5_readIsland 117) rfl
theorem dX5_readIsland_118 : decode cX5_readIsland 118 = .ok (.getfield 73, 3) := d_by (d_at odX5_readIsland ofX5_readIsland 118) rfl
theorem dX5_readIsland_121 : decode cX5_readIsland 121 = .ok (.iconst 1, 1) := d_by (d_at odX5_readIsland ofX5_readIsland 121) rfl
theorem dX5_readIsland_122 : decode cX5_readIsland 122 = .ok (.iadd, 1) := d_by (d_at odX5_readIsland ofX5_readIsland 122) rfl
theorem dX5_readIsland_123 : decode cX5_readIsland 123 = .ok (.putfield 73, 3) := d_by (d_at odX5_readIsland ofX5_readIsland 123) rfl
theorem dX5_readIsland_126 : decode cX5_readIsland 126 = .ok (.iconst 1, 1) := d_by (d_at odX5_readIsland ofX5_readIsland 126) rfl
theorem dX5_readIsland_127 : decode cX5_readIsland 127 = .ok (.ireturn, 1) := d_by (d_at odX5_readIsland ofX5_readIsland 127) rfl
set_option maxRecDepth 100000 in
def bX5_readWay : List Nat := [42, 4, 182, 0, 173, 154, 0, 5, 3, 172, 43, 42, 180, 0, 24, 181, 0, 176, 42, 4, 182, 0, 173, 154, 0, 5, 3, 172, 43, 42, 180, 0, 24, 181, 0, 181, 43, 180, 0, 176, 43, 180, 0, 181, 159, 0, 23, 42, 180, 0, 51, 43, 180, 0, 176, 43, 180, 0, 181, 182, 0, 184, 16, 254, 159, 0, 9, 42, 6, 182, 0, 76, 172, 42, 18, 187, 182, 0, 138, 153, 0, 13, 42, 4, 16, 99, 182, 0, 142, 154, 0, 5, 3, 172, 43, 42, 180, 0, 24, 181, 0, 189, 42, 18, 191, 182, 0, 138, 153, 0, 13, 42, 4, 16, 15, 182, 0, 142, 154, 0, 5, 3, 172, 43, 42, 180, 0, 24, 181, 0, 193, 42, 180, 0, 51, 89, 180, 0, 93, 4, 96, 181, 0, 93, 4, 172]
set_option maxRecDepth 100000 in
theorem bbX5_readWay : cX5_readWay.data.toList.map UInt8.toNat = bX5_readWay := by decide +kernel
set_option maxRecDepth 100000 in
def tX5_readWay : Lean.RArray dLf := .branch 73 (.branch 33 (.branch 15 (.branch 8 (.branch 2 (.branch 1 (.leaf (0, .aload_n 0, 1)) (.leaf (1, .iconst 1, 1))) (.branch 5 (.leaf (2, .invokevirtual 173, 3)) (.leaf (5, .ifCond .ne 5, 3)))) (.branch 10 (.branch 9 (.leaf (8, .iconst 0, 1)) (.leaf (9, .ireturn, 1))) (.branch 11 (.leaf (10, .aload_n 1, 1)) (.branch 12 (.leaf (11, .aload_n 0, 1)) (.leaf (12, .getfield 24, 3)))))) (.branch 26 (.branch 19 (.branch 18 (.leaf (15, .putfield 176, 3)) (.leaf (18, .aload_n 0, 1))) (.branch 20 (.leaf (19, .iconst 1, 1)) (.branch 23 (.leaf (20, .invokevirtual 173, 3)) (.leaf (23, .ifCond .ne 5, 3))))) (.branch 28 (.branch 27 (.leaf (26, .iconst 0, 1)) (.leaf (27, .ireturn, 1))) (.branch 29 (.leaf (28, .aload_n 1, 1)) (.branch 30 (.leaf (29, .aload_n 0, 1)) (.leaf (30, .getfield 24, 3))))))) (.branch 52 (.branch 41 (.branch 37 (.branch 36 (.leaf (33, .putfield 181, 3)) (.leaf (36, .aload_n 1, 1))) (.branch 40 (.leaf (37, .getfield 176, 3)) (.leaf (40, .aload_n 1, 1)))) (.branch 47 (.branch 44 (.leaf (41, .getfield 181, 3)) (.leaf (44, .if_icmp .eq 23, 3))) (.branch 48 (.leaf (47, .aload_n 0, 1)) (.branch 51 (.leaf (48, .getfield 51, 3)) (.leaf (51, .aload_n 1, 1)))))) (.branch 64 (.branch 56 (.branch 55 (.leaf (52, .getfield 176, 3)) (.leaf (55, .aload_n 1, 1))) (.branch 59 (.leaf (56, .getfield 181, 3)) (.branch 62 (.leaf (59, .invokevirtual 184, 3)) (.leaf (62, .bipush (-2), 2))))) (.branch 68 (.branch 67 (.leaf (64, .if_icmp .eq 9, 3)) (.leaf (67, .aload_n 0, 1))) (.branch 69 (.leaf (68, .iconst 3, 1)) (.branch 72 (.leaf (69, .invokevirtual 76, 3)) (.leaf (72, .ireturn, 1)))))))) (.branch 111 (.branch 92 (.branch 82 (.branch 76 (.branch 74 (.leaf (73, .aload_n 0, 1)) (.leaf (74, .ldc 187, 2))) (.branch 79 (.leaf (76, .invokevirtual 138, 3)) (.leaf (79, .ifCond .eq 13, 3)))) (.branch 84 (.branch 83 (.leaf (82, .aload_n 0, 1)) (.leaf (83, .iconst 1, 1))) (.branch 86 (.leaf (84, .bipush 99, 2)) (.branch 89 (.leaf (86, .invokevirtual 142, 3)) (.leaf (89, .ifCond .ne 5, 3)))))) (.branch 99 (.branch 94 (.branch 93 (.leaf (92, .iconst 0, 1)) (.leaf (93, .ireturn, 1))) (.branch 95 (.leaf (94, .aload_n 1, 1)) (.branch 96 (.leaf (95, .aload_n 0, 1)) (.leaf (96, .getfield 24, 3))))) (.branch 103 (.branch 102 (.leaf (99, .putfield 189, 3)) (.leaf (102, .aload_n 0, 1))) (.branch 105 (.leaf (103, .ldc 191, 2)) (.branch 108 (.leaf (105, .invokevirtual 138, 3)) (.leaf (108, .ifCond .eq 13, 3))))))) (.branch 128 (.branch 121 (.branch 113 (.branch 112 (.leaf (111, .aload_n 0, 1)) (.leaf (112, .iconst 1, 1))) (.branch 115 (.leaf (113, .bipush 15, 2)) (.branch 118 (.leaf (115, .invokevirtual 142, 3)) (.leaf (118, .ifCond .ne 5, 3))))) (.branch 123 (.branch 122 (.leaf (121, .iconst 0, 1)) (.leaf (122, .ireturn, 1))) (.branch 124 (.leaf (123, .aload_n 1, 1)) (.branch 125 (.leaf (124, .aload_n 0, 1)) (.leaf (125, .getfield 24, 3)))))) (.branch 139 (.branch 132 (.branch 131 (.leaf (128, .putfield 193, 3)) (.leaf (131, .aload_n 0, 1))) (.branch 135 (.leaf (132, .getfield 51, 3)) (.branch 136 (.leaf (135, .dup, 1)) (.leaf (136, .getfield 93, 3))))) (.branch 141 (.branch 140 (.leaf (139, .iconst 1, 1)) (.leaf (140, .iadd, 1))) (.branch 144 (.leaf (141, .putfield 93, 3)) (.branch 145 (.leaf (144, .iconst 1, 1)) (.leaf (145, .ireturn, 1))))))))
noncomputable def oX5_readWay : List dLf := dFl tX5_readWay
theorem ofX5_readWay : dFl tX5_readWay = oX5_readWay := rfl
set_option maxRecDepth 100000 in
theorem odX5_readWay : ∀ q ∈ oX5_readWay, decode cX5_readWay q.1 = .ok (q.2.1, q.2.2) := q_go qT_ok bbX5_readWay oX5_readWay 0 (by decide +kernel)
theorem dX5_readWay_0 : decode cX5_readWay 0 = .ok (.aload_n 0, 1) := d_by (d_at odX5_readWay ofX5_readWay 0) rfl
theorem dX5_readWay_1 : decode cX5_readWay 1 = .ok (.iconst 1, 1) := d_by (d_at odX5_readWay ofX5_readWay 1) rfl
theorem dX5_readWay_2 : decode cX5_readWay 2 = .ok (.invokevirtual 173, 3) := d_by (d_at odX5_readWay ofX5_readWay 2) rfl
theorem dX5_readWay_5 : decode cX5_readWay 5 = .ok (.ifCond .ne 5, 3) := d_by (d_at odX5_readWay ofX5_readWay 5) rfl
theorem dX5_readWay_8 : decode cX5_readWay 8 = .ok (.iconst 0, 1) := d_by (d_at odX5_readWay ofX5_readWay 8) rfl
theorem dX5_readWay_9 : decode cX5_readWay 9 = .ok (.ireturn, 1) := d_by (d_at odX5_readWay ofX5_readWay 9) rfl
theorem dX5_readWay_10 : decode cX5_readWay 10 = .ok (.aload_n 1, 1) := d_by (d_at odX5_readWay ofX5_readWay 10) rfl
theorem dX5_readWay_11 : decode cX5_readWay 11 = .ok (.aload_n 0, 1) := d_by (d_at odX5_readWay ofX5_readWay 11) rfl
theorem dX5_readWay_12 : decode cX5_readWay 12 = .ok (.getfield 24, 3) := d_by (d_at odX5_readWay ofX5_readWay 12) rfl
theorem dX5_readWay_15 : decode cX5_readWay 15 = .ok (.putfield 176, 3) := d_by (d_at odX5_readWay ofX5_readWay 15) rfl
theorem dX5_readWay_18 : decode cX5_readWay 18 = .ok (.aload_n 0, 1) := d_by (d_at odX5_readWay ofX5_readWay 18) rfl
theorem dX5_readWay_19 : decode cX5_readWay 19 = .ok (.iconst 1, 1) := d_by (d_at odX5_readWay ofX5_readWay 19) rfl
theorem dX5_readWay_20 : decode cX5_readWay 20 = .ok (.invokevirtual 173, 3) := d_by (d_at odX5_readWay ofX5_readWay 20) rfl
theorem dX5_readWay_23 : decode cX5_readWay 23 = .ok (.ifCond .ne 5, 3) := d_by (d_at odX5_readWay ofX5_readWay 23) rfl
theorem dX5_readWay_26 : decode cX5_readWay 26 = .ok (.iconst 0, 1) := d_by (d_at odX5_readWay ofX5_readWay 26) rfl
theorem dX5_readWay_27 : decode cX5_readWay 27 = .ok (.ireturn, 1) := d_by (d_at odX5_readWay ofX5_readWay 27) rfl
theorem dX5_readWay_28 : decode cX5_readWay 28 = .ok (.aload_n 1, 1) := d_by (d_at odX5_readWay ofX5_readWay 28) rfl
theorem dX5_readWay_29 : decode cX5_readWay 29 = .ok (.aload_n 0, 1) := d_by (d_at odX5_readWay ofX5_readWay 29) rfl
theorem dX5_readWay_30 : decode cX5_readWay 30 = .ok (.getfield 24, 3) := d_by (d_at odX5_readWay ofX5_readWay 30) rfl
theorem dX5_readWay_33 : decode cX5_readWay 33 = .ok (.putfield 181, 3) := d_by (d_at odX5_readWay ofX5_readWay 33) rfl
theorem dX5_readWay_36 : decode cX5_readWay 36 = .ok (.aload_n 1, 1) := d_by (d_at odX5_readWay ofX5_readWay 36) rfl
theorem dX5_readWay_37 : decode cX5_readWay 37 = .ok (.getfield 176, 3) := d_by (d_at odX5_readWay ofX5_readWay 37) rfl
theorem dX5_readWay_40 : decode cX5_readWay 40 = .ok (.aload_n 1, 1) := d_by (d_at odX5_readWay ofX5_readWay 40) rfl
theorem dX5_readWay_41 : decode cX5_readWay 41 = .ok (.getfield 181, 3) := d_by (d_at odX5_readWay ofX5_readWay 41) rfl
theorem dX5_readWay_44 : decode cX5_readWay 44 = .ok (.if_icmp .eq 23, 3) := d_by (d_at odX5_readWay ofX5_readWay 44) rfl
theorem dX5_readWay_47 : decode cX5_readWay 47 = .ok (.aload_n 0, 1) := d_by (d_at odX5_readWay ofX5_readWay 47) rfl
theorem dX5_readWay_48 : decode cX5_readWay 48 = .ok (.getfield 51, 3) := d_by (d_at odX5_readWay ofX5_readWay 48) rfl
theorem dX5_readWay_51 : decode cX5_readWay 51 = .ok (.aload_n 1, 1) := d_by (d_at odX5_readWay ofX5_readWay 51) rfl
theorem dX5_readWay_52 : decode cX5_readWay 52 = .ok (.getfield 176, 3) := d_by (d_at odX5_readWay ofX5_readWay 52) rfl
theorem dX5_readWay_55 : decode cX5_readWay 55 = .ok (.aload_n 1, 1) := d_by (d_at odX5_readWay ofX5_readWay 55) rfl
theorem dX5_readWay_56 : decode cX5_readWay 56 = .ok (.getfield 181, 3) := d_by (d_at odX5_readWay ofX5_readWay 56) rfl
theorem dX5_readWay_59 : decode cX5_readWay 59 = .ok (.invokevirtual 184, 3) := d_by (d_at odX5_readWay ofX5_readWay 59) rfl
theorem dX5_readWay_62 : decode cX5_readWay 62 = .ok (.bipush (-2), 2) := d_by (d_at odX5_readWay ofX5_readWay 62) rfl
theorem dX5_readWay_64 : decode cX5_readWay 64 = .ok (.if_icmp .eq 9, 3) := d_by (d_at odX5_readWay ofX5_readWay 64) rfl
theorem dX5_readWay_67 : decode cX5_readWay 67 = .ok (.aload_n 0, 1) := d_by (d_at odX5_readWay ofX5_readWay 67) rfl
theorem dX5_readWay_68 : decode cX5_readWay 68 = .ok (.iconst 3, 1) := d_by (d_at odX5_readWay ofX5_readWay 68) rfl
theorem dX5_readWay_69 : decode cX5_readWay 69 = .ok (.invokevirtual 76, 3) := d_by (d_at odX5_readWay ofX5_readWay 69) rfl
theorem dX5_readWay_72 : decode cX5_readWay 72 = .ok (.ireturn, 1) := d_by (d_at odX5_readWay ofX5_readWay 72) rfl
theorem dX5_readWay_73 : decode cX5_readWay 73 = .ok (.aload_n 0, 1) := d_by (d_at odX5_readWay ofX5_readWay 73) rfl
theorem dX5_readWay_74 : decode cX5_readWay 74 = .ok (.ldc 187, 2) := d_by (d_at odX5_readWay ofX5_readWay 74) rfl
theorem dX5_readWay_76 : decode cX5_readWay 76 = .ok (.invokevirtual 138, 3) := d_by (d_at odX5_readWay ofX5_readWay 76) rfl
theorem dX5_readWay_79 : decode cX5_readWay 79 = .ok (.ifCond .eq 13, 3) := d_by (d_at odX5_readWay ofX5_readWay 79) rfl
theorem dX5_readWay_82 : decode cX5_readWay 82 = .ok (.aload_n 0, 1) := d_by (d_at odX5_readWay ofX5_readWay 82) rfl
theorem dX5_readWay_83 : decode cX5_readWay 83 = .ok (.iconst 1, 1) := d_by (d_at odX5_readWay ofX5_readWay 83) rfl
theorem dX5_readWay_84 : decode cX5_readWay 84 = .ok (.bipush 99, 2) := d_by (d_at odX5_readWay ofX5_readWay 84) rfl
theorem dX5_readWay_86 : decode cX5_readWay 86 = .ok (.invokevirtual 142, 3) := d_by (d_at odX5_readWay ofX5_readWay 86) rfl
theorem dX5_readWay_89 : decode cX5_readWay 89 = .ok (.ifCond .ne 5, 3) := d_by (d_at odX5_readWay ofX5_readWay 89) rfl
theorem dX5_readWay_92 : decode cX5_readWay 92 = .ok (.iconst 0, 1) := d_by (d_at odX5_readWay ofX5_readWay 92) rfl
theorem dX5_readWay_93 : decode cX5_readWay 93 = .ok (.ireturn, 1) := d_by (d_at odX5_readWay ofX5_readWay 93) rfl
theorem dX5_readWay_94 : decode cX5_readWay 94 = .ok (.aload_n 1, 1) := d_by (d_at odX5_readWay ofX5_readWay 94) rfl
theorem dX5_readWay_95 : decode cX5_readWay 95 = .ok (.aload_n 0, 1) := d_by (d_at odX5_readWay ofX5_readWay 95) rfl
theorem dX5_readWay_96 : decode cX5_readWay 96 = .ok (.getfield 24, 3) := d_by (d_at odX5_readWay ofX5_readWay 96) rfl
theorem dX5_readWay_99 : decode cX5_readWay 99 = .ok (.putfield 189, 3) := d_by (d_at odX5_readWay ofX5_readWay 99) rfl
theorem dX5_readWay_102 : decode cX5_readWay 102 = .ok (.aload_n 0, 1) := d_by (d_at odX5_readWay ofX5_readWay 102) rfl
theorem dX5_readWay_103 : decode cX5_readWay 103 = .ok (.ldc 191, 2) := d_by (d_at odX5_readWay ofX5_readWay 103) rfl
theorem dX5_readWay_105 : decode cX5_readWay 105 = .ok (.invokevirtual 138, 3) := d_by (d_at odX5_readWay ofX5_readWay 105) rfl
theorem dX5_readWay_108 : decode cX5_readWay 108 = .ok (.ifCond .eq 13, 3) := d_by (d_at odX5_readWay ofX5_readWay 108) rfl
theorem dX5_readWay_111 : decode cX5_readWay 111 = .ok (.aload_n 0, 1) := d_by (d_at odX5_readWay ofX5_readWay 111) rfl
theorem dX5_readWay_112 : decode cX5_readWay 112 = .ok (.iconst 1, 1) := d_by (d_at odX5_readWay ofX5_readWay 112) rfl
theorem dX5_readWay_113 : decode cX5_readWay 113 = .ok (.bipush 15, 2) := d_by (d_at odX5_readWay ofX5_readWay 113) rfl
theorem dX5_readWay_115 : decode cX5_readWay 115 = .ok (.invokevirtual 142, 3) := d_by (d_at odX5_readWay ofX5_readWay 115) rfl
theorem dX5_readWay_118 : decode cX5_readWay 118 = .ok (.ifCond .ne 5, 3) := d_by (d_at odX5_readWay ofX5_readWay 118) rfl
theorem dX5_readWay_121 : decode cX5_readWay 121 = .ok (.iconst 0, 1) := d_by (d_at odX5_readWay ofX5_readWay 121) rfl
theorem dX5_readWay_122 : decode cX5_readWay 122 = .ok (.ireturn, 1) := d_by (d_at odX5_readWay ofX5_readWay 122) rfl
theorem dX5_readWay_123 : decode cX5_readWay 123 = .ok (.aload_n 1, 1) := d_by (d_at odX5_readWay ofX5_readWay 123) rfl
theorem dX5_readWay_124 : decode cX5_readWay 124 = .ok (.aload_n 0, 1) := d_by (d_at odX5_readWay ofX5_readWay 124) rfl
theorem dX5_readWay_125 : decode cX5_readWay 125 = .ok (.getfield 24, 3) := d_by (d_at odX5_readWay ofX5_readWay 125) rfl
theorem dX5_readWay_128 : decode cX5_readWay 128 = .ok (.putfield 193, 3) := d_by (d_at odX5_readWay ofX5_readWay 128) rfl
theorem dX5_readWay_131 : decode cX5_readWay 131 = .ok (.aload_n 0, 1) := d_by (d_at odX5_readWay ofX5_readWay 131) rfl
theorem dX5_readWay_132 : decode cX5_readWay 132 = .ok (.getfield 51, 3) := d_by (d_at odX5_readWay ofX5_readWay 132) rfl
theorem dX5_readWay_135 : decode cX5_readWay 135 = .ok (.dup, 1) := d_by (d_at odX5_readWay ofX5_readWay 135) rfl
theorem dX5_readWay_136 : decode cX5_readWay 136 = .ok (.getfield 93, 3) := d_by (d_at odX5_readWay ofX5_readWay 136) rfl
theorem dX5_readWay_139 : decode cX5_readWay 139 = .ok (.iconst 1, 1) := d_by (d_at odX5_readWay ofX5_readWay 139) rfl
theorem dX5_readWay_140 : decode cX5_readWay 140 = .ok (.iadd, 1) := d_by (d_at odX5_readWay ofX5_readWay 140) rfl
theorem dX5_readWay_141 : decode cX5_readWay 141 = .ok (.putfield 93, 3) := d_by (d_at odX5_readWay ofX5_readWay 141) rfl
theorem dX5_readWay_144 : decode cX5_readWay 144 = .ok (.iconst 1, 1) := d_by (d_at odX5_readWay ofX5_readWay 144) rfl
theorem dX5_readWay_145 : decode cX5_readWay 145 = .ok (.ireturn, 1) := d_by (d_at odX5_readWay ofX5_readWay 145) rfl
set_option maxRecDepth 100000 in
def bX5_readWhale : List Nat := [42, 6, 42, 180, 0, 51, 180, 0, 104, 182, 0, 158, 154, 0, 5, 3, 172, 42, 182, 0, 70, 43, 42, 182, 0, 195, 181, 0, 198, 43, 180, 0, 198, 16, 254, 160, 0, 9, 42, 4, 182, 0, 76, 172, 42, 18, 203, 182, 0, 138, 153, 0, 11, 42, 4, 182, 0, 173, 154, 0, 5, 3, 172, 43, 42, 180, 0, 24, 181, 0, 204, 42, 18, 207, 182, 0, 138, 153, 0, 13, 42, 3, 16, 99, 182, 0, 142, 154, 0, 5, 3, 172, 43, 42, 180, 0, 24, 181, 0, 209, 42, 18, 211, 182, 0, 138, 153, 0, 13, 42, 3, 16, 99, 182, 0, 142, 154, 0, 5, 3, 172, 43, 42, 180, 0, 24, 181, 0, 213, 42, 180, 0, 51, 89, 180, 0, 104, 4, 96, 181, 0, 104, 4, 172]
set_option maxRecDepth 100000 in
theorem bbX5_readWhale : cX5_readWhale.data.toList.map UInt8.toNat = bX5_readWhale := by decide +kernel
set_option maxRecDepth 100000 in
def tX5_readWhale : Lean.RArray dLf := .branch 72 (.branch 38 (.branch 17 (.branch 6 (.branch 2 (.branch 1 (.leaf (0, .aload_n 0, 1)) (.leaf (1, .iconst 3, 1))) (.branch 3 (.leaf (2, .aload_n 0, 1)) (.leaf (3, .getfield 51, 3)))) (.branch 12 (.branch 9 (.leaf (6, .getfield 104, 3)) (.leaf (9, .invokevirtual 158, 3))) (.branch 15 (.leaf (12, .ifCond .ne 5, 3)) (.branch 16 (.leaf (15, .iconst 0, 1)) (.leaf (16, .ireturn, 1)))))) (.branch 26 (.branch 21 (.branch 18 (.leaf (17, .aload_n 0, 1)) (.leaf (18, .invokevirtual 70, 3))) (.branch 22 (.leaf (21, .aload_n 1, 1)) (.branch 23 (.leaf (22, .aload_n 0, 1)) (.leaf (23, .invokevirtual 195, 3))))) (.branch 30 (.branch 29 (.leaf (26, .putfield 198, 3)) (.leaf (29, .aload_n 1, 1))) (.branch 33 (.leaf (30, .getfield 198, 3)) (.branch 35 (.leaf (33, .bipush (-2), 2)) (.leaf (35, .if_icmp .ne 9, 3))))))) (.branch 54 (.branch 44 (.branch 40 (.branch 39 (.leaf (38, .aload_n 0, 1)) (.leaf (39, .iconst 1, 1))) (.branch 43 (.leaf (40, .invokevirtual 76, 3)) (.leaf (43, .ireturn, 1)))) (.branch 47 (.branch 45 (.leaf (44, .aload_n 0, 1)) (.leaf (45, .ldc 203, 2))) (.branch 50 (.leaf (47, .invokevirtual 138, 3)) (.branch 53 (.leaf (50, .ifCond .eq 11, 3)) (.leaf (53, .aload_n 0, 1)))))) (.branch 63 (.branch 58 (.branch 55 (.leaf (54, .iconst 1, 1)) (.leaf (55, .invokevirtual 173, 3))) (.branch 61 (.leaf (58, .ifCond .ne 5, 3)) (.branch 62 (.leaf (61, .iconst 0, 1)) (.leaf (62, .ireturn, 1))))) (.branch 65 (.branch 64 (.leaf (63, .aload_n 1, 1)) (.leaf (64, .aload_n 0, 1))) (.branch 68 (.leaf (65, .getfield 24, 3)) (.branch 71 (.leaf (68, .putfield 204, 3)) (.leaf (71, .aload_n 0, 1)))))))) (.branch 110 (.branch 91 (.branch 81 (.branch 77 (.branch 74 (.leaf (72, .ldc 207, 2)) (.leaf (74, .invokevirtual 138, 3))) (.branch 80 (.leaf (77, .ifCond .eq 13, 3)) (.leaf (80, .aload_n 0, 1)))) (.branch 84 (.branch 82 (.leaf (81, .iconst 0, 1)) (.leaf (82, .bipush 99, 2))) (.branch 87 (.leaf (84, .invokevirtual 142, 3)) (.branch 90 (.leaf (87, .ifCond .ne 5, 3)) (.leaf (90, .iconst 0, 1)))))) (.branch 100 (.branch 93 (.branch 92 (.leaf (91, .ireturn, 1)) (.leaf (92, .aload_n 1, 1))) (.branch 94 (.leaf (93, .aload_n 0, 1)) (.branch 97 (.leaf (94, .getfield 24, 3)) (.leaf (97, .putfield 209, 3))))) (.branch 103 (.branch 101 (.leaf (100, .aload_n 0, 1)) (.leaf (101, .ldc 211, 2))) (.branch 106 (.leaf (103, .invokevirtual 138, 3)) (.branch 109 (.leaf (106, .ifCond .eq 13, 3)) (.leaf (109, .aload_n 0, 1))))))) (.branch 126 (.branch 119 (.branch 113 (.branch 111 (.leaf (110, .iconst 0, 1)) (.leaf (111, .bipush 99, 2))) (.branch 116 (.leaf (113, .invokevirtual 142, 3)) (.leaf (116, .ifCond .ne 5, 3)))) (.branch 121 (.branch 120 (.leaf (119, .iconst 0, 1)) (.leaf (120, .ireturn, 1))) (.branch 122 (.leaf (121, .aload_n 1, 1)) (.branch 123 (.leaf (122, .aload_n 0, 1)) (.leaf (123, .getfield 24, 3)))))) (.branch 137 (.branch 130 (.branch 129 (.leaf (126, .putfield 213, 3)) (.leaf (129, .aload_n 0, 1))) (.branch 133 (.leaf (130, .getfield 51, 3)) (.branch 134 (.leaf (133, .dup, 1)) (.leaf (134, .getfield 104, 3))))) (.branch 139 (.branch 138 (.leaf (137, .iconst 1, 1)) (.leaf (138, .iadd, 1))) (.branch 142 (.leaf (139, .putfield 104, 3)) (.branch 143 (.leaf (142, .iconst 1, 1)) (.leaf (143, .ireturn, 1))))))))
noncomputable def oX5_readWhale : List dLf := dFl tX5_readWhale
theorem ofX5_readWhale : dFl tX5_readWhale = oX5_readWhale := rfl
set_option maxRecDepth 100000 in
theorem odX5_readWhale : ∀ q ∈ oX5_readWhale, decode cX5_readWhale q.1 = .ok (q.2.1, q.2.2) := q_go qT_ok bbX5_readWhale oX5_readWhale 0 (by decide +kernel)
theorem dX5_readWhale_0 : decode cX5_readWhale 0 = .ok (.aload_n 0, 1) := d_by (d_at odX5_readWhale ofX5_readWhale 0) rfl
theorem dX5_readWhale_1 : decode cX5_readWhale 1 = .ok (.iconst 3, 1) := d_by (d_at odX5_readWhale ofX5_readWhale 1) rfl
theorem dX5_readWhale_2 : decode cX5_readWhale 2 = .ok (.aload_n 0, 1) := d_by (d_at odX5_readWhale ofX5_readWhale 2) rfl
theorem dX5_readWhale_3 : decode cX5_readWhale 3 = .ok (.getfield 51, 3) := d_by (d_at odX5_readWhale ofX5_readWhale 3) rfl
theorem dX5_readWhale_6 : decode cX5_readWhale 6 = .ok (.getfield 104, 3) := d_by (d_at odX5_readWhale ofX5_readWhale 6) rfl
theorem dX5_readWhale_9 : decode cX5_readWhale 9 = .ok (.invokevirtual 158, 3) := d_by (d_at odX5_readWhale ofX5_readWhale 9) rfl
theorem dX5_readWhale_12 : decode cX5_readWhale 12 = .ok (.ifCond .ne 5, 3) := d_by (d_at odX5_readWhale ofX5_readWhale 12) rfl
theorem dX5_readWhale_15 : decode cX5_readWhale 15 = .ok (.iconst 0, 1) := d_by (d_at odX5_readWhale ofX5_readWhale 15) rfl
theorem dX5_readWhale_16 : decode cX5_readWhale 16 = .ok (.ireturn, 1) := d_by (d_at odX5_readWhale ofX5_readWhale 16) rfl
theorem dX5_readWhale_17 : decode cX5_readWhale 17 = .ok (.aload_n 0, 1) := d_by (d_at odX5_readWhale ofX5_readWhale 17) rfl
theorem dX5_readWhale_18 : decode cX5_readWhale 18 = .ok (.invokevirtual 70, 3) := d_by (d_at odX5_readWhale ofX5_readWhale 18) rfl
theorem dX5_readWhale_21 : decode cX5_readWhale 21 = .ok (.aload_n 1, 1) := d_by (d_at odX5_readWhale ofX5_readWhale 21) rfl
theorem dX5_readWhale_22 : decode cX5_readWhale 22 = .ok (.aload_n 0, 1) := d_by (d_at odX5_readWhale ofX5_readWhale 22) rfl
theorem dX5_readWhale_23 : decode cX5_readWhale 23 = .ok (.invokevirtual 195, 3) := d_by (d_at odX5_readWhale ofX5_readWhale 23) rfl
theorem dX5_readWhale_26 : decode cX5_readWhale 26 = .ok (.putfield 198, 3) := d_by (d_at odX5_readWhale ofX5_readWhale 26) rfl
theorem dX5_readWhale_29 : decode cX5_readWhale 29 = .ok (.aload_n 1, 1) := d_by (d_at odX5_readWhale ofX5_readWhale 29) rfl
theorem dX5_readWhale_30 : decode cX5_readWhale 30 = .ok (.getfield 198, 3) := d_by (d_at odX5_readWhale ofX5_readWhale 30) rfl
theorem dX5_readWhale_33 : decode cX5_readWhale 33 = .ok (.bipush (-2), 2) := d_by (d_at odX5_readWhale ofX5_readWhale 33) rfl
theorem dX5_readWhale_35 : decode cX5_readWhale 35 = .ok (.if_icmp .ne 9, 3) := d_by (d_at odX5_readWhale ofX5_readWhale 35) rfl
theorem dX5_readWhale_38 : decode cX5_readWhale 38 = .ok (.aload_n 0, 1) := d_by (d_at odX5_readWhale ofX5_readWhale 38) rfl
theorem dX5_readWhale_39 : decode cX5_readWhale 39 = .ok (.iconst 1, 1) := d_by (d_at odX5_readWhale ofX5_readWhale 39) rfl
theorem dX5_readWhale_40 : decode cX5_readWhale 40 = .ok (.invokevirtual 76, 3) := d_by (d_at odX5_readWhale ofX5_readWhale 40) rfl
theorem dX5_readWhale_43 : decode cX5_readWhale 43 = .ok (.ireturn, 1) := d_by (d_at odX5_readWhale ofX5_readWhale 43) rfl
theorem dX5_readWhale_44 : decode cX5_readWhale 44 = .ok (.aload_n 0, 1) := d_by (d_at odX5_readWhale ofX5_readWhale 44) rfl
theorem dX5_readWhale_45 : decode cX5_readWhale 45 = .ok (.ldc 203, 2) := d_by (d_at odX5_readWhale ofX5_readWhale 45) rfl
theorem dX5_readWhale_47 : decode cX5_readWhale 47 = .ok (.invokevirtual 138, 3) := d_by (d_at odX5_readWhale ofX5_readWhale 47) rfl
theorem dX5_readWhale_50 : decode cX5_readWhale 50 = .ok (.ifCond .eq 11, 3) := d_by (d_at odX5_readWhale ofX5_readWhale 50) rfl
theorem dX5_readWhale_53 : decode cX5_readWhale 53 = .ok (.aload_n 0, 1) := d_by (d_at odX5_readWhale ofX5_readWhale 53) rfl
theorem dX5_readWhale_54 : decode cX5_readWhale 54 = .ok (.iconst 1, 1) := d_by (d_at odX5_readWhale ofX5_readWhale 54) rfl
theorem dX5_readWhale_55 : decode cX5_readWhale 55 = .ok (.invokevirtual 173, 3) := d_by (d_at odX5_readWhale ofX5_readWhale 55) rfl
theorem dX5_readWhale_58 : decode cX5_readWhale 58 = .ok (.ifCond .ne 5, 3) := d_by (d_at odX5_readWhale ofX5_readWhale 58) rfl
theorem dX5_readWhale_61 : decode cX5_readWhale 61 = .ok (.iconst 0, 1) := d_by (d_at odX5_readWhale ofX5_readWhale 61) rfl
theorem dX5_readWhale_62 : decode cX5_readWhale 62 = .ok (.ireturn, 1) := d_by (d_at odX5_readWhale ofX5_readWhale 62) rfl
theorem dX5_readWhale_63 : decode cX5_readWhale 63 = .ok (.aload_n 1, 1) := d_by (d_at odX5_readWhale ofX5_readWhale 63) rfl
theorem dX5_readWhale_64 : decode cX5_readWhale 64 = .ok (.aload_n 0, 1) := d_by (d_at odX5_readWhale ofX5_readWhale 64) rfl
theorem dX5_readWhale_65 : decode cX5_readWhale 65 = .ok (.getfield 24, 3) := d_by (d_at odX5_readWhale ofX5_readWhale 65) rfl
theorem dX5_readWhale_68 : decode cX5_readWhale 68 = .ok (.putfield 204, 3) := d_by (d_at odX5_readWhale ofX5_readWhale 68) rfl
theorem dX5_readWhale_71 : decode cX5_readWhale 71 = .ok (.aload_n 0, 1) := d_by (d_at odX5_readWhale ofX5_readWhale 71) rfl
theorem dX5_readWhale_72 : decode cX5_readWhale 72 = .ok (.ldc 207, 2) := d_by (d_at odX5_readWhale ofX5_readWhale 72) rfl
theorem dX5_readWhale_74 : decode cX5_readWhale 74 = .ok (.invokevirtual 138, 3) := d_by (d_at odX5_readWhale ofX5_readWhale 74) rfl
theorem dX5_readWhale_77 : decode cX5_readWhale 77 = .ok (.ifCond .eq 13, 3) := d_by (d_at odX5_readWhale ofX5_readWhale 77) rfl
theorem dX5_readWhale_80 : decode cX5_readWhale 80 = .ok (.aload_n 0, 1) := d_by (d_at odX5_readWhale ofX5_readWhale 80) rfl
theorem dX5_readWhale_81 : decode cX5_readWhale 81 = .ok (.iconst 0, 1) := d_by (d_at odX5_readWhale ofX5_readWhale 81) rfl
theorem dX5_readWhale_82 : decode cX5_readWhale 82 = .ok (.bipush 99, 2) := d_by (d_at odX5_readWhale ofX5_readWhale 82) rfl
theorem dX5_readWhale_84 : decode cX5_readWhale 84 = .ok (.invokevirtual 142, 3) := d_by (d_at odX5_readWhale ofX5_readWhale 84) rfl
theorem dX5_readWhale_87 : decode cX5_readWhale 87 = .ok (.ifCond .ne 5, 3) := d_by (d_at odX5_readWhale ofX5_readWhale 87) rfl
theorem dX5_readWhale_90 : decode cX5_readWhale 90 = .ok (.iconst 0, 1) := d_by (d_at odX5_readWhale ofX5_readWhale 90) rfl
theorem dX5_readWhale_91 : decode cX5_readWhale 91 = .ok (.ireturn, 1) := d_by (d_at odX5_readWhale ofX5_readWhale 91) rfl
theorem dX5_readWhale_92 : decode cX5_readWhale 92 = .ok (.aload_n 1, 1) := d_by (d_at odX5_readWhale ofX5_readWhale 92) rfl
theorem dX5_readWhale_93 : decode cX5_readWhale 93 = .ok (.aload_n 0, 1) := d_by (d_at odX5_readWhale ofX5_readWhale 93) rfl
theorem dX5_readWhale_94 : decode cX5_readWhale 94 = .ok (.getfield 24, 3) := d_by (d_at odX5_readWhale ofX5_readWhale 94) rfl
theorem dX5_readWhale_97 : decode cX5_readWhale 97 = .ok (.putfield 209, 3) := d_by (d_at odX5_readWhale ofX5_readWhale 97) rfl
theorem dX5_readWhale_100 : decode cX5_readWhale 100 = .ok (.aload_n 0, 1) := d_by (d_at odX5_readWhale ofX5_readWhale 100) rfl
theorem dX5_readWhale_101 : decode cX5_readWhale 101 = .ok (.ldc 211, 2) := d_by (d_at odX5_readWhale ofX5_readWhale 101) rfl
theorem dX5_readWhale_103 : decode cX5_readWhale 103 = .ok (.invokevirtual 138, 3) := d_by (d_at odX5_readWhale ofX5_readWhale 103) rfl
theorem dX5_readWhale_106 : decode cX5_readWhale 106 = .ok (.ifCond .eq 13, 3) := d_by (d_at odX5_readWhale ofX5_readWhale 106) rfl
theorem dX5_readWhale_109 : decode cX5_readWhale 109 = .ok (.aload_n 0, 1) := d_by (d_at odX5_readWhale ofX5_readWhale 109) rfl
theorem dX5_readWhale_110 : decode cX5_readWhale 110 = .ok (.iconst 0, 1) := d_by (d_at odX5_readWhale ofX5_readWhale 110) rfl
theorem dX5_readWhale_111 : decode cX5_readWhale 111 = .ok (.bipush 99, 2) := d_by (d_at odX5_readWhale ofX5_readWhale 111) rfl
theorem dX5_readWhale_113 : decode cX5_readWhale 113 = .ok (.invokevirtual 142, 3) := d_by (d_at odX5_readWhale ofX5_readWhale 113) rfl
theorem dX5_readWhale_116 : decode cX5_readWhale 116 = .ok (.ifCond .ne 5, 3) := d_by (d_at odX5_readWhale ofX5_readWhale 116) rfl
theorem dX5_readWhale_119 : decode cX5_readWhale 119 = .ok (.iconst 0, 1) := d_by (d_at odX5_readWhale ofX5_readWhale 119) rfl
theorem dX5_readWhale_120 : decode cX5_readWhale 120 = .ok (.ireturn, 1) := d_by (d_at odX5_readWhale ofX5_readWhale 120) rfl
theorem dX5_readWhale_121 : decode cX5_readWhale 121 = .ok (.aload_n 1, 1) := d_by (d_at odX5_readWhale ofX5_readWhale 121) rfl
theorem dX5_readWhale_122 : decode cX5_readWhale 122 = .ok (.aload_n 0, 1) := d_by (d_at odX5_readWhale ofX5_readWhale 122) rfl
theorem dX5_readWhale_123 : decode cX5_readWhale 123 = .ok (.getfield 24, 3) := d_by (d_at odX5_readWhale ofX5_readWhale 123) rfl
theorem dX5_readWhale_126 : decode cX5_readWhale 126 = .ok (.putfield 213, 3) := d_by (d_at odX5_readWhale ofX5_readWhale 126) rfl
theorem dX5_readWhale_129 : decode cX5_readWhale 129 = .ok (.aload_n 0, 1) := d_by (d_at odX5_readWhale ofX5_readWhale 129) rfl
theorem dX5_readWhale_130 : decode cX5_readWhale 130 = .ok (.getfield 51, 3) := d_by (d_at odX5_readWhale ofX5_readWhale 130) rfl
theorem dX5_readWhale_133 : decode cX5_readWhale 133 = .ok (.dup, 1) := d_by (d_at odX5_readWhale ofX5_readWhale 133) rfl
theorem dX5_readWhale_134 : decode cX5_readWhale 134 = .ok (.getfield 104, 3) := d_by (d_at odX5_readWhale ofX5_readWhale 134) rfl
theorem dX5_readWhale_137 : decode cX5_readWhale 137 = .ok (.iconst 1, 1) := d_by (d_at odX5_readWhale ofX5_readWhale 137) rfl
theorem dX5_readWhale_138 : decode cX5_readWhale 138 = .ok (.iadd, 1) := d_by (d_at odX5_readWhale ofX5_readWhale 138) rfl
theorem dX5_readWhale_139 : decode cX5_readWhale 139 = .ok (.putfield 104, 3) := d_by (d_at odX5_readWhale ofX5_readWhale 139) rfl
theorem dX5_readWhale_142 : decode cX5_readWhale 142 = .ok (.iconst 1, 1) := d_by (d_at odX5_readWhale ofX5_readWhale 142) rfl
theorem dX5_readWhale_143 : decode cX5_readWhale 143 = .ok (.ireturn, 1) := d_by (d_at odX5_readWhale ofX5_readWhale 143) rfl
set_option maxRecDepth 100000 in
def bX5_readBox : List Nat := [42, 7, 42, 180, 0, 51, 180, 0, 115, 182, 0, 158, 153, 0, 20, 42, 18, 215, 182, 0, 138, 153, 0, 11, 42, 4, 182, 0, 173, 154, 0, 5, 3, 172, 43, 42, 180, 0, 24, 181, 0, 217, 42, 18, 221, 182, 0, 138, 153, 0, 11, 42, 4, 182, 0, 173, 154, 0, 5, 3, 172, 43, 42, 180, 0, 24, 181, 0, 223, 42, 18, 225, 182, 0, 138, 153, 0, 13, 42, 4, 16, 99, 182, 0, 142, 154, 0, 5, 3, 172, 43, 42, 180, 0, 24, 181, 0, 227, 42, 18, 229, 182, 0, 138, 153, 0, 14, 42, 3, 17, 39, 15, 182, 0, 142, 154, 0, 5, 3, 172, 43, 42, 180, 0, 24, 181, 0, 231, 42, 180, 0, 51, 89, 180, 0, 115, 4, 96, 181, 0, 115, 4, 172]
set_option maxRecDepth 100000 in
theorem bbX5_readBox : cX5_readBox.data.toList.map UInt8.toNat = bX5_readBox := by decide +kernel
set_option maxRecDepth 100000 in
def tX5_readBox : Lean.RArray dLf := .branch 72 (.branch 35 (.branch 18 (.branch 6 (.branch 2 (.branch 1 (.leaf (0, .aload_n 0, 1)) (.leaf (1, .iconst 4, 1))) (.branch 3 (.leaf (2, .aload_n 0, 1)) (.leaf (3, .getfield 51, 3)))) (.branch 12 (.branch 9 (.leaf (6, .getfield 115, 3)) (.leaf (9, .invokevirtual 158, 3))) (.branch 15 (.leaf (12, .ifCond .eq 20, 3)) (.branch 16 (.leaf (15, .aload_n 0, 1)) (.leaf (16, .ldc 215, 2)))))) (.branch 26 (.branch 24 (.branch 21 (.leaf (18, .invokevirtual 138, 3)) (.leaf (21, .ifCond .eq 11, 3))) (.branch 25 (.leaf (24, .aload_n 0, 1)) (.leaf (25, .iconst 1, 1)))) (.branch 32 (.branch 29 (.leaf (26, .invokevirtual 173, 3)) (.leaf (29, .ifCond .ne 5, 3))) (.branch 33 (.leaf (32, .iconst 0, 1)) (.branch 34 (.leaf (33, .ireturn, 1)) (.leaf (34, .aload_n 1, 1))))))) (.branch 53 (.branch 43 (.branch 39 (.branch 36 (.leaf (35, .aload_n 0, 1)) (.leaf (36, .getfield 24, 3))) (.branch 42 (.leaf (39, .putfield 217, 3)) (.leaf (42, .aload_n 0, 1)))) (.branch 48 (.branch 45 (.leaf (43, .ldc 221, 2)) (.leaf (45, .invokevirtual 138, 3))) (.branch 51 (.leaf (48, .ifCond .eq 11, 3)) (.branch 52 (.leaf (51, .aload_n 0, 1)) (.leaf (52, .iconst 1, 1)))))) (.branch 62 (.branch 59 (.branch 56 (.leaf (53, .invokevirtual 173, 3)) (.leaf (56, .ifCond .ne 5, 3))) (.branch 60 (.leaf (59, .iconst 0, 1)) (.branch 61 (.leaf (60, .ireturn, 1)) (.leaf (61, .aload_n 1, 1))))) (.branch 66 (.branch 63 (.leaf (62, .aload_n 0, 1)) (.leaf (63, .getfield 24, 3))) (.branch 69 (.leaf (66, .putfield 223, 3)) (.branch 70 (.leaf (69, .aload_n 0, 1)) (.leaf (70, .ldc 225, 2)))))))) (.branch 108 (.branch 90 (.branch 80 (.branch 78 (.branch 75 (.leaf (72, .invokevirtual 138, 3)) (.leaf (75, .ifCond .eq 13, 3))) (.branch 79 (.leaf (78, .aload_n 0, 1)) (.leaf (79, .iconst 1, 1)))) (.branch 85 (.branch 82 (.leaf (80, .bipush 99, 2)) (.leaf (82, .invokevirtual 142, 3))) (.branch 88 (.leaf (85, .ifCond .ne 5, 3)) (.branch 89 (.leaf (88, .iconst 0, 1)) (.leaf (89, .ireturn, 1)))))) (.branch 98 (.branch 92 (.branch 91 (.leaf (90, .aload_n 1, 1)) (.leaf (91, .aload_n 0, 1))) (.branch 95 (.leaf (92, .getfield 24, 3)) (.leaf (95, .putfield 227, 3)))) (.branch 101 (.branch 99 (.leaf (98, .aload_n 0, 1)) (.leaf (99, .ldc 229, 2))) (.branch 104 (.leaf (101, .invokevirtual 138, 3)) (.branch 107 (.leaf (104, .ifCond .eq 14, 3)) (.leaf (107, .aload_n 0, 1))))))) (.branch 125 (.branch 118 (.branch 112 (.branch 109 (.leaf (108, .iconst 0, 1)) (.leaf (109, .sipush 9999, 3))) (.branch 115 (.leaf (112, .invokevirtual 142, 3)) (.leaf (115, .ifCond .ne 5, 3)))) (.branch 120 (.branch 119 (.leaf (118, .iconst 0, 1)) (.leaf (119, .ireturn, 1))) (.branch 121 (.leaf (120, .aload_n 1, 1)) (.branch 122 (.leaf (121, .aload_n 0, 1)) (.leaf (122, .getfield 24, 3)))))) (.branch 136 (.branch 129 (.branch 128 (.leaf (125, .putfield 231, 3)) (.leaf (128, .aload_n 0, 1))) (.branch 132 (.leaf (129, .getfield 51, 3)) (.branch 133 (.leaf (132, .dup, 1)) (.leaf (133, .getfield 115, 3))))) (.branch 138 (.branch 137 (.leaf (136, .iconst 1, 1)) (.leaf (137, .iadd, 1))) (.branch 141 (.leaf (138, .putfield 115, 3)) (.branch 142 (.leaf (141, .iconst 1, 1)) (.leaf (142, .ireturn, 1))))))))
noncomputable def oX5_readBox : List dLf := dFl tX5_readBox
theorem ofX5_readBox : dFl tX5_readBox = oX5_readBox := rfl
set_option maxRecDepth 100000 in
theorem odX5_readBox : ∀ q ∈ oX5_readBox, decode cX5_readBox q.1 = .ok (q.2.1, q.2.2) := q_go qT_ok bbX5_readBox oX5_readBox 0 (by decide +kernel)
theorem dX5_readBox_0 : decode cX5_readBox 0 = .ok (.aload_n 0, 1) := d_by (d_at odX5_readBox ofX5_readBox 0) rfl
theorem dX5_readBox_1 : decode cX5_readBox 1 = .ok (.iconst 4, 1) := d_by (d_at odX5_readBox ofX5_readBox 1) rfl
theorem dX5_readBox_2 : decode cX5_readBox 2 = .ok (.aload_n 0, 1) := d_by (d_at odX5_readBox ofX5_readBox 2) rfl
theorem dX5_readBox_3 : decode cX5_readBox 3 = .ok (.getfield 51, 3) := d_by (d_at odX5_readBox ofX5_readBox 3) rfl
theorem dX5_readBox_6 : decode cX5_readBox 6 = .ok (.getfield 115, 3) := d_by (d_at odX5_readBox ofX5_readBox 6) rfl
theorem dX5_readBox_9 : decode cX5_readBox 9 = .ok (.invokevirtual 158, 3) := d_by (d_at odX5_readBox ofX5_readBox 9) rfl
theorem dX5_readBox_12 : decode cX5_readBox 12 = .ok (.ifCond .eq 20, 3) := d_by (d_at odX5_readBox ofX5_readBox 12) rfl
theorem dX5_readBox_15 : decode cX5_readBox 15 = .ok (.aload_n 0, 1) := d_by (d_at odX5_readBox ofX5_readBox 15) rfl
theorem dX5_readBox_16 : decode cX5_readBox 16 = .ok (.ldc 215, 2) := d_by (d_at odX5_readBox ofX5_readBox 16) rfl
theorem dX5_readBox_18 : decode cX5_readBox 18 = .ok (.invokevirtual 138, 3) := d_by (d_at odX5_readBox ofX5_readBox 18) rfl
theorem dX5_readBox_21 : decode cX5_readBox 21 = .ok (.ifCond .eq 11, 3) := d_by (d_at odX5_readBox ofX5_readBox 21) rfl
theorem dX5_readBox_24 : decode cX5_readBox 24 = .ok (.aload_n 0, 1) := d_by (d_at odX5_readBox ofX5_readBox 24) rfl
theorem dX5_readBox_25 : decode cX5_readBox 25 = .ok (.iconst 1, 1) := d_by (d_at odX5_readBox ofX5_readBox 25) rfl
theorem dX5_readBox_26 : decode cX5_readBox 26 = .ok (.invokevirtual 173, 3) := d_by (d_at odX5_readBox ofX5_readBox 26) rfl
theorem dX5_readBox_29 : decode cX5_readBox 29 = .ok (.ifCond .ne 5, 3) := d_by (d_at odX5_readBox ofX5_readBox 29) rfl
theorem dX5_readBox_32 : decode cX5_readBox 32 = .ok (.iconst 0, 1) := d_by (d_at odX5_readBox ofX5_readBox 32) rfl
theorem dX5_readBox_33 : decode cX5_readBox 33 = .ok (.ireturn, 1) := d_by (d_at odX5_readBox ofX5_readBox 33) rfl
theorem dX5_readBox_34 : decode cX5_readBox 34 = .ok (.aload_n 1, 1) := d_by (d_at odX5_readBox ofX5_readBox 34) rfl
theorem dX5_readBox_35 : decode cX5_readBox 35 = .ok (.aload_n 0, 1) := d_by (d_at odX5_readBox ofX5_readBox 35) rfl
theorem dX5_readBox_36 : decode cX5_readBox 36 = .ok (.getfield 24, 3) := d_by (d_at odX5_readBox ofX5_readBox 36) rfl
theorem dX5_readBox_39 : decode cX5_readBox 39 = .ok (.putfield 217, 3) := d_by (d_at odX5_readBox ofX5_readBox 39) rfl
theorem dX5_readBox_42 : decode cX5_readBox 42 = .ok (.aload_n 0, 1) := d_by (d_at odX5_readBox ofX5_readBox 42) rfl
theorem dX5_readBox_43 : decode cX5_readBox 43 = .ok (.ldc 221, 2) := d_by (d_at odX5_readBox ofX5_readBox 43) rfl
theorem dX5_readBox_45 : decode cX5_readBox 45 = .ok (.invokevirtual 138, 3) := d_by (d_at odX5_readBox ofX5_readBox 45) rfl
theorem dX5_readBox_48 : decode cX5_readBox 48 = .ok (.ifCond .eq 11, 3) := d_by (d_at odX5_readBox ofX5_readBox 48) rfl
theorem dX5_readBox_51 : decode cX5_readBox 51 = .ok (.aload_n 0, 1) := d_by (d_at odX5_readBox ofX5_readBox 51) rfl
theorem dX5_readBox_52 : decode cX5_readBox 52 = .ok (.iconst 1, 1) := d_by (d_at odX5_readBox ofX5_readBox 52) rfl
theorem dX5_readBox_53 : decode cX5_readBox 53 = .ok (.invokevirtual 173, 3) := d_by (d_at odX5_readBox ofX5_readBox 53) rfl
theorem dX5_readBox_56 : decode cX5_readBox 56 = .ok (.ifCond .ne 5, 3) := d_by (d_at odX5_readBox ofX5_readBox 56) rfl
theorem dX5_readBox_59 : decode cX5_readBox 59 = .ok (.iconst 0, 1) := d_by (d_at odX5_readBox ofX5_readBox 59) rfl
theorem dX5_readBox_60 : decode cX5_readBox 60 = .ok (.ireturn, 1) := d_by (d_at odX5_readBox ofX5_readBox 60) rfl
theorem dX5_readBox_61 : decode cX5_readBox 61 = .ok (.aload_n 1, 1) := d_by (d_at odX5_readBox ofX5_readBox 61) rfl
theorem dX5_readBox_62 : decode cX5_readBox 62 = .ok (.aload_n 0, 1) := d_by (d_at odX5_readBox ofX5_readBox 62) rfl
theorem dX5_readBox_63 : decode cX5_readBox 63 = .ok (.getfield 24, 3) := d_by (d_at odX5_readBox ofX5_readBox 63) rfl
theorem dX5_readBox_66 : decode cX5_readBox 66 = .ok (.putfield 223, 3) := d_by (d_at odX5_readBox ofX5_readBox 66) rfl
theorem dX5_readBox_69 : decode cX5_readBox 69 = .ok (.aload_n 0, 1) := d_by (d_at odX5_readBox ofX5_readBox 69) rfl
theorem dX5_readBox_70 : decode cX5_readBox 70 = .ok (.ldc 225, 2) := d_by (d_at odX5_readBox ofX5_readBox 70) rfl
theorem dX5_readBox_72 : decode cX5_readBox 72 = .ok (.invokevirtual 138, 3) := d_by (d_at odX5_readBox ofX5_readBox 72) rfl
theorem dX5_readBox_75 : decode cX5_readBox 75 = .ok (.ifCond .eq 13, 3) := d_by (d_at odX5_readBox ofX5_readBox 75) rfl
theorem dX5_readBox_78 : decode cX5_readBox 78 = .ok (.aload_n 0, 1) := d_by (d_at odX5_readBox ofX5_readBox 78) rfl
theorem dX5_readBox_79 : decode cX5_readBox 79 = .ok (.iconst 1, 1) := d_by (d_at odX5_readBox ofX5_readBox 79) rfl
theorem dX5_readBox_80 : decode cX5_readBox 80 = .ok (.bipush 99, 2) := d_by (d_at odX5_readBox ofX5_readBox 80) rfl
theorem dX5_readBox_82 : decode cX5_readBox 82 = .ok (.invokevirtual 142, 3) := d_by (d_at odX5_readBox ofX5_readBox 82) rfl
theorem dX5_readBox_85 : decode cX5_readBox 85 = .ok (.ifCond .ne 5, 3) := d_by (d_at odX5_readBox ofX5_readBox 85) rfl
theorem dX5_readBox_88 : decode cX5_readBox 88 = .ok (.iconst 0, 1) := d_by (d_at odX5_readBox ofX5_readBox 88) rfl
theorem dX5_readBox_89 : decode cX5_readBox 89 = .ok (.ireturn, 1) := d_by (d_at odX5_readBox ofX5_readBox 89) rfl
theorem dX5_readBox_90 : decode cX5_readBox 90 = .ok (.aload_n 1, 1) := d_by (d_at odX5_readBox ofX5_readBox 90) rfl
theorem dX5_readBox_91 : decode cX5_readBox 91 = .ok (.aload_n 0, 1) := d_by (d_at odX5_readBox ofX5_readBox 91) rfl
theorem dX5_readBox_92 : decode cX5_readBox 92 = .ok (.getfield 24, 3) := d_by (d_at odX5_readBox ofX5_readBox 92) rfl
theorem dX5_readBox_95 : decode cX5_readBox 95 = .ok (.putfield 227, 3) := d_by (d_at odX5_readBox ofX5_readBox 95) rfl
theorem dX5_readBox_98 : decode cX5_readBox 98 = .ok (.aload_n 0, 1) := d_by (d_at odX5_readBox ofX5_readBox 98) rfl
theorem dX5_readBox_99 : decode cX5_readBox 99 = .ok (.ldc 229, 2) := d_by (d_at odX5_readBox ofX5_readBox 99) rfl
theorem dX5_readBox_101 : decode cX5_readBox 101 = .ok (.invokevirtual 138, 3) := d_by (d_at odX5_readBox ofX5_readBox 101) rfl
theorem dX5_readBox_104 : decode cX5_readBox 104 = .ok (.ifCond .eq 14, 3) := d_by (d_at odX5_readBox ofX5_readBox 104) rfl
theorem dX5_readBox_107 : decode cX5_readBox 107 = .ok (.aload_n 0, 1) := d_by (d_at odX5_readBox ofX5_readBox 107) rfl
theorem dX5_readBox_108 : decode cX5_readBox 108 = .ok (.iconst 0, 1) := d_by (d_at odX5_readBox ofX5_readBox 108) rfl
theorem dX5_readBox_109 : decode cX5_readBox 109 = .ok (.sipush 9999, 3) := d_by (d_at odX5_readBox ofX5_readBox 109) rfl
theorem dX5_readBox_112 : decode cX5_readBox 112 = .ok (.invokevirtual 142, 3) := d_by (d_at odX5_readBox ofX5_readBox 112) rfl
theorem dX5_readBox_115 : decode cX5_readBox 115 = .ok (.ifCond .ne 5, 3) := d_by (d_at odX5_readBox ofX5_readBox 115) rfl
theorem dX5_readBox_118 : decode cX5_readBox 118 = .ok (.iconst 0, 1) := d_by (d_at odX5_readBox ofX5_readBox 118) rfl
theorem dX5_readBox_119 : decode cX5_readBox 119 = .ok (.ireturn, 1) := d_by (d_at odX5_readBox ofX5_readBox 119) rfl
theorem dX5_readBox_120 : decode cX5_readBox 120 = .ok (.aload_n 1, 1) := d_by (d_at odX5_readBox ofX5_readBox 120) rfl
theorem dX5_readBox_121 : decode cX5_readBox 121 = .ok (.aload_n 0, 1) := d_by (d_at odX5_readBox ofX5_readBox 121) rfl
theorem dX5_readBox_122 : decode cX5_readBox 122 = .ok (.getfield 24, 3) := d_by (d_at odX5_readBox ofX5_readBox 122) rfl
theorem dX5_readBox_125 : decode cX5_readBox 125 = .ok (.putfield 231, 3) := d_by (d_at odX5_readBox ofX5_readBox 125) rfl
theorem dX5_readBox_128 : decode cX5_readBox 128 = .ok (.aload_n 0, 1) := d_by (d_at odX5_readBox ofX5_readBox 128) rfl
theorem dX5_readBox_129 : decode cX5_readBox 129 = .ok (.getfield 51, 3) := d_by (d_at odX5_readBox ofX5_readBox 129) rfl
theorem dX5_readBox_132 : decode cX5_readBox 132 = .ok (.dup, 1) := d_by (d_at odX5_readBox ofX5_readBox 132) rfl
theorem dX5_readBox_133 : decode cX5_readBox 133 = .ok (.getfield 115, 3) := d_by (d_at odX5_readBox ofX5_readBox 133) rfl
theorem dX5_readBox_136 : decode cX5_readBox 136 = .ok (.iconst 1, 1) := d_by (d_at odX5_readBox ofX5_readBox 136) rfl
theorem dX5_readBox_137 : decode cX5_readBox 137 = .ok (.iadd, 1) := d_by (d_at odX5_readBox ofX5_readBox 137) rfl
theorem dX5_readBox_138 : decode cX5_readBox 138 = .ok (.putfield 115, 3) := d_by (d_at odX5_readBox ofX5_readBox 138) rfl
theorem dX5_readBox_141 : decode cX5_readBox 141 = .ok (.iconst 1, 1) := d_by (d_at odX5_readBox ofX5_readBox 141) rfl
theorem dX5_readBox_142 : decode cX5_readBox 142 = .ok (.ireturn, 1) := d_by (d_at odX5_readBox ofX5_readBox 142) rfl
set_option maxRecDepth 100000 in
def bX5_readSpout : List Nat := [42, 6, 182, 0, 173, 154, 0, 5, 3, 172, 43, 42, 180, 0, 24, 181, 0, 233, 42, 4, 182, 0, 173, 154, 0, 5, 3, 172, 43, 42, 180, 0, 24, 181, 0, 237, 42, 180, 0, 51, 43, 180, 0, 233, 182, 0, 240, 61, 28, 16, 254, 160, 0, 7, 3, 167, 0, 17, 42, 180, 0, 51, 180, 0, 129, 28, 50, 180, 0, 244, 4, 96, 62, 42, 18, 229, 182, 0, 138, 153, 0, 14, 42, 29, 17, 39, 15, 182, 0, 142, 154, 0, 5, 3, 172, 43, 42, 180, 0, 24, 181, 0, 244, 42, 180, 0, 51, 89, 180, 0, 126, 4, 96, 181, 0, 126, 4, 172]
set_option maxRecDepth 100000 in
theorem bbX5_readSpout : cX5_readSpout.data.toList.map UInt8.toNat = bX5_readSpout := by decide +kernel
set_option maxRecDepth 100000 in
def tX5_readSpout : Lean.RArray dLf := .branch 59 (.branch 28 (.branch 12 (.branch 8 (.branch 2 (.branch 1 (.leaf (0, .aload_n 0, 1)) (.leaf (1, .iconst 3, 1))) (.branch 5 (.leaf (2, .invokevirtual 173, 3)) (.leaf (5, .ifCond .ne 5, 3)))) (.branch 10 (.branch 9 (.leaf (8, .iconst 0, 1)) (.leaf (9, .ireturn, 1))) (.branch 11 (.leaf (10, .aload_n 1, 1)) (.leaf (11, .aload_n 0, 1))))) (.branch 20 (.branch 18 (.branch 15 (.leaf (12, .getfield 24, 3)) (.leaf (15, .putfield 233, 3))) (.branch 19 (.leaf (18, .aload_n 0, 1)) (.leaf (19, .iconst 1, 1)))) (.branch 26 (.branch 23 (.leaf (20, .invokevirtual 173, 3)) (.leaf (23, .ifCond .ne 5, 3))) (.branch 27 (.leaf (26, .iconst 0, 1)) (.leaf (27, .ireturn, 1)))))) (.branch 44 (.branch 36 (.branch 30 (.branch 29 (.leaf (28, .aload_n 1, 1)) (.leaf (29, .aload_n 0, 1))) (.branch 33 (.leaf (30, .getfield 24, 3)) (.leaf (33, .putfield 237, 3)))) (.branch 40 (.branch 37 (.leaf (36, .aload_n 0, 1)) (.leaf (37, .getfield 51, 3))) (.branch 41 (.leaf (40, .aload_n 1, 1)) (.leaf (41, .getfield 233, 3))))) (.branch 51 (.branch 48 (.branch 47 (.leaf (44, .invokevirtual 240, 3)) (.leaf (47, .istore_n 2, 1))) (.branch 49 (.leaf (48, .iload_n 2, 1)) (.leaf (49, .bipush (-2), 2)))) (.branch 55 (.branch 54 (.leaf (51, .if_icmp .ne 7, 3)) (.leaf (54, .iconst 0, 1))) (.branch 58 (.leaf (55, .goto 17, 3)) (.leaf (58, .aload_n 0, 1))))))) (.branch 90 (.branch 73 (.branch 67 (.branch 65 (.branch 62 (.leaf (59, .getfield 51, 3)) (.leaf (62, .getfield 129, 3))) (.branch 66 (.leaf (65, .iload_n 2, 1)) (.leaf (66, .aaload, 1)))) (.branch 71 (.branch 70 (.leaf (67, .getfield 244, 3)) (.leaf (70, .iconst 1, 1))) (.branch 72 (.leaf (71, .iadd, 1)) (.leaf (72, .istore_n 3, 1))))) (.branch 82 (.branch 76 (.branch 74 (.leaf (73, .aload_n 0, 1)) (.leaf (74, .ldc 229, 2))) (.branch 79 (.leaf (76, .invokevirtual 138, 3)) (.leaf (79, .ifCond .eq 14, 3)))) (.branch 84 (.branch 83 (.leaf (82, .aload_n 0, 1)) (.leaf (83, .iload_n 3, 1))) (.branch 87 (.leaf (84, .sipush 9999, 3)) (.leaf (87, .invokevirtual 142, 3)))))) (.branch 104 (.branch 96 (.branch 94 (.branch 93 (.leaf (90, .ifCond .ne 5, 3)) (.leaf (93, .iconst 0, 1))) (.branch 95 (.leaf (94, .ireturn, 1)) (.leaf (95, .aload_n 1, 1)))) (.branch 100 (.branch 97 (.leaf (96, .aload_n 0, 1)) (.leaf (97, .getfield 24, 3))) (.branch 103 (.leaf (100, .putfield 244, 3)) (.leaf (103, .aload_n 0, 1))))) (.branch 112 (.branch 108 (.branch 107 (.leaf (104, .getfield 51, 3)) (.leaf (107, .dup, 1))) (.branch 111 (.leaf (108, .getfield 126, 3)) (.leaf (111, .iconst 1, 1)))) (.branch 116 (.branch 113 (.leaf (112, .iadd, 1)) (.leaf (113, .putfield 126, 3))) (.branch 117 (.leaf (116, .iconst 1, 1)) (.leaf (117, .ireturn, 1)))))))
noncomputable def oX5_readSpout : List dLf := dFl tX5_readSpout
theorem ofX5_readSpout : dFl tX5_readSpout = oX5_readSpout := rfl
set_option maxRecDepth 100000 in
theorem odX5_readSpout : ∀ q ∈ oX5_readSpout, decode cX5_readSpout q.1 = .ok (q.2.1, q.2.2) := q_go qT_ok bbX5_readSpout oX5_readSpout 0 (by decide +kernel)
theorem dX5_readSpout_0 : decode cX5_readSpout 0 = .ok (.aload_n 0, 1) := d_by (d_at odX5_readSpout ofX5_readSpout 0) rfl
theorem dX5_readSpout_1 : decode cX5_readSpout 1 = .ok (.iconst 3, 1) := d_by (d_at odX5_readSpout ofX5_readSpout 1) rfl
theorem dX5_readSpout_2 : decode cX5_readSpout 2 = .ok (.invokevirtual 173, 3) := d_by (d_at odX5_readSpout ofX5_readSpout 2) rfl
theorem dX5_readSpout_5 : decode cX5_readSpout 5 = .ok (.ifCond .ne 5, 3) := d_by (d_at odX5_readSpout ofX5_readSpout 5) rfl
theorem dX5_readSpout_8 : decode cX5_readSpout 8 = .ok (.iconst 0, 1) := d_by (d_at odX5_readSpout ofX5_readSpout 8) rfl
theorem dX5_readSpout_9 : decode cX5_readSpout 9 = .ok (.ireturn, 1) := d_by (d_at odX5_readSpout ofX5_readSpout 9) rfl
theorem dX5_readSpout_10 : decode cX5_readSpout 10 = .ok (.aload_n 1, 1) := d_by (d_at odX5_readSpout ofX5_readSpout 10) rfl
theorem dX5_readSpout_11 : decode cX5_readSpout 11 = .ok (.aload_n 0, 1) := d_by (d_at odX5_readSpout ofX5_readSpout 11) rfl
theorem dX5_readSpout_12 : decode cX5_readSpout 12 = .ok (.getfield 24, 3) := d_by (d_at odX5_readSpout ofX5_readSpout 12) rfl
theorem dX5_readSpout_15 : decode cX5_readSpout 15 = .ok (.putfield 233, 3) := d_by (d_at odX5_readSpout ofX5_readSpout 15) rfl
theorem dX5_readSpout_18 : decode cX5_readSpout 18 = .ok (.aload_n 0, 1) := d_by (d_at odX5_readSpout ofX5_readSpout 18) rfl
theorem dX5_readSpout_19 : decode cX5_readSpout 19 = .ok (.iconst 1, 1) := d_by (d_at odX5_readSpout ofX5_readSpout 19) rfl
theorem dX5_readSpout_20 : decode cX5_readSpout 20 = .ok (.invokevirtual 173, 3) := d_by (d_at odX5_readSpout ofX5_readSpout 20) rfl
theorem dX5_readSpout_23 : decode cX5_readSpout 23 = .ok (.ifCond .ne 5, 3) := d_by (d_at odX5_readSpout ofX5_readSpout 23) rfl
theorem dX5_readSpout_26 : decode cX5_readSpout 26 = .ok (.iconst 0, 1) := d_by (d_at odX5_readSpout ofX5_readSpout 26) rfl
theorem dX5_readSpout_27 : decode cX5_readSpout 27 = .ok (.ireturn, 1) := d_by (d_at odX5_readSpout ofX5_readSpout 27) rfl
theorem dX5_readSpout_28 : decode cX5_readSpout 28 = .ok (.aload_n 1, 1) := d_by (d_at odX5_readSpout ofX5_readSpout 28) rfl
theorem dX5_readSpout_29 : decode cX5_readSpout 29 = .ok (.aload_n 0, 1) := d_by (d_at odX5_readSpout ofX5_readSpout 29) rfl
theorem dX5_readSpout_30 : decode cX5_readSpout 30 = .ok (.getfield 24, 3) := d_by (d_at odX5_readSpout ofX5_readSpout 30) rfl
theorem dX5_readSpout_33 : decode cX5_readSpout 33 = .ok (.putfield 237, 3) := d_by (d_at odX5_readSpout ofX5_readSpout 33) rfl
theorem dX5_readSpout_36 : decode cX5_readSpout 36 = .ok (.aload_n 0, 1) := d_by (d_at odX5_readSpout ofX5_readSpout 36) rfl
theorem dX5_readSpout_37 : decode cX5_readSpout 37 = .ok (.getfield 51, 3) := d_by (d_at odX5_readSpout ofX5_readSpout 37) rfl
theorem dX5_readSpout_40 : decode cX5_readSpout 40 = .ok (.aload_n 1, 1) := d_by (d_at odX5_readSpout ofX5_readSpout 40) rfl
theorem dX5_readSpout_41 : decode cX5_readSpout 41 = .ok (.getfield 233, 3) := d_by (d_at odX5_readSpout ofX5_readSpout 41) rfl
theorem dX5_readSpout_44 : decode cX5_readSpout 44 = .ok (.invokevirtual 240, 3) := d_by (d_at odX5_readSpout ofX5_readSpout 44) rfl
theorem dX5_readSpout_47 : decode cX5_readSpout 47 = .ok (.istore_n 2, 1) := d_by (d_at odX5_readSpout ofX5_readSpout 47) rfl
theorem dX5_readSpout_48 : decode cX5_readSpout 48 = .ok (.iload_n 2, 1) := d_by (d_at odX5_readSpout ofX5_readSpout 48) rfl
theorem dX5_readSpout_49 : decode cX5_readSpout 49 = .ok (.bipush (-2), 2) := d_by (d_at odX5_readSpout ofX5_readSpout 49) rfl
theorem dX5_readSpout_51 : decode cX5_readSpout 51 = .ok (.if_icmp .ne 7, 3) := d_by (d_at odX5_readSpout ofX5_readSpout 51) rfl
theorem dX5_readSpout_54 : decode cX5_readSpout 54 = .ok (.iconst 0, 1) := d_by (d_at odX5_readSpout ofX5_readSpout 54) rfl
theorem dX5_readSpout_55 : decode cX5_readSpout 55 = .ok (.goto 17, 3) := d_by (d_at odX5_readSpout ofX5_readSpout 55) rfl
theorem dX5_readSpout_58 : decode cX5_readSpout 58 = .ok (.aload_n 0, 1) := d_by (d_at odX5_readSpout ofX5_readSpout 58) rfl
theorem dX5_readSpout_59 : decode cX5_readSpout 59 = .ok (.getfield 51, 3) := d_by (d_at odX5_readSpout ofX5_readSpout 59) rfl
theorem dX5_readSpout_62 : decode cX5_readSpout 62 = .ok (.getfield 129, 3) := d_by (d_at odX5_readSpout ofX5_readSpout 62) rfl
theorem dX5_readSpout_65 : decode cX5_readSpout 65 = .ok (.iload_n 2, 1) := d_by (d_at odX5_readSpout ofX5_readSpout 65) rfl
theorem dX5_readSpout_66 : decode cX5_readSpout 66 = .ok (.aaload, 1) := d_by (d_at odX5_readSpout ofX5_readSpout 66) rfl
theorem dX5_readSpout_67 : decode cX5_readSpout 67 = .ok (.getfield 244, 3) := d_by (d_at odX5_readSpout ofX5_readSpout 67) rfl
theorem dX5_readSpout_70 : decode cX5_readSpout 70 = .ok (.iconst 1, 1) := d_by (d_at odX5_readSpout ofX5_readSpout 70) rfl
theorem dX5_readSpout_71 : decode cX5_readSpout 71 = .ok (.iadd, 1) := d_by (d_at odX5_readSpout ofX5_readSpout 71) rfl
theorem dX5_readSpout_72 : decode cX5_readSpout 72 = .ok (.istore_n 3, 1) := d_by (d_at odX5_readSpout ofX5_readSpout 72) rfl
theorem dX5_readSpout_73 : decode cX5_readSpout 73 = .ok (.aload_n 0, 1) := d_by (d_at odX5_readSpout ofX5_readSpout 73) rfl
theorem dX5_readSpout_74 : decode cX5_readSpout 74 = .ok (.ldc 229, 2) := d_by (d_at odX5_readSpout ofX5_readSpout 74) rfl
theorem dX5_readSpout_76 : decode cX5_readSpout 76 = .ok (.invokevirtual 138, 3) := d_by (d_at odX5_readSpout ofX5_readSpout 76) rfl
theorem dX5_readSpout_79 : decode cX5_readSpout 79 = .ok (.ifCond .eq 14, 3) := d_by (d_at odX5_readSpout ofX5_readSpout 79) rfl
theorem dX5_readSpout_82 : decode cX5_readSpout 82 = .ok (.aload_n 0, 1) := d_by (d_at odX5_readSpout ofX5_readSpout 82) rfl
theorem dX5_readSpout_83 : decode cX5_readSpout 83 = .ok (.iload_n 3, 1) := d_by (d_at odX5_readSpout ofX5_readSpout 83) rfl
theorem dX5_readSpout_84 : decode cX5_readSpout 84 = .ok (.sipush 9999, 3) := d_by (d_at odX5_readSpout ofX5_readSpout 84) rfl
theorem dX5_readSpout_87 : decode cX5_readSpout 87 = .ok (.invokevirtual 142, 3) := d_by (d_at odX5_readSpout ofX5_readSpout 87) rfl
theorem dX5_readSpout_90 : decode cX5_readSpout 90 = .ok (.ifCond .ne 5, 3) := d_by (d_at odX5_readSpout ofX5_readSpout 90) rfl
theorem dX5_readSpout_93 : decode cX5_readSpout 93 = .ok (.iconst 0, 1) := d_by (d_at odX5_readSpout ofX5_readSpout 93) rfl
theorem dX5_readSpout_94 : decode cX5_readSpout 94 = .ok (.ireturn, 1) := d_by (d_at odX5_readSpout ofX5_readSpout 94) rfl
theorem dX5_readSpout_95 : decode cX5_readSpout 95 = .ok (.aload_n 1, 1) := d_by (d_at odX5_readSpout ofX5_readSpout 95) rfl
theorem dX5_readSpout_96 : decode cX5_readSpout 96 = .ok (.aload_n 0, 1) := d_by (d_at odX5_readSpout ofX5_readSpout 96) rfl
theorem dX5_readSpout_97 : decode cX5_readSpout 97 = .ok (.getfield 24, 3) := d_by (d_at odX5_readSpout ofX5_readSpout 97) rfl
theorem dX5_readSpout_100 : decode cX5_readSpout 100 = .ok (.putfield 244, 3) := d_by (d_at odX5_readSpout ofX5_readSpout 100) rfl
theorem dX5_readSpout_103 : decode cX5_readSpout 103 = .ok (.aload_n 0, 1) := d_by (d_at odX5_readSpout ofX5_readSpout 103) rfl
theorem dX5_readSpout_104 : decode cX5_readSpout 104 = .ok (.getfield 51, 3) := d_by (d_at odX5_readSpout ofX5_readSpout 104) rfl
theorem dX5_readSpout_107 : decode cX5_readSpout 107 = .ok (.dup, 1) := d_by (d_at odX5_readSpout ofX5_readSpout 107) rfl
theorem dX5_readSpout_108 : decode cX5_readSpout 108 = .ok (.getfield 126, 3) := d_by (d_at odX5_readSpout ofX5_readSpout 108) rfl
theorem dX5_readSpout_111 : decode cX5_readSpout 111 = .ok (.iconst 1, 1) := d_by (d_at odX5_readSpout ofX5_readSpout 111) rfl
theorem dX5_readSpout_112 : decode cX5_readSpout 112 = .ok (.iadd, 1) := d_by (d_at odX5_readSpout ofX5_readSpout 112) rfl
theorem dX5_readSpout_113 : decode cX5_readSpout 113 = .ok (.putfield 126, 3) := d_by (d_at odX5_readSpout ofX5_readSpout 113) rfl
theorem dX5_readSpout_116 : decode cX5_readSpout 116 = .ok (.iconst 1, 1) := d_by (d_at odX5_readSpout ofX5_readSpout 116) rfl
theorem dX5_readSpout_117 : decode cX5_readSpout 117 = .ok (.ireturn, 1) := d_by (d_at odX5_readSpout ofX5_readSpout 117) rfl
set_option maxRecDepth 100000 in
def bX5_word : List Nat := [42, 182, 0, 70, 42, 43, 182, 0, 245, 154, 0, 11, 42, 4, 182, 0, 76, 153, 0, 7, 4, 167, 0, 4, 3, 172]
set_option maxRecDepth 100000 in
theorem bbX5_word : cX5_word.data.toList.map UInt8.toNat = bX5_word := by decide +kernel
set_option maxRecDepth 100000 in
def tX5_word : Lean.RArray dLf := .branch 13 (.branch 5 (.branch 1 (.leaf (0, .aload_n 0, 1)) (.branch 4 (.leaf (1, .invokevirtual 70, 3)) (.leaf (4, .aload_n 0, 1)))) (.branch 9 (.branch 6 (.leaf (5, .aload_n 1, 1)) (.leaf (6, .invokevirtual 245, 3))) (.branch 12 (.leaf (9, .ifCond .ne 11, 3)) (.leaf (12, .aload_n 0, 1))))) (.branch 20 (.branch 14 (.leaf (13, .iconst 1, 1)) (.branch 17 (.leaf (14, .invokevirtual 76, 3)) (.leaf (17, .ifCond .eq 7, 3)))) (.branch 24 (.branch 21 (.leaf (20, .iconst 1, 1)) (.leaf (21, .goto 4, 3))) (.branch 25 (.leaf (24, .iconst 0, 1)) (.leaf (25, .ireturn, 1)))))
noncomputable def oX5_word : List dLf := dFl tX5_word
theorem ofX5_word : dFl tX5_word = oX5_word := rfl
set_option maxRecDepth 100000 in
theorem odX5_word : ∀ q ∈ oX5_word, decode cX5_word q.1 = .ok (q.2.1, q.2.2) := q_go qT_ok bbX5_word oX5_word 0 (by decide +kernel)
theorem dX5_word_0 : decode cX5_word 0 = .ok (.aload_n 0, 1) := d_by (d_at odX5_word ofX5_word 0) rfl
theorem dX5_word_1 : decode cX5_word 1 = .ok (.invokevirtual 70, 3) := d_by (d_at odX5_word ofX5_word 1) rfl
theorem dX5_word_4 : decode cX5_word 4 = .ok (.aload_n 0, 1) := d_by (d_at odX5_word ofX5_word 4) rfl
theorem dX5_word_5 : decode cX5_word 5 = .ok (.aload_n 1, 1) := d_by (d_at odX5_word ofX5_word 5) rfl
theorem dX5_word_6 : decode cX5_word 6 = .ok (.invokevirtual 245, 3) := d_by (d_at odX5_word ofX5_word 6) rfl
theorem dX5_word_9 : decode cX5_word 9 = .ok (.ifCond .ne 11, 3) := d_by (d_at odX5_word ofX5_word 9) rfl
theorem dX5_word_12 : decode cX5_word 12 = .ok (.aload_n 0, 1) := d_by (d_at odX5_word ofX5_word 12) rfl
theorem dX5_word_13 : decode cX5_word 13 = .ok (.iconst 1, 1) := d_by (d_at odX5_word ofX5_word 13) rfl
theorem dX5_word_14 : decode cX5_word 14 = .ok (.invokevirtual 76, 3) := d_by (d_at odX5_word ofX5_word 14) rfl
theorem dX5_word_17 : decode cX5_word 17 = .ok (.ifCond .eq 7, 3) := d_by (d_at odX5_word ofX5_word 17) rfl
theorem dX5_word_20 : decode cX5_word 20 = .ok (.iconst 1, 1) := d_by (d_at odX5_word ofX5_word 20) rfl
theorem dX5_word_21 : decode cX5_word 21 = .ok (.goto 4, 3) := d_by (d_at odX5_word ofX5_word 21) rfl
theorem dX5_word_24 : decode cX5_word 24 = .ok (.iconst 0, 1) := d_by (d_at odX5_word ofX5_word 24) rfl
theorem dX5_word_25 : decode cX5_word 25 = .ok (.ireturn, 1) := d_by (d_at odX5_word ofX5_word 25) rfl
set_option maxRecDepth 100000 in
def bX5_whole : List Nat := [42, 182, 0, 70, 42, 180, 0, 18, 5, 159, 0, 9, 42, 4, 182, 0, 76, 172, 42, 3, 181, 0, 24, 42, 180, 0, 21, 62, 29, 42, 180, 0, 15, 162, 0, 30, 42, 42, 180, 0, 24, 16, 10, 104, 42, 180, 0, 47, 29, 51, 16, 48, 100, 96, 181, 0, 24, 132, 3, 1, 167, 255, 224, 42, 180, 0, 24, 27, 161, 0, 11, 42, 180, 0, 24, 28, 164, 0, 11, 42, 7, 182, 0, 76, 153, 0, 7, 4, 167, 0, 4, 3, 172]
set_option maxRecDepth 100000 in
theorem bbX5_whole : cX5_whole.data.toList.map UInt8.toNat = bX5_whole := by decide +kernel
set_option maxRecDepth 100000 in
def tX5_whole : Lean.RArray dLf := .branch 44 (.branch 20 (.branch 12 (.branch 5 (.branch 1 (.leaf (0, .aload_n 0, 1)) (.branch 4 (.leaf (1, .invokevirtual 70, 3)) (.leaf (4, .aload_n 0, 1)))) (.branch 8 (.leaf (5, .getfield 18, 3)) (.branch 9 (.leaf (8, .iconst 2, 1)) (.leaf (9, .if_icmp .eq 9, 3))))) (.branch 17 (.branch 13 (.leaf (12, .aload_n 0, 1)) (.branch 14 (.leaf (13, .iconst 1, 1)) (.leaf (14, .invokevirtual 76, 3)))) (.branch 18 (.leaf (17, .ireturn, 1)) (.branch 19 (.leaf (18, .aload_n 0, 1)) (.leaf (19, .iconst 0, 1)))))) (.branch 30 (.branch 27 (.branch 23 (.leaf (20, .putfield 24, 3)) (.branch 24 (.leaf (23, .aload_n 0, 1)) (.leaf (24, .getfield 21, 3)))) (.branch 28 (.leaf (27, .istore_n 3, 1)) (.branch 29 (.leaf (28, .iload_n 3, 1)) (.leaf (29, .aload_n 0, 1))))) (.branch 37 (.branch 33 (.leaf (30, .getfield 15, 3)) (.branch 36 (.leaf (33, .if_icmp .ge 30, 3)) (.leaf (36, .aload_n 0, 1)))) (.branch 41 (.branch 38 (.leaf (37, .aload_n 0, 1)) (.leaf (38, .getfield 24, 3))) (.branch 43 (.leaf (41, .bipush 10, 2)) (.leaf (43, .imul, 1))))))) (.branch 68 (.branch 53 (.branch 49 (.branch 45 (.leaf (44, .aload_n 0, 1)) (.branch 48 (.leaf (45, .getfield 47, 3)) (.leaf (48, .iload_n 3, 1)))) (.branch 50 (.leaf (49, .baload, 1)) (.branch 52 (.leaf (50, .bipush 48, 2)) (.leaf (52, .isub, 1))))) (.branch 60 (.branch 54 (.leaf (53, .iadd, 1)) (.branch 57 (.leaf (54, .putfield 24, 3)) (.leaf (57, .iinc 3 1, 3)))) (.branch 64 (.branch 63 (.leaf (60, .goto (-32), 3)) (.leaf (63, .aload_n 0, 1))) (.branch 67 (.leaf (64, .getfield 24, 3)) (.leaf (67, .iload_n 1, 1)))))) (.branch 80 (.branch 75 (.branch 71 (.leaf (68, .if_icmp .lt 11, 3)) (.branch 72 (.leaf (71, .aload_n 0, 1)) (.leaf (72, .getfield 24, 3)))) (.branch 76 (.leaf (75, .iload_n 2, 1)) (.branch 79 (.leaf (76, .if_icmp .le 11, 3)) (.leaf (79, .aload_n 0, 1))))) (.branch 87 (.branch 81 (.leaf (80, .iconst 4, 1)) (.branch 84 (.leaf (81, .invokevirtual 76, 3)) (.leaf (84, .ifCond .eq 7, 3)))) (.branch 91 (.branch 88 (.leaf (87, .iconst 1, 1)) (.leaf (88, .goto 4, 3))) (.branch 92 (.leaf (91, .iconst 0, 1)) (.leaf (92, .ireturn, 1)))))))
noncomputable def oX5_whole : List dLf := dFl tX5_whole
theorem ofX5_whole : dFl tX5_whole = oX5_whole := rfl
set_option maxRecDepth 100000 in
theorem odX5_whole : ∀ q ∈ oX5_whole, decode cX5_whole q.1 = .ok (q.2.1, q.2.2) := q_go qT_ok bbX5_whole oX5_whole 0 (by decide +kernel)
theorem dX5_whole_0 : decode cX5_whole 0 = .ok (.aload_n 0, 1) := d_by (d_at odX5_whole ofX5_whole 0) rfl
theorem dX5_whole_1 : decode cX5_whole 1 = .ok (.invokevirtual 70, 3) := d_by (d_at odX5_whole ofX5_whole 1) rfl
theorem dX5_whole_4 : decode cX5_whole 4 = .ok (.aload_n 0, 1) := d_by (d_at odX5_whole ofX5_whole 4) rfl
theorem dX5_whole_5 : decode cX5_whole 5 = .ok (.getfield 18, 3) := d_by (d_at odX5_whole ofX5_whole 5) rfl
theorem dX5_whole_8 : decode cX5_whole 8 = .ok (.iconst 2, 1) := d_by (d_at odX5_whole ofX5_whole 8) rfl
theorem dX5_whole_9 : decode cX5_whole 9 = .ok (.if_icmp .eq 9, 3) := d_by (d_at odX5_whole ofX5_whole 9) rfl
theorem dX5_whole_12 : decode cX5_whole 12 = .ok (.aload_n 0, 1) := d_by (d_at odX5_whole ofX5_whole 12) rfl
theorem dX5_whole_13 : decode cX5_whole 13 = .ok (.iconst 1, 1) := d_by (d_at odX5_whole ofX5_whole 13) rfl
theorem dX5_whole_14 : decode cX5_whole 14 = .ok (.invokevirtual 76, 3) := d_by (d_at odX5_whole ofX5_whole 14) rfl
theorem dX5_whole_17 : decode cX5_whole 17 = .ok (.ireturn, 1) := d_by (d_at odX5_whole ofX5_whole 17) rfl
theorem dX5_whole_18 : decode cX5_whole 18 = .ok (.aload_n 0, 1) := d_by (d_at odX5_whole ofX5_whole 18) rfl
theorem dX5_whole_19 : decode cX5_whole 19 = .ok (.iconst 0, 1) := d_by (d_at odX5_whole ofX5_whole 19) rfl
theorem dX5_whole_20 : decode cX5_whole 20 = .ok (.putfield 24, 3) := d_by (d_at odX5_whole ofX5_whole 20) rfl
theorem dX5_whole_23 : decode cX5_whole 23 = .ok (.aload_n 0, 1) := d_by (d_at odX5_whole ofX5_whole 23) rfl
theorem dX5_whole_24 : decode cX5_whole 24 = .ok (.getfield 21, 3) := d_by (d_at odX5_whole ofX5_whole 24) rfl
theorem dX5_whole_27 : decode cX5_whole 27 = .ok (.istore_n 3, 1) := d_by (d_at odX5_whole ofX5_whole 27) rfl
theorem dX5_whole_28 : decode cX5_whole 28 = .ok (.iload_n 3, 1) := d_by (d_at odX5_whole ofX5_whole 28) rfl
theorem dX5_whole_29 : decode cX5_whole 29 = .ok (.aload_n 0, 1) := d_by (d_at odX5_whole ofX5_whole 29) rfl
theorem dX5_whole_30 : decode cX5_whole 30 = .ok (.getfield 15, 3) := d_by (d_at odX5_whole ofX5_whole 30) rfl
theorem dX5_whole_33 : decode cX5_whole 33 = .ok (.if_icmp .ge 30, 3) := d_by (d_at odX5_whole ofX5_whole 33) rfl
theorem dX5_whole_36 : decode cX5_whole 36 = .ok (.aload_n 0, 1) := d_by (d_at odX5_whole ofX5_whole 36) rfl
theorem dX5_whole_37 : decode cX5_whole 37 = .ok (.aload_n 0, 1) := d_by (d_at odX5_whole ofX5_whole 37) rfl
theorem dX5_whole_38 : decode cX5_whole 38 = .ok (.getfield 24, 3) := d_by (d_at odX5_whole ofX5_whole 38) rfl
theorem dX5_whole_41 : decode cX5_whole 41 = .ok (.bipush 10, 2) := d_by (d_at odX5_whole ofX5_whole 41) rfl
theorem dX5_whole_43 : decode cX5_whole 43 = .ok (.imul, 1) := d_by (d_at odX5_whole ofX5_whole 43) rfl
theorem dX5_whole_44 : decode cX5_whole 44 = .ok (.aload_n 0, 1) := d_by (d_at odX5_whole ofX5_whole 44) rfl
theorem dX5_whole_45 : decode cX5_whole 45 = .ok (.getfield 47, 3) := d_by (d_at odX5_whole ofX5_whole 45) rfl
theorem dX5_whole_48 : decode cX5_whole 48 = .ok (.iload_n 3, 1) := d_by (d_at odX5_whole ofX5_whole 48) rfl
theorem dX5_whole_49 : decode cX5_whole 49 = .ok (.baload, 1) := d_by (d_at odX5_whole ofX5_whole 49) rfl
theorem dX5_whole_50 : decode cX5_whole 50 = .ok (.bipush 48, 2) := d_by (d_at odX5_whole ofX5_whole 50) rfl
theorem dX5_whole_52 : decode cX5_whole 52 = .ok (.isub, 1) := d_by (d_at odX5_whole ofX5_whole 52) rfl
theorem dX5_whole_53 : decode cX5_whole 53 = .ok (.iadd, 1) := d_by (d_at odX5_whole ofX5_whole 53) rfl
theorem dX5_whole_54 : decode cX5_whole 54 = .ok (.putfield 24, 3) := d_by (d_at odX5_whole ofX5_whole 54) rfl
theorem dX5_whole_57 : decode cX5_whole 57 = .ok (.iinc 3 1, 3) := d_by (d_at odX5_whole ofX5_whole 57) rfl
theorem dX5_whole_60 : decode cX5_whole 60 = .ok (.goto (-32), 3) := d_by (d_at odX5_whole ofX5_whole 60) rfl
theorem dX5_whole_63 : decode cX5_whole 63 = .ok (.aload_n 0, 1) := d_by (d_at odX5_whole ofX5_whole 63) rfl
theorem dX5_whole_64 : decode cX5_whole 64 = .ok (.getfield 24, 3) := d_by (d_at odX5_whole ofX5_whole 64) rfl
theorem dX5_whole_67 : decode cX5_whole 67 = .ok (.iload_n 1, 1) := d_by (d_at odX5_whole ofX5_whole 67) rfl
theorem dX5_whole_68 : decode cX5_whole 68 = .ok (.if_icmp .lt 11, 3) := d_by (d_at odX5_whole ofX5_whole 68) rfl
theorem dX5_whole_71 : decode cX5_whole 71 = .ok (.aload_n 0, 1) := d_by (d_at odX5_whole ofX5_whole 71) rfl
theorem dX5_whole_72 : decode cX5_whole 72 = .ok (.getfield 24, 3) := d_by (d_at odX5_whole ofX5_whole 72) rfl
theorem dX5_whole_75 : decode cX5_whole 75 = .ok (.iload_n 2, 1) := d_by (d_at odX5_whole ofX5_whole 75) rfl
theorem dX5_whole_76 : decode cX5_whole 76 = .ok (.if_icmp .le 11, 3) := d_by (d_at odX5_whole ofX5_whole 76) rfl
theorem dX5_whole_79 : decode cX5_whole 79 = .ok (.aload_n 0, 1) := d_by (d_at odX5_whole ofX5_whole 79) rfl
theorem dX5_whole_80 : decode cX5_whole 80 = .ok (.iconst 4, 1) := d_by (d_at odX5_whole ofX5_whole 80) rfl
theorem dX5_whole_81 : decode cX5_whole 81 = .ok (.invokevirtual 76, 3) := d_by (d_at odX5_whole ofX5_whole 81) rfl
theorem dX5_whole_84 : decode cX5_whole 84 = .ok (.ifCond .eq 7, 3) := d_by (d_at odX5_whole ofX5_whole 84) rfl
theorem dX5_whole_87 : decode cX5_whole 87 = .ok (.iconst 1, 1) := d_by (d_at odX5_whole ofX5_whole 87) rfl
theorem dX5_whole_88 : decode cX5_whole 88 = .ok (.goto 4, 3) := d_by (d_at odX5_whole ofX5_whole 88) rfl
theorem dX5_whole_91 : decode cX5_whole 91 = .ok (.iconst 0, 1) := d_by (d_at odX5_whole ofX5_whole 91) rfl
theorem dX5_whole_92 : decode cX5_whole 92 = .ok (.ireturn, 1) := d_by (d_at odX5_whole ofX5_whole 92) rfl
set_option maxRecDepth 100000 in
def bX5_newName : List Nat := [42, 182, 0, 70, 42, 180, 0, 18, 4, 160, 0, 12, 42, 182, 0, 80, 16, 254, 159, 0, 9, 42, 4, 182, 0, 76, 172, 42, 182, 0, 248, 16, 254, 160, 0, 12, 42, 180, 0, 38, 16, 20, 161, 0, 9, 42, 6, 182, 0, 76, 172, 42, 180, 0, 27, 42, 180, 0, 38, 42, 182, 0, 251, 80, 42, 180, 0, 31, 42, 180, 0, 38, 27, 79, 42, 180, 0, 35, 42, 180, 0, 38, 28, 79, 42, 89, 180, 0, 38, 4, 96, 181, 0, 38, 4, 172]
set_option maxRecDepth 100000 in
theorem bbX5_newName : cX5_newName.data.toList.map UInt8.toNat = bX5_newName := by decide +kernel
set_option maxRecDepth 100000 in
def tX5_newName : Lean.RArray dLf := .branch 51 (.branch 26 (.branch 12 (.branch 5 (.branch 1 (.leaf (0, .aload_n 0, 1)) (.branch 4 (.leaf (1, .invokevirtual 70, 3)) (.leaf (4, .aload_n 0, 1)))) (.branch 8 (.leaf (5, .getfield 18, 3)) (.branch 9 (.leaf (8, .iconst 1, 1)) (.leaf (9, .if_icmp .ne 12, 3))))) (.branch 18 (.branch 13 (.leaf (12, .aload_n 0, 1)) (.branch 16 (.leaf (13, .invokevirtual 80, 3)) (.leaf (16, .bipush (-2), 2)))) (.branch 22 (.branch 21 (.leaf (18, .if_icmp .eq 9, 3)) (.leaf (21, .aload_n 0, 1))) (.branch 23 (.leaf (22, .iconst 1, 1)) (.leaf (23, .invokevirtual 76, 3)))))) (.branch 37 (.branch 31 (.branch 27 (.leaf (26, .ireturn, 1)) (.branch 28 (.leaf (27, .aload_n 0, 1)) (.leaf (28, .invokevirtual 248, 3)))) (.branch 33 (.leaf (31, .bipush (-2), 2)) (.branch 36 (.leaf (33, .if_icmp .ne 12, 3)) (.leaf (36, .aload_n 0, 1))))) (.branch 45 (.branch 40 (.leaf (37, .getfield 38, 3)) (.branch 42 (.leaf (40, .bipush 20, 2)) (.leaf (42, .if_icmp .lt 9, 3)))) (.branch 47 (.branch 46 (.leaf (45, .aload_n 0, 1)) (.leaf (46, .iconst 3, 1))) (.branch 50 (.leaf (47, .invokevirtual 76, 3)) (.leaf (50, .ireturn, 1))))))) (.branch 74 (.branch 63 (.branch 56 (.branch 52 (.leaf (51, .aload_n 0, 1)) (.branch 55 (.leaf (52, .getfield 27, 3)) (.leaf (55, .aload_n 0, 1)))) (.branch 59 (.leaf (56, .getfield 38, 3)) (.branch 60 (.leaf (59, .aload_n 0, 1)) (.leaf (60, .invokevirtual 251, 3))))) (.branch 68 (.branch 64 (.leaf (63, .lastore, 1)) (.branch 65 (.leaf (64, .aload_n 0, 1)) (.leaf (65, .getfield 31, 3)))) (.branch 72 (.branch 69 (.leaf (68, .aload_n 0, 1)) (.leaf (69, .getfield 38, 3))) (.branch 73 (.leaf (72, .iload_n 1, 1)) (.leaf (73, .iastore, 1)))))) (.branch 85 (.branch 79 (.branch 75 (.leaf (74, .aload_n 0, 1)) (.branch 78 (.leaf (75, .getfield 35, 3)) (.leaf (78, .aload_n 0, 1)))) (.branch 83 (.branch 82 (.leaf (79, .getfield 38, 3)) (.leaf (82, .iload_n 2, 1))) (.branch 84 (.leaf (83, .iastore, 1)) (.leaf (84, .aload_n 0, 1))))) (.branch 90 (.branch 86 (.leaf (85, .dup, 1)) (.branch 89 (.leaf (86, .getfield 38, 3)) (.leaf (89, .iconst 1, 1)))) (.branch 94 (.branch 91 (.leaf (90, .iadd, 1)) (.leaf (91, .putfield 38, 3))) (.branch 95 (.leaf (94, .iconst 1, 1)) (.leaf (95, .ireturn, 1)))))))
noncomputable def oX5_newName : List dLf := dFl tX5_newName
theorem ofX5_newName : dFl tX5_newName = oX5_newName := rfl
set_option maxRecDepth 100000 in
theorem odX5_newName : ∀ q ∈ oX5_newName, decode cX5_newName q.1 = .ok (q.2.1, q.2.2) := q_go qT_ok bbX5_newName oX5_newName 0 (by decide +kernel)
theorem dX5_newName_0 : decode cX5_newName 0 = .ok (.aload_n 0, 1) := d_by (d_at odX5_newName ofX5_newName 0) rfl
theorem dX5_newName_1 : decode cX5_newName 1 = .ok (.invokevirtual 70, 3) := d_by (d_at odX5_newName ofX5_newName 1) rfl
theorem dX5_newName_4 : decode cX5_newName 4 = .ok (.aload_n 0, 1) := d_by (d_at odX5_newName ofX5_newName 4) rfl
theorem dX5_newName_5 : decode cX5_newName 5 = .ok (.getfield 18, 3) := d_by (d_at odX5_newName ofX5_newName 5) rfl
theorem dX5_newName_8 : decode cX5_newName 8 = .ok (.iconst 1, 1) := d_by (d_at odX5_newName ofX5_newName 8) rfl
theorem dX5_newName_9 : decode cX5_newName 9 = .ok (.if_icmp .ne 12, 3) := d_by (d_at odX5_newName ofX5_newName 9) rfl
theorem dX5_newName_12 : decode cX5_newName 12 = .ok (.aload_n 0, 1) := d_by (d_at odX5_newName ofX5_newName 12) rfl
theorem dX5_newName_13 : decode cX5_newName 13 = .ok (.invokevirtual 80, 3) := d_by (d_at odX5_newName ofX5_newName 13) rfl
theorem dX5_newName_16 : decode cX5_newName 16 = .ok (.bipush (-2), 2) := d_by (d_at odX5_newName ofX5_newName 16) rfl
theorem dX5_newName_18 : decode cX5_newName 18 = .ok (.if_icmp .eq 9, 3) := d_by (d_at odX5_newName ofX5_newName 18) rfl
theorem dX5_newName_21 : decode cX5_newName 21 = .ok (.aload_n 0, 1) := d_by (d_at odX5_newName ofX5_newName 21) rfl
theorem dX5_newName_22 : decode cX5_newName 22 = .ok (.iconst 1, 1) := d_by (d_at odX5_newName ofX5_newName 22) rfl
theorem dX5_newName_23 : decode cX5_newName 23 = .ok (.invokevirtual 76, 3) := d_by (d_at odX5_newName ofX5_newName 23) rfl
theorem dX5_newName_26 : decode cX5_newName 26 = .ok (.ireturn, 1) := d_by (d_at odX5_newName ofX5_newName 26) rfl
theorem dX5_newName_27 : decode cX5_newName 27 = .ok (.aload_n 0, 1) := d_by (d_at odX5_newName ofX5_newName 27) rfl
theorem dX5_newName_28 : decode cX5_newName 28 = .ok (.invokevirtual 248, 3) := d_by (d_at odX5_newName ofX5_newName 28) rfl
theorem dX5_newName_31 : decode cX5_newName 31 = .ok (.bipush (-2), 2) := d_by (d_at odX5_newName ofX5_newName 31) rfl
theorem dX5_newName_33 : decode cX5_newName 33 = .ok (.if_icmp .ne 12, 3) := d_by (d_at odX5_newName ofX5_newName 33) rfl
theorem dX5_newName_36 : decode cX5_newName 36 = .ok (.aload_n 0, 1) := d_by (d_at odX5_newName ofX5_newName 36) rfl
theorem dX5_newName_37 : decode cX5_newName 37 = .ok (.getfield 38, 3) := d_by (d_at odX5_newName ofX5_newName 37) rfl
theorem dX5_newName_40 : decode cX5_newName 40 = .ok (.bipush 20, 2) := d_by (d_at odX5_newName ofX5_newName 40) rfl
theorem dX5_newName_42 : decode cX5_newName 42 = .ok (.if_icmp .lt 9, 3) := d_by (d_at odX5_newName ofX5_newName 42) rfl
theorem dX5_newName_45 : decode cX5_newName 45 = .ok (.aload_n 0, 1) := d_by (d_at odX5_newName ofX5_newName 45) rfl
theorem dX5_newName_46 : decode cX5_newName 46 = .ok (.iconst 3, 1) := d_by (d_at odX5_newName ofX5_newName 46) rfl
theorem dX5_newName_47 : decode cX5_newName 47 = .ok (.invokevirtual 76, 3) := d_by (d_at odX5_newName ofX5_newName 47) rfl
theorem dX5_newName_50 : decode cX5_newName 50 = .ok (.ireturn, 1) := d_by (d_at odX5_newName ofX5_newName 50) rfl
theorem dX5_newName_51 : decode cX5_newName 51 = .ok (.aload_n 0, 1) := d_by (d_at odX5_newName ofX5_newName 51) rfl
theorem dX5_newName_52 : decode cX5_newName 52 = .ok (.getfield 27, 3) := d_by (d_at odX5_newName ofX5_newName 52) rfl
theorem dX5_newName_55 : decode cX5_newName 55 = .ok (.aload_n 0, 1) := d_by (d_at odX5_newName ofX5_newName 55) rfl
theorem dX5_newName_56 : decode cX5_newName 56 = .ok (.getfield 38, 3) := d_by (d_at odX5_newName ofX5_newName 56) rfl
theorem dX5_newName_59 : decode cX5_newName 59 = .ok (.aload_n 0, 1) := d_by (d_at odX5_newName ofX5_newName 59) rfl
theorem dX5_newName_60 : decode cX5_newName 60 = .ok (.invokevirtual 251, 3) := d_by (d_at odX5_newName ofX5_newName 60) rfl
theorem dX5_newName_63 : decode cX5_newName 63 = .ok (.lastore, 1) := d_by (d_at odX5_newName ofX5_newName 63) rfl
theorem dX5_newName_64 : decode cX5_newName 64 = .ok (.aload_n 0, 1) := d_by (d_at odX5_newName ofX5_newName 64) rfl
theorem dX5_newName_65 : decode cX5_newName 65 = .ok (.getfield 31, 3) := d_by (d_at odX5_newName ofX5_newName 65) rfl
theorem dX5_newName_68 : decode cX5_newName 68 = .ok (.aload_n 0, 1) := d_by (d_at odX5_newName ofX5_newName 68) rfl
theorem dX5_newName_69 : decode cX5_newName 69 = .ok (.getfield 38, 3) := d_by (d_at odX5_newName ofX5_newName 69) rfl
theorem dX5_newName_72 : decode cX5_newName 72 = .ok (.iload_n 1, 1) := d_by (d_at odX5_newName ofX5_newName 72) rfl
theorem dX5_newName_73 : decode cX5_newName 73 = .ok (.iastore, 1) := d_by (d_at odX5_newName ofX5_newName 73) rfl
theorem dX5_newName_74 : decode cX5_newName 74 = .ok (.aload_n 0, 1) := d_by (d_at odX5_newName ofX5_newName 74) rfl
theorem dX5_newName_75 : decode cX5_newName 75 = .ok (.getfield 35, 3) := d_by (d_at odX5_newName ofX5_newName 75) rfl
theorem dX5_newName_78 : decode cX5_newName 78 = .ok (.aload_n 0, 1) := d_by (d_at odX5_newName ofX5_newName 78) rfl
theorem dX5_newName_79 : decode cX5_newName 79 = .ok (.getfield 38, 3) := d_by (d_at odX5_newName ofX5_newName 79) rfl
theorem dX5_newName_82 : decode cX5_newName 82 = .ok (.iload_n 2, 1) := d_by (d_at odX5_newName ofX5_newName 82) rfl
theorem dX5_newName_83 : decode cX5_newName 83 = .ok (.iastore, 1) := d_by (d_at odX5_newName ofX5_newName 83) rfl
theorem dX5_newName_84 : decode cX5_newName 84 = .ok (.aload_n 0, 1) := d_by (d_at odX5_newName ofX5_newName 84) rfl
theorem dX5_newName_85 : decode cX5_newName 85 = .ok (.dup, 1) := d_by (d_at odX5_newName ofX5_newName 85) rfl
theorem dX5_newName_86 : decode cX5_newName 86 = .ok (.getfield 38, 3) := d_by (d_at odX5_newName ofX5_newName 86) rfl
theorem dX5_newName_89 : decode cX5_newName 89 = .ok (.iconst 1, 1) := d_by (d_at odX5_newName ofX5_newName 89) rfl
theorem dX5_newName_90 : decode cX5_newName 90 = .ok (.iadd, 1) := d_by (d_at odX5_newName ofX5_newName 90) rfl
theorem dX5_newName_91 : decode cX5_newName 91 = .ok (.putfield 38, 3) := d_by (d_at odX5_newName ofX5_newName 91) rfl
theorem dX5_newName_94 : decode cX5_newName 94 = .ok (.iconst 1, 1) := d_by (d_at odX5_newName ofX5_newName 94) rfl
theorem dX5_newName_95 : decode cX5_newName 95 = .ok (.ireturn, 1) := d_by (d_at odX5_newName ofX5_newName 95) rfl
set_option maxRecDepth 100000 in
def bX5_toldName : List Nat := [42, 182, 0, 70, 42, 180, 0, 18, 4, 160, 0, 12, 42, 182, 0, 80, 16, 254, 159, 0, 9, 42, 4, 182, 0, 76, 172, 42, 182, 0, 248, 61, 28, 16, 254, 159, 0, 13, 42, 180, 0, 31, 28, 46, 27, 159, 0, 9, 42, 5, 182, 0, 76, 172, 42, 42, 180, 0, 35, 28, 46, 181, 0, 24, 4, 172]
set_option maxRecDepth 100000 in
theorem bbX5_toldName : cX5_toldName.data.toList.map UInt8.toNat = bX5_toldName := by decide +kernel
set_option maxRecDepth 100000 in
def tX5_toldName : Lean.RArray dLf := .branch 35 (.branch 18 (.branch 8 (.branch 4 (.branch 1 (.leaf (0, .aload_n 0, 1)) (.leaf (1, .invokevirtual 70, 3))) (.branch 5 (.leaf (4, .aload_n 0, 1)) (.leaf (5, .getfield 18, 3)))) (.branch 12 (.branch 9 (.leaf (8, .iconst 1, 1)) (.leaf (9, .if_icmp .ne 12, 3))) (.branch 13 (.leaf (12, .aload_n 0, 1)) (.branch 16 (.leaf (13, .invokevirtual 80, 3)) (.leaf (16, .bipush (-2), 2)))))) (.branch 27 (.branch 22 (.branch 21 (.leaf (18, .if_icmp .eq 9, 3)) (.leaf (21, .aload_n 0, 1))) (.branch 23 (.leaf (22, .iconst 1, 1)) (.branch 26 (.leaf (23, .invokevirtual 76, 3)) (.leaf (26, .ireturn, 1))))) (.branch 31 (.branch 28 (.leaf (27, .aload_n 0, 1)) (.leaf (28, .invokevirtual 248, 3))) (.branch 32 (.leaf (31, .istore_n 2, 1)) (.branch 33 (.leaf (32, .iload_n 2, 1)) (.leaf (33, .bipush (-2), 2))))))) (.branch 50 (.branch 43 (.branch 39 (.branch 38 (.leaf (35, .if_icmp .eq 13, 3)) (.leaf (38, .aload_n 0, 1))) (.branch 42 (.leaf (39, .getfield 31, 3)) (.leaf (42, .iload_n 2, 1)))) (.branch 45 (.branch 44 (.leaf (43, .iaload, 1)) (.leaf (44, .iload_n 1, 1))) (.branch 48 (.leaf (45, .if_icmp .eq 9, 3)) (.branch 49 (.leaf (48, .aload_n 0, 1)) (.leaf (49, .iconst 2, 1)))))) (.branch 59 (.branch 54 (.branch 53 (.leaf (50, .invokevirtual 76, 3)) (.leaf (53, .ireturn, 1))) (.branch 55 (.leaf (54, .aload_n 0, 1)) (.branch 56 (.leaf (55, .aload_n 0, 1)) (.leaf (56, .getfield 35, 3))))) (.branch 61 (.branch 60 (.leaf (59, .iload_n 2, 1)) (.leaf (60, .iaload, 1))) (.branch 64 (.leaf (61, .putfield 24, 3)) (.branch 65 (.leaf (64, .iconst 1, 1)) (.leaf (65, .ireturn, 1)))))))
noncomputable def oX5_toldName : List dLf := dFl tX5_toldName
theorem ofX5_toldName : dFl tX5_toldName = oX5_toldName := rfl
set_option maxRecDepth 100000 in
theorem odX5_toldName : ∀ q ∈ oX5_toldName, decode cX5_toldName q.1 = .ok (q.2.1, q.2.2) := q_go qT_ok bbX5_toldName oX5_toldName 0 (by decide +kernel)
theorem dX5_toldName_0 : decode cX5_toldName 0 = .ok (.aload_n 0, 1) := d_by (d_at odX5_toldName ofX5_toldName 0) rfl
theorem dX5_toldName_1 : decode cX5_toldName 1 = .ok (.invokevirtual 70, 3) := d_by (d_at odX5_toldName ofX5_toldName 1) rfl
theorem dX5_toldName_4 : decode cX5_toldName 4 = .ok (.aload_n 0, 1) := d_by (d_at odX5_toldName ofX5_toldName 4) rfl
theorem dX5_toldName_5 : decode cX5_toldName 5 = .ok (.getfield 18, 3) := d_by (d_at odX5_toldName ofX5_toldName 5) rfl
theorem dX5_toldName_8 : decode cX5_toldName 8 = .ok (.iconst 1, 1) := d_by (d_at odX5_toldName ofX5_toldName 8) rfl
theorem dX5_toldName_9 : decode cX5_toldName 9 = .ok (.if_icmp .ne 12, 3) := d_by (d_at odX5_toldName ofX5_toldName 9) rfl
theorem dX5_toldName_12 : decode cX5_toldName 12 = .ok (.aload_n 0, 1) := d_by (d_at odX5_toldName ofX5_toldName 12) rfl
theorem dX5_toldName_13 : decode cX5_toldName 13 = .ok (.invokevirtual 80, 3) := d_by (d_at odX5_toldName ofX5_toldName 13) rfl
theorem dX5_toldName_16 : decode cX5_toldName 16 = .ok (.bipush (-2), 2) := d_by (d_at odX5_toldName ofX5_toldName 16) rfl
theorem dX5_toldName_18 : decode cX5_toldName 18 = .ok (.if_icmp .eq 9, 3) := d_by (d_at odX5_toldName ofX5_toldName 18) rfl
theorem dX5_toldName_21 : decode cX5_toldName 21 = .ok (.aload_n 0, 1) := d_by (d_at odX5_toldName ofX5_toldName 21) rfl
theorem dX5_toldName_22 : decode cX5_toldName 22 = .ok (.iconst 1, 1) := d_by (d_at odX5_toldName ofX5_toldName 22) rfl
theorem dX5_toldName_23 : decode cX5_toldName 23 = .ok (.invokevirtual 76, 3) := d_by (d_at odX5_toldName ofX5_toldName 23) rfl
theorem dX5_toldName_26 : decode cX5_toldName 26 = .ok (.ireturn, 1) := d_by (d_at odX5_toldName ofX5_toldName 26) rfl
theorem dX5_toldName_27 : decode cX5_toldName 27 = .ok (.aload_n 0, 1) := d_by (d_at odX5_toldName ofX5_toldName 27) rfl
theorem dX5_toldName_28 : decode cX5_toldName 28 = .ok (.invokevirtual 248, 3) := d_by (d_at odX5_toldName ofX5_toldName 28) rfl
theorem dX5_toldName_31 : decode cX5_toldName 31 = .ok (.istore_n 2, 1) := d_by (d_at odX5_toldName ofX5_toldName 31) rfl
theorem dX5_toldName_32 : decode cX5_toldName 32 = .ok (.iload_n 2, 1) := d_by (d_at odX5_toldName ofX5_toldName 32) rfl
theorem dX5_toldName_33 : decode cX5_toldName 33 = .ok (.bipush (-2), 2) := d_by (d_at odX5_toldName ofX5_toldName 33) rfl
theorem dX5_toldName_35 : decode cX5_toldName 35 = .ok (.if_icmp .eq 13, 3) := d_by (d_at odX5_toldName ofX5_toldName 35) rfl
theorem dX5_toldName_38 : decode cX5_toldName 38 = .ok (.aload_n 0, 1) := d_by (d_at odX5_toldName ofX5_toldName 38) rfl
theorem dX5_toldName_39 : decode cX5_toldName 39 = .ok (.getfield 31, 3) := d_by (d_at odX5_toldName ofX5_toldName 39) rfl
theorem dX5_toldName_42 : decode cX5_toldName 42 = .ok (.iload_n 2, 1) := d_by (d_at odX5_toldName ofX5_toldName 42) rfl
theorem dX5_toldName_43 : decode cX5_toldName 43 = .ok (.iaload, 1) := d_by (d_at odX5_toldName ofX5_toldName 43) rfl
theorem dX5_toldName_44 : decode cX5_toldName 44 = .ok (.iload_n 1, 1) := d_by (d_at odX5_toldName ofX5_toldName 44) rfl
theorem dX5_toldName_45 : decode cX5_toldName 45 = .ok (.if_icmp .eq 9, 3) := d_by (d_at odX5_toldName ofX5_toldName 45) rfl
theorem dX5_toldName_48 : decode cX5_toldName 48 = .ok (.aload_n 0, 1) := d_by (d_at odX5_toldName ofX5_toldName 48) rfl
theorem dX5_toldName_49 : decode cX5_toldName 49 = .ok (.iconst 2, 1) := d_by (d_at odX5_toldName ofX5_toldName 49) rfl
theorem dX5_toldName_50 : decode cX5_toldName 50 = .ok (.invokevirtual 76, 3) := d_by (d_at odX5_toldName ofX5_toldName 50) rfl
theorem dX5_toldName_53 : decode cX5_toldName 53 = .ok (.ireturn, 1) := d_by (d_at odX5_toldName ofX5_toldName 53) rfl
theorem dX5_toldName_54 : decode cX5_toldName 54 = .ok (.aload_n 0, 1) := d_by (d_at odX5_toldName ofX5_toldName 54) rfl
theorem dX5_toldName_55 : decode cX5_toldName 55 = .ok (.aload_n 0, 1) := d_by (d_at odX5_toldName ofX5_toldName 55) rfl
theorem dX5_toldName_56 : decode cX5_toldName 56 = .ok (.getfield 35, 3) := d_by (d_at odX5_toldName ofX5_toldName 56) rfl
theorem dX5_toldName_59 : decode cX5_toldName 59 = .ok (.iload_n 2, 1) := d_by (d_at odX5_toldName ofX5_toldName 59) rfl
theorem dX5_toldName_60 : decode cX5_toldName 60 = .ok (.iaload, 1) := d_by (d_at odX5_toldName ofX5_toldName 60) rfl
theorem dX5_toldName_61 : decode cX5_toldName 61 = .ok (.putfield 24, 3) := d_by (d_at odX5_toldName ofX5_toldName 61) rfl
theorem dX5_toldName_64 : decode cX5_toldName 64 = .ok (.iconst 1, 1) := d_by (d_at odX5_toldName ofX5_toldName 64) rfl
theorem dX5_toldName_65 : decode cX5_toldName 65 = .ok (.ireturn, 1) := d_by (d_at odX5_toldName ofX5_toldName 65) rfl
set_option maxRecDepth 100000 in
def bX5_nameOfToken : List Nat := [42, 182, 0, 251, 64, 3, 62, 29, 42, 180, 0, 38, 162, 0, 22, 42, 180, 0, 27, 29, 47, 31, 148, 154, 0, 5, 29, 172, 132, 3, 1, 167, 255, 232, 16, 254, 172]
set_option maxRecDepth 100000 in
theorem bbX5_nameOfToken : cX5_nameOfToken.data.toList.map UInt8.toNat = bX5_nameOfToken := by decide +kernel
set_option maxRecDepth 100000 in
def tX5_nameOfToken : Lean.RArray dLf := .branch 19 (.branch 7 (.branch 4 (.branch 1 (.leaf (0, .aload_n 0, 1)) (.leaf (1, .invokevirtual 251, 3))) (.branch 5 (.leaf (4, .lstore_n 1, 1)) (.branch 6 (.leaf (5, .iconst 0, 1)) (.leaf (6, .istore_n 3, 1))))) (.branch 12 (.branch 8 (.leaf (7, .iload_n 3, 1)) (.branch 9 (.leaf (8, .aload_n 0, 1)) (.leaf (9, .getfield 38, 3)))) (.branch 15 (.leaf (12, .if_icmp .ge 22, 3)) (.branch 16 (.leaf (15, .aload_n 0, 1)) (.leaf (16, .getfield 27, 3)))))) (.branch 26 (.branch 21 (.branch 20 (.leaf (19, .iload_n 3, 1)) (.leaf (20, .laload, 1))) (.branch 22 (.leaf (21, .lload_n 1, 1)) (.branch 23 (.leaf (22, .lcmp, 1)) (.leaf (23, .ifCond .ne 5, 3))))) (.branch 31 (.branch 27 (.leaf (26, .iload_n 3, 1)) (.branch 28 (.leaf (27, .ireturn, 1)) (.leaf (28, .iinc 3 1, 3)))) (.branch 34 (.leaf (31, .goto (-24), 3)) (.branch 36 (.leaf (34, .bipush (-2), 2)) (.leaf (36, .ireturn, 1))))))
noncomputable def oX5_nameOfToken : List dLf := dFl tX5_nameOfToken
theorem ofX5_nameOfToken : dFl tX5_nameOfToken = oX5_nameOfToken := rfl
set_option maxRecDepth 100000 in
theorem odX5_nameOfToken : ∀ q ∈ oX5_nameOfToken, decode cX5_nameOfToken q.1 = .ok (q.2.1, q.2.2) := q_go qT_ok bbX5_nameOfToken oX5_nameOfToken 0 (by decide +kernel)
theorem dX5_nameOfToken_0 : decode cX5_nameOfToken 0 = .ok (.aload_n 0, 1) := d_by (d_at odX5_nameOfToken ofX5_nameOfToken 0) rfl
theorem dX5_nameOfToken_1 : decode cX5_nameOfToken 1 = .ok (.invokevirtual 251, 3) := d_by (d_at odX5_nameOfToken ofX5_nameOfToken 1) rfl
theorem dX5_nameOfToken_4 : decode cX5_nameOfToken 4 = .ok (.lstore_n 1, 1) := d_by (d_at odX5_nameOfToken ofX5_nameOfToken 4) rfl
theorem dX5_nameOfToken_5 : decode cX5_nameOfToken 5 = .ok (.iconst 0, 1) := d_by (d_at odX5_nameOfToken ofX5_nameOfToken 5) rfl
theorem dX5_nameOfToken_6 : decode cX5_nameOfToken 6 = .ok (.istore_n 3, 1) := d_by (d_at odX5_nameOfToken ofX5_nameOfToken 6) rfl
theorem dX5_nameOfToken_7 : decode cX5_nameOfToken 7 = .ok (.iload_n 3, 1) := d_by (d_at odX5_nameOfToken ofX5_nameOfToken 7) rfl
theorem dX5_nameOfToken_8 : decode cX5_nameOfToken 8 = .ok (.aload_n 0, 1) := d_by (d_at odX5_nameOfToken ofX5_nameOfToken 8) rfl
theorem dX5_nameOfToken_9 : decode cX5_nameOfToken 9 = .ok (.getfield 38, 3) := d_by (d_at odX5_nameOfToken ofX5_nameOfToken 9) rfl
theorem dX5_nameOfToken_12 : decode cX5_nameOfToken 12 = .ok (.if_icmp .ge 22, 3) := d_by (d_at odX5_nameOfToken ofX5_nameOfToken 12) rfl
theorem dX5_nameOfToken_15 : decode cX5_nameOfToken 15 = .ok (.aload_n 0, 1) := d_by (d_at odX5_nameOfToken ofX5_nameOfToken 15) rfl
theorem dX5_nameOfToken_16 : decode cX5_nameOfToken 16 = .ok (.getfield 27, 3) := d_by (d_at odX5_nameOfToken ofX5_nameOfToken 16) rfl
theorem dX5_nameOfToken_19 : decode cX5_nameOfToken 19 = .ok (.iload_n 3, 1) := d_by (d_at odX5_nameOfToken ofX5_nameOfToken 19) rfl
theorem dX5_nameOfToken_20 : decode cX5_nameOfToken 20 = .ok (.laload, 1) := d_by (d_at odX5_nameOfToken ofX5_nameOfToken 20) rfl
theorem dX5_nameOfToken_21 : decode cX5_nameOfToken 21 = .ok (.lload_n 1, 1) := d_by (d_at odX5_nameOfToken ofX5_nameOfToken 21) rfl
theorem dX5_nameOfToken_22 : decode cX5_nameOfToken 22 = .ok (.lcmp, 1) := d_by (d_at odX5_nameOfToken ofX5_nameOfToken 22) rfl
theorem dX5_nameOfToken_23 : decode cX5_nameOfToken 23 = .ok (.ifCond .ne 5, 3) := d_by (d_at odX5_nameOfToken ofX5_nameOfToken 23) rfl
theorem dX5_nameOfToken_26 : decode cX5_nameOfToken 26 = .ok (.iload_n 3, 1) := d_by (d_at odX5_nameOfToken ofX5_nameOfToken 26) rfl
theorem dX5_nameOfToken_27 : decode cX5_nameOfToken 27 = .ok (.ireturn, 1) := d_by (d_at odX5_nameOfToken ofX5_nameOfToken 27) rfl
theorem dX5_nameOfToken_28 : decode cX5_nameOfToken 28 = .ok (.iinc 3 1, 3) := d_by (d_at odX5_nameOfToken ofX5_nameOfToken 28) rfl
theorem dX5_nameOfToken_31 : decode cX5_nameOfToken 31 = .ok (.goto (-24), 3) := d_by (d_at odX5_nameOfToken ofX5_nameOfToken 31) rfl
theorem dX5_nameOfToken_34 : decode cX5_nameOfToken 34 = .ok (.bipush (-2), 2) := d_by (d_at odX5_nameOfToken ofX5_nameOfToken 34) rfl
theorem dX5_nameOfToken_36 : decode cX5_nameOfToken 36 = .ok (.ireturn, 1) := d_by (d_at odX5_nameOfToken ofX5_nameOfToken 36) rfl
set_option maxRecDepth 100000 in
def bX5_letters : List Nat := [9, 64, 42, 180, 0, 21, 62, 29, 42, 180, 0, 15, 162, 0, 26, 31, 8, 121, 42, 180, 0, 47, 29, 51, 16, 97, 100, 4, 96, 133, 129, 64, 132, 3, 1, 167, 255, 228, 31, 173]
set_option maxRecDepth 100000 in
theorem bbX5_letters : cX5_letters.data.toList.map UInt8.toNat = bX5_letters := by decide +kernel
set_option maxRecDepth 100000 in
def tX5_letters : Lean.RArray dLf := .branch 19 (.branch 8 (.branch 3 (.branch 1 (.leaf (0, .lconst 0, 1)) (.branch 2 (.leaf (1, .lstore_n 1, 1)) (.leaf (2, .aload_n 0, 1)))) (.branch 6 (.leaf (3, .getfield 21, 3)) (.branch 7 (.leaf (6, .istore_n 3, 1)) (.leaf (7, .iload_n 3, 1))))) (.branch 15 (.branch 9 (.leaf (8, .aload_n 0, 1)) (.branch 12 (.leaf (9, .getfield 15, 3)) (.leaf (12, .if_icmp .ge 26, 3)))) (.branch 17 (.branch 16 (.leaf (15, .lload_n 1, 1)) (.leaf (16, .iconst 5, 1))) (.branch 18 (.leaf (17, .lshl, 1)) (.leaf (18, .aload_n 0, 1)))))) (.branch 29 (.branch 24 (.branch 22 (.leaf (19, .getfield 47, 3)) (.branch 23 (.leaf (22, .iload_n 3, 1)) (.leaf (23, .baload, 1)))) (.branch 27 (.branch 26 (.leaf (24, .bipush 97, 2)) (.leaf (26, .isub, 1))) (.branch 28 (.leaf (27, .iconst 1, 1)) (.leaf (28, .iadd, 1))))) (.branch 32 (.branch 30 (.leaf (29, .i2l, 1)) (.branch 31 (.leaf (30, .lor, 1)) (.leaf (31, .lstore_n 1, 1)))) (.branch 38 (.branch 35 (.leaf (32, .iinc 3 1, 3)) (.leaf (35, .goto (-28), 3))) (.branch 39 (.leaf (38, .lload_n 1, 1)) (.leaf (39, .lreturn, 1))))))
noncomputable def oX5_letters : List dLf := dFl tX5_letters
theorem ofX5_letters : dFl tX5_letters = oX5_letters := rfl
set_option maxRecDepth 100000 in
theorem odX5_letters : ∀ q ∈ oX5_letters, decode cX5_letters q.1 = .ok (q.2.1, q.2.2) := q_go qT_ok bbX5_letters oX5_letters 0 (by decide +kernel)
theorem dX5_letters_0 : decode cX5_letters 0 = .ok (.lconst 0, 1) := d_by (d_at odX5_letters ofX5_letters 0) rfl
theorem dX5_letters_1 : decode cX5_letters 1 = .ok (.lstore_n 1, 1) := d_by (d_at odX5_letters ofX5_letters 1) rfl
theorem dX5_letters_2 : decode cX5_letters 2 = .ok (.aload_n 0, 1) := d_by (d_at odX5_letters ofX5_letters 2) rfl
theorem dX5_letters_3 : decode cX5_letters 3 = .ok (.getfield 21, 3) := d_by (d_at odX5_letters ofX5_letters 3) rfl
theorem dX5_letters_6 : decode cX5_letters 6 = .ok (.istore_n 3, 1) := d_by (d_at odX5_letters ofX5_letters 6) rfl
theorem dX5_letters_7 : decode cX5_letters 7 = .ok (.iload_n 3, 1) := d_by (d_at odX5_letters ofX5_letters 7) rfl
theorem dX5_letters_8 : decode cX5_letters 8 = .ok (.aload_n 0, 1) := d_by (d_at odX5_letters ofX5_letters 8) rfl
theorem dX5_letters_9 : decode cX5_letters 9 = .ok (.getfield 15, 3) := d_by (d_at odX5_letters ofX5_letters 9) rfl
theorem dX5_letters_12 : decode cX5_letters 12 = .ok (.if_icmp .ge 26, 3) := d_by (d_at odX5_letters ofX5_letters 12) rfl
theorem dX5_letters_15 : decode cX5_letters 15 = .ok (.lload_n 1, 1) := d_by (d_at odX5_letters ofX5_letters 15) rfl
theorem dX5_letters_16 : decode cX5_letters 16 = .ok (.iconst 5, 1) := d_by (d_at odX5_letters ofX5_letters 16) rfl
theorem dX5_letters_17 : decode cX5_letters 17 = .ok (.lshl, 1) := d_by (d_at odX5_letters ofX5_letters 17) rfl
theorem dX5_letters_18 : decode cX5_letters 18 = .ok (.aload_n 0, 1) := d_by (d_at odX5_letters ofX5_letters 18) rfl
theorem dX5_letters_19 : decode cX5_letters 19 = .ok (.getfield 47, 3) := d_by (d_at odX5_letters ofX5_letters 19) rfl
theorem dX5_letters_22 : decode cX5_letters 22 = .ok (.iload_n 3, 1) := d_by (d_at odX5_letters ofX5_letters 22) rfl
theorem dX5_letters_23 : decode cX5_letters 23 = .ok (.baload, 1) := d_by (d_at odX5_letters ofX5_letters 23) rfl
theorem dX5_letters_24 : decode cX5_letters 24 = .ok (.bipush 97, 2) := d_by (d_at odX5_letters ofX5_letters 24) rfl
theorem dX5_letters_26 : decode cX5_letters 26 = .ok (.isub, 1) := d_by (d_at odX5_letters ofX5_letters 26) rfl
theorem dX5_letters_27 : decode cX5_letters 27 = .ok (.iconst 1, 1) := d_by (d_at odX5_letters ofX5_letters 27) rfl
theorem dX5_letters_28 : decode cX5_letters 28 = .ok (.iadd, 1) := d_by (d_at odX5_letters ofX5_letters 28) rfl
theorem dX5_letters_29 : decode cX5_letters 29 = .ok (.i2l, 1) := d_by (d_at odX5_letters ofX5_letters 29) rfl
theorem dX5_letters_30 : decode cX5_letters 30 = .ok (.lor, 1) := d_by (d_at odX5_letters ofX5_letters 30) rfl
theorem dX5_letters_31 : decode cX5_letters 31 = .ok (.lstore_n 1, 1) := d_by (d_at odX5_letters ofX5_letters 31) rfl
theorem dX5_letters_32 : decode cX5_letters 32 = .ok (.iinc 3 1, 3) := d_by (d_at odX5_letters ofX5_letters 32) rfl
theorem dX5_letters_35 : decode cX5_letters 35 = .ok (.goto (-28), 3) := d_by (d_at odX5_letters ofX5_letters 35) rfl
theorem dX5_letters_38 : decode cX5_letters 38 = .ok (.lload_n 1, 1) := d_by (d_at odX5_letters ofX5_letters 38) rfl
theorem dX5_letters_39 : decode cX5_letters 39 = .ok (.lreturn, 1) := d_by (d_at odX5_letters ofX5_letters 39) rfl
set_option maxRecDepth 100000 in
def bX5_songOfToken : List Nat := [42, 180, 0, 15, 42, 180, 0, 21, 100, 60, 27, 5, 161, 0, 9, 27, 16, 6, 164, 0, 6, 16, 254, 172, 3, 61, 42, 180, 0, 21, 62, 29, 42, 180, 0, 15, 162, 0, 42, 42, 180, 0, 47, 29, 51, 16, 97, 100, 54, 4, 21, 4, 42, 180, 0, 51, 180, 0, 84, 161, 0, 6, 16, 254, 172, 28, 5, 120, 21, 4, 128, 61, 132, 3, 1, 167, 255, 212, 28, 172]
set_option maxRecDepth 100000 in
theorem bbX5_songOfToken : cX5_songOfToken.data.toList.map UInt8.toNat = bX5_songOfToken := by decide +kernel
set_option maxRecDepth 100000 in
def tX5_songOfToken : Lean.RArray dLf := .branch 39 (.branch 18 (.branch 9 (.branch 4 (.branch 1 (.leaf (0, .aload_n 0, 1)) (.leaf (1, .getfield 15, 3))) (.branch 5 (.leaf (4, .aload_n 0, 1)) (.branch 8 (.leaf (5, .getfield 21, 3)) (.leaf (8, .isub, 1))))) (.branch 12 (.branch 10 (.leaf (9, .istore_n 1, 1)) (.branch 11 (.leaf (10, .iload_n 1, 1)) (.leaf (11, .iconst 2, 1)))) (.branch 15 (.leaf (12, .if_icmp .lt 9, 3)) (.branch 16 (.leaf (15, .iload_n 1, 1)) (.leaf (16, .bipush 6, 2)))))) (.branch 27 (.branch 24 (.branch 21 (.leaf (18, .if_icmp .le 6, 3)) (.branch 23 (.leaf (21, .bipush (-2), 2)) (.leaf (23, .ireturn, 1)))) (.branch 25 (.leaf (24, .iconst 0, 1)) (.branch 26 (.leaf (25, .istore_n 2, 1)) (.leaf (26, .aload_n 0, 1))))) (.branch 32 (.branch 30 (.leaf (27, .getfield 21, 3)) (.branch 31 (.leaf (30, .istore_n 3, 1)) (.leaf (31, .iload_n 3, 1)))) (.branch 33 (.leaf (32, .aload_n 0, 1)) (.branch 36 (.leaf (33, .getfield 15, 3)) (.leaf (36, .if_icmp .ge 42, 3))))))) (.branch 62 (.branch 48 (.branch 44 (.branch 40 (.leaf (39, .aload_n 0, 1)) (.branch 43 (.leaf (40, .getfield 47, 3)) (.leaf (43, .iload_n 3, 1)))) (.branch 45 (.leaf (44, .baload, 1)) (.branch 47 (.leaf (45, .bipush 97, 2)) (.leaf (47, .isub, 1))))) (.branch 53 (.branch 50 (.leaf (48, .istore 4, 2)) (.branch 52 (.leaf (50, .iload 4, 2)) (.leaf (52, .aload_n 0, 1)))) (.branch 56 (.leaf (53, .getfield 51, 3)) (.branch 59 (.leaf (56, .getfield 84, 3)) (.leaf (59, .if_icmp .lt 6, 3)))))) (.branch 70 (.branch 66 (.branch 64 (.leaf (62, .bipush (-2), 2)) (.branch 65 (.leaf (64, .ireturn, 1)) (.leaf (65, .iload_n 2, 1)))) (.branch 67 (.leaf (66, .iconst 2, 1)) (.branch 68 (.leaf (67, .ishl, 1)) (.leaf (68, .iload 4, 2))))) (.branch 75 (.branch 71 (.leaf (70, .ior, 1)) (.branch 72 (.leaf (71, .istore_n 2, 1)) (.leaf (72, .iinc 3 1, 3)))) (.branch 78 (.leaf (75, .goto (-44), 3)) (.branch 79 (.leaf (78, .iload_n 2, 1)) (.leaf (79, .ireturn, 1)))))))
noncomputable def oX5_songOfToken : List dLf := dFl tX5_songOfToken
theorem ofX5_songOfToken : dFl tX5_songOfToken = oX5_songOfToken := rfl
set_option maxRecDepth 100000 in
theorem odX5_songOfToken : ∀ q ∈ oX5_songOfToken, decode cX5_songOfToken q.1 = .ok (q.2.1, q.2.2) := q_go qT_ok bbX5_songOfToken oX5_songOfToken 0 (by decide +kernel)
theorem dX5_songOfToken_0 : decode cX5_songOfToken 0 = .ok (.aload_n 0, 1) := d_by (d_at odX5_songOfToken ofX5_songOfToken 0) rfl
theorem dX5_songOfToken_1 : decode cX5_songOfToken 1 = .ok (.getfield 15, 3) := d_by (d_at odX5_songOfToken ofX5_songOfToken 1) rfl
theorem dX5_songOfToken_4 : decode cX5_songOfToken 4 = .ok (.aload_n 0, 1) := d_by (d_at odX5_songOfToken ofX5_songOfToken 4) rfl
theorem dX5_songOfToken_5 : decode cX5_songOfToken 5 = .ok (.getfield 21, 3) := d_by (d_at odX5_songOfToken ofX5_songOfToken 5) rfl
theorem dX5_songOfToken_8 : decode cX5_songOfToken 8 = .ok (.isub, 1) := d_by (d_at odX5_songOfToken ofX5_songOfToken 8) rfl
theorem dX5_songOfToken_9 : decode cX5_songOfToken 9 = .ok (.istore_n 1, 1) := d_by (d_at odX5_songOfToken ofX5_songOfToken 9) rfl
theorem dX5_songOfToken_10 : decode cX5_songOfToken 10 = .ok (.iload_n 1, 1) := d_by (d_at odX5_songOfToken ofX5_songOfToken 10) rfl
theorem dX5_songOfToken_11 : decode cX5_songOfToken 11 = .ok (.iconst 2, 1) := d_by (d_at odX5_songOfToken ofX5_songOfToken 11) rfl
theorem dX5_songOfToken_12 : decode cX5_songOfToken 12 = .ok (.if_icmp .lt 9, 3) := d_by (d_at odX5_songOfToken ofX5_songOfToken 12) rfl
theorem dX5_songOfToken_15 : decode cX5_songOfToken 15 = .ok (.iload_n 1, 1) := d_by (d_at odX5_songOfToken ofX5_songOfToken 15) rfl
theorem dX5_songOfToken_16 : decode cX5_songOfToken 16 = .ok (.bipush 6, 2) := d_by (d_at odX5_songOfToken ofX5_songOfToken 16) rfl
theorem dX5_songOfToken_18 : decode cX5_songOfToken 18 = .ok (.if_icmp .le 6, 3) := d_by (d_at odX5_songOfToken ofX5_songOfToken 18) rfl
theorem dX5_songOfToken_21 : decode cX5_songOfToken 21 = .ok (.bipush (-2), 2) := d_by (d_at odX5_songOfToken ofX5_songOfToken 21) rfl
theorem dX5_songOfToken_23 : decode cX5_songOfToken 23 = .ok (.ireturn, 1) := d_by (d_at odX5_songOfToken ofX5_songOfToken 23) rfl
theorem dX5_songOfToken_24 : decode cX5_songOfToken 24 = .ok (.iconst 0, 1) := d_by (d_at odX5_songOfToken ofX5_songOfToken 24) rfl
theorem dX5_songOfToken_25 : decode cX5_songOfToken 25 = .ok (.istore_n 2, 1) := d_by (d_at odX5_songOfToken ofX5_songOfToken 25) rfl
theorem dX5_songOfToken_26 : decode cX5_songOfToken 26 = .ok (.aload_n 0, 1) := d_by (d_at odX5_songOfToken ofX5_songOfToken 26) rfl
theorem dX5_songOfToken_27 : decode cX5_songOfToken 27 = .ok (.getfield 21, 3) := d_by (d_at odX5_songOfToken ofX5_songOfToken 27) rfl
theorem dX5_songOfToken_30 : decode cX5_songOfToken 30 = .ok (.istore_n 3, 1) := d_by (d_at odX5_songOfToken ofX5_songOfToken 30) rfl
theorem dX5_songOfToken_31 : decode cX5_songOfToken 31 = .ok (.iload_n 3, 1) := d_by (d_at odX5_songOfToken ofX5_songOfToken 31) rfl
theorem dX5_songOfToken_32 : decode cX5_songOfToken 32 = .ok (.aload_n 0, 1) := d_by (d_at odX5_songOfToken ofX5_songOfToken 32) rfl
theorem dX5_songOfToken_33 : decode cX5_songOfToken 33 = .ok (.getfield 15, 3) := d_by (d_at odX5_songOfToken ofX5_songOfToken 33) rfl
theorem dX5_songOfToken_36 : decode cX5_songOfToken 36 = .ok (.if_icmp .ge 42, 3) := d_by (d_at odX5_songOfToken ofX5_songOfToken 36) rfl
theorem dX5_songOfToken_39 : decode cX5_songOfToken 39 = .ok (.aload_n 0, 1) := d_by (d_at odX5_songOfToken ofX5_songOfToken 39) rfl
theorem dX5_songOfToken_40 : decode cX5_songOfToken 40 = .ok (.getfield 47, 3) := d_by (d_at odX5_songOfToken ofX5_songOfToken 40) rfl
theorem dX5_songOfToken_43 : decode cX5_songOfToken 43 = .ok (.iload_n 3, 1) := d_by (d_at odX5_songOfToken ofX5_songOfToken 43) rfl
theorem dX5_songOfToken_44 : decode cX5_songOfToken 44 = .ok (.baload, 1) := d_by (d_at odX5_songOfToken ofX5_songOfToken 44) rfl
theorem dX5_songOfToken_45 : decode cX5_songOfToken 45 = .ok (.bipush 97, 2) := d_by (d_at odX5_songOfToken ofX5_songOfToken 45) rfl
theorem dX5_songOfToken_47 : decode cX5_songOfToken 47 = .ok (.isub, 1) := d_by (d_at odX5_songOfToken ofX5_songOfToken 47) rfl
theorem dX5_songOfToken_48 : decode cX5_songOfToken 48 = .ok (.istore 4, 2) := d_by (d_at odX5_songOfToken ofX5_songOfToken 48) rfl
theorem dX5_songOfToken_50 : decode cX5_songOfToken 50 = .ok (.iload 4, 2) := d_by (d_at odX5_songOfToken ofX5_songOfToken 50) rfl
theorem dX5_songOfToken_52 : decode cX5_songOfToken 52 = .ok (.aload_n 0, 1) := d_by (d_at odX5_songOfToken ofX5_songOfToken 52) rfl
theorem dX5_songOfToken_53 : decode cX5_songOfToken 53 = .ok (.getfield 51, 3) := d_by (d_at odX5_songOfToken ofX5_songOfToken 53) rfl
theorem dX5_songOfToken_56 : decode cX5_songOfToken 56 = .ok (.getfield 84, 3) := d_by (d_at odX5_songOfToken ofX5_songOfToken 56) rfl
theorem dX5_songOfToken_59 : decode cX5_songOfToken 59 = .ok (.if_icmp .lt 6, 3) := d_by (d_at odX5_songOfToken ofX5_songOfToken 59) rfl
theorem dX5_songOfToken_62 : decode cX5_songOfToken 62 = .ok (.bipush (-2), 2) := d_by (d_at odX5_songOfToken ofX5_songOfToken 62) rfl
theorem dX5_songOfToken_64 : decode cX5_songOfToken 64 = .ok (.ireturn, 1) := d_by (d_at odX5_songOfToken ofX5_songOfToken 64) rfl
theorem dX5_songOfToken_65 : decode cX5_songOfToken 65 = .ok (.iload_n 2, 1) := d_by (d_at odX5_songOfToken ofX5_songOfToken 65) rfl
theorem dX5_songOfToken_66 : decode cX5_songOfToken 66 = .ok (.iconst 2, 1) := d_by (d_at odX5_songOfToken ofX5_songOfToken 66) rfl
theorem dX5_songOfToken_67 : decode cX5_songOfToken 67 = .ok (.ishl, 1) := d_by (d_at odX5_songOfToken ofX5_songOfToken 67) rfl
theorem dX5_songOfToken_68 : decode cX5_songOfToken 68 = .ok (.iload 4, 2) := d_by (d_at odX5_songOfToken ofX5_songOfToken 68) rfl
theorem dX5_songOfToken_70 : decode cX5_songOfToken 70 = .ok (.ior, 1) := d_by (d_at odX5_songOfToken ofX5_songOfToken 70) rfl
theorem dX5_songOfToken_71 : decode cX5_songOfToken 71 = .ok (.istore_n 2, 1) := d_by (d_at odX5_songOfToken ofX5_songOfToken 71) rfl
theorem dX5_songOfToken_72 : decode cX5_songOfToken 72 = .ok (.iinc 3 1, 3) := d_by (d_at odX5_songOfToken ofX5_songOfToken 72) rfl
theorem dX5_songOfToken_75 : decode cX5_songOfToken 75 = .ok (.goto (-44), 3) := d_by (d_at odX5_songOfToken ofX5_songOfToken 75) rfl
theorem dX5_songOfToken_78 : decode cX5_songOfToken 78 = .ok (.iload_n 2, 1) := d_by (d_at odX5_songOfToken ofX5_songOfToken 78) rfl
theorem dX5_songOfToken_79 : decode cX5_songOfToken 79 = .ok (.ireturn, 1) := d_by (d_at odX5_songOfToken ofX5_songOfToken 79) rfl
set_option maxRecDepth 100000 in
def bX5_kindOfToken : List Nat := [42, 18, 255, 182, 0, 245, 153, 0, 5, 3, 172, 42, 19, 1, 1, 182, 0, 245, 153, 0, 5, 4, 172, 42, 19, 1, 3, 182, 0, 245, 153, 0, 5, 5, 172, 42, 19, 1, 5, 182, 0, 245, 153, 0, 7, 6, 167, 0, 5, 16, 254, 172]
set_option maxRecDepth 100000 in
theorem bbX5_kindOfToken : cX5_kindOfToken.data.toList.map UInt8.toNat = bX5_kindOfToken := by decide +kernel
set_option maxRecDepth 100000 in
def tX5_kindOfToken : Lean.RArray dLf := .branch 24 (.branch 11 (.branch 6 (.branch 1 (.leaf (0, .aload_n 0, 1)) (.branch 3 (.leaf (1, .ldc 255, 2)) (.leaf (3, .invokevirtual 245, 3)))) (.branch 9 (.leaf (6, .ifCond .eq 5, 3)) (.branch 10 (.leaf (9, .iconst 0, 1)) (.leaf (10, .ireturn, 1))))) (.branch 18 (.branch 12 (.leaf (11, .aload_n 0, 1)) (.branch 15 (.leaf (12, .ldc_w 257, 3)) (.leaf (15, .invokevirtual 245, 3)))) (.branch 22 (.branch 21 (.leaf (18, .ifCond .eq 5, 3)) (.leaf (21, .iconst 1, 1))) (.branch 23 (.leaf (22, .ireturn, 1)) (.leaf (23, .aload_n 0, 1)))))) (.branch 36 (.branch 33 (.branch 27 (.leaf (24, .ldc_w 259, 3)) (.branch 30 (.leaf (27, .invokevirtual 245, 3)) (.leaf (30, .ifCond .eq 5, 3)))) (.branch 34 (.leaf (33, .iconst 2, 1)) (.branch 35 (.leaf (34, .ireturn, 1)) (.leaf (35, .aload_n 0, 1))))) (.branch 45 (.branch 39 (.leaf (36, .ldc_w 261, 3)) (.branch 42 (.leaf (39, .invokevirtual 245, 3)) (.leaf (42, .ifCond .eq 7, 3)))) (.branch 49 (.branch 46 (.leaf (45, .iconst 3, 1)) (.leaf (46, .goto 5, 3))) (.branch 51 (.leaf (49, .bipush (-2), 2)) (.leaf (51, .ireturn, 1))))))
noncomputable def oX5_kindOfToken : List dLf := dFl tX5_kindOfToken
theorem ofX5_kindOfToken : dFl tX5_kindOfToken = oX5_kindOfToken := rfl
set_option maxRecDepth 100000 in
theorem odX5_kindOfToken : ∀ q ∈ oX5_kindOfToken, decode cX5_kindOfToken q.1 = .ok (q.2.1, q.2.2) := q_go qT_ok bbX5_kindOfToken oX5_kindOfToken 0 (by decide +kernel)
theorem dX5_kindOfToken_0 : decode cX5_kindOfToken 0 = .ok (.aload_n 0, 1) := d_by (d_at odX5_kindOfToken ofX5_kindOfToken 0) rfl
theorem dX5_kindOfToken_1 : decode cX5_kindOfToken 1 = .ok (.ldc 255, 2) := d_by (d_at odX5_kindOfToken ofX5_kindOfToken 1) rfl
theorem dX5_kindOfToken_3 : decode cX5_kindOfToken 3 = .ok (.invokevirtual 245, 3) := d_by (d_at odX5_kindOfToken ofX5_kindOfToken 3) rfl
theorem dX5_kindOfToken_6 : decode cX5_kindOfToken 6 = .ok (.ifCond .eq 5, 3) := d_by (d_at odX5_kindOfToken ofX5_kindOfToken 6) rfl
theorem dX5_kindOfToken_9 : decode cX5_kindOfToken 9 = .ok (.iconst 0, 1) := d_by (d_at odX5_kindOfToken ofX5_kindOfToken 9) rfl
theorem dX5_kindOfToken_10 : decode cX5_kindOfToken 10 = .ok (.ireturn, 1) := d_by (d_at odX5_kindOfToken ofX5_kindOfToken 10) rfl
theorem dX5_kindOfToken_11 : decode cX5_kindOfToken 11 = .ok (.aload_n 0, 1) := d_by (d_at odX5_kindOfToken ofX5_kindOfToken 11) rfl
theorem dX5_kindOfToken_12 : decode cX5_kindOfToken 12 = .ok (.ldc_w 257, 3) := d_by (d_at odX5_kindOfToken ofX5_kindOfToken 12) rfl
theorem dX5_kindOfToken_15 : decode cX5_kindOfToken 15 = .ok (.invokevirtual 245, 3) := d_by (d_at odX5_kindOfToken ofX5_kindOfToken 15) rfl
theorem dX5_kindOfToken_18 : decode cX5_kindOfToken 18 = .ok (.ifCond .eq 5, 3) := d_by (d_at odX5_kindOfToken ofX5_kindOfToken 18) rfl
theorem dX5_kindOfToken_21 : decode cX5_kindOfToken 21 = .ok (.iconst 1, 1) := d_by (d_at odX5_kindOfToken ofX5_kindOfToken 21) rfl
theorem dX5_kindOfToken_22 : decode cX5_kindOfToken 22 = .ok (.ireturn, 1) := d_by (d_at odX5_kindOfToken ofX5_kindOfToken 22) rfl
theorem dX5_kindOfToken_23 : decode cX5_kindOfToken 23 = .ok (.aload_n 0, 1) := d_by (d_at odX5_kindOfToken ofX5_kindOfToken 23) rfl
theorem dX5_kindOfToken_24 : decode cX5_kindOfToken 24 = .ok (.ldc_w 259, 3) := d_by (d_at odX5_kindOfToken ofX5_kindOfToken 24) rfl
theorem dX5_kindOfToken_27 : decode cX5_kindOfToken 27 = .ok (.invokevirtual 245, 3) := d_by (d_at odX5_kindOfToken ofX5_kindOfToken 27) rfl
theorem dX5_kindOfToken_30 : decode cX5_kindOfToken 30 = .ok (.ifCond .eq 5, 3) := d_by (d_at odX5_kindOfToken ofX5_kindOfToken 30) rfl
theorem dX5_kindOfToken_33 : decode cX5_kindOfToken 33 = .ok (.iconst 2, 1) := d_by (d_at odX5_kindOfToken ofX5_kindOfToken 33) rfl
theorem dX5_kindOfToken_34 : decode cX5_kindOfToken 34 = .ok (.ireturn, 1) := d_by (d_at odX5_kindOfToken ofX5_kindOfToken 34) rfl
theorem dX5_kindOfToken_35 : decode cX5_kindOfToken 35 = .ok (.aload_n 0, 1) := d_by (d_at odX5_kindOfToken ofX5_kindOfToken 35) rfl
theorem dX5_kindOfToken_36 : decode cX5_kindOfToken 36 = .ok (.ldc_w 261, 3) := d_by (d_at odX5_kindOfToken ofX5_kindOfToken 36) rfl
theorem dX5_kindOfToken_39 : decode cX5_kindOfToken 39 = .ok (.invokevirtual 245, 3) := d_by (d_at odX5_kindOfToken ofX5_kindOfToken 39) rfl
theorem dX5_kindOfToken_42 : decode cX5_kindOfToken 42 = .ok (.ifCond .eq 7, 3) := d_by (d_at odX5_kindOfToken ofX5_kindOfToken 42) rfl
theorem dX5_kindOfToken_45 : decode cX5_kindOfToken 45 = .ok (.iconst 3, 1) := d_by (d_at odX5_kindOfToken ofX5_kindOfToken 45) rfl
theorem dX5_kindOfToken_46 : decode cX5_kindOfToken 46 = .ok (.goto 5, 3) := d_by (d_at odX5_kindOfToken ofX5_kindOfToken 46) rfl
theorem dX5_kindOfToken_49 : decode cX5_kindOfToken 49 = .ok (.bipush (-2), 2) := d_by (d_at odX5_kindOfToken ofX5_kindOfToken 49) rfl
theorem dX5_kindOfToken_51 : decode cX5_kindOfToken 51 = .ok (.ireturn, 1) := d_by (d_at odX5_kindOfToken ofX5_kindOfToken 51) rfl
set_option maxRecDepth 100000 in
def bX5_sortOfLine : List Nat := [42, 19, 1, 7, 182, 0, 245, 153, 0, 5, 3, 172, 42, 19, 1, 8, 182, 0, 245, 153, 0, 5, 4, 172, 42, 19, 1, 9, 182, 0, 245, 153, 0, 5, 5, 172, 42, 19, 1, 10, 182, 0, 245, 153, 0, 5, 6, 172, 42, 19, 1, 11, 182, 0, 245, 153, 0, 5, 7, 172, 42, 19, 1, 12, 182, 0, 245, 153, 0, 7, 8, 167, 0, 5, 16, 254, 172]
set_option maxRecDepth 100000 in
theorem bbX5_sortOfLine : cX5_sortOfLine.data.toList.map UInt8.toNat = bX5_sortOfLine := by decide +kernel
set_option maxRecDepth 100000 in
def tX5_sortOfLine : Lean.RArray dLf := .branch 37 (.branch 19 (.branch 10 (.branch 4 (.branch 1 (.leaf (0, .aload_n 0, 1)) (.leaf (1, .ldc_w 263, 3))) (.branch 7 (.leaf (4, .invokevirtual 245, 3)) (.leaf (7, .ifCond .eq 5, 3)))) (.branch 12 (.branch 11 (.leaf (10, .iconst 0, 1)) (.leaf (11, .ireturn, 1))) (.branch 13 (.leaf (12, .aload_n 0, 1)) (.branch 16 (.leaf (13, .ldc_w 264, 3)) (.leaf (16, .invokevirtual 245, 3)))))) (.branch 28 (.branch 23 (.branch 22 (.leaf (19, .ifCond .eq 5, 3)) (.leaf (22, .iconst 1, 1))) (.branch 24 (.leaf (23, .ireturn, 1)) (.branch 25 (.leaf (24, .aload_n 0, 1)) (.leaf (25, .ldc_w 265, 3))))) (.branch 34 (.branch 31 (.leaf (28, .invokevirtual 245, 3)) (.leaf (31, .ifCond .eq 5, 3))) (.branch 35 (.leaf (34, .iconst 2, 1)) (.branch 36 (.leaf (35, .ireturn, 1)) (.leaf (36, .aload_n 0, 1))))))) (.branch 58 (.branch 47 (.branch 43 (.branch 40 (.leaf (37, .ldc_w 266, 3)) (.leaf (40, .invokevirtual 245, 3))) (.branch 46 (.leaf (43, .ifCond .eq 5, 3)) (.leaf (46, .iconst 3, 1)))) (.branch 49 (.branch 48 (.leaf (47, .ireturn, 1)) (.leaf (48, .aload_n 0, 1))) (.branch 52 (.leaf (49, .ldc_w 267, 3)) (.branch 55 (.leaf (52, .invokevirtual 245, 3)) (.leaf (55, .ifCond .eq 5, 3)))))) (.branch 67 (.branch 60 (.branch 59 (.leaf (58, .iconst 4, 1)) (.leaf (59, .ireturn, 1))) (.branch 61 (.leaf (60, .aload_n 0, 1)) (.branch 64 (.leaf (61, .ldc_w 268, 3)) (.leaf (64, .invokevirtual 245, 3))))) (.branch 71 (.branch 70 (.leaf (67, .ifCond .eq 7, 3)) (.leaf (70, .iconst 5, 1))) (.branch 74 (.leaf (71, .goto 5, 3)) (.branch 76 (.leaf (74, .bipush (-2), 2)) (.leaf (76, .ireturn, 1)))))))
noncomputable def oX5_sortOfLine : List dLf := dFl tX5_sortOfLine
theorem ofX5_sortOfLine : dFl tX5_sortOfLine = oX5_sortOfLine := rfl
set_option maxRecDepth 100000 in
theorem odX5_sortOfLine : ∀ q ∈ oX5_sortOfLine, decode cX5_sortOfLine q.1 = .ok (q.2.1, q.2.2) := q_go qT_ok bbX5_sortOfLine oX5_sortOfLine 0 (by decide +kernel)
theorem dX5_sortOfLine_0 : decode cX5_sortOfLine 0 = .ok (.aload_n 0, 1) := d_by (d_at odX5_sortOfLine ofX5_sortOfLine 0) rfl
theorem dX5_sortOfLine_1 : decode cX5_sortOfLine 1 = .ok (.ldc_w 263, 3) := d_by (d_at odX5_sortOfLine ofX5_sortOfLine 1) rfl
theorem dX5_sortOfLine_4 : decode cX5_sortOfLine 4 = .ok (.invokevirtual 245, 3) := d_by (d_at odX5_sortOfLine ofX5_sortOfLine 4) rfl
theorem dX5_sortOfLine_7 : decode cX5_sortOfLine 7 = .ok (.ifCond .eq 5, 3) := d_by (d_at odX5_sortOfLine ofX5_sortOfLine 7) rfl
theorem dX5_sortOfLine_10 : decode cX5_sortOfLine 10 = .ok (.iconst 0, 1) := d_by (d_at odX5_sortOfLine ofX5_sortOfLine 10) rfl
theorem dX5_sortOfLine_11 : decode cX5_sortOfLine 11 = .ok (.ireturn, 1) := d_by (d_at odX5_sortOfLine ofX5_sortOfLine 11) rfl
theorem dX5_sortOfLine_12 : decode cX5_sortOfLine 12 = .ok (.aload_n 0, 1) := d_by (d_at odX5_sortOfLine ofX5_sortOfLine 12) rfl
theorem dX5_sortOfLine_13 : decode cX5_sortOfLine 13 = .ok (.ldc_w 264, 3) := d_by (d_at odX5_sortOfLine ofX5_sortOfLine 13) rfl
theorem dX5_sortOfLine_16 : decode cX5_sortOfLine 16 = .ok (.invokevirtual 245, 3) := d_by (d_at odX5_sortOfLine ofX5_sortOfLine 16) rfl
theorem dX5_sortOfLine_19 : decode cX5_sortOfLine 19 = .ok (.ifCond .eq 5, 3) := d_by (d_at odX5_sortOfLine ofX5_sortOfLine 19) rfl
theorem dX5_sortOfLine_22 : decode cX5_sortOfLine 22 = .ok (.iconst 1, 1) := d_by (d_at odX5_sortOfLine ofX5_sortOfLine 22) rfl
theorem dX5_sortOfLine_23 : decode cX5_sortOfLine 23 = .ok (.ireturn, 1) := d_by (d_at odX5_sortOfLine ofX5_sortOfLine 23) rfl
theorem dX5_sortOfLine_24 : decode cX5_sortOfLine 24 = .ok (.aload_n 0, 1) := d_by (d_at odX5_sortOfLine ofX5_sortOfLine 24) rfl
theorem dX5_sortOfLine_25 : decode cX5_sortOfLine 25 = .ok (.ldc_w 265, 3) := d_by (d_at odX5_sortOfLine ofX5_sortOfLine 25) rfl
theorem dX5_sortOfLine_28 : decode cX5_sortOfLine 28 = .ok (.invokevirtual 245, 3) := d_by (d_at odX5_sortOfLine ofX5_sortOfLine 28) rfl
theorem dX5_sortOfLine_31 : decode cX5_sortOfLine 31 = .ok (.ifCond .eq 5, 3) := d_by (d_at odX5_sortOfLine ofX5_sortOfLine 31) rfl
theorem dX5_sortOfLine_34 : decode cX5_sortOfLine 34 = .ok (.iconst 2, 1) := d_by (d_at odX5_sortOfLine ofX5_sortOfLine 34) rfl
theorem dX5_sortOfLine_35 : decode cX5_sortOfLine 35 = .ok (.ireturn, 1) := d_by (d_at odX5_sortOfLine ofX5_sortOfLine 35) rfl
theorem dX5_sortOfLine_36 : decode cX5_sortOfLine 36 = .ok (.aload_n 0, 1) := d_by (d_at odX5_sortOfLine ofX5_sortOfLine 36) rfl
theorem dX5_sortOfLine_37 : decode cX5_sortOfLine 37 = .ok (.ldc_w 266, 3) := d_by (d_at odX5_sortOfLine ofX5_sortOfLine 37) rfl
theorem dX5_sortOfLine_40 : decode cX5_sortOfLine 40 = .ok (.invokevirtual 245, 3) := d_by (d_at odX5_sortOfLine ofX5_sortOfLine 40) rfl
theorem dX5_sortOfLine_43 : decode cX5_sortOfLine 43 = .ok (.ifCond .eq 5, 3) := d_by (d_at odX5_sortOfLine ofX5_sortOfLine 43) rfl
theorem dX5_sortOfLine_46 : decode cX5_sortOfLine 46 = .ok (.iconst 3, 1) := d_by (d_at odX5_sortOfLine ofX5_sortOfLine 46) rfl
theorem dX5_sortOfLine_47 : decode cX5_sortOfLine 47 = .ok (.ireturn, 1) := d_by (d_at odX5_sortOfLine ofX5_sortOfLine 47) rfl
theorem dX5_sortOfLine_48 : decode cX5_sortOfLine 48 = .ok (.aload_n 0, 1) := d_by (d_at odX5_sortOfLine ofX5_sortOfLine 48) rfl
theorem dX5_sortOfLine_49 : decode cX5_sortOfLine 49 = .ok (.ldc_w 267, 3) := d_by (d_at odX5_sortOfLine ofX5_sortOfLine 49) rfl
theorem dX5_sortOfLine_52 : decode cX5_sortOfLine 52 = .ok (.invokevirtual 245, 3) := d_by (d_at odX5_sortOfLine ofX5_sortOfLine 52) rfl
theorem dX5_sortOfLine_55 : decode cX5_sortOfLine 55 = .ok (.ifCond .eq 5, 3) := d_by (d_at odX5_sortOfLine ofX5_sortOfLine 55) rfl
theorem dX5_sortOfLine_58 : decode cX5_sortOfLine 58 = .ok (.iconst 4, 1) := d_by (d_at odX5_sortOfLine ofX5_sortOfLine 58) rfl
theorem dX5_sortOfLine_59 : decode cX5_sortOfLine 59 = .ok (.ireturn, 1) := d_by (d_at odX5_sortOfLine ofX5_sortOfLine 59) rfl
theorem dX5_sortOfLine_60 : decode cX5_sortOfLine 60 = .ok (.aload_n 0, 1) := d_by (d_at odX5_sortOfLine ofX5_sortOfLine 60) rfl
theorem dX5_sortOfLine_61 : decode cX5_sortOfLine 61 = .ok (.ldc_w 268, 3) := d_by (d_at odX5_sortOfLine ofX5_sortOfLine 61) rfl
theorem dX5_sortOfLine_64 : decode cX5_sortOfLine 64 = .ok (.invokevirtual 245, 3) := d_by (d_at odX5_sortOfLine ofX5_sortOfLine 64) rfl
theorem dX5_sortOfLine_67 : decode cX5_sortOfLine 67 = .ok (.ifCond .eq 7, 3) := d_by (d_at odX5_sortOfLine ofX5_sortOfLine 67) rfl
theorem dX5_sortOfLine_70 : decode cX5_sortOfLine 70 = .ok (.iconst 5, 1) := d_by (d_at odX5_sortOfLine ofX5_sortOfLine 70) rfl
theorem dX5_sortOfLine_71 : decode cX5_sortOfLine 71 = .ok (.goto 5, 3) := d_by (d_at odX5_sortOfLine ofX5_sortOfLine 71) rfl
theorem dX5_sortOfLine_74 : decode cX5_sortOfLine 74 = .ok (.bipush (-2), 2) := d_by (d_at odX5_sortOfLine ofX5_sortOfLine 74) rfl
theorem dX5_sortOfLine_76 : decode cX5_sortOfLine 76 = .ok (.ireturn, 1) := d_by (d_at odX5_sortOfLine ofX5_sortOfLine 76) rfl
set_option maxRecDepth 100000 in
def bX5_isToken : List Nat := [42, 180, 0, 18, 4, 160, 0, 19, 42, 180, 0, 15, 42, 180, 0, 21, 100, 43, 182, 1, 13, 159, 0, 5, 3, 172, 3, 61, 28, 43, 182, 1, 13, 162, 0, 30, 42, 180, 0, 47, 42, 180, 0, 21, 28, 96, 51, 43, 28, 182, 1, 18, 159, 0, 5, 3, 172, 132, 2, 1, 167, 255, 224, 4, 172]
set_option maxRecDepth 100000 in
theorem bbX5_isToken : cX5_isToken.data.toList.map UInt8.toNat = bX5_isToken := by decide +kernel
set_option maxRecDepth 100000 in
def tX5_isToken : Lean.RArray dLf := .branch 30 (.branch 17 (.branch 8 (.branch 4 (.branch 1 (.leaf (0, .aload_n 0, 1)) (.leaf (1, .getfield 18, 3))) (.branch 5 (.leaf (4, .iconst 1, 1)) (.leaf (5, .if_icmp .ne 19, 3)))) (.branch 12 (.branch 9 (.leaf (8, .aload_n 0, 1)) (.leaf (9, .getfield 15, 3))) (.branch 13 (.leaf (12, .aload_n 0, 1)) (.branch 16 (.leaf (13, .getfield 21, 3)) (.leaf (16, .isub, 1)))))) (.branch 25 (.branch 21 (.branch 18 (.leaf (17, .aload_n 1, 1)) (.leaf (18, .invokevirtual 269, 3))) (.branch 24 (.leaf (21, .if_icmp .eq 5, 3)) (.leaf (24, .iconst 0, 1)))) (.branch 27 (.branch 26 (.leaf (25, .ireturn, 1)) (.leaf (26, .iconst 0, 1))) (.branch 28 (.leaf (27, .istore_n 2, 1)) (.branch 29 (.leaf (28, .iload_n 2, 1)) (.leaf (29, .aload_n 1, 1))))))) (.branch 47 (.branch 40 (.branch 36 (.branch 33 (.leaf (30, .invokevirtual 269, 3)) (.leaf (33, .if_icmp .ge 30, 3))) (.branch 37 (.leaf (36, .aload_n 0, 1)) (.leaf (37, .getfield 47, 3)))) (.branch 44 (.branch 41 (.leaf (40, .aload_n 0, 1)) (.leaf (41, .getfield 21, 3))) (.branch 45 (.leaf (44, .iload_n 2, 1)) (.branch 46 (.leaf (45, .iadd, 1)) (.leaf (46, .baload, 1)))))) (.branch 56 (.branch 49 (.branch 48 (.leaf (47, .aload_n 1, 1)) (.leaf (48, .iload_n 2, 1))) (.branch 52 (.leaf (49, .invokevirtual 274, 3)) (.branch 55 (.leaf (52, .if_icmp .eq 5, 3)) (.leaf (55, .iconst 0, 1))))) (.branch 60 (.branch 57 (.leaf (56, .ireturn, 1)) (.leaf (57, .iinc 2 1, 3))) (.branch 63 (.leaf (60, .goto (-32), 3)) (.branch 64 (.leaf (63, .iconst 1, 1)) (.leaf (64, .ireturn, 1)))))))
noncomputable def oX5_isToken : List dLf := dFl tX5_isToken
theorem ofX5_isToken : dFl tX5_isToken = oX5_isToken := rfl
set_option maxRecDepth 100000 in
theorem odX5_isToken : ∀ q ∈ oX5_isToken, decode cX5_isToken q.1 = .ok (q.2.1, q.2.2) := q_go qT_ok bbX5_isToken oX5_isToken 0 (by decide +kernel)
theorem dX5_isToken_0 : decode cX5_isToken 0 = .ok (.aload_n 0, 1) := d_by (d_at odX5_isToken ofX5_isToken 0) rfl
theorem dX5_isToken_1 : decode cX5_isToken 1 = .ok (.getfield 18, 3) := d_by (d_at odX5_isToken ofX5_isToken 1) rfl
theorem dX5_isToken_4 : decode cX5_isToken 4 = .ok (.iconst 1, 1) := d_by (d_at odX5_isToken ofX5_isToken 4) rfl
theorem dX5_isToken_5 : decode cX5_isToken 5 = .ok (.if_icmp .ne 19, 3) := d_by (d_at odX5_isToken ofX5_isToken 5) rfl
theorem dX5_isToken_8 : decode cX5_isToken 8 = .ok (.aload_n 0, 1) := d_by (d_at odX5_isToken ofX5_isToken 8) rfl
theorem dX5_isToken_9 : decode cX5_isToken 9 = .ok (.getfield 15, 3) := d_by (d_at odX5_isToken ofX5_isToken 9) rfl
theorem dX5_isToken_12 : decode cX5_isToken 12 = .ok (.aload_n 0, 1) := d_by (d_at odX5_isToken ofX5_isToken 12) rfl
theorem dX5_isToken_13 : decode cX5_isToken 13 = .ok (.getfield 21, 3) := d_by (d_at odX5_isToken ofX5_isToken 13) rfl
theorem dX5_isToken_16 : decode cX5_isToken 16 = .ok (.isub, 1) := d_by (d_at odX5_isToken ofX5_isToken 16) rfl
theorem dX5_isToken_17 : decode cX5_isToken 17 = .ok (.aload_n 1, 1) := d_by (d_at odX5_isToken ofX5_isToken 17) rfl
theorem dX5_isToken_18 : decode cX5_isToken 18 = .ok (.invokevirtual 269, 3) := d_by (d_at odX5_isToken ofX5_isToken 18) rfl
theorem dX5_isToken_21 : decode cX5_isToken 21 = .ok (.if_icmp .eq 5, 3) := d_by (d_at odX5_isToken ofX5_isToken 21) rfl
theorem dX5_isToken_24 : decode cX5_isToken 24 = .ok (.iconst 0, 1) := d_by (d_at odX5_isToken ofX5_isToken 24) rfl
theorem dX5_isToken_25 : decode cX5_isToken 25 = .ok (.ireturn, 1) := d_by (d_at odX5_isToken ofX5_isToken 25) rfl
theorem dX5_isToken_26 : decode cX5_isToken 26 = .ok (.iconst 0, 1) := d_by (d_at odX5_isToken ofX5_isToken 26) rfl
theorem dX5_isToken_27 : decode cX5_isToken 27 = .ok (.istore_n 2, 1) := d_by (d_at odX5_isToken ofX5_isToken 27) rfl
theorem dX5_isToken_28 : decode cX5_isToken 28 = .ok (.iload_n 2, 1) := d_by (d_at odX5_isToken ofX5_isToken 28) rfl
theorem dX5_isToken_29 : decode cX5_isToken 29 = .ok (.aload_n 1, 1) := d_by (d_at odX5_isToken ofX5_isToken 29) rfl
theorem dX5_isToken_30 : decode cX5_isToken 30 = .ok (.invokevirtual 269, 3) := d_by (d_at odX5_isToken ofX5_isToken 30) rfl
theorem dX5_isToken_33 : decode cX5_isToken 33 = .ok (.if_icmp .ge 30, 3) := d_by (d_at odX5_isToken ofX5_isToken 33) rfl
theorem dX5_isToken_36 : decode cX5_isToken 36 = .ok (.aload_n 0, 1) := d_by (d_at odX5_isToken ofX5_isToken 36) rfl
theorem dX5_isToken_37 : decode cX5_isToken 37 = .ok (.getfield 47, 3) := d_by (d_at odX5_isToken ofX5_isToken 37) rfl
theorem dX5_isToken_40 : decode cX5_isToken 40 = .ok (.aload_n 0, 1) := d_by (d_at odX5_isToken ofX5_isToken 40) rfl
theorem dX5_isToken_41 : decode cX5_isToken 41 = .ok (.getfield 21, 3) := d_by (d_at odX5_isToken ofX5_isToken 41) rfl
theorem dX5_isToken_44 : decode cX5_isToken 44 = .ok (.iload_n 2, 1) := d_by (d_at odX5_isToken ofX5_isToken 44) rfl
theorem dX5_isToken_45 : decode cX5_isToken 45 = .ok (.iadd, 1) := d_by (d_at odX5_isToken ofX5_isToken 45) rfl
theorem dX5_isToken_46 : decode cX5_isToken 46 = .ok (.baload, 1) := d_by (d_at odX5_isToken ofX5_isToken 46) rfl
theorem dX5_isToken_47 : decode cX5_isToken 47 = .ok (.aload_n 1, 1) := d_by (d_at odX5_isToken ofX5_isToken 47) rfl
theorem dX5_isToken_48 : decode cX5_isToken 48 = .ok (.iload_n 2, 1) := d_by (d_at odX5_isToken ofX5_isToken 48) rfl
theorem dX5_isToken_49 : decode cX5_isToken 49 = .ok (.invokevirtual 274, 3) := d_by (d_at odX5_isToken ofX5_isToken 49) rfl
theorem dX5_isToken_52 : decode cX5_isToken 52 = .ok (.if_icmp .eq 5, 3) := d_by (d_at odX5_isToken ofX5_isToken 52) rfl
theorem dX5_isToken_55 : decode cX5_isToken 55 = .ok (.iconst 0, 1) := d_by (d_at odX5_isToken ofX5_isToken 55) rfl
theorem dX5_isToken_56 : decode cX5_isToken 56 = .ok (.ireturn, 1) := d_by (d_at odX5_isToken ofX5_isToken 56) rfl
theorem dX5_isToken_57 : decode cX5_isToken 57 = .ok (.iinc 2 1, 3) := d_by (d_at odX5_isToken ofX5_isToken 57) rfl
theorem dX5_isToken_60 : decode cX5_isToken 60 = .ok (.goto (-32), 3) := d_by (d_at odX5_isToken ofX5_isToken 60) rfl
theorem dX5_isToken_63 : decode cX5_isToken 63 = .ok (.iconst 1, 1) := d_by (d_at odX5_isToken ofX5_isToken 63) rfl
theorem dX5_isToken_64 : decode cX5_isToken 64 = .ok (.ireturn, 1) := d_by (d_at odX5_isToken ofX5_isToken 64) rfl
set_option maxRecDepth 100000 in
def bX5_nextToken : List Nat := [42, 180, 0, 15, 42, 180, 0, 9, 162, 0, 30, 42, 180, 0, 47, 42, 180, 0, 15, 51, 16, 32, 160, 0, 16, 42, 89, 180, 0, 15, 4, 96, 181, 0, 15, 167, 255, 221, 42, 42, 180, 0, 15, 181, 0, 21, 42, 180, 0, 15, 42, 180, 0, 9, 161, 0, 11, 42, 3, 181, 0, 18, 167, 0, 113, 42, 180, 0, 47, 42, 180, 0, 15, 51, 16, 59, 160, 0, 21, 42, 89, 180, 0, 15, 4, 96, 181, 0, 15, 42, 6, 181, 0, 18, 167, 0, 81, 42, 16, 97, 16, 122, 182, 1, 22, 153, 0, 29, 42, 42, 180, 0, 15, 42, 180, 0, 21, 100, 16, 8, 163, 0, 7, 4, 167, 0, 4, 7, 181, 0, 18, 167, 0, 44, 42, 16, 48, 16, 57, 182, 1, 22, 153, 0, 28, 42, 42, 180, 0, 15, 42, 180, 0, 21, 100, 7, 163, 0, 7, 5, 167, 0, 4, 7, 181, 0, 18, 167, 0, 8, 42, 7, 181, 0, 18, 177]
set_option maxRecDepth 100000 in
theorem bbX5_nextToken : cX5_nextToken.data.toList.map UInt8.toNat = bX5_nextToken := by decide +kernel
set_option maxRecDepth 100000 in
def tX5_nextToken : Lean.RArray dLf := .branch 86 (.branch 43 (.branch 22 (.branch 11 (.branch 4 (.branch 1 (.leaf (0, .aload_n 0, 1)) (.leaf (1, .getfield 15, 3))) (.branch 5 (.leaf (4, .aload_n 0, 1)) (.branch 8 (.leaf (5, .getfield 9, 3)) (.leaf (8, .if_icmp .ge 30, 3))))) (.branch 16 (.branch 12 (.leaf (11, .aload_n 0, 1)) (.branch 15 (.leaf (12, .getfield 47, 3)) (.leaf (15, .aload_n 0, 1)))) (.branch 19 (.leaf (16, .getfield 15, 3)) (.branch 20 (.leaf (19, .baload, 1)) (.leaf (20, .bipush 32, 2)))))) (.branch 31 (.branch 26 (.branch 25 (.leaf (22, .if_icmp .ne 16, 3)) (.leaf (25, .aload_n 0, 1))) (.branch 27 (.leaf (26, .dup, 1)) (.branch 30 (.leaf (27, .getfield 15, 3)) (.leaf (30, .iconst 1, 1))))) (.branch 38 (.branch 32 (.leaf (31, .iadd, 1)) (.branch 35 (.leaf (32, .putfield 15, 3)) (.leaf (35, .goto (-35), 3)))) (.branch 39 (.leaf (38, .aload_n 0, 1)) (.branch 40 (.leaf (39, .aload_n 0, 1)) (.leaf (40, .getfield 15, 3))))))) (.branch 66 (.branch 54 (.branch 47 (.branch 46 (.leaf (43, .putfield 21, 3)) (.leaf (46, .aload_n 0, 1))) (.branch 50 (.leaf (47, .getfield 15, 3)) (.branch 51 (.leaf (50, .aload_n 0, 1)) (.leaf (51, .getfield 9, 3))))) (.branch 59 (.branch 57 (.leaf (54, .if_icmp .lt 11, 3)) (.branch 58 (.leaf (57, .aload_n 0, 1)) (.leaf (58, .iconst 0, 1)))) (.branch 62 (.leaf (59, .putfield 18, 3)) (.branch 65 (.leaf (62, .goto 113, 3)) (.leaf (65, .aload_n 0, 1)))))) (.branch 76 (.branch 70 (.branch 69 (.leaf (66, .getfield 47, 3)) (.leaf (69, .aload_n 0, 1))) (.branch 73 (.leaf (70, .getfield 15, 3)) (.branch 74 (.leaf (73, .baload, 1)) (.leaf (74, .bipush 59, 2))))) (.branch 81 (.branch 79 (.leaf (76, .if_icmp .ne 21, 3)) (.branch 80 (.leaf (79, .aload_n 0, 1)) (.leaf (80, .dup, 1)))) (.branch 84 (.leaf (81, .getfield 15, 3)) (.branch 85 (.leaf (84, .iconst 1, 1)) (.leaf (85, .iadd, 1)))))))) (.branch 131 (.branch 109 (.branch 97 (.branch 90 (.branch 89 (.leaf (86, .putfield 15, 3)) (.leaf (89, .aload_n 0, 1))) (.branch 91 (.leaf (90, .iconst 3, 1)) (.branch 94 (.leaf (91, .putfield 18, 3)) (.leaf (94, .goto 81, 3))))) (.branch 102 (.branch 98 (.leaf (97, .aload_n 0, 1)) (.branch 100 (.leaf (98, .bipush 97, 2)) (.leaf (100, .bipush 122, 2)))) (.branch 105 (.leaf (102, .invokevirtual 278, 3)) (.branch 108 (.leaf (105, .ifCond .eq 29, 3)) (.leaf (108, .aload_n 0, 1)))))) (.branch 118 (.branch 113 (.branch 110 (.leaf (109, .aload_n 0, 1)) (.leaf (110, .getfield 15, 3))) (.branch 114 (.leaf (113, .aload_n 0, 1)) (.branch 117 (.leaf (114, .getfield 21, 3)) (.leaf (117, .isub, 1))))) (.branch 124 (.branch 120 (.leaf (118, .bipush 8, 2)) (.branch 123 (.leaf (120, .if_icmp .gt 7, 3)) (.leaf (123, .iconst 1, 1)))) (.branch 127 (.leaf (124, .goto 4, 3)) (.branch 128 (.leaf (127, .iconst 4, 1)) (.leaf (128, .putfield 18, 3))))))) (.branch 154 (.branch 142 (.branch 135 (.branch 134 (.leaf (131, .goto 44, 3)) (.leaf (134, .aload_n 0, 1))) (.branch 137 (.leaf (135, .bipush 48, 2)) (.branch 139 (.leaf (137, .bipush 57, 2)) (.leaf (139, .invokevirtual 278, 3))))) (.branch 147 (.branch 145 (.leaf (142, .ifCond .eq 28, 3)) (.branch 146 (.leaf (145, .aload_n 0, 1)) (.leaf (146, .aload_n 0, 1)))) (.branch 150 (.leaf (147, .getfield 15, 3)) (.branch 151 (.leaf (150, .aload_n 0, 1)) (.leaf (151, .getfield 21, 3)))))) (.branch 164 (.branch 159 (.branch 155 (.leaf (154, .isub, 1)) (.branch 156 (.leaf (155, .iconst 4, 1)) (.leaf (156, .if_icmp .gt 7, 3)))) (.branch 160 (.leaf (159, .iconst 2, 1)) (.branch 163 (.leaf (160, .goto 4, 3)) (.leaf (163, .iconst 4, 1))))) (.branch 171 (.branch 167 (.leaf (164, .putfield 18, 3)) (.branch 170 (.leaf (167, .goto 8, 3)) (.leaf (170, .aload_n 0, 1)))) (.branch 172 (.leaf (171, .iconst 4, 1)) (.branch 175 (.leaf (172, .putfield 18, 3)) (.leaf (175, .return_, 1))))))))
noncomputable def oX5_nextToken : List dLf := dFl tX5_nextToken
theorem ofX5_nextToken : dFl tX5_nextToken = oX5_nextToken := rfl
set_option maxRecDepth 100000 in
theorem odX5_nextToken : ∀ q ∈ oX5_nextToken, decode cX5_nextToken q.1 = .ok (q.2.1, q.2.2) := q_go qT_ok bbX5_nextToken oX5_nextToken 0 (by decide +kernel)
theorem dX5_nextToken_0 : decode cX5_nextToken 0 = .ok (.aload_n 0, 1) := d_by (d_at odX5_nextToken ofX5_nextToken 0) rfl
theorem dX5_nextToken_1 : decode cX5_nextToken 1 = .ok (.getfield 15, 3) := d_by (d_at odX5_nextToken ofX5_nextToken 1) rfl
theorem dX5_nextToken_4 : decode cX5_nextToken 4 = .ok (.aload_n 0, 1) := d_by (d_at odX5_nextToken ofX5_nextToken 4) rfl
theorem dX5_nextToken_5 : decode cX5_nextToken 5 = .ok (.getfield 9, 3) := d_by (d_at odX5_nextToken ofX5_nextToken 5) rfl
theorem dX5_nextToken_8 : decode cX5_nextToken 8 = .ok (.if_icmp .ge 30, 3) := d_by (d_at odX5_nextToken ofX5_nextToken 8) rfl
theorem dX5_nextToken_11 : decode cX5_nextToken 11 = .ok (.aload_n 0, 1) := d_by (d_at odX5_nextToken ofX5_nextToken 11) rfl
theorem dX5_nextToken_12 : decode cX5_nextToken 12 = .ok (.getfield 47, 3) := d_by (d_at odX5_nextToken ofX5_nextToken 12) rfl
theorem dX5_nextToken_15 : decode cX5_nextToken 15 = .ok (.aload_n 0, 1) := d_by (d_at odX5_nextToken ofX5_nextToken 15) rfl
theorem dX5_nextToken_16 : decode cX5_nextToken 16 = .ok (.getfield 15, 3) := d_by (d_at odX5_nextToken ofX5_nextToken 16) rfl
theorem dX5_nextToken_19 : decode cX5_nextToken 19 = .ok (.baload, 1) := d_by (d_at odX5_nextToken ofX5_nextToken 19) rfl
theorem dX5_nextToken_20 : decode cX5_nextToken 20 = .ok (.bipush 32, 2) := d_by (d_at odX5_nextToken ofX5_nextToken 20) rfl
theorem dX5_nextToken_22 : decode cX5_nextToken 22 = .ok (.if_icmp .ne 16, 3) := d_by (d_at odX5_nextToken ofX5_nextToken 22) rfl
theorem dX5_nextToken_25 : decode cX5_nextToken 25 = .ok (.aload_n 0, 1) := d_by (d_at odX5_nextToken ofX5_nextToken 25) rfl
theorem dX5_nextToken_26 : decode cX5_nextToken 26 = .ok (.dup, 1) := d_by (d_at odX5_nextToken ofX5_nextToken 26) rfl
theorem dX5_nextToken_27 : decode cX5_nextToken 27 = .ok (.getfield 15, 3) := d_by (d_at odX5_nextToken ofX5_nextToken 27) rfl
theorem dX5_nextToken_30 : decode cX5_nextToken 30 = .ok (.iconst 1, 1) := d_by (d_at odX5_nextToken ofX5_nextToken 30) rfl
theorem dX5_nextToken_31 : decode cX5_nextToken 31 = .ok (.iadd, 1) := d_by (d_at odX5_nextToken ofX5_nextToken 31) rfl
theorem dX5_nextToken_32 : decode cX5_nextToken 32 = .ok (.putfield 15, 3) := d_by (d_at odX5_nextToken ofX5_nextToken 32) rfl
theorem dX5_nextToken_35 : decode cX5_nextToken 35 = .ok (.goto (-35), 3) := d_by (d_at odX5_nextToken ofX5_nextToken 35) rfl
theorem dX5_nextToken_38 : decode cX5_nextToken 38 = .ok (.aload_n 0, 1) := d_by (d_at odX5_nextToken ofX5_nextToken 38) rfl
theorem dX5_nextToken_39 : decode cX5_nextToken 39 = .ok (.aload_n 0, 1) := d_by (d_at odX5_nextToken ofX5_nextToken 39) rfl
theorem dX5_nextToken_40 : decode cX5_nextToken 40 = .ok (.getfield 15, 3) := d_by (d_at odX5_nextToken ofX5_nextToken 40) rfl
theorem dX5_nextToken_43 : decode cX5_nextToken 43 = .ok (.putfield 21, 3) := d_by (d_at odX5_nextToken ofX5_nextToken 43) rfl
theorem dX5_nextToken_46 : decode cX5_nextToken 46 = .ok (.aload_n 0, 1) := d_by (d_at odX5_nextToken ofX5_nextToken 46) rfl
theorem dX5_nextToken_47 : decode cX5_nextToken 47 = .ok (.getfield 15, 3) := d_by (d_at odX5_nextToken ofX5_nextToken 47) rfl
theorem dX5_nextToken_50 : decode cX5_nextToken 50 = .ok (.aload_n 0, 1) := d_by (d_at odX5_nextToken ofX5_nextToken 50) rfl
theorem dX5_nextToken_51 : decode cX5_nextToken 51 = .ok (.getfield 9, 3) := d_by (d_at odX5_nextToken ofX5_nextToken 51) rfl
theorem dX5_nextToken_54 : decode cX5_nextToken 54 = .ok (.if_icmp .lt 11, 3) := d_by (d_at odX5_nextToken ofX5_nextToken 54) rfl
theorem dX5_nextToken_57 : decode cX5_nextToken 57 = .ok (.aload_n 0, 1) := d_by (d_at odX5_nextToken ofX5_nextToken 57) rfl
theorem dX5_nextToken_58 : decode cX5_nextToken 58 = .ok (.iconst 0, 1) := d_by (d_at odX5_nextToken ofX5_nextToken 58) rfl
theorem dX5_nextToken_59 : decode cX5_nextToken 59 = .ok (.putfield 18, 3) := d_by (d_at odX5_nextToken ofX5_nextToken 59) rfl
theorem dX5_nextToken_62 : decode cX5_nextToken 62 = .ok (.goto 113, 3) := d_by (d_at odX5_nextToken ofX5_nextToken 62) rfl
theorem dX5_nextToken_65 : decode cX5_nextToken 65 = .ok (.aload_n 0, 1) := d_by (d_at odX5_nextToken ofX5_nextToken 65) rfl
theorem dX5_nextToken_66 : decode cX5_nextToken 66 = .ok (.getfield 47, 3) := d_by (d_at odX5_nextToken ofX5_nextToken 66) rfl
theorem dX5_nextToken_69 : decode cX5_nextToken 69 = .ok (.aload_n 0, 1) := d_by (d_at odX5_nextToken ofX5_nextToken 69) rfl
theorem dX5_nextToken_70 : decode cX5_nextToken 70 = .ok (.getfield 15, 3) := d_by (d_at odX5_nextToken ofX5_nextToken 70) rfl
theorem dX5_nextToken_73 : decode cX5_nextToken 73 = .ok (.baload, 1) := d_by (d_at odX5_nextToken ofX5_nextToken 73) rfl
theorem dX5_nextToken_74 : decode cX5_nextToken 74 = .ok (.bipush 59, 2) := d_by (d_at odX5_nextToken ofX5_nextToken 74) rfl
theorem dX5_nextToken_76 : decode cX5_nextToken 76 = .ok (.if_icmp .ne 21, 3) := d_by (d_at odX5_nextToken ofX5_nextToken 76) rfl
theorem dX5_nextToken_79 : decode cX5_nextToken 79 = .ok (.aload_n 0, 1) := d_by (d_at odX5_nextToken ofX5_nextToken 79) rfl
theorem dX5_nextToken_80 : decode cX5_nextToken 80 = .ok (.dup, 1) := d_by (d_at odX5_nextToken ofX5_nextToken 80) rfl
theorem dX5_nextToken_81 : decode cX5_nextToken 81 = .ok (.getfield 15, 3) := d_by (d_at odX5_nextToken ofX5_nextToken 81) rfl
theorem dX5_nextToken_84 : decode cX5_nextToken 84 = .ok (.iconst 1, 1) := d_by (d_at odX5_nextToken ofX5_nextToken 84) rfl
theorem dX5_nextToken_85 : decode cX5_nextToken 85 = .ok (.iadd, 1) := d_by (d_at odX5_nextToken ofX5_nextToken 85) rfl
theorem dX5_nextToken_86 : decode cX5_nextToken 86 = .ok (.putfield 15, 3) := d_by (d_at odX5_nextToken ofX5_nextToken 86) rfl
theorem dX5_nextToken_89 : decode cX5_nextToken 89 = .ok (.aload_n 0, 1) := d_by (d_at odX5_nextToken ofX5_nextToken 89) rfl
theorem dX5_nextToken_90 : decode cX5_nextToken 90 = .ok (.iconst 3, 1) := d_by (d_at odX5_nextToken ofX5_nextToken 90) rfl
theorem dX5_nextToken_91 : decode cX5_nextToken 91 = .ok (.putfield 18, 3) := d_by (d_at odX5_nextToken ofX5_nextToken 91) rfl
theorem dX5_nextToken_94 : decode cX5_nextToken 94 = .ok (.goto 81, 3) := d_by (d_at odX5_nextToken ofX5_nextToken 94) rfl
theorem dX5_nextToken_97 : decode cX5_nextToken 97 = .ok (.aload_n 0, 1) := d_by (d_at odX5_nextToken ofX5_nextToken 97) rfl
theorem dX5_nextToken_98 : decode cX5_nextToken 98 = .ok (.bipush 97, 2) := d_by (d_at odX5_nextToken ofX5_nextToken 98) rfl
theorem dX5_nextToken_100 : decode cX5_nextToken 100 = .ok (.bipush 122, 2) := d_by (d_at odX5_nextToken ofX5_nextToken 100) rfl
theorem dX5_nextToken_102 : decode cX5_nextToken 102 = .ok (.invokevirtual 278, 3) := d_by (d_at odX5_nextToken ofX5_nextToken 102) rfl
theorem dX5_nextToken_105 : decode cX5_nextToken 105 = .ok (.ifCond .eq 29, 3) := d_by (d_at odX5_nextToken ofX5_nextToken 105) rfl
theorem dX5_nextToken_108 : decode cX5_nextToken 108 = .ok (.aload_n 0, 1) := d_by (d_at odX5_nextToken ofX5_nextToken 108) rfl
theorem dX5_nextToken_109 : decode cX5_nextToken 109 = .ok (.aload_n 0, 1) := d_by (d_at odX5_nextToken ofX5_nextToken 109) rfl
theorem dX5_nextToken_110 : decode cX5_nextToken 110 = .ok (.getfield 15, 3) := d_by (d_at odX5_nextToken ofX5_nextToken 110) rfl
theorem dX5_nextToken_113 : decode cX5_nextToken 113 = .ok (.aload_n 0, 1) := d_by (d_at odX5_nextToken ofX5_nextToken 113) rfl
theorem dX5_nextToken_114 : decode cX5_nextToken 114 = .ok (.getfield 21, 3) := d_by (d_at odX5_nextToken ofX5_nextToken 114) rfl
theorem dX5_nextToken_117 : decode cX5_nextToken 117 = .ok (.isub, 1) := d_by (d_at odX5_nextToken ofX5_nextToken 117) rfl
theorem dX5_nextToken_118 : decode cX5_nextToken 118 = .ok (.bipush 8, 2) := d_by (d_at odX5_nextToken ofX5_nextToken 118) rfl
theorem dX5_nextToken_120 : decode cX5_nextToken 120 = .ok (.if_icmp .gt 7, 3) := d_by (d_at odX5_nextToken ofX5_nextToken 120) rfl
theorem dX5_nextToken_123 : decode cX5_nextToken 123 = .ok (.iconst 1, 1) := d_by (d_at odX5_nextToken ofX5_nextToken 123) rfl
theorem dX5_nextToken_124 : decode cX5_nextToken 124 = .ok (.goto 4, 3) := d_by (d_at odX5_nextToken ofX5_nextToken 124) rfl
theorem dX5_nextToken_127 : decode cX5_nextToken 127 = .ok (.iconst 4, 1) := d_by (d_at odX5_nextToken ofX5_nextToken 127) rfl
theorem dX5_nextToken_128 : decode cX5_nextToken 128 = .ok (.putfield 18, 3) := d_by (d_at odX5_nextToken ofX5_nextToken 128) rfl
theorem dX5_nextToken_131 : decode cX5_nextToken 131 = .ok (.goto 44, 3) := d_by (d_at odX5_nextToken ofX5_nextToken 131) rfl
theorem dX5_nextToken_134 : decode cX5_nextToken 134 = .ok (.aload_n 0, 1) := d_by (d_at odX5_nextToken ofX5_nextToken 134) rfl
theorem dX5_nextToken_135 : decode cX5_nextToken 135 = .ok (.bipush 48, 2) := d_by (d_at odX5_nextToken ofX5_nextToken 135) rfl
theorem dX5_nextToken_137 : decode cX5_nextToken 137 = .ok (.bipush 57, 2) := d_by (d_at odX5_nextToken ofX5_nextToken 137) rfl
theorem dX5_nextToken_139 : decode cX5_nextToken 139 = .ok (.invokevirtual 278, 3) := d_by (d_at odX5_nextToken ofX5_nextToken 139) rfl
theorem dX5_nextToken_142 : decode cX5_nextToken 142 = .ok (.ifCond .eq 28, 3) := d_by (d_at odX5_nextToken ofX5_nextToken 142) rfl
theorem dX5_nextToken_145 : decode cX5_nextToken 145 = .ok (.aload_n 0, 1) := d_by (d_at odX5_nextToken ofX5_nextToken 145) rfl
theorem dX5_nextToken_146 : decode cX5_nextToken 146 = .ok (.aload_n 0, 1) := d_by (d_at odX5_nextToken ofX5_nextToken 146) rfl
theorem dX5_nextToken_147 : decode cX5_nextToken 147 = .ok (.getfield 15, 3) := d_by (d_at odX5_nextToken ofX5_nextToken 147) rfl
theorem dX5_nextToken_150 : decode cX5_nextToken 150 = .ok (.aload_n 0, 1) := d_by (d_at odX5_nextToken ofX5_nextToken 150) rfl
theorem dX5_nextToken_151 : decode cX5_nextToken 151 = .ok (.getfield 21, 3) := d_by (d_at odX5_nextToken ofX5_nextToken 151) rfl
theorem dX5_nextToken_154 : decode cX5_nextToken 154 = .ok (.isub, 1) := d_by (d_at odX5_nextToken ofX5_nextToken 154) rfl
theorem dX5_nextToken_155 : decode cX5_nextToken 155 = .ok (.iconst 4, 1) := d_by (d_at odX5_nextToken ofX5_nextToken 155) rfl
theorem dX5_nextToken_156 : decode cX5_nextToken 156 = .ok (.if_icmp .gt 7, 3) := d_by (d_at odX5_nextToken ofX5_nextToken 156) rfl
theorem dX5_nextToken_159 : decode cX5_nextToken 159 = .ok (.iconst 2, 1) := d_by (d_at odX5_nextToken ofX5_nextToken 159) rfl
theorem dX5_nextToken_160 : decode cX5_nextToken 160 = .ok (.goto 4, 3) := d_by (d_at odX5_nextToken ofX5_nextToken 160) rfl
theorem dX5_nextToken_163 : decode cX5_nextToken 163 = .ok (.iconst 4, 1) := d_by (d_at odX5_nextToken ofX5_nextToken 163) rfl
theorem dX5_nextToken_164 : decode cX5_nextToken 164 = .ok (.putfield 18, 3) := d_by (d_at odX5_nextToken ofX5_nextToken 164) rfl
theorem dX5_nextToken_167 : decode cX5_nextToken 167 = .ok (.goto 8, 3) := d_by (d_at odX5_nextToken ofX5_nextToken 167) rfl
theorem dX5_nextToken_170 : decode cX5_nextToken 170 = .ok (.aload_n 0, 1) := d_by (d_at odX5_nextToken ofX5_nextToken 170) rfl
theorem dX5_nextToken_171 : decode cX5_nextToken 171 = .ok (.iconst 4, 1) := d_by (d_at odX5_nextToken ofX5_nextToken 171) rfl
theorem dX5_nextToken_172 : decode cX5_nextToken 172 = .ok (.putfield 18, 3) := d_by (d_at odX5_nextToken ofX5_nextToken 172) rfl
theorem dX5_nextToken_175 : decode cX5_nextToken 175 = .ok (.return_, 1) := d_by (d_at odX5_nextToken ofX5_nextToken 175) rfl
set_option maxRecDepth 100000 in
def bX5_passAll : List Nat := [42, 180, 0, 15, 42, 180, 0, 9, 162, 0, 42, 42, 180, 0, 47, 42, 180, 0, 15, 51, 27, 161, 0, 29, 42, 180, 0, 47, 42, 180, 0, 15, 51, 28, 163, 0, 16, 42, 89, 180, 0, 15, 4, 96, 181, 0, 15, 167, 255, 209, 42, 180, 0, 15, 42, 180, 0, 21, 164, 0, 7, 4, 167, 0, 4, 3, 172]
set_option maxRecDepth 100000 in
theorem bbX5_passAll : cX5_passAll.data.toList.map UInt8.toNat = bX5_passAll := by decide +kernel
set_option maxRecDepth 100000 in
def tX5_passAll : Lean.RArray dLf := .branch 33 (.branch 16 (.branch 8 (.branch 4 (.branch 1 (.leaf (0, .aload_n 0, 1)) (.leaf (1, .getfield 15, 3))) (.branch 5 (.leaf (4, .aload_n 0, 1)) (.leaf (5, .getfield 9, 3)))) (.branch 12 (.branch 11 (.leaf (8, .if_icmp .ge 42, 3)) (.leaf (11, .aload_n 0, 1))) (.branch 15 (.leaf (12, .getfield 47, 3)) (.leaf (15, .aload_n 0, 1))))) (.branch 24 (.branch 20 (.branch 19 (.leaf (16, .getfield 15, 3)) (.leaf (19, .baload, 1))) (.branch 21 (.leaf (20, .iload_n 1, 1)) (.leaf (21, .if_icmp .lt 29, 3)))) (.branch 28 (.branch 25 (.leaf (24, .aload_n 0, 1)) (.leaf (25, .getfield 47, 3))) (.branch 29 (.leaf (28, .aload_n 0, 1)) (.branch 32 (.leaf (29, .getfield 15, 3)) (.leaf (32, .baload, 1))))))) (.branch 50 (.branch 39 (.branch 37 (.branch 34 (.leaf (33, .iload_n 2, 1)) (.leaf (34, .if_icmp .gt 16, 3))) (.branch 38 (.leaf (37, .aload_n 0, 1)) (.leaf (38, .dup, 1)))) (.branch 43 (.branch 42 (.leaf (39, .getfield 15, 3)) (.leaf (42, .iconst 1, 1))) (.branch 44 (.leaf (43, .iadd, 1)) (.branch 47 (.leaf (44, .putfield 15, 3)) (.leaf (47, .goto (-47), 3)))))) (.branch 58 (.branch 54 (.branch 51 (.leaf (50, .aload_n 0, 1)) (.leaf (51, .getfield 15, 3))) (.branch 55 (.leaf (54, .aload_n 0, 1)) (.leaf (55, .getfield 21, 3)))) (.branch 62 (.branch 61 (.leaf (58, .if_icmp .le 7, 3)) (.leaf (61, .iconst 1, 1))) (.branch 65 (.leaf (62, .goto 4, 3)) (.branch 66 (.leaf (65, .iconst 0, 1)) (.leaf (66, .ireturn, 1)))))))
noncomputable def oX5_passAll : List dLf := dFl tX5_passAll
theorem ofX5_passAll : dFl tX5_passAll = oX5_passAll := rfl
set_option maxRecDepth 100000 in
theorem odX5_passAll : ∀ q ∈ oX5_passAll, decode cX5_passAll q.1 = .ok (q.2.1, q.2.2) := q_go qT_ok bbX5_passAll oX5_passAll 0 (by decide +kernel)
theorem dX5_passAll_0 : decode cX5_passAll 0 = .ok (.aload_n 0, 1) := d_by (d_at odX5_passAll ofX5_passAll 0) rfl
theorem dX5_passAll_1 : decode cX5_passAll 1 = .ok (.getfield 15, 3) := d_by (d_at odX5_passAll ofX5_passAll 1) rfl
theorem dX5_passAll_4 : decode cX5_passAll 4 = .ok (.aload_n 0, 1) := d_by (d_at odX5_passAll ofX5_passAll 4) rfl
theorem dX5_passAll_5 : decode cX5_passAll 5 = .ok (.getfield 9, 3) := d_by (d_at odX5_passAll ofX5_passAll 5) rfl
theorem dX5_passAll_8 : decode cX5_passAll 8 = .ok (.if_icmp .ge 42, 3) := d_by (d_at odX5_passAll ofX5_passAll 8) rfl
theorem dX5_passAll_11 : decode cX5_passAll 11 = .ok (.aload_n 0, 1) := d_by (d_at odX5_passAll ofX5_passAll 11) rfl
theorem dX5_passAll_12 : decode cX5_passAll 12 = .ok (.getfield 47, 3) := d_by (d_at odX5_passAll ofX5_passAll 12) rfl
theorem dX5_passAll_15 : decode cX5_passAll 15 = .ok (.aload_n 0, 1) := d_by (d_at odX5_passAll ofX5_passAll 15) rfl
theorem dX5_passAll_16 : decode cX5_passAll 16 = .ok (.getfield 15, 3) := d_by (d_at odX5_passAll ofX5_passAll 16) rfl
theorem dX5_passAll_19 : decode cX5_passAll 19 = .ok (.baload, 1) := d_by (d_at odX5_passAll ofX5_passAll 19) rfl
theorem dX5_passAll_20 : decode cX5_passAll 20 = .ok (.iload_n 1, 1) := d_by (d_at odX5_passAll ofX5_passAll 20) rfl
theorem dX5_passAll_21 : decode cX5_passAll 21 = .ok (.if_icmp .lt 29, 3) := d_by (d_at odX5_passAll ofX5_passAll 21) rfl
theorem dX5_passAll_24 : decode cX5_passAll 24 = .ok (.aload_n 0, 1) := d_by (d_at odX5_passAll ofX5_passAll 24) rfl
theorem dX5_passAll_25 : decode cX5_passAll 25 = .ok (.getfield 47, 3) := d_by (d_at odX5_passAll ofX5_passAll 25) rfl
theorem dX5_passAll_28 : decode cX5_passAll 28 = .ok (.aload_n 0, 1) := d_by (d_at odX5_passAll ofX5_passAll 28) rfl
theorem dX5_passAll_29 : decode cX5_passAll 29 = .ok (.getfield 15, 3) := d_by (d_at odX5_passAll ofX5_passAll 29) rfl
theorem dX5_passAll_32 : decode cX5_passAll 32 = .ok (.baload, 1) := d_by (d_at odX5_passAll ofX5_passAll 32) rfl
theorem dX5_passAll_33 : decode cX5_passAll 33 = .ok (.iload_n 2, 1) := d_by (d_at odX5_passAll ofX5_passAll 33) rfl
theorem dX5_passAll_34 : decode cX5_passAll 34 = .ok (.if_icmp .gt 16, 3) := d_by (d_at odX5_passAll ofX5_passAll 34) rfl
theorem dX5_passAll_37 : decode cX5_passAll 37 = .ok (.aload_n 0, 1) := d_by (d_at odX5_passAll ofX5_passAll 37) rfl
theorem dX5_passAll_38 : decode cX5_passAll 38 = .ok (.dup, 1) := d_by (d_at odX5_passAll ofX5_passAll 38) rfl
theorem dX5_passAll_39 : decode cX5_passAll 39 = .ok (.getfield 15, 3) := d_by (d_at odX5_passAll ofX5_passAll 39) rfl
theorem dX5_passAll_42 : decode cX5_passAll 42 = .ok (.iconst 1, 1) := d_by (d_at odX5_passAll ofX5_passAll 42) rfl
theorem dX5_passAll_43 : decode cX5_passAll 43 = .ok (.iadd, 1) := d_by (d_at odX5_passAll ofX5_passAll 43) rfl
theorem dX5_passAll_44 : decode cX5_passAll 44 = .ok (.putfield 15, 3) := d_by (d_at odX5_passAll ofX5_passAll 44) rfl
theorem dX5_passAll_47 : decode cX5_passAll 47 = .ok (.goto (-47), 3) := d_by (d_at odX5_passAll ofX5_passAll 47) rfl
theorem dX5_passAll_50 : decode cX5_passAll 50 = .ok (.aload_n 0, 1) := d_by (d_at odX5_passAll ofX5_passAll 50) rfl
theorem dX5_passAll_51 : decode cX5_passAll 51 = .ok (.getfield 15, 3) := d_by (d_at odX5_passAll ofX5_passAll 51) rfl
theorem dX5_passAll_54 : decode cX5_passAll 54 = .ok (.aload_n 0, 1) := d_by (d_at odX5_passAll ofX5_passAll 54) rfl
theorem dX5_passAll_55 : decode cX5_passAll 55 = .ok (.getfield 21, 3) := d_by (d_at odX5_passAll ofX5_passAll 55) rfl
theorem dX5_passAll_58 : decode cX5_passAll 58 = .ok (.if_icmp .le 7, 3) := d_by (d_at odX5_passAll ofX5_passAll 58) rfl
theorem dX5_passAll_61 : decode cX5_passAll 61 = .ok (.iconst 1, 1) := d_by (d_at odX5_passAll ofX5_passAll 61) rfl
theorem dX5_passAll_62 : decode cX5_passAll 62 = .ok (.goto 4, 3) := d_by (d_at odX5_passAll ofX5_passAll 62) rfl
theorem dX5_passAll_65 : decode cX5_passAll 65 = .ok (.iconst 0, 1) := d_by (d_at odX5_passAll ofX5_passAll 65) rfl
theorem dX5_passAll_66 : decode cX5_passAll 66 = .ok (.ireturn, 1) := d_by (d_at odX5_passAll ofX5_passAll 66) rfl
set_option maxRecDepth 100000 in
def bX6_init : List Nat := [42, 183, 0, 3, 42, 16, 7, 188, 10, 181, 0, 9, 42, 16, 254, 181, 0, 15, 42, 3, 181, 0, 19, 42, 3, 181, 0, 22, 42, 43, 181, 0, 25, 42, 44, 181, 0, 29, 42, 45, 181, 0, 33, 177]
set_option maxRecDepth 100000 in
theorem bbX6_init : cX6_init.data.toList.map UInt8.toNat = bX6_init := by decide +kernel
theorem eX6_init_7 : decode cX6_init 7 = .ok (.newarray .int, 2) := by decide +kernel
set_option maxRecDepth 100000 in
def oX6_inits0 : List dLf := [(0, .aload_n 0, 1), (1, .invokespecial 3, 3), (4, .aload_n 0, 1), (5, .bipush 7, 2)]
set_option maxRecDepth 100000 in
theorem odX6_inits0 : ∀ q ∈ oX6_inits0, decode cX6_init q.1 = .ok (q.2.1, q.2.2) := q_go qT_ok bbX6_init oX6_inits0 0 (by decide +kernel)
set_option maxRecDepth 100000 in
def oX6_inits2 : List dLf := [(9, .putfield 9, 3), (12, .aload_n 0, 1), (13, .bipush (-2), 2), (15, .putfield 15, 3), (18, .aload_n 0, 1), (19, .iconst 0, 1), (20, .putfield 19, 3), (23, .aload_n 0, 1), (24, .iconst 0, 1), (25, .putfield 22, 3), (28, .aload_n 0, 1), (29, .aload_n 1, 1), (30, .putfield 25, 3), (33, .aload_n 0, 1), (34, .aload_n 2, 1), (35, .putfield 29, 3), (38, .aload_n 0, 1), (39, .aload_n 3, 1), (40, .putfield 33, 3), (43, .return_, 1)]
set_option maxRecDepth 100000 in
theorem odX6_inits2 : ∀ q ∈ oX6_inits2, decode cX6_init q.1 = .ok (q.2.1, q.2.2) := q_go qT_ok bbX6_init oX6_inits2 9 (by decide +kernel)
set_option maxRecDepth 100000 in
def oX6_init : List dLf := [(0, .aload_n 0, 1), (1, .invokespecial 3, 3), (4, .aload_n 0, 1), (5, .bipush 7, 2), (7, .newarray .int, 2), (9, .putfield 9, 3), (12, .aload_n 0, 1), (13, .bipush (-2), 2), (15, .putfield 15, 3), (18, .aload_n 0, 1), (19, .iconst 0, 1), (20, .putfield 19, 3), (23, .aload_n 0, 1), (24, .iconst 0, 1), (25, .putfield 22, 3), (28, .aload_n 0, 1), (29, .aload_n 1, 1), (30, .putfield 25, 3), (33, .aload_n 0, 1), (34, .aload_n 2, 1), (35, .putfield 29, 3), (38, .aload_n 0, 1), (39, .aload_n 3, 1), (40, .putfield 33, 3), (43, .return_, 1)]
set_option maxRecDepth 100000 in
theorem odX6_init : ∀ q ∈ oX6_init, decode cX6_init q.1 = .ok (q.2.1, q.2.2) := by
  have e : oX6_init = oX6_inits0 ++ ([(7, .newarray .int, 2)] ++ (oX6_inits2)) := rfl
  rw [e]
  exact List.forall_mem_append.mpr ⟨odX6_inits0, List.forall_mem_append.mpr ⟨(List.forall_mem_singleton.mpr eX6_init_7), odX6_inits2⟩⟩
set_option maxRecDepth 100000 in
def tX6_init : Lean.RArray dLf := .branch 23 (.branch 12 (.branch 5 (.branch 1 (.leaf (0, .aload_n 0, 1)) (.branch 4 (.leaf (1, .invokespecial 3, 3)) (.leaf (4, .aload_n 0, 1)))) (.branch 7 (.leaf (5, .bipush 7, 2)) (.branch 9 (.leaf (7, .newarray .int, 2)) (.leaf (9, .putfield 9, 3))))) (.branch 18 (.branch 13 (.leaf (12, .aload_n 0, 1)) (.branch 15 (.leaf (13, .bipush (-2), 2)) (.leaf (15, .putfield 15, 3)))) (.branch 19 (.leaf (18, .aload_n 0, 1)) (.branch 20 (.leaf (19, .iconst 0, 1)) (.leaf (20, .putfield 19, 3)))))) (.branch 33 (.branch 28 (.branch 24 (.leaf (23, .aload_n 0, 1)) (.branch 25 (.leaf (24, .iconst 0, 1)) (.leaf (25, .putfield 22, 3)))) (.branch 29 (.leaf (28, .aload_n 0, 1)) (.branch 30 (.leaf (29, .aload_n 1, 1)) (.leaf (30, .putfield 25, 3))))) (.branch 38 (.branch 34 (.leaf (33, .aload_n 0, 1)) (.branch 35 (.leaf (34, .aload_n 2, 1)) (.leaf (35, .putfield 29, 3)))) (.branch 40 (.branch 39 (.leaf (38, .aload_n 0, 1)) (.leaf (39, .aload_n 3, 1))) (.branch 43 (.leaf (40, .putfield 33, 3)) (.leaf (43, .return_, 1))))))
set_option maxRecDepth 100000 in
theorem ofX6_init : dFl tX6_init = oX6_init := rfl
theorem dX6_init_0 : decode cX6_init 0 = .ok (.aload_n 0, 1) := d_by (d_at odX6_init ofX6_init 0) rfl
theorem dX6_init_1 : decode cX6_init 1 = .ok (.invokespecial 3, 3) := d_by (d_at odX6_init ofX6_init 1) rfl
theorem dX6_init_4 : decode cX6_init 4 = .ok (.aload_n 0, 1) := d_by (d_at odX6_init ofX6_init 4) rfl
theorem dX6_init_5 : decode cX6_init 5 = .ok (.bipush 7, 2) := d_by (d_at odX6_init ofX6_init 5) rfl
theorem dX6_init_7 : decode cX6_init 7 = .ok (.newarray .int, 2) := d_by (d_at odX6_init ofX6_init 7) rfl
theorem dX6_init_9 : decode cX6_init 9 = .ok (.putfield 9, 3) := d_by (d_at odX6_init ofX6_init 9) rfl
theorem dX6_init_12 : decode cX6_init 12 = .ok (.aload_n 0, 1) := d_by (d_at odX6_init ofX6_init 12) rfl
theorem dX6_init_13 : decode cX6_init 13 = .ok (.bipush (-2), 2) := d_by (d_at odX6_init ofX6_init 13) rfl
theorem dX6_init_15 : decode cX6_init 15 = .ok (.putfield 15, 3) := d_by (d_at odX6_init ofX6_init 15) rfl
theorem dX6_init_18 : decode cX6_init 18 = .ok (.aload_n 0, 1) := d_by (d_at odX6_init ofX6_init 18) rfl
theorem dX6_init_19 : decode cX6_init 19 = .ok (.iconst 0, 1) := d_by (d_at odX6_init ofX6_init 19) rfl
theorem dX6_init_20 : decode cX6_init 20 = .ok (.putfield 19, 3) := d_by (d_at odX6_init ofX6_init 20) rfl
theorem dX6_init_23 : decode cX6_init 23 = .ok (.aload_n 0, 1) := d_by (d_at odX6_init ofX6_init 23) rfl
theorem dX6_init_24 : decode cX6_init 24 = .ok (.iconst 0, 1) := d_by (d_at odX6_init ofX6_init 24) rfl
theorem dX6_init_25 : decode cX6_init 25 = .ok (.putfield 22, 3) := d_by (d_at odX6_init ofX6_init 25) rfl
theorem dX6_init_28 : decode cX6_init 28 = .ok (.aload_n 0, 1) := d_by (d_at odX6_init ofX6_init 28) rfl
theorem dX6_init_29 : decode cX6_init 29 = .ok (.aload_n 1, 1) := d_by (d_at odX6_init ofX6_init 29) rfl
theorem dX6_init_30 : decode cX6_init 30 = .ok (.putfield 25, 3) := d_by (d_at odX6_init ofX6_init 30) rfl
theorem dX6_init_33 : decode cX6_init 33 = .ok (.aload_n 0, 1) := d_by (d_at odX6_init ofX6_init 33) rfl
theorem dX6_init_34 : decode cX6_init 34 = .ok (.aload_n 2, 1) := d_by (d_at odX6_init ofX6_init 34) rfl
theorem dX6_init_35 : decode cX6_init 35 = .ok (.putfield 29, 3) := d_by (d_at odX6_init ofX6_init 35) rfl
theorem dX6_init_38 : decode cX6_init 38 = .ok (.aload_n 0, 1) := d_by (d_at odX6_init ofX6_init 38) rfl
theorem dX6_init_39 : decode cX6_init 39 = .ok (.aload_n 3, 1) := d_by (d_at odX6_init ofX6_init 39) rfl
theorem dX6_init_40 : decode cX6_init 40 = .ok (.putfield 33, 3) := d_by (d_at odX6_init ofX6_init 40) rfl
theorem dX6_init_43 : decode cX6_init 43 = .ok (.return_, 1) := d_by (d_at odX6_init ofX6_init 43) rfl
set_option maxRecDepth 100000 in
def bX6_dayOfLeaving : List Nat := [27, 6, 160, 0, 5, 29, 172, 29, 16, 90, 108, 54, 4, 3, 54, 5, 21, 5, 7, 162, 0, 41, 28, 21, 4, 21, 5, 96, 7, 112, 122, 4, 126, 153, 0, 21, 21, 5, 154, 0, 7, 29, 167, 0, 11, 21, 4, 21, 5, 96, 16, 90, 104, 172, 132, 5, 1, 167, 255, 215, 29, 172]
set_option maxRecDepth 100000 in
theorem bbX6_dayOfLeaving : cX6_dayOfLeaving.data.toList.map UInt8.toNat = bX6_dayOfLeaving := by decide +kernel
set_option maxRecDepth 100000 in
def tX6_dayOfLeaving : Lean.RArray dLf := .branch 29 (.branch 13 (.branch 6 (.branch 2 (.branch 1 (.leaf (0, .iload_n 1, 1)) (.leaf (1, .iconst 3, 1))) (.branch 5 (.leaf (2, .if_icmp .ne 5, 3)) (.leaf (5, .iload_n 3, 1)))) (.branch 8 (.branch 7 (.leaf (6, .ireturn, 1)) (.leaf (7, .iload_n 3, 1))) (.branch 10 (.leaf (8, .bipush 90, 2)) (.branch 11 (.leaf (10, .idiv, 1)) (.leaf (11, .istore 4, 2)))))) (.branch 22 (.branch 16 (.branch 14 (.leaf (13, .iconst 0, 1)) (.leaf (14, .istore 5, 2))) (.branch 18 (.leaf (16, .iload 5, 2)) (.branch 19 (.leaf (18, .iconst 4, 1)) (.leaf (19, .if_icmp .ge 41, 3))))) (.branch 25 (.branch 23 (.leaf (22, .iload_n 2, 1)) (.leaf (23, .iload 4, 2))) (.branch 27 (.leaf (25, .iload 5, 2)) (.branch 28 (.leaf (27, .iadd, 1)) (.leaf (28, .iconst 4, 1))))))) (.branch 45 (.branch 33 (.branch 31 (.branch 30 (.leaf (29, .irem, 1)) (.leaf (30, .ishr, 1))) (.branch 32 (.leaf (31, .iconst 1, 1)) (.leaf (32, .iand, 1)))) (.branch 38 (.branch 36 (.leaf (33, .ifCond .eq 21, 3)) (.leaf (36, .iload 5, 2))) (.branch 41 (.leaf (38, .ifCond .ne 7, 3)) (.branch 42 (.leaf (41, .iload_n 3, 1)) (.leaf (42, .goto 11, 3)))))) (.branch 53 (.branch 49 (.branch 47 (.leaf (45, .iload 4, 2)) (.leaf (47, .iload 5, 2))) (.branch 50 (.leaf (49, .iadd, 1)) (.branch 52 (.leaf (50, .bipush 90, 2)) (.leaf (52, .imul, 1))))) (.branch 57 (.branch 54 (.leaf (53, .ireturn, 1)) (.leaf (54, .iinc 5 1, 3))) (.branch 60 (.leaf (57, .goto (-41), 3)) (.branch 61 (.leaf (60, .iload_n 3, 1)) (.leaf (61, .ireturn, 1)))))))
noncomputable def oX6_dayOfLeaving : List dLf := dFl tX6_dayOfLeaving
theorem ofX6_dayOfLeaving : dFl tX6_dayOfLeaving = oX6_dayOfLeaving := rfl
set_option maxRecDepth 100000 in
theorem odX6_dayOfLeaving : ∀ q ∈ oX6_dayOfLeaving, decode cX6_dayOfLeaving q.1 = .ok (q.2.1, q.2.2) := q_go qT_ok bbX6_dayOfLeaving oX6_dayOfLeaving 0 (by decide +kernel)
theorem dX6_dayOfLeaving_0 : decode cX6_dayOfLeaving 0 = .ok (.iload_n 1, 1) := d_by (d_at odX6_dayOfLeaving ofX6_dayOfLeaving 0) rfl
theorem dX6_dayOfLeaving_1 : decode cX6_dayOfLeaving 1 = .ok (.iconst 3, 1) := d_by (d_at odX6_dayOfLeaving ofX6_dayOfLeaving 1) rfl
theorem dX6_dayOfLeaving_2 : decode cX6_dayOfLeaving 2 = .ok (.if_icmp .ne 5, 3) := d_by (d_at odX6_dayOfLeaving ofX6_dayOfLeaving 2) rfl
theorem dX6_dayOfLeaving_5 : decode cX6_dayOfLeaving 5 = .ok (.iload_n 3, 1) := d_by (d_at odX6_dayOfLeaving ofX6_dayOfLeaving 5) rfl
theorem dX6_dayOfLeaving_6 : decode cX6_dayOfLeaving 6 = .ok (.ireturn, 1) := d_by (d_at odX6_dayOfLeaving ofX6_dayOfLeaving 6) rfl
theorem dX6_dayOfLeaving_7 : decode cX6_dayOfLeaving 7 = .ok (.iload_n 3, 1) := d_by (d_at odX6_dayOfLeaving ofX6_dayOfLeaving 7) rfl
theorem dX6_dayOfLeaving_8 : decode cX6_dayOfLeaving 8 = .ok (.bipush 90, 2) := d_by (d_at odX6_dayOfLeaving ofX6_dayOfLeaving 8) rfl
theorem dX6_dayOfLeaving_10 : decode cX6_dayOfLeaving 10 = .ok (.idiv, 1) := d_by (d_at odX6_dayOfLeaving ofX6_dayOfLeaving 10) rfl
theorem dX6_dayOfLeaving_11 : decode cX6_dayOfLeaving 11 = .ok (.istore 4, 2) := d_by (d_at odX6_dayOfLeaving ofX6_dayOfLeaving 11) rfl
theorem dX6_dayOfLeaving_13 : decode cX6_dayOfLeaving 13 = .ok (.iconst 0, 1) := d_by (d_at odX6_dayOfLeaving ofX6_dayOfLeaving 13) rfl
theorem dX6_dayOfLeaving_14 : decode cX6_dayOfLeaving 14 = .ok (.istore 5, 2) := d_by (d_at odX6_dayOfLeaving ofX6_dayOfLeaving 14) rfl
theorem dX6_dayOfLeaving_16 : decode cX6_dayOfLeaving 16 = .ok (.iload 5, 2) := d_by (d_at odX6_dayOfLeaving ofX6_dayOfLeaving 16) rfl
theorem dX6_dayOfLeaving_18 : decode cX6_dayOfLeaving 18 = .ok (.iconst 4, 1) := d_by (d_at odX6_dayOfLeaving ofX6_dayOfLeaving 18) rfl
theorem dX6_dayOfLeaving_19 : decode cX6_dayOfLeaving 19 = .ok (.if_icmp .ge 41, 3) := d_by (d_at odX6_dayOfLeaving ofX6_dayOfLeaving 19) rfl
theorem dX6_dayOfLeaving_22 : decode cX6_dayOfLeaving 22 = .ok (.iload_n 2, 1) := d_by (d_at odX6_dayOfLeaving ofX6_dayOfLeaving 22) rfl
theorem dX6_dayOfLeaving_23 : decode cX6_dayOfLeaving 23 = .ok (.iload 4, 2) := d_by (d_at odX6_dayOfLeaving ofX6_dayOfLeaving 23) rfl
theorem dX6_dayOfLeaving_25 : decode cX6_dayOfLeaving 25 = .ok (.iload 5, 2) := d_by (d_at odX6_dayOfLeaving ofX6_dayOfLeaving 25) rfl
theorem dX6_dayOfLeaving_27 : decode cX6_dayOfLeaving 27 = .ok (.iadd, 1) := d_by (d_at odX6_dayOfLeaving ofX6_dayOfLeaving 27) rfl
theorem dX6_dayOfLeaving_28 : decode cX6_dayOfLeaving 28 = .ok (.iconst 4, 1) := d_by (d_at odX6_dayOfLeaving ofX6_dayOfLeaving 28) rfl
theorem dX6_dayOfLeaving_29 : decode cX6_dayOfLeaving 29 = .ok (.irem, 1) := d_by (d_at odX6_dayOfLeaving ofX6_dayOfLeaving 29) rfl
theorem dX6_dayOfLeaving_30 : decode cX6_dayOfLeaving 30 = .ok (.ishr, 1) := d_by (d_at odX6_dayOfLeaving ofX6_dayOfLeaving 30) rfl
theorem dX6_dayOfLeaving_31 : decode cX6_dayOfLeaving 31 = .ok (.iconst 1, 1) := d_by (d_at odX6_dayOfLeaving ofX6_dayOfLeaving 31) rfl
theorem dX6_dayOfLeaving_32 : decode cX6_dayOfLeaving 32 = .ok (.iand, 1) := d_by (d_at odX6_dayOfLeaving ofX6_dayOfLeaving 32) rfl
theorem dX6_dayOfLeaving_33 : decode cX6_dayOfLeaving 33 = .ok (.ifCond .eq 21, 3) := d_by (d_at odX6_dayOfLeaving ofX6_dayOfLeaving 33) rfl
theorem dX6_dayOfLeaving_36 : decode cX6_dayOfLeaving 36 = .ok (.iload 5, 2) := d_by (d_at odX6_dayOfLeaving ofX6_dayOfLeaving 36) rfl
theorem dX6_dayOfLeaving_38 : decode cX6_dayOfLeaving 38 = .ok (.ifCond .ne 7, 3) := d_by (d_at odX6_dayOfLeaving ofX6_dayOfLeaving 38) rfl
theorem dX6_dayOfLeaving_41 : decode cX6_dayOfLeaving 41 = .ok (.iload_n 3, 1) := d_by (d_at odX6_dayOfLeaving ofX6_dayOfLeaving 41) rfl
theorem dX6_dayOfLeaving_42 : decode cX6_dayOfLeaving 42 = .ok (.goto 11, 3) := d_by (d_at odX6_dayOfLeaving ofX6_dayOfLeaving 42) rfl
theorem dX6_dayOfLeaving_45 : decode cX6_dayOfLeaving 45 = .ok (.iload 4, 2) := d_by (d_at odX6_dayOfLeaving ofX6_dayOfLeaving 45) rfl
theorem dX6_dayOfLeaving_47 : decode cX6_dayOfLeaving 47 = .ok (.iload 5, 2) := d_by (d_at odX6_dayOfLeaving ofX6_dayOfLeaving 47) rfl
theorem dX6_dayOfLeaving_49 : decode cX6_dayOfLeaving 49 = .ok (.iadd, 1) := d_by (d_at odX6_dayOfLeaving ofX6_dayOfLeaving 49) rfl
theorem dX6_dayOfLeaving_50 : decode cX6_dayOfLeaving 50 = .ok (.bipush 90, 2) := d_by (d_at odX6_dayOfLeaving ofX6_dayOfLeaving 50) rfl
theorem dX6_dayOfLeaving_52 : decode cX6_dayOfLeaving 52 = .ok (.imul, 1) := d_by (d_at odX6_dayOfLeaving ofX6_dayOfLeaving 52) rfl
theorem dX6_dayOfLeaving_53 : decode cX6_dayOfLeaving 53 = .ok (.ireturn, 1) := d_by (d_at odX6_dayOfLeaving ofX6_dayOfLeaving 53) rfl
theorem dX6_dayOfLeaving_54 : decode cX6_dayOfLeaving 54 = .ok (.iinc 5 1, 3) := d_by (d_at odX6_dayOfLeaving ofX6_dayOfLeaving 54) rfl
theorem dX6_dayOfLeaving_57 : decode cX6_dayOfLeaving 57 = .ok (.goto (-41), 3) := d_by (d_at odX6_dayOfLeaving ofX6_dayOfLeaving 57) rfl
theorem dX6_dayOfLeaving_60 : decode cX6_dayOfLeaving 60 = .ok (.iload_n 3, 1) := d_by (d_at odX6_dayOfLeaving ofX6_dayOfLeaving 60) rfl
theorem dX6_dayOfLeaving_61 : decode cX6_dayOfLeaving 61 = .ok (.ireturn, 1) := d_by (d_at odX6_dayOfLeaving ofX6_dayOfLeaving 61) rfl
set_option maxRecDepth 100000 in
def bX6_findFirstDays : List Nat := [42, 180, 0, 9, 18, 37, 184, 0, 38, 42, 180, 0, 9, 28, 29, 79, 27, 154, 0, 7, 4, 167, 0, 10, 42, 180, 0, 25, 180, 0, 44, 54, 4, 4, 54, 5, 3, 54, 6, 21, 6, 21, 4, 162, 0, 148, 21, 5, 153, 0, 143, 3, 54, 5, 3, 54, 7, 21, 7, 42, 180, 0, 25, 180, 0, 49, 162, 0, 119, 42, 180, 0, 25, 180, 0, 52, 21, 7, 50, 58, 8, 27, 154, 0, 25, 25, 8, 180, 0, 56, 28, 159, 0, 16, 25, 8, 180, 0, 61, 28, 159, 0, 7, 4, 167, 0, 4, 3, 54, 9, 21, 9, 154, 0, 67, 42, 180, 0, 29, 21, 7, 182, 0, 64, 154, 0, 55, 42, 27, 25, 8, 25, 8, 180, 0, 56, 25, 8, 180, 0, 61, 182, 0, 70, 154, 0, 28, 42, 27, 25, 8, 25, 8, 180, 0, 61, 25, 8, 180, 0, 56, 182, 0, 70, 154, 0, 8, 21, 5, 153, 0, 7, 4, 167, 0, 4, 3, 54, 5, 132, 7, 1, 167, 255, 131, 132, 6, 1, 167, 255, 107, 177]
set_option maxRecDepth 100000 in
theorem bbX6_findFirstDays : cX6_findFirstDays.data.toList.map UInt8.toNat = bX6_findFirstDays := by decide +kernel
set_option maxRecDepth 100000 in
def tX6_findFirstDays : Lean.RArray dLf := .branch 90 (.branch 41 (.branch 20 (.branch 10 (.branch 4 (.branch 1 (.leaf (0, .aload_n 0, 1)) (.leaf (1, .getfield 9, 3))) (.branch 6 (.leaf (4, .ldc 37, 2)) (.branch 9 (.leaf (6, .invokestatic 38, 3)) (.leaf (9, .aload_n 0, 1))))) (.branch 15 (.branch 13 (.leaf (10, .getfield 9, 3)) (.branch 14 (.leaf (13, .iload_n 2, 1)) (.leaf (14, .iload_n 3, 1)))) (.branch 16 (.leaf (15, .iastore, 1)) (.branch 17 (.leaf (16, .iload_n 1, 1)) (.leaf (17, .ifCond .ne 7, 3)))))) (.branch 31 (.branch 24 (.branch 21 (.leaf (20, .iconst 1, 1)) (.leaf (21, .goto 10, 3))) (.branch 25 (.leaf (24, .aload_n 0, 1)) (.branch 28 (.leaf (25, .getfield 25, 3)) (.leaf (28, .getfield 44, 3))))) (.branch 36 (.branch 33 (.leaf (31, .istore 4, 2)) (.branch 34 (.leaf (33, .iconst 1, 1)) (.leaf (34, .istore 5, 2)))) (.branch 37 (.leaf (36, .iconst 0, 1)) (.branch 39 (.leaf (37, .istore 6, 2)) (.leaf (39, .iload 6, 2))))))) (.branch 63 (.branch 52 (.branch 46 (.branch 43 (.leaf (41, .iload 4, 2)) (.leaf (43, .if_icmp .ge 148, 3))) (.branch 48 (.leaf (46, .iload 5, 2)) (.branch 51 (.leaf (48, .ifCond .eq 143, 3)) (.leaf (51, .iconst 0, 1))))) (.branch 57 (.branch 54 (.leaf (52, .istore 5, 2)) (.branch 55 (.leaf (54, .iconst 0, 1)) (.leaf (55, .istore 7, 2)))) (.branch 59 (.leaf (57, .iload 7, 2)) (.branch 60 (.leaf (59, .aload_n 0, 1)) (.leaf (60, .getfield 25, 3)))))) (.branch 78 (.branch 70 (.branch 66 (.leaf (63, .getfield 49, 3)) (.branch 69 (.leaf (66, .if_icmp .ge 119, 3)) (.leaf (69, .aload_n 0, 1)))) (.branch 73 (.leaf (70, .getfield 25, 3)) (.branch 76 (.leaf (73, .getfield 52, 3)) (.leaf (76, .iload 7, 2))))) (.branch 82 (.branch 79 (.leaf (78, .aaload, 1)) (.branch 81 (.leaf (79, .astore 8, 2)) (.leaf (81, .iload_n 1, 1)))) (.branch 85 (.leaf (82, .ifCond .ne 25, 3)) (.branch 87 (.leaf (85, .aload 8, 2)) (.leaf (87, .getfield 56, 3)))))))) (.branch 138 (.branch 112 (.branch 100 (.branch 94 (.branch 91 (.leaf (90, .iload_n 2, 1)) (.leaf (91, .if_icmp .eq 16, 3))) (.branch 96 (.leaf (94, .aload 8, 2)) (.branch 99 (.leaf (96, .getfield 61, 3)) (.leaf (99, .iload_n 2, 1))))) (.branch 107 (.branch 103 (.leaf (100, .if_icmp .eq 7, 3)) (.branch 104 (.leaf (103, .iconst 1, 1)) (.leaf (104, .goto 4, 3)))) (.branch 108 (.leaf (107, .iconst 0, 1)) (.branch 110 (.leaf (108, .istore 9, 2)) (.leaf (110, .iload 9, 2)))))) (.branch 127 (.branch 119 (.branch 115 (.leaf (112, .ifCond .ne 67, 3)) (.branch 116 (.leaf (115, .aload_n 0, 1)) (.leaf (116, .getfield 29, 3)))) (.branch 121 (.leaf (119, .iload 7, 2)) (.branch 124 (.leaf (121, .invokevirtual 64, 3)) (.leaf (124, .ifCond .ne 55, 3))))) (.branch 131 (.branch 128 (.leaf (127, .aload_n 0, 1)) (.branch 129 (.leaf (128, .iload_n 1, 1)) (.leaf (129, .aload 8, 2)))) (.branch 133 (.leaf (131, .aload 8, 2)) (.branch 136 (.leaf (133, .getfield 56, 3)) (.leaf (136, .aload 8, 2))))))) (.branch 164 (.branch 149 (.branch 144 (.branch 141 (.leaf (138, .getfield 61, 3)) (.leaf (141, .invokevirtual 70, 3))) (.branch 147 (.leaf (144, .ifCond .ne 28, 3)) (.branch 148 (.leaf (147, .aload_n 0, 1)) (.leaf (148, .iload_n 1, 1))))) (.branch 156 (.branch 151 (.leaf (149, .aload 8, 2)) (.branch 153 (.leaf (151, .aload 8, 2)) (.leaf (153, .getfield 61, 3)))) (.branch 158 (.leaf (156, .aload 8, 2)) (.branch 161 (.leaf (158, .getfield 56, 3)) (.leaf (161, .invokevirtual 70, 3)))))) (.branch 177 (.branch 172 (.branch 167 (.leaf (164, .ifCond .ne 8, 3)) (.branch 169 (.leaf (167, .iload 5, 2)) (.leaf (169, .ifCond .eq 7, 3)))) (.branch 173 (.leaf (172, .iconst 1, 1)) (.branch 176 (.leaf (173, .goto 4, 3)) (.leaf (176, .iconst 0, 1))))) (.branch 185 (.branch 179 (.leaf (177, .istore 5, 2)) (.branch 182 (.leaf (179, .iinc 7 1, 3)) (.leaf (182, .goto (-125), 3)))) (.branch 188 (.leaf (185, .iinc 6 1, 3)) (.branch 191 (.leaf (188, .goto (-149), 3)) (.leaf (191, .return_, 1))))))))
noncomputable def oX6_findFirstDays : List dLf := dFl tX6_findFirstDays
theorem ofX6_findFirstDays : dFl tX6_findFirstDays = oX6_findFirstDays := rfl
set_option maxRecDepth 100000 in
theorem odX6_findFirstDays : ∀ q ∈ oX6_findFirstDays, decode cX6_findFirstDays q.1 = .ok (q.2.1, q.2.2) := q_go qT_ok bbX6_findFirstDays oX6_findFirstDays 0 (by decide +kernel)
theorem dX6_findFirstDays_0 : decode cX6_findFirstDays 0 = .ok (.aload_n 0, 1) := d_by (d_at odX6_findFirstDays ofX6_findFirstDays 0) rfl
theorem dX6_findFirstDays_1 : decode cX6_findFirstDays 1 = .ok (.getfield 9, 3) := d_by (d_at odX6_findFirstDays ofX6_findFirstDays 1) rfl
theorem dX6_findFirstDays_4 : decode cX6_findFirstDays 4 = .ok (.ldc 37, 2) := d_by (d_at odX6_findFirstDays ofX6_findFirstDays 4) rfl
theorem dX6_findFirstDays_6 : decode cX6_findFirstDays 6 = .ok (.invokestatic 38, 3) := d_by (d_at odX6_findFirstDays ofX6_findFirstDays 6) rfl
theorem dX6_findFirstDays_9 : decode cX6_findFirstDays 9 = .ok (.aload_n 0, 1) := d_by (d_at odX6_findFirstDays ofX6_findFirstDays 9) rfl
theorem dX6_findFirstDays_10 : decode cX6_findFirstDays 10 = .ok (.getfield 9, 3) := d_by (d_at odX6_findFirstDays ofX6_findFirstDays 10) rfl
theorem dX6_findFirstDays_13 : decode cX6_findFirstDays 13 = .ok (.iload_n 2, 1) := d_by (d_at odX6_findFirstDays ofX6_findFirstDays 13) rfl
theorem dX6_findFirstDays_14 : decode cX6_findFirstDays 14 = .ok (.iload_n 3, 1) := d_by (d_at odX6_findFirstDays ofX6_findFirstDays 14) rfl
theorem dX6_findFirstDays_15 : decode cX6_findFirstDays 15 = .ok (.iastore, 1) := d_by (d_at odX6_findFirstDays ofX6_findFirstDays 15) rfl
theorem dX6_findFirstDays_16 : decode cX6_findFirstDays 16 = .ok (.iload_n 1, 1) := d_by (d_at odX6_findFirstDays ofX6_findFirstDays 16) rfl
theorem dX6_findFirstDays_17 : decode cX6_findFirstDays 17 = .ok (.ifCond .ne 7, 3) := d_by (d_at odX6_findFirstDays ofX6_findFirstDays 17) rfl
theorem dX6_findFirstDays_20 : decode cX6_findFirstDays 20 = .ok (.iconst 1, 1) := d_by (d_at odX6_findFirstDays ofX6_findFirstDays 20) rfl
theorem dX6_findFirstDays_21 : decode cX6_findFirstDays 21 = .ok (.goto 10, 3) := d_by (d_at odX6_findFirstDays ofX6_findFirstDays 21) rfl
theorem dX6_findFirstDays_24 : decode cX6_findFirstDays 24 = .ok (.aload_n 0, 1) := d_by (d_at odX6_findFirstDays ofX6_findFirstDays 24) rfl
theorem dX6_findFirstDays_25 : decode cX6_findFirstDays 25 = .ok (.getfield 25, 3) := d_by (d_at odX6_findFirstDays ofX6_findFirstDays 25) rfl
theorem dX6_findFirstDays_28 : decode cX6_findFirstDays 28 = .ok (.getfield 44, 3) := d_by (d_at odX6_findFirstDays ofX6_findFirstDays 28) rfl
theorem dX6_findFirstDays_31 : decode cX6_findFirstDays 31 = .ok (.istore 4, 2) := d_by (d_at odX6_findFirstDays ofX6_findFirstDays 31) rfl
theorem dX6_findFirstDays_33 : decode cX6_findFirstDays 33 = .ok (.iconst 1, 1) := d_by (d_at odX6_findFirstDays ofX6_findFirstDays 33) rfl
theorem dX6_findFirstDays_34 : decode cX6_findFirstDays 34 = .ok (.istore 5, 2) := d_by (d_at odX6_findFirstDays ofX6_findFirstDays 34) rfl
theorem dX6_findFirstDays_36 : decode cX6_findFirstDays 36 = .ok (.iconst 0, 1) := d_by (d_at odX6_findFirstDays ofX6_findFirstDays 36) rfl
theorem dX6_findFirstDays_37 : decode cX6_findFirstDays 37 = .ok (.istore 6, 2) := d_by (d_at odX6_findFirstDays ofX6_findFirstDays 37) rfl
theorem dX6_findFirstDays_39 : decode cX6_findFirstDays 39 = .ok (.iload 6, 2) := d_by (d_at odX6_findFirstDays ofX6_findFirstDays 39) rfl
theorem dX6_findFirstDays_41 : decode cX6_findFirstDays 41 = .ok (.iload 4, 2) := d_by (d_at odX6_findFirstDays ofX6_findFirstDays 41) rfl
theorem dX6_findFirstDays_43 : decode cX6_findFirstDays 43 = .ok (.if_icmp .ge 148, 3) := d_by (d_at odX6_findFirstDays ofX6_findFirstDays 43) rfl
theorem dX6_findFirstDays_46 : decode cX6_findFirstDays 46 = .ok (.iload 5, 2) := d_by (d_at odX6_findFirstDays ofX6_findFirstDays 46) rfl
theorem dX6_findFirstDays_48 : decode cX6_findFirstDays 48 = .ok (.ifCond .eq 143, 3) := d_by (d_at odX6_findFirstDays ofX6_findFirstDays 48) rfl
theorem dX6_findFirstDays_51 : decode cX6_findFirstDays 51 = .ok (.iconst 0, 1) := d_by (d_at odX6_findFirstDays ofX6_findFirstDays 51) rfl
theorem dX6_findFirstDays_52 : decode cX6_findFirstDays 52 = .ok (.istore 5, 2) := d_by (d_at odX6_findFirstDays ofX6_findFirstDays 52) rfl
theorem dX6_findFirstDays_54 : decode cX6_findFirstDays 54 = .ok (.iconst 0, 1) := d_by (d_at odX6_findFirstDays ofX6_findFirstDays 54) rfl
theorem dX6_findFirstDays_55 : decode cX6_findFirstDays 55 = .ok (.istore 7, 2) := d_by (d_at odX6_findFirstDays ofX6_findFirstDays 55) rfl
theorem dX6_findFirstDays_57 : decode cX6_findFirstDays 57 = .ok (.iload 7, 2) := d_by (d_at odX6_findFirstDays ofX6_findFirstDays 57) rfl
theorem dX6_findFirstDays_59 : decode cX6_findFirstDays 59 = .ok (.aload_n 0, 1) := d_by (d_at odX6_findFirstDays ofX6_findFirstDays 59) rfl
theorem dX6_findFirstDays_60 : decode cX6_findFirstDays 60 = .ok (.getfield 25, 3) := d_by (d_at odX6_findFirstDays ofX6_findFirstDays 60) rfl
theorem dX6_findFirstDays_63 : decode cX6_findFirstDays 63 = .ok (.getfield 49, 3) := d_by (d_at odX6_findFirstDays ofX6_findFirstDays 63) rfl
theorem dX6_findFirstDays_66 : decode cX6_findFirstDays 66 = .ok (.if_icmp .ge 119, 3) := d_by (d_at odX6_findFirstDays ofX6_findFirstDays 66) rfl
theorem dX6_findFirstDays_69 : decode cX6_findFirstDays 69 = .ok (.aload_n 0, 1) := d_by (d_at odX6_findFirstDays ofX6_findFirstDays 69) rfl
theorem dX6_findFirstDays_70 : decode cX6_findFirstDays 70 = .ok (.getfield 25, 3) := d_by (d_at odX6_findFirstDays ofX6_findFirstDays 70) rfl
theorem dX6_findFirstDays_73 : decode cX6_findFirstDays 73 = .ok (.getfield 52, 3) := d_by (d_at odX6_findFirstDays ofX6_findFirstDays 73) rfl
theorem dX6_findFirstDays_76 : decode cX6_findFirstDays 76 = .ok (.iload 7, 2) := d_by (d_at odX6_findFirstDays ofX6_findFirstDays 76) rfl
theorem dX6_findFirstDays_78 : decode cX6_findFirstDays 78 = .ok (.aaload, 1) := d_by (d_at odX6_findFirstDays ofX6_findFirstDays 78) rfl
theorem dX6_findFirstDays_79 : decode cX6_findFirstDays 79 = .ok (.astore 8, 2) := d_by (d_at odX6_findFirstDays ofX6_findFirstDays 79) rfl
theorem dX6_findFirstDays_81 : decode cX6_findFirstDays 81 = .ok (.iload_n 1, 1) := d_by (d_at odX6_findFirstDays ofX6_findFirstDays 81) rfl
theorem dX6_findFirstDays_82 : decode cX6_findFirstDays 82 = .ok (.ifCond .ne 25, 3) := d_by (d_at odX6_findFirstDays ofX6_findFirstDays 82) rfl
theorem dX6_findFirstDays_85 : decode cX6_findFirstDays 85 = .ok (.aload 8, 2) := d_by (d_at odX6_findFirstDays ofX6_findFirstDays 85) rfl
theorem dX6_findFirstDays_87 : decode cX6_findFirstDays 87 = .ok (.getfield 56, 3) := d_by (d_at odX6_findFirstDays ofX6_findFirstDays 87) rfl
theorem dX6_findFirstDays_90 : decode cX6_findFirstDays 90 = .ok (.iload_n 2, 1) := d_by (d_at odX6_findFirstDays ofX6_findFirstDays 90) rfl
theorem dX6_findFirstDays_91 : decode cX6_findFirstDays 91 = .ok (.if_icmp .eq 16, 3) := d_by (d_at odX6_findFirstDays ofX6_findFirstDays 91) rfl
theorem dX6_findFirstDays_94 : decode cX6_findFirstDays 94 = .ok (.aload 8, 2) := d_by (d_at odX6_findFirstDays ofX6_findFirstDays 94) rfl
theorem dX6_findFirstDays_96 : decode cX6_findFirstDays 96 = .ok (.getfield 61, 3) := d_by (d_at odX6_findFirstDays ofX6_findFirstDays 96) rfl
theorem dX6_findFirstDays_99 : decode cX6_findFirstDays 99 = .ok (.iload_n 2, 1) := d_by (d_at odX6_findFirstDays ofX6_findFirstDays 99) rfl
theorem dX6_findFirstDays_100 : decode cX6_findFirstDays 100 = .ok (.if_icmp .eq 7, 3) := d_by (d_at odX6_findFirstDays ofX6_findFirstDays 100) rfl
theorem dX6_findFirstDays_103 : decode cX6_findFirstDays 103 = .ok (.iconst 1, 1) := d_by (d_at odX6_findFirstDays ofX6_findFirstDays 103) rfl
theorem dX6_findFirstDays_104 : decode cX6_findFirstDays 104 = .ok (.goto 4, 3) := d_by (d_at odX6_findFirstDays ofX6_findFirstDays 104) rfl
theorem dX6_findFirstDays_107 : decode cX6_findFirstDays 107 = .ok (.iconst 0, 1) := d_by (d_at odX6_findFirstDays ofX6_findFirstDays 107) rfl
theorem dX6_findFirstDays_108 : decode cX6_findFirstDays 108 = .ok (.istore 9, 2) := d_by (d_at odX6_findFirstDays ofX6_findFirstDays 108) rfl
theorem dX6_findFirstDays_110 : decode cX6_findFirstDays 110 = .ok (.iload 9, 2) := d_by (d_at odX6_findFirstDays ofX6_findFirstDays 110) rfl
theorem dX6_findFirstDays_112 : decode cX6_findFirstDays 112 = .ok (.ifCond .ne 67, 3) := d_by (d_at odX6_findFirstDays ofX6_findFirstDays 112) rfl
theorem dX6_findFirstDays_115 : decode cX6_findFirstDays 115 = .ok (.aload_n 0, 1) := d_by (d_at odX6_findFirstDays ofX6_findFirstDays 115) rfl
theorem dX6_findFirstDays_116 : decode cX6_findFirstDays 116 = .ok (.getfield 29, 3) := d_by (d_at odX6_findFirstDays ofX6_findFirstDays 116) rfl
theorem dX6_findFirstDays_119 : decode cX6_findFirstDays 119 = .ok (.iload 7, 2) := d_by (d_at odX6_findFirstDays ofX6_findFirstDays 119) rfl
theorem dX6_findFirstDays_121 : decode cX6_findFirstDays 121 = .ok (.invokevirtual 64, 3) := d_by (d_at odX6_findFirstDays ofX6_findFirstDays 121) rfl
theorem dX6_findFirstDays_124 : decode cX6_findFirstDays 124 = .ok (.ifCond .ne 55, 3) := d_by (d_at odX6_findFirstDays ofX6_findFirstDays 124) rfl
theorem dX6_findFirstDays_127 : decode cX6_findFirstDays 127 = .ok (.aload_n 0, 1) := d_by (d_at odX6_findFirstDays ofX6_findFirstDays 127) rfl
theorem dX6_findFirstDays_128 : decode cX6_findFirstDays 128 = .ok (.iload_n 1, 1) := d_by (d_at odX6_findFirstDays ofX6_findFirstDays 128) rfl
theorem dX6_findFirstDays_129 : decode cX6_findFirstDays 129 = .ok (.aload 8, 2) := d_by (d_at odX6_findFirstDays ofX6_findFirstDays 129) rfl
theorem dX6_findFirstDays_131 : decode cX6_findFirstDays 131 = .ok (.aload 8, 2) := d_by (d_at odX6_findFirstDays ofX6_findFirstDays 131) rfl
theorem dX6_findFirstDays_133 : decode cX6_findFirstDays 133 = .ok (.getfield 56, 3) := d_by (d_at odX6_findFirstDays ofX6_findFirstDays 133) rfl
theorem dX6_findFirstDays_136 : decode cX6_findFirstDays 136 = .ok (.aload 8, 2) := d_by (d_at odX6_findFirstDays ofX6_findFirstDays 136) rfl
theorem dX6_findFirstDays_138 : decode cX6_findFirstDays 138 = .ok (.getfield 61, 3) := d_by (d_at odX6_findFirstDays ofX6_findFirstDays 138) rfl
theorem dX6_findFirstDays_141 : decode cX6_findFirstDays 141 = .ok (.invokevirtual 70, 3) := d_by (d_at odX6_findFirstDays ofX6_findFirstDays 141) rfl
theorem dX6_findFirstDays_144 : decode cX6_findFirstDays 144 = .ok (.ifCond .ne 28, 3) := d_by (d_at odX6_findFirstDays ofX6_findFirstDays 144) rfl
theorem dX6_findFirstDays_147 : decode cX6_findFirstDays 147 = .ok (.aload_n 0, 1) := d_by (d_at odX6_findFirstDays ofX6_findFirstDays 147) rfl
theorem dX6_findFirstDays_148 : decode cX6_findFirstDays 148 = .ok (.iload_n 1, 1) := d_by (d_at odX6_findFirstDays ofX6_findFirstDays 148) rfl
theorem dX6_findFirstDays_149 : decode cX6_findFirstDays 149 = .ok (.aload 8, 2) := d_by (d_at odX6_findFirstDays ofX6_findFirstDays 149) rfl
theorem dX6_findFirstDays_151 : decode cX6_findFirstDays 151 = .ok (.aload 8, 2) := d_by (d_at odX6_findFirstDays ofX6_findFirstDays 151) rfl
theorem dX6_findFirstDays_153 : decode cX6_findFirstDays 153 = .ok (.getfield 61, 3) := d_by (d_at odX6_findFirstDays ofX6_findFirstDays 153) rfl
theorem dX6_findFirstDays_156 : decode cX6_findFirstDays 156 = .ok (.aload 8, 2) := d_by (d_at odX6_findFirstDays ofX6_findFirstDays 156) rfl
theorem dX6_findFirstDays_158 : decode cX6_findFirstDays 158 = .ok (.getfield 56, 3) := d_by (d_at odX6_findFirstDays ofX6_findFirstDays 158) rfl
theorem dX6_findFirstDays_161 : decode cX6_findFirstDays 161 = .ok (.invokevirtual 70, 3) := d_by (d_at odX6_findFirstDays ofX6_findFirstDays 161) rfl
theorem dX6_findFirstDays_164 : decode cX6_findFirstDays 164 = .ok (.ifCond .ne 8, 3) := d_by (d_at odX6_findFirstDays ofX6_findFirstDays 164) rfl
theorem dX6_findFirstDays_167 : decode cX6_findFirstDays 167 = .ok (.iload 5, 2) := d_by (d_at odX6_findFirstDays ofX6_findFirstDays 167) rfl
theorem dX6_findFirstDays_169 : decode cX6_findFirstDays 169 = .ok (.ifCond .eq 7, 3) := d_by (d_at odX6_findFirstDays ofX6_findFirstDays 169) rfl
theorem dX6_findFirstDays_172 : decode cX6_findFirstDays 172 = .ok (.iconst 1, 1) := d_by (d_at odX6_findFirstDays ofX6_findFirstDays 172) rfl
theorem dX6_findFirstDays_173 : decode cX6_findFirstDays 173 = .ok (.goto 4, 3) := d_by (d_at odX6_findFirstDays ofX6_findFirstDays 173) rfl
theorem dX6_findFirstDays_176 : decode cX6_findFirstDays 176 = .ok (.iconst 0, 1) := d_by (d_at odX6_findFirstDays ofX6_findFirstDays 176) rfl
theorem dX6_findFirstDays_177 : decode cX6_findFirstDays 177 = .ok (.istore 5, 2) := d_by (d_at odX6_findFirstDays ofX6_findFirstDays 177) rfl
theorem dX6_findFirstDays_179 : decode cX6_findFirstDays 179 = .ok (.iinc 7 1, 3) := d_by (d_at odX6_findFirstDays ofX6_findFirstDays 179) rfl
theorem dX6_findFirstDays_182 : decode cX6_findFirstDays 182 = .ok (.goto (-125), 3) := d_by (d_at odX6_findFirstDays ofX6_findFirstDays 182) rfl
theorem dX6_findFirstDays_185 : decode cX6_findFirstDays 185 = .ok (.iinc 6 1, 3) := d_by (d_at odX6_findFirstDays ofX6_findFirstDays 185) rfl
theorem dX6_findFirstDays_188 : decode cX6_findFirstDays 188 = .ok (.goto (-149), 3) := d_by (d_at odX6_findFirstDays ofX6_findFirstDays 188) rfl
theorem dX6_findFirstDays_191 : decode cX6_findFirstDays 191 = .ok (.return_, 1) := d_by (d_at odX6_findFirstDays ofX6_findFirstDays 191) rfl
set_option maxRecDepth 100000 in
def bX6_goes : List Nat := [42, 180, 0, 9, 29, 46, 18, 37, 160, 0, 5, 3, 172, 27, 5, 160, 0, 12, 5, 44, 180, 0, 74, 104, 167, 0, 7, 44, 180, 0, 74, 54, 5, 42, 27, 44, 180, 0, 77, 42, 180, 0, 9, 29, 46, 182, 0, 80, 21, 5, 96, 54, 6, 21, 6, 42, 180, 0, 9, 21, 4, 46, 161, 0, 5, 3, 172, 42, 180, 0, 9, 21, 4, 21, 6, 79, 4, 172]
set_option maxRecDepth 100000 in
theorem bbX6_goes : cX6_goes.data.toList.map UInt8.toNat = bX6_goes := by decide +kernel
set_option maxRecDepth 100000 in
def tX6_goes : Lean.RArray dLf := .branch 39 (.branch 18 (.branch 8 (.branch 4 (.branch 1 (.leaf (0, .aload_n 0, 1)) (.leaf (1, .getfield 9, 3))) (.branch 5 (.leaf (4, .iload_n 3, 1)) (.branch 6 (.leaf (5, .iaload, 1)) (.leaf (6, .ldc 37, 2))))) (.branch 13 (.branch 11 (.leaf (8, .if_icmp .ne 5, 3)) (.branch 12 (.leaf (11, .iconst 0, 1)) (.leaf (12, .ireturn, 1)))) (.branch 14 (.leaf (13, .iload_n 1, 1)) (.branch 15 (.leaf (14, .iconst 2, 1)) (.leaf (15, .if_icmp .ne 12, 3)))))) (.branch 28 (.branch 23 (.branch 19 (.leaf (18, .iconst 2, 1)) (.branch 20 (.leaf (19, .aload_n 2, 1)) (.leaf (20, .getfield 74, 3)))) (.branch 24 (.leaf (23, .imul, 1)) (.branch 27 (.leaf (24, .goto 7, 3)) (.leaf (27, .aload_n 2, 1))))) (.branch 34 (.branch 31 (.leaf (28, .getfield 74, 3)) (.branch 33 (.leaf (31, .istore 5, 2)) (.leaf (33, .aload_n 0, 1)))) (.branch 35 (.leaf (34, .iload_n 1, 1)) (.branch 36 (.leaf (35, .aload_n 2, 1)) (.leaf (36, .getfield 77, 3))))))) (.branch 59 (.branch 48 (.branch 43 (.branch 40 (.leaf (39, .aload_n 0, 1)) (.leaf (40, .getfield 9, 3))) (.branch 44 (.leaf (43, .iload_n 3, 1)) (.branch 45 (.leaf (44, .iaload, 1)) (.leaf (45, .invokevirtual 80, 3))))) (.branch 53 (.branch 50 (.leaf (48, .iload 5, 2)) (.branch 51 (.leaf (50, .iadd, 1)) (.leaf (51, .istore 6, 2)))) (.branch 55 (.leaf (53, .iload 6, 2)) (.branch 56 (.leaf (55, .aload_n 0, 1)) (.leaf (56, .getfield 9, 3)))))) (.branch 68 (.branch 65 (.branch 61 (.leaf (59, .iload 4, 2)) (.branch 62 (.leaf (61, .iaload, 1)) (.leaf (62, .if_icmp .lt 5, 3)))) (.branch 66 (.leaf (65, .iconst 0, 1)) (.branch 67 (.leaf (66, .ireturn, 1)) (.leaf (67, .aload_n 0, 1))))) (.branch 75 (.branch 71 (.leaf (68, .getfield 9, 3)) (.branch 73 (.leaf (71, .iload 4, 2)) (.leaf (73, .iload 6, 2)))) (.branch 76 (.leaf (75, .iastore, 1)) (.branch 77 (.leaf (76, .iconst 1, 1)) (.leaf (77, .ireturn, 1)))))))
noncomputable def oX6_goes : List dLf := dFl tX6_goes
theorem ofX6_goes : dFl tX6_goes = oX6_goes := rfl
set_option maxRecDepth 100000 in
theorem odX6_goes : ∀ q ∈ oX6_goes, decode cX6_goes q.1 = .ok (q.2.1, q.2.2) := q_go qT_ok bbX6_goes oX6_goes 0 (by decide +kernel)
theorem dX6_goes_0 : decode cX6_goes 0 = .ok (.aload_n 0, 1) := d_by (d_at odX6_goes ofX6_goes 0) rfl
theorem dX6_goes_1 : decode cX6_goes 1 = .ok (.getfield 9, 3) := d_by (d_at odX6_goes ofX6_goes 1) rfl
theorem dX6_goes_4 : decode cX6_goes 4 = .ok (.iload_n 3, 1) := d_by (d_at odX6_goes ofX6_goes 4) rfl
theorem dX6_goes_5 : decode cX6_goes 5 = .ok (.iaload, 1) := d_by (d_at odX6_goes ofX6_goes 5) rfl
theorem dX6_goes_6 : decode cX6_goes 6 = .ok (.ldc 37, 2) := d_by (d_at odX6_goes ofX6_goes 6) rfl
theorem dX6_goes_8 : decode cX6_goes 8 = .ok (.if_icmp .ne 5, 3) := d_by (d_at odX6_goes ofX6_goes 8) rfl
theorem dX6_goes_11 : decode cX6_goes 11 = .ok (.iconst 0, 1) := d_by (d_at odX6_goes ofX6_goes 11) rfl
theorem dX6_goes_12 : decode cX6_goes 12 = .ok (.ireturn, 1) := d_by (d_at odX6_goes ofX6_goes 12) rfl
theorem dX6_goes_13 : decode cX6_goes 13 = .ok (.iload_n 1, 1) := d_by (d_at odX6_goes ofX6_goes 13) rfl
theorem dX6_goes_14 : decode cX6_goes 14 = .ok (.iconst 2, 1) := d_by (d_at odX6_goes ofX6_goes 14) rfl
theorem dX6_goes_15 : decode cX6_goes 15 = .ok (.if_icmp .ne 12, 3) := d_by (d_at odX6_goes ofX6_goes 15) rfl
theorem dX6_goes_18 : decode cX6_goes 18 = .ok (.iconst 2, 1) := d_by (d_at odX6_goes ofX6_goes 18) rfl
theorem dX6_goes_19 : decode cX6_goes 19 = .ok (.aload_n 2, 1) := d_by (d_at odX6_goes ofX6_goes 19) rfl
theorem dX6_goes_20 : decode cX6_goes 20 = .ok (.getfield 74, 3) := d_by (d_at odX6_goes ofX6_goes 20) rfl
theorem dX6_goes_23 : decode cX6_goes 23 = .ok (.imul, 1) := d_by (d_at odX6_goes ofX6_goes 23) rfl
theorem dX6_goes_24 : decode cX6_goes 24 = .ok (.goto 7, 3) := d_by (d_at odX6_goes ofX6_goes 24) rfl
theorem dX6_goes_27 : decode cX6_goes 27 = .ok (.aload_n 2, 1) := d_by (d_at odX6_goes ofX6_goes 27) rfl
theorem dX6_goes_28 : decode cX6_goes 28 = .ok (.getfield 74, 3) := d_by (d_at odX6_goes ofX6_goes 28) rfl
theorem dX6_goes_31 : decode cX6_goes 31 = .ok (.istore 5, 2) := d_by (d_at odX6_goes ofX6_goes 31) rfl
theorem dX6_goes_33 : decode cX6_goes 33 = .ok (.aload_n 0, 1) := d_by (d_at odX6_goes ofX6_goes 33) rfl
theorem dX6_goes_34 : decode cX6_goes 34 = .ok (.iload_n 1, 1) := d_by (d_at odX6_goes ofX6_goes 34) rfl
theorem dX6_goes_35 : decode cX6_goes 35 = .ok (.aload_n 2, 1) := d_by (d_at odX6_goes ofX6_goes 35) rfl
theorem dX6_goes_36 : decode cX6_goes 36 = .ok (.getfield 77, 3) := d_by (d_at odX6_goes ofX6_goes 36) rfl
theorem dX6_goes_39 : decode cX6_goes 39 = .ok (.aload_n 0, 1) := d_by (d_at odX6_goes ofX6_goes 39) rfl
theorem dX6_goes_40 : decode cX6_goes 40 = .ok (.getfield 9, 3) := d_by (d_at odX6_goes ofX6_goes 40) rfl
theorem dX6_goes_43 : decode cX6_goes 43 = .ok (.iload_n 3, 1) := d_by (d_at odX6_goes ofX6_goes 43) rfl
theorem dX6_goes_44 : decode cX6_goes 44 = .ok (.iaload, 1) := d_by (d_at odX6_goes ofX6_goes 44) rfl
theorem dX6_goes_45 : decode cX6_goes 45 = .ok (.invokevirtual 80, 3) := d_by (d_at odX6_goes ofX6_goes 45) rfl
theorem dX6_goes_48 : decode cX6_goes 48 = .ok (.iload 5, 2) := d_by (d_at odX6_goes ofX6_goes 48) rfl
theorem dX6_goes_50 : decode cX6_goes 50 = .ok (.iadd, 1) := d_by (d_at odX6_goes ofX6_goes 50) rfl
theorem dX6_goes_51 : decode cX6_goes 51 = .ok (.istore 6, 2) := d_by (d_at odX6_goes ofX6_goes 51) rfl
theorem dX6_goes_53 : decode cX6_goes 53 = .ok (.iload 6, 2) := d_by (d_at odX6_goes ofX6_goes 53) rfl
theorem dX6_goes_55 : decode cX6_goes 55 = .ok (.aload_n 0, 1) := d_by (d_at odX6_goes ofX6_goes 55) rfl
theorem dX6_goes_56 : decode cX6_goes 56 = .ok (.getfield 9, 3) := d_by (d_at odX6_goes ofX6_goes 56) rfl
theorem dX6_goes_59 : decode cX6_goes 59 = .ok (.iload 4, 2) := d_by (d_at odX6_goes ofX6_goes 59) rfl
theorem dX6_goes_61 : decode cX6_goes 61 = .ok (.iaload, 1) := d_by (d_at odX6_goes ofX6_goes 61) rfl
theorem dX6_goes_62 : decode cX6_goes 62 = .ok (.if_icmp .lt 5, 3) := d_by (d_at odX6_goes ofX6_goes 62) rfl
theorem dX6_goes_65 : decode cX6_goes 65 = .ok (.iconst 0, 1) := d_by (d_at odX6_goes ofX6_goes 65) rfl
theorem dX6_goes_66 : decode cX6_goes 66 = .ok (.ireturn, 1) := d_by (d_at odX6_goes ofX6_goes 66) rfl
theorem dX6_goes_67 : decode cX6_goes 67 = .ok (.aload_n 0, 1) := d_by (d_at odX6_goes ofX6_goes 67) rfl
theorem dX6_goes_68 : decode cX6_goes 68 = .ok (.getfield 9, 3) := d_by (d_at odX6_goes ofX6_goes 68) rfl
theorem dX6_goes_71 : decode cX6_goes 71 = .ok (.iload 4, 2) := d_by (d_at odX6_goes ofX6_goes 71) rfl
theorem dX6_goes_73 : decode cX6_goes 73 = .ok (.iload 6, 2) := d_by (d_at odX6_goes ofX6_goes 73) rfl
theorem dX6_goes_75 : decode cX6_goes 75 = .ok (.iastore, 1) := d_by (d_at odX6_goes ofX6_goes 75) rfl
theorem dX6_goes_76 : decode cX6_goes 76 = .ok (.iconst 1, 1) := d_by (d_at odX6_goes ofX6_goes 76) rfl
theorem dX6_goes_77 : decode cX6_goes 77 = .ok (.ireturn, 1) := d_by (d_at odX6_goes ofX6_goes 77) rfl
set_option maxRecDepth 100000 in
def bX6_firstDayAt : List Nat := [42, 27, 28, 21, 4, 182, 0, 84, 42, 180, 0, 9, 29, 46, 18, 37, 160, 0, 8, 16, 254, 167, 0, 9, 42, 180, 0, 9, 29, 46, 172]
set_option maxRecDepth 100000 in
theorem bbX6_firstDayAt : cX6_firstDayAt.data.toList.map UInt8.toNat = bX6_firstDayAt := by decide +kernel
set_option maxRecDepth 100000 in
def tX6_firstDayAt : Lean.RArray dLf := .branch 14 (.branch 5 (.branch 2 (.branch 1 (.leaf (0, .aload_n 0, 1)) (.leaf (1, .iload_n 1, 1))) (.branch 3 (.leaf (2, .iload_n 2, 1)) (.leaf (3, .iload 4, 2)))) (.branch 9 (.branch 8 (.leaf (5, .invokevirtual 84, 3)) (.leaf (8, .aload_n 0, 1))) (.branch 12 (.leaf (9, .getfield 9, 3)) (.branch 13 (.leaf (12, .iload_n 3, 1)) (.leaf (13, .iaload, 1)))))) (.branch 24 (.branch 19 (.branch 16 (.leaf (14, .ldc 37, 2)) (.leaf (16, .if_icmp .ne 8, 3))) (.branch 21 (.leaf (19, .bipush (-2), 2)) (.leaf (21, .goto 9, 3)))) (.branch 28 (.branch 25 (.leaf (24, .aload_n 0, 1)) (.leaf (25, .getfield 9, 3))) (.branch 29 (.leaf (28, .iload_n 3, 1)) (.branch 30 (.leaf (29, .iaload, 1)) (.leaf (30, .ireturn, 1))))))
noncomputable def oX6_firstDayAt : List dLf := dFl tX6_firstDayAt
theorem ofX6_firstDayAt : dFl tX6_firstDayAt = oX6_firstDayAt := rfl
set_option maxRecDepth 100000 in
theorem odX6_firstDayAt : ∀ q ∈ oX6_firstDayAt, decode cX6_firstDayAt q.1 = .ok (q.2.1, q.2.2) := q_go qT_ok bbX6_firstDayAt oX6_firstDayAt 0 (by decide +kernel)
theorem dX6_firstDayAt_0 : decode cX6_firstDayAt 0 = .ok (.aload_n 0, 1) := d_by (d_at odX6_firstDayAt ofX6_firstDayAt 0) rfl
theorem dX6_firstDayAt_1 : decode cX6_firstDayAt 1 = .ok (.iload_n 1, 1) := d_by (d_at odX6_firstDayAt ofX6_firstDayAt 1) rfl
theorem dX6_firstDayAt_2 : decode cX6_firstDayAt 2 = .ok (.iload_n 2, 1) := d_by (d_at odX6_firstDayAt ofX6_firstDayAt 2) rfl
theorem dX6_firstDayAt_3 : decode cX6_firstDayAt 3 = .ok (.iload 4, 2) := d_by (d_at odX6_firstDayAt ofX6_firstDayAt 3) rfl
theorem dX6_firstDayAt_5 : decode cX6_firstDayAt 5 = .ok (.invokevirtual 84, 3) := d_by (d_at odX6_firstDayAt ofX6_firstDayAt 5) rfl
theorem dX6_firstDayAt_8 : decode cX6_firstDayAt 8 = .ok (.aload_n 0, 1) := d_by (d_at odX6_firstDayAt ofX6_firstDayAt 8) rfl
theorem dX6_firstDayAt_9 : decode cX6_firstDayAt 9 = .ok (.getfield 9, 3) := d_by (d_at odX6_firstDayAt ofX6_firstDayAt 9) rfl
theorem dX6_firstDayAt_12 : decode cX6_firstDayAt 12 = .ok (.iload_n 3, 1) := d_by (d_at odX6_firstDayAt ofX6_firstDayAt 12) rfl
theorem dX6_firstDayAt_13 : decode cX6_firstDayAt 13 = .ok (.iaload, 1) := d_by (d_at odX6_firstDayAt ofX6_firstDayAt 13) rfl
theorem dX6_firstDayAt_14 : decode cX6_firstDayAt 14 = .ok (.ldc 37, 2) := d_by (d_at odX6_firstDayAt ofX6_firstDayAt 14) rfl
theorem dX6_firstDayAt_16 : decode cX6_firstDayAt 16 = .ok (.if_icmp .ne 8, 3) := d_by (d_at odX6_firstDayAt ofX6_firstDayAt 16) rfl
theorem dX6_firstDayAt_19 : decode cX6_firstDayAt 19 = .ok (.bipush (-2), 2) := d_by (d_at odX6_firstDayAt ofX6_firstDayAt 19) rfl
theorem dX6_firstDayAt_21 : decode cX6_firstDayAt 21 = .ok (.goto 9, 3) := d_by (d_at odX6_firstDayAt ofX6_firstDayAt 21) rfl
theorem dX6_firstDayAt_24 : decode cX6_firstDayAt 24 = .ok (.aload_n 0, 1) := d_by (d_at odX6_firstDayAt ofX6_firstDayAt 24) rfl
theorem dX6_firstDayAt_25 : decode cX6_firstDayAt 25 = .ok (.getfield 9, 3) := d_by (d_at odX6_firstDayAt ofX6_firstDayAt 25) rfl
theorem dX6_firstDayAt_28 : decode cX6_firstDayAt 28 = .ok (.iload_n 3, 1) := d_by (d_at odX6_firstDayAt ofX6_firstDayAt 28) rfl
theorem dX6_firstDayAt_29 : decode cX6_firstDayAt 29 = .ok (.iaload, 1) := d_by (d_at odX6_firstDayAt ofX6_firstDayAt 29) rfl
theorem dX6_firstDayAt_30 : decode cX6_firstDayAt 30 = .ok (.ireturn, 1) := d_by (d_at odX6_firstDayAt ofX6_firstDayAt 30) rfl
set_option maxRecDepth 100000 in
def bX6_dayOfBringing : List Nat := [42, 180, 0, 25, 180, 0, 88, 27, 50, 78, 42, 180, 0, 25, 180, 0, 92, 28, 50, 58, 4, 42, 180, 0, 29, 28, 182, 0, 96, 154, 0, 19, 25, 4, 180, 0, 99, 178, 0, 104, 45, 180, 0, 107, 46, 164, 0, 6, 16, 254, 172, 42, 42, 180, 0, 33, 42, 180, 0, 29, 180, 0, 112, 28, 46, 42, 180, 0, 25, 28, 182, 0, 115, 42, 180, 0, 29, 180, 0, 119, 182, 0, 122, 181, 0, 15, 42, 180, 0, 15, 16, 254, 160, 0, 6, 16, 254, 172, 42, 45, 180, 0, 107, 42, 180, 0, 29, 180, 0, 127, 27, 46, 25, 4, 180, 0, 130, 42, 180, 0, 29, 180, 0, 133, 27, 46, 182, 0, 136, 54, 5, 21, 5, 16, 254, 160, 0, 6, 16, 254, 172, 42, 21, 5, 25, 4, 180, 0, 140, 184, 0, 143, 181, 0, 19, 42, 42, 45, 180, 0, 107, 25, 4, 180, 0, 130, 42, 180, 0, 15, 42, 180, 0, 19, 182, 0, 136, 181, 0, 22, 42, 180, 0, 22, 16, 254, 160, 0, 8, 16, 254, 167, 0, 12, 42, 180, 0, 22, 45, 180, 0, 149, 96, 172]
set_option maxRecDepth 100000 in
theorem bbX6_dayOfBringing : cX6_dayOfBringing.data.toList.map UInt8.toNat = bX6_dayOfBringing := by decide +kernel
set_option maxRecDepth 100000 in
def tX6_dayOfBringing : Lean.RArray dLf := .branch 99 (.branch 50 (.branch 21 (.branch 10 (.branch 7 (.branch 1 (.leaf (0, .aload_n 0, 1)) (.branch 4 (.leaf (1, .getfield 25, 3)) (.leaf (4, .getfield 88, 3)))) (.branch 8 (.leaf (7, .iload_n 1, 1)) (.branch 9 (.leaf (8, .aaload, 1)) (.leaf (9, .astore_n 3, 1))))) (.branch 17 (.branch 11 (.leaf (10, .aload_n 0, 1)) (.branch 14 (.leaf (11, .getfield 25, 3)) (.leaf (14, .getfield 92, 3)))) (.branch 18 (.leaf (17, .iload_n 2, 1)) (.branch 19 (.leaf (18, .aaload, 1)) (.leaf (19, .astore 4, 2)))))) (.branch 34 (.branch 26 (.branch 22 (.leaf (21, .aload_n 0, 1)) (.branch 25 (.leaf (22, .getfield 29, 3)) (.leaf (25, .iload_n 2, 1)))) (.branch 29 (.leaf (26, .invokevirtual 96, 3)) (.branch 32 (.leaf (29, .ifCond .ne 19, 3)) (.leaf (32, .aload 4, 2))))) (.branch 41 (.branch 37 (.leaf (34, .getfield 99, 3)) (.branch 40 (.leaf (37, .getstatic 104, 3)) (.leaf (40, .aload_n 3, 1)))) (.branch 45 (.branch 44 (.leaf (41, .getfield 107, 3)) (.leaf (44, .iaload, 1))) (.branch 48 (.leaf (45, .if_icmp .le 6, 3)) (.leaf (48, .bipush (-2), 2))))))) (.branch 70 (.branch 60 (.branch 53 (.branch 51 (.leaf (50, .ireturn, 1)) (.branch 52 (.leaf (51, .aload_n 0, 1)) (.leaf (52, .aload_n 0, 1)))) (.branch 56 (.leaf (53, .getfield 33, 3)) (.branch 57 (.leaf (56, .aload_n 0, 1)) (.leaf (57, .getfield 29, 3))))) (.branch 65 (.branch 63 (.leaf (60, .getfield 112, 3)) (.branch 64 (.leaf (63, .iload_n 2, 1)) (.leaf (64, .iaload, 1)))) (.branch 66 (.leaf (65, .aload_n 0, 1)) (.branch 69 (.leaf (66, .getfield 25, 3)) (.leaf (69, .iload_n 2, 1)))))) (.branch 86 (.branch 77 (.branch 73 (.leaf (70, .invokevirtual 115, 3)) (.branch 74 (.leaf (73, .aload_n 0, 1)) (.leaf (74, .getfield 29, 3)))) (.branch 80 (.leaf (77, .getfield 119, 3)) (.branch 83 (.leaf (80, .invokevirtual 122, 3)) (.leaf (83, .putfield 15, 3))))) (.branch 92 (.branch 87 (.leaf (86, .aload_n 0, 1)) (.branch 90 (.leaf (87, .getfield 15, 3)) (.leaf (90, .bipush (-2), 2)))) (.branch 97 (.branch 95 (.leaf (92, .if_icmp .ne 6, 3)) (.leaf (95, .bipush (-2), 2))) (.branch 98 (.leaf (97, .ireturn, 1)) (.leaf (98, .aload_n 0, 1)))))))) (.branch 149 (.branch 124 (.branch 111 (.branch 104 (.branch 100 (.leaf (99, .aload_n 3, 1)) (.branch 103 (.leaf (100, .getfield 107, 3)) (.leaf (103, .aload_n 0, 1)))) (.branch 107 (.leaf (104, .getfield 29, 3)) (.branch 110 (.leaf (107, .getfield 127, 3)) (.leaf (110, .iload_n 1, 1))))) (.branch 117 (.branch 112 (.leaf (111, .iaload, 1)) (.branch 114 (.leaf (112, .aload 4, 2)) (.leaf (114, .getfield 130, 3)))) (.branch 118 (.leaf (117, .aload_n 0, 1)) (.branch 121 (.leaf (118, .getfield 29, 3)) (.leaf (121, .getfield 133, 3)))))) (.branch 135 (.branch 129 (.branch 125 (.leaf (124, .iload_n 1, 1)) (.branch 126 (.leaf (125, .iaload, 1)) (.leaf (126, .invokevirtual 136, 3)))) (.branch 131 (.leaf (129, .istore 5, 2)) (.branch 133 (.leaf (131, .iload 5, 2)) (.leaf (133, .bipush (-2), 2))))) (.branch 141 (.branch 138 (.leaf (135, .if_icmp .ne 6, 3)) (.branch 140 (.leaf (138, .bipush (-2), 2)) (.leaf (140, .ireturn, 1)))) (.branch 144 (.branch 142 (.leaf (141, .aload_n 0, 1)) (.leaf (142, .iload 5, 2))) (.branch 146 (.leaf (144, .aload 4, 2)) (.leaf (146, .getfield 140, 3))))))) (.branch 177 (.branch 161 (.branch 156 (.branch 152 (.leaf (149, .invokestatic 143, 3)) (.branch 155 (.leaf (152, .putfield 19, 3)) (.leaf (155, .aload_n 0, 1)))) (.branch 157 (.leaf (156, .aload_n 0, 1)) (.branch 158 (.leaf (157, .aload_n 3, 1)) (.leaf (158, .getfield 107, 3))))) (.branch 167 (.branch 163 (.leaf (161, .aload 4, 2)) (.branch 166 (.leaf (163, .getfield 130, 3)) (.leaf (166, .aload_n 0, 1)))) (.branch 171 (.branch 170 (.leaf (167, .getfield 15, 3)) (.leaf (170, .aload_n 0, 1))) (.branch 174 (.leaf (171, .getfield 19, 3)) (.leaf (174, .invokevirtual 136, 3)))))) (.branch 191 (.branch 184 (.branch 180 (.leaf (177, .putfield 22, 3)) (.branch 181 (.leaf (180, .aload_n 0, 1)) (.leaf (181, .getfield 22, 3)))) (.branch 186 (.leaf (184, .bipush (-2), 2)) (.branch 189 (.leaf (186, .if_icmp .ne 8, 3)) (.leaf (189, .bipush (-2), 2))))) (.branch 198 (.branch 194 (.leaf (191, .goto 12, 3)) (.branch 195 (.leaf (194, .aload_n 0, 1)) (.leaf (195, .getfield 22, 3)))) (.branch 202 (.branch 199 (.leaf (198, .aload_n 3, 1)) (.leaf (199, .getfield 149, 3))) (.branch 203 (.leaf (202, .iadd, 1)) (.leaf (203, .ireturn, 1))))))))
noncomputable def oX6_dayOfBringing : List dLf := dFl tX6_dayOfBringing
theorem ofX6_dayOfBringing : dFl tX6_dayOfBringing = oX6_dayOfBringing := rfl
set_option maxRecDepth 100000 in
theorem odX6_dayOfBringing : ∀ q ∈ oX6_dayOfBringing, decode cX6_dayOfBringing q.1 = .ok (q.2.1, q.2.2) := q_go qT_ok bbX6_dayOfBringing oX6_dayOfBringing 0 (by decide +kernel)
theorem dX6_dayOfBringing_0 : decode cX6_dayOfBringing 0 = .ok (.aload_n 0, 1) := d_by (d_at odX6_dayOfBringing ofX6_dayOfBringing 0) rfl
theorem dX6_dayOfBringing_1 : decode cX6_dayOfBringing 1 = .ok (.getfield 25, 3) := d_by (d_at odX6_dayOfBringing ofX6_dayOfBringing 1) rfl
theorem dX6_dayOfBringing_4 : decode cX6_dayOfBringing 4 = .ok (.getfield 88, 3) := d_by (d_at odX6_dayOfBringing ofX6_dayOfBringing 4) rfl
theorem dX6_dayOfBringing_7 : decode cX6_dayOfBringing 7 = .ok (.iload_n 1, 1) := d_by (d_at odX6_dayOfBringing ofX6_dayOfBringing 7) rfl
theorem dX6_dayOfBringing_8 : decode cX6_dayOfBringing 8 = .ok (.aaload, 1) := d_by (d_at odX6_dayOfBringing ofX6_dayOfBringing 8) rfl
theorem dX6_dayOfBringing_9 : decode cX6_dayOfBringing 9 = .ok (.astore_n 3, 1) := d_by (d_at odX6_dayOfBringing ofX6_dayOfBringing 9) rfl
theorem dX6_dayOfBringing_10 : decode cX6_dayOfBringing 10 = .ok (.aload_n 0, 1) := d_by (d_at odX6_dayOfBringing ofX6_dayOfBringing 10) rfl
theorem dX6_dayOfBringing_11 : decode cX6_dayOfBringing 11 = .ok (.getfield 25, 3) := d_by (d_at odX6_dayOfBringing ofX6_dayOfBringing 11) rfl
theorem dX6_dayOfBringing_14 : decode cX6_dayOfBringing 14 = .ok (.getfield 92, 3) := d_by (d_at odX6_dayOfBringing ofX6_dayOfBringing 14) rfl
theorem dX6_dayOfBringing_17 : decode cX6_dayOfBringing 17 = .ok (.iload_n 2, 1) := d_by (d_at odX6_dayOfBringing ofX6_dayOfBringing 17) rfl
theorem dX6_dayOfBringing_18 : decode cX6_dayOfBringing 18 = .ok (.aaload, 1) := d_by (d_at odX6_dayOfBringing ofX6_dayOfBringing 18) rfl
theorem dX6_dayOfBringing_19 : decode cX6_dayOfBringing 19 = .ok (.astore 4, 2) := d_by (d_at odX6_dayOfBringing ofX6_dayOfBringing 19) rfl
theorem dX6_dayOfBringing_21 : decode cX6_dayOfBringing 21 = .ok (.aload_n 0, 1) := d_by (d_at odX6_dayOfBringing ofX6_dayOfBringing 21) rfl
theorem dX6_dayOfBringing_22 : decode cX6_dayOfBringing 22 = .ok (.getfield 29, 3) := d_by (d_at odX6_dayOfBringing ofX6_dayOfBringing 22) rfl
theorem dX6_dayOfBringing_25 : decode cX6_dayOfBringing 25 = .ok (.iload_n 2, 1) := d_by (d_at odX6_dayOfBringing ofX6_dayOfBringing 25) rfl
theorem dX6_dayOfBringing_26 : decode cX6_dayOfBringing 26 = .ok (.invokevirtual 96, 3) := d_by (d_at odX6_dayOfBringing ofX6_dayOfBringing 26) rfl
theorem dX6_dayOfBringing_29 : decode cX6_dayOfBringing 29 = .ok (.ifCond .ne 19, 3) := d_by (d_at odX6_dayOfBringing ofX6_dayOfBringing 29) rfl
theorem dX6_dayOfBringing_32 : decode cX6_dayOfBringing 32 = .ok (.aload 4, 2) := d_by (d_at odX6_dayOfBringing ofX6_dayOfBringing 32) rfl
theorem dX6_dayOfBringing_34 : decode cX6_dayOfBringing 34 = .ok (.getfield 99, 3) := d_by (d_at odX6_dayOfBringing ofX6_dayOfBringing 34) rfl
theorem dX6_dayOfBringing_37 : decode cX6_dayOfBringing 37 = .ok (.getstatic 104, 3) := d_by (d_at odX6_dayOfBringing ofX6_dayOfBringing 37) rfl
theorem dX6_dayOfBringing_40 : decode cX6_dayOfBringing 40 = .ok (.aload_n 3, 1) := d_by (d_at odX6_dayOfBringing ofX6_dayOfBringing 40) rfl
theorem dX6_dayOfBringing_41 : decode cX6_dayOfBringing 41 = .ok (.getfield 107, 3) := d_by (d_at odX6_dayOfBringing ofX6_dayOfBringing 41) rfl
theorem dX6_dayOfBringing_44 : decode cX6_dayOfBringing 44 = .ok (.iaload, 1) := d_by (d_at odX6_dayOfBringing ofX6_dayOfBringing 44) rfl
theorem dX6_dayOfBringing_45 : decode cX6_dayOfBringing 45 = .ok (.if_icmp .le 6, 3) := d_by (d_at odX6_dayOfBringing ofX6_dayOfBringing 45) rfl
theorem dX6_dayOfBringing_48 : decode cX6_dayOfBringing 48 = .ok (.bipush (-2), 2) := d_by (d_at odX6_dayOfBringing ofX6_dayOfBringing 48) rfl
theorem dX6_dayOfBringing_50 : decode cX6_dayOfBringing 50 = .ok (.ireturn, 1) := d_by (d_at odX6_dayOfBringing ofX6_dayOfBringing 50) rfl
theorem dX6_dayOfBringing_51 : decode cX6_dayOfBringing 51 = .ok (.aload_n 0, 1) := d_by (d_at odX6_dayOfBringing ofX6_dayOfBringing 51) rfl
theorem dX6_dayOfBringing_52 : decode cX6_dayOfBringing 52 = .ok (.aload_n 0, 1) := d_by (d_at odX6_dayOfBringing ofX6_dayOfBringing 52) rfl
theorem dX6_dayOfBringing_53 : decode cX6_dayOfBringing 53 = .ok (.getfield 33, 3) := d_by (d_at odX6_dayOfBringing ofX6_dayOfBringing 53) rfl
theorem dX6_dayOfBringing_56 : decode cX6_dayOfBringing 56 = .ok (.aload_n 0, 1) := d_by (d_at odX6_dayOfBringing ofX6_dayOfBringing 56) rfl
theorem dX6_dayOfBringing_57 : decode cX6_dayOfBringing 57 = .ok (.getfield 29, 3) := d_by (d_at odX6_dayOfBringing ofX6_dayOfBringing 57) rfl
theorem dX6_dayOfBringing_60 : decode cX6_dayOfBringing 60 = .ok (.getfield 112, 3) := d_by (d_at odX6_dayOfBringing ofX6_dayOfBringing 60) rfl
theorem dX6_dayOfBringing_63 : decode cX6_dayOfBringing 63 = .ok (.iload_n 2, 1) := d_by (d_at odX6_dayOfBringing ofX6_dayOfBringing 63) rfl
theorem dX6_dayOfBringing_64 : decode cX6_dayOfBringing 64 = .ok (.iaload, 1) := d_by (d_at odX6_dayOfBringing ofX6_dayOfBringing 64) rfl
theorem dX6_dayOfBringing_65 : decode cX6_dayOfBringing 65 = .ok (.aload_n 0, 1) := d_by (d_at odX6_dayOfBringing ofX6_dayOfBringing 65) rfl
theorem dX6_dayOfBringing_66 : decode cX6_dayOfBringing 66 = .ok (.getfield 25, 3) := d_by (d_at odX6_dayOfBringing ofX6_dayOfBringing 66) rfl
theorem dX6_dayOfBringing_69 : decode cX6_dayOfBringing 69 = .ok (.iload_n 2, 1) := d_by (d_at odX6_dayOfBringing ofX6_dayOfBringing 69) rfl
theorem dX6_dayOfBringing_70 : decode cX6_dayOfBringing 70 = .ok (.invokevirtual 115, 3) := d_by (d_at odX6_dayOfBringing ofX6_dayOfBringing 70) rfl
theorem dX6_dayOfBringing_73 : decode cX6_dayOfBringing 73 = .ok (.aload_n 0, 1) := d_by (d_at odX6_dayOfBringing ofX6_dayOfBringing 73) rfl
theorem dX6_dayOfBringing_74 : decode cX6_dayOfBringing 74 = .ok (.getfield 29, 3) := d_by (d_at odX6_dayOfBringing ofX6_dayOfBringing 74) rfl
theorem dX6_dayOfBringing_77 : decode cX6_dayOfBringing 77 = .ok (.getfield 119, 3) := d_by (d_at odX6_dayOfBringing ofX6_dayOfBringing 77) rfl
theorem dX6_dayOfBringing_80 : decode cX6_dayOfBringing 80 = .ok (.invokevirtual 122, 3) := d_by (d_at odX6_dayOfBringing ofX6_dayOfBringing 80) rfl
theorem dX6_dayOfBringing_83 : decode cX6_dayOfBringing 83 = .ok (.putfield 15, 3) := d_by (d_at odX6_dayOfBringing ofX6_dayOfBringing 83) rfl
theorem dX6_dayOfBringing_86 : decode cX6_dayOfBringing 86 = .ok (.aload_n 0, 1) := d_by (d_at odX6_dayOfBringing ofX6_dayOfBringing 86) rfl
theorem dX6_dayOfBringing_87 : decode cX6_dayOfBringing 87 = .ok (.getfield 15, 3) := d_by (d_at odX6_dayOfBringing ofX6_dayOfBringing 87) rfl
theorem dX6_dayOfBringing_90 : decode cX6_dayOfBringing 90 = .ok (.bipush (-2), 2) := d_by (d_at odX6_dayOfBringing ofX6_dayOfBringing 90) rfl
theorem dX6_dayOfBringing_92 : decode cX6_dayOfBringing 92 = .ok (.if_icmp .ne 6, 3) := d_by (d_at odX6_dayOfBringing ofX6_dayOfBringing 92) rfl
theorem dX6_dayOfBringing_95 : decode cX6_dayOfBringing 95 = .ok (.bipush (-2), 2) := d_by (d_at odX6_dayOfBringing ofX6_dayOfBringing 95) rfl
theorem dX6_dayOfBringing_97 : decode cX6_dayOfBringing 97 = .ok (.ireturn, 1) := d_by (d_at odX6_dayOfBringing ofX6_dayOfBringing 97) rfl
theorem dX6_dayOfBringing_98 : decode cX6_dayOfBringing 98 = .ok (.aload_n 0, 1) := d_by (d_at odX6_dayOfBringing ofX6_dayOfBringing 98) rfl
theorem dX6_dayOfBringing_99 : decode cX6_dayOfBringing 99 = .ok (.aload_n 3, 1) := d_by (d_at odX6_dayOfBringing ofX6_dayOfBringing 99) rfl
theorem dX6_dayOfBringing_100 : decode cX6_dayOfBringing 100 = .ok (.getfield 107, 3) := d_by (d_at odX6_dayOfBringing ofX6_dayOfBringing 100) rfl
theorem dX6_dayOfBringing_103 : decode cX6_dayOfBringing 103 = .ok (.aload_n 0, 1) := d_by (d_at odX6_dayOfBringing ofX6_dayOfBringing 103) rfl
theorem dX6_dayOfBringing_104 : decode cX6_dayOfBringing 104 = .ok (.getfield 29, 3) := d_by (d_at odX6_dayOfBringing ofX6_dayOfBringing 104) rfl
theorem dX6_dayOfBringing_107 : decode cX6_dayOfBringing 107 = .ok (.getfield 127, 3) := d_by (d_at odX6_dayOfBringing ofX6_dayOfBringing 107) rfl
theorem dX6_dayOfBringing_110 : decode cX6_dayOfBringing 110 = .ok (.iload_n 1, 1) := d_by (d_at odX6_dayOfBringing ofX6_dayOfBringing 110) rfl
theorem dX6_dayOfBringing_111 : decode cX6_dayOfBringing 111 = .ok (.iaload, 1) := d_by (d_at odX6_dayOfBringing ofX6_dayOfBringing 111) rfl
theorem dX6_dayOfBringing_112 : decode cX6_dayOfBringing 112 = .ok (.aload 4, 2) := d_by (d_at odX6_dayOfBringing ofX6_dayOfBringing 112) rfl
theorem dX6_dayOfBringing_114 : decode cX6_dayOfBringing 114 = .ok (.getfield 130, 3) := d_by (d_at odX6_dayOfBringing ofX6_dayOfBringing 114) rfl
theorem dX6_dayOfBringing_117 : decode cX6_dayOfBringing 117 = .ok (.aload_n 0, 1) := d_by (d_at odX6_dayOfBringing ofX6_dayOfBringing 117) rfl
theorem dX6_dayOfBringing_118 : decode cX6_dayOfBringing 118 = .ok (.getfield 29, 3) := d_by (d_at odX6_dayOfBringing ofX6_dayOfBringing 118) rfl
theorem dX6_dayOfBringing_121 : decode cX6_dayOfBringing 121 = .ok (.getfield 133, 3) := d_by (d_at odX6_dayOfBringing ofX6_dayOfBringing 121) rfl
theorem dX6_dayOfBringing_124 : decode cX6_dayOfBringing 124 = .ok (.iload_n 1, 1) := d_by (d_at odX6_dayOfBringing ofX6_dayOfBringing 124) rfl
theorem dX6_dayOfBringing_125 : decode cX6_dayOfBringing 125 = .ok (.iaload, 1) := d_by (d_at odX6_dayOfBringing ofX6_dayOfBringing 125) rfl
theorem dX6_dayOfBringing_126 : decode cX6_dayOfBringing 126 = .ok (.invokevirtual 136, 3) := d_by (d_at odX6_dayOfBringing ofX6_dayOfBringing 126) rfl
theorem dX6_dayOfBringing_129 : decode cX6_dayOfBringing 129 = .ok (.istore 5, 2) := d_by (d_at odX6_dayOfBringing ofX6_dayOfBringing 129) rfl
theorem dX6_dayOfBringing_131 : decode cX6_dayOfBringing 131 = .ok (.iload 5, 2) := d_by (d_at odX6_dayOfBringing ofX6_dayOfBringing 131) rfl
theorem dX6_dayOfBringing_133 : decode cX6_dayOfBringing 133 = .ok (.bipush (-2), 2) := d_by (d_at odX6_dayOfBringing ofX6_dayOfBringing 133) rfl
theorem dX6_dayOfBringing_135 : decode cX6_dayOfBringing 135 = .ok (.if_icmp .ne 6, 3) := d_by (d_at odX6_dayOfBringing ofX6_dayOfBringing 135) rfl
theorem dX6_dayOfBringing_138 : decode cX6_dayOfBringing 138 = .ok (.bipush (-2), 2) := d_by (d_at odX6_dayOfBringing ofX6_dayOfBringing 138) rfl
theorem dX6_dayOfBringing_140 : decode cX6_dayOfBringing 140 = .ok (.ireturn, 1) := d_by (d_at odX6_dayOfBringing ofX6_dayOfBringing 140) rfl
theorem dX6_dayOfBringing_141 : decode cX6_dayOfBringing 141 = .ok (.aload_n 0, 1) := d_by (d_at odX6_dayOfBringing ofX6_dayOfBringing 141) rfl
theorem dX6_dayOfBringing_142 : decode cX6_dayOfBringing 142 = .ok (.iload 5, 2) := d_by (d_at odX6_dayOfBringing ofX6_dayOfBringing 142) rfl
theorem dX6_dayOfBringing_144 : decode cX6_dayOfBringing 144 = .ok (.aload 4, 2) := d_by (d_at odX6_dayOfBringing ofX6_dayOfBringing 144) rfl
theorem dX6_dayOfBringing_146 : decode cX6_dayOfBringing 146 = .ok (.getfield 140, 3) := d_by (d_at odX6_dayOfBringing ofX6_dayOfBringing 146) rfl
theorem dX6_dayOfBringing_149 : decode cX6_dayOfBringing 149 = .ok (.invokestatic 143, 3) := d_by (d_at odX6_dayOfBringing ofX6_dayOfBringing 149) rfl
theorem dX6_dayOfBringing_152 : decode cX6_dayOfBringing 152 = .ok (.putfield 19, 3) := d_by (d_at odX6_dayOfBringing ofX6_dayOfBringing 152) rfl
theorem dX6_dayOfBringing_155 : decode cX6_dayOfBringing 155 = .ok (.aload_n 0, 1) := d_by (d_at odX6_dayOfBringing ofX6_dayOfBringing 155) rfl
theorem dX6_dayOfBringing_156 : decode cX6_dayOfBringing 156 = .ok (.aload_n 0, 1) := d_by (d_at odX6_dayOfBringing ofX6_dayOfBringing 156) rfl
theorem dX6_dayOfBringing_157 : decode cX6_dayOfBringing 157 = .ok (.aload_n 3, 1) := d_by (d_at odX6_dayOfBringing ofX6_dayOfBringing 157) rfl
theorem dX6_dayOfBringing_158 : decode cX6_dayOfBringing 158 = .ok (.getfield 107, 3) := d_by (d_at odX6_dayOfBringing ofX6_dayOfBringing 158) rfl
theorem dX6_dayOfBringing_161 : decode cX6_dayOfBringing 161 = .ok (.aload 4, 2) := d_by (d_at odX6_dayOfBringing ofX6_dayOfBringing 161) rfl
theorem dX6_dayOfBringing_163 : decode cX6_dayOfBringing 163 = .ok (.getfield 130, 3) := d_by (d_at odX6_dayOfBringing ofX6_dayOfBringing 163) rfl
theorem dX6_dayOfBringing_166 : decode cX6_dayOfBringing 166 = .ok (.aload_n 0, 1) := d_by (d_at odX6_dayOfBringing ofX6_dayOfBringing 166) rfl
theorem dX6_dayOfBringing_167 : decode cX6_dayOfBringing 167 = .ok (.getfield 15, 3) := d_by (d_at odX6_dayOfBringing ofX6_dayOfBringing 167) rfl
theorem dX6_dayOfBringing_170 : decode cX6_dayOfBringing 170 = .ok (.aload_n 0, 1) := d_by (d_at odX6_dayOfBringing ofX6_dayOfBringing 170) rfl
theorem dX6_dayOfBringing_171 : decode cX6_dayOfBringing 171 = .ok (.getfield 19, 3) := d_by (d_at odX6_dayOfBringing ofX6_dayOfBringing 171) rfl
theorem dX6_dayOfBringing_174 : decode cX6_dayOfBringing 174 = .ok (.invokevirtual 136, 3) := d_by (d_at odX6_dayOfBringing ofX6_dayOfBringing 174) rfl
theorem dX6_dayOfBringing_177 : decode cX6_dayOfBringing 177 = .ok (.putfield 22, 3) := d_by (d_at odX6_dayOfBringing ofX6_dayOfBringing 177) rfl
theorem dX6_dayOfBringing_180 : decode cX6_dayOfBringing 180 = .ok (.aload_n 0, 1) := d_by (d_at odX6_dayOfBringing ofX6_dayOfBringing 180) rfl
theorem dX6_dayOfBringing_181 : decode cX6_dayOfBringing 181 = .ok (.getfield 22, 3) := d_by (d_at odX6_dayOfBringing ofX6_dayOfBringing 181) rfl
theorem dX6_dayOfBringing_184 : decode cX6_dayOfBringing 184 = .ok (.bipush (-2), 2) := d_by (d_at odX6_dayOfBringing ofX6_dayOfBringing 184) rfl
theorem dX6_dayOfBringing_186 : decode cX6_dayOfBringing 186 = .ok (.if_icmp .ne 8, 3) := d_by (d_at odX6_dayOfBringing ofX6_dayOfBringing 186) rfl
theorem dX6_dayOfBringing_189 : decode cX6_dayOfBringing 189 = .ok (.bipush (-2), 2) := d_by (d_at odX6_dayOfBringing ofX6_dayOfBringing 189) rfl
theorem dX6_dayOfBringing_191 : decode cX6_dayOfBringing 191 = .ok (.goto 12, 3) := d_by (d_at odX6_dayOfBringing ofX6_dayOfBringing 191) rfl
theorem dX6_dayOfBringing_194 : decode cX6_dayOfBringing 194 = .ok (.aload_n 0, 1) := d_by (d_at odX6_dayOfBringing ofX6_dayOfBringing 194) rfl
theorem dX6_dayOfBringing_195 : decode cX6_dayOfBringing 195 = .ok (.getfield 22, 3) := d_by (d_at odX6_dayOfBringing ofX6_dayOfBringing 195) rfl
theorem dX6_dayOfBringing_198 : decode cX6_dayOfBringing 198 = .ok (.aload_n 3, 1) := d_by (d_at odX6_dayOfBringing ofX6_dayOfBringing 198) rfl
theorem dX6_dayOfBringing_199 : decode cX6_dayOfBringing 199 = .ok (.getfield 149, 3) := d_by (d_at odX6_dayOfBringing ofX6_dayOfBringing 199) rfl
theorem dX6_dayOfBringing_202 : decode cX6_dayOfBringing 202 = .ok (.iadd, 1) := d_by (d_at odX6_dayOfBringing ofX6_dayOfBringing 202) rfl
theorem dX6_dayOfBringing_203 : decode cX6_dayOfBringing 203 = .ok (.ireturn, 1) := d_by (d_at odX6_dayOfBringing ofX6_dayOfBringing 203) rfl
set_option maxRecDepth 100000 in
def bX6_soonestBringer : List Nat := [16, 254, 61, 3, 62, 3, 54, 4, 21, 4, 42, 180, 0, 25, 180, 0, 152, 162, 0, 43, 42, 21, 4, 27, 182, 0, 155, 54, 5, 21, 5, 16, 254, 159, 0, 21, 28, 16, 254, 159, 0, 9, 21, 5, 29, 162, 0, 9, 21, 4, 61, 21, 5, 62, 132, 4, 1, 167, 255, 207, 28, 172]
set_option maxRecDepth 100000 in
theorem bbX6_soonestBringer : cX6_soonestBringer.data.toList.map UInt8.toNat = bX6_soonestBringer := by decide +kernel
set_option maxRecDepth 100000 in
def tX6_soonestBringer : Lean.RArray dLf := .branch 29 (.branch 11 (.branch 5 (.branch 3 (.branch 2 (.leaf (0, .bipush (-2), 2)) (.leaf (2, .istore_n 2, 1))) (.branch 4 (.leaf (3, .iconst 0, 1)) (.leaf (4, .istore_n 3, 1)))) (.branch 8 (.branch 6 (.leaf (5, .iconst 0, 1)) (.leaf (6, .istore 4, 2))) (.branch 10 (.leaf (8, .iload 4, 2)) (.leaf (10, .aload_n 0, 1))))) (.branch 21 (.branch 17 (.branch 14 (.leaf (11, .getfield 25, 3)) (.leaf (14, .getfield 152, 3))) (.branch 20 (.leaf (17, .if_icmp .ge 43, 3)) (.leaf (20, .aload_n 0, 1)))) (.branch 24 (.branch 23 (.leaf (21, .iload 4, 2)) (.leaf (23, .iload_n 1, 1))) (.branch 27 (.leaf (24, .invokevirtual 155, 3)) (.leaf (27, .istore 5, 2)))))) (.branch 45 (.branch 37 (.branch 33 (.branch 31 (.leaf (29, .iload 5, 2)) (.leaf (31, .bipush (-2), 2))) (.branch 36 (.leaf (33, .if_icmp .eq 21, 3)) (.leaf (36, .iload_n 2, 1)))) (.branch 42 (.branch 39 (.leaf (37, .bipush (-2), 2)) (.leaf (39, .if_icmp .eq 9, 3))) (.branch 44 (.leaf (42, .iload 5, 2)) (.leaf (44, .iload_n 3, 1))))) (.branch 53 (.branch 50 (.branch 48 (.leaf (45, .if_icmp .ge 9, 3)) (.leaf (48, .iload 4, 2))) (.branch 51 (.leaf (50, .istore_n 2, 1)) (.leaf (51, .iload 5, 2)))) (.branch 57 (.branch 54 (.leaf (53, .istore_n 3, 1)) (.leaf (54, .iinc 4 1, 3))) (.branch 60 (.leaf (57, .goto (-49), 3)) (.branch 61 (.leaf (60, .iload_n 2, 1)) (.leaf (61, .ireturn, 1)))))))
noncomputable def oX6_soonestBringer : List dLf := dFl tX6_soonestBringer
theorem ofX6_soonestBringer : dFl tX6_soonestBringer = oX6_soonestBringer := rfl
set_option maxRecDepth 100000 in
theorem odX6_soonestBringer : ∀ q ∈ oX6_soonestBringer, decode cX6_soonestBringer q.1 = .ok (q.2.1, q.2.2) := q_go qT_ok bbX6_soonestBringer oX6_soonestBringer 0 (by decide +kernel)
set_option maxRecDepth 100000 in
def bX6_surestBringer : List Nat := [16, 254, 62, 3, 54, 4, 21, 4, 42, 180, 0, 25, 180, 0, 152, 162, 0, 76, 29, 16, 254, 159, 0, 31, 42, 180, 0, 25, 180, 0, 88, 21, 4, 50, 180, 0, 158, 42, 180, 0, 25, 180, 0, 88, 29, 50, 180, 0, 158, 162, 0, 7, 4, 167, 0, 4, 3, 54, 5, 21, 4, 28, 159, 0, 23, 21, 5, 153, 0, 18, 42, 21, 4, 27, 182, 0, 155, 16, 254, 159, 0, 6, 21, 4, 62, 132, 4, 1, 167, 255, 174, 29, 172]
set_option maxRecDepth 100000 in
theorem bbX6_surestBringer : cX6_surestBringer.data.toList.map UInt8.toNat = bX6_surestBringer := by decide +kernel
set_option maxRecDepth 100000 in
def tX6_surestBringer : Lean.RArray dLf := .branch 46 (.branch 21 (.branch 8 (.branch 3 (.branch 2 (.leaf (0, .bipush (-2), 2)) (.leaf (2, .istore_n 3, 1))) (.branch 4 (.leaf (3, .iconst 0, 1)) (.branch 6 (.leaf (4, .istore 4, 2)) (.leaf (6, .iload 4, 2))))) (.branch 15 (.branch 9 (.leaf (8, .aload_n 0, 1)) (.branch 12 (.leaf (9, .getfield 25, 3)) (.leaf (12, .getfield 152, 3)))) (.branch 18 (.leaf (15, .if_icmp .ge 76, 3)) (.branch 19 (.leaf (18, .iload_n 3, 1)) (.leaf (19, .bipush (-2), 2)))))) (.branch 34 (.branch 28 (.branch 24 (.leaf (21, .if_icmp .eq 31, 3)) (.branch 25 (.leaf (24, .aload_n 0, 1)) (.leaf (25, .getfield 25, 3)))) (.branch 31 (.leaf (28, .getfield 88, 3)) (.branch 33 (.leaf (31, .iload 4, 2)) (.leaf (33, .aaload, 1))))) (.branch 41 (.branch 37 (.leaf (34, .getfield 158, 3)) (.branch 38 (.leaf (37, .aload_n 0, 1)) (.leaf (38, .getfield 25, 3)))) (.branch 44 (.leaf (41, .getfield 88, 3)) (.branch 45 (.leaf (44, .iload_n 3, 1)) (.leaf (45, .aaload, 1))))))) (.branch 70 (.branch 57 (.branch 52 (.branch 49 (.leaf (46, .getfield 158, 3)) (.leaf (49, .if_icmp .ge 7, 3))) (.branch 53 (.leaf (52, .iconst 1, 1)) (.branch 56 (.leaf (53, .goto 4, 3)) (.leaf (56, .iconst 0, 1))))) (.branch 62 (.branch 59 (.leaf (57, .istore 5, 2)) (.branch 61 (.leaf (59, .iload 4, 2)) (.leaf (61, .iload_n 2, 1)))) (.branch 65 (.leaf (62, .if_icmp .eq 23, 3)) (.branch 67 (.leaf (65, .iload 5, 2)) (.leaf (67, .ifCond .eq 18, 3)))))) (.branch 82 (.branch 74 (.branch 71 (.leaf (70, .aload_n 0, 1)) (.branch 73 (.leaf (71, .iload 4, 2)) (.leaf (73, .iload_n 1, 1)))) (.branch 77 (.leaf (74, .invokevirtual 155, 3)) (.branch 79 (.leaf (77, .bipush (-2), 2)) (.leaf (79, .if_icmp .eq 6, 3))))) (.branch 88 (.branch 84 (.leaf (82, .iload 4, 2)) (.branch 85 (.leaf (84, .istore_n 3, 1)) (.leaf (85, .iinc 4 1, 3)))) (.branch 91 (.leaf (88, .goto (-82), 3)) (.branch 92 (.leaf (91, .iload_n 3, 1)) (.leaf (92, .ireturn, 1)))))))
noncomputable def oX6_surestBringer : List dLf := dFl tX6_surestBringer
theorem ofX6_surestBringer : dFl tX6_surestBringer = oX6_surestBringer := rfl
set_option maxRecDepth 100000 in
theorem odX6_surestBringer : ∀ q ∈ oX6_surestBringer, decode cX6_surestBringer q.1 = .ok (q.2.1, q.2.2) := q_go qT_ok bbX6_surestBringer oX6_surestBringer 0 (by decide +kernel)
set_option maxRecDepth 100000 in
def bX6_bringersBy : List Nat := [3, 62, 3, 54, 4, 21, 4, 42, 180, 0, 25, 180, 0, 152, 162, 0, 38, 42, 21, 4, 27, 182, 0, 155, 54, 5, 21, 5, 16, 254, 159, 0, 16, 21, 5, 28, 163, 0, 10, 29, 4, 21, 4, 120, 128, 62, 132, 4, 1, 167, 255, 212, 29, 172]
set_option maxRecDepth 100000 in
theorem bbX6_bringersBy : cX6_bringersBy.data.toList.map UInt8.toNat = bX6_bringersBy := by decide +kernel
set_option maxRecDepth 100000 in
def tX6_bringersBy : Lean.RArray dLf := .branch 28 (.branch 11 (.branch 3 (.branch 1 (.leaf (0, .iconst 0, 1)) (.branch 2 (.leaf (1, .istore_n 3, 1)) (.leaf (2, .iconst 0, 1)))) (.branch 7 (.branch 5 (.leaf (3, .istore 4, 2)) (.leaf (5, .iload 4, 2))) (.branch 8 (.leaf (7, .aload_n 0, 1)) (.leaf (8, .getfield 25, 3))))) (.branch 20 (.branch 17 (.branch 14 (.leaf (11, .getfield 152, 3)) (.leaf (14, .if_icmp .ge 38, 3))) (.branch 18 (.leaf (17, .aload_n 0, 1)) (.leaf (18, .iload 4, 2)))) (.branch 24 (.branch 21 (.leaf (20, .iload_n 1, 1)) (.leaf (21, .invokevirtual 155, 3))) (.branch 26 (.leaf (24, .istore 5, 2)) (.leaf (26, .iload 5, 2)))))) (.branch 41 (.branch 35 (.branch 30 (.leaf (28, .bipush (-2), 2)) (.branch 33 (.leaf (30, .if_icmp .eq 16, 3)) (.leaf (33, .iload 5, 2)))) (.branch 39 (.branch 36 (.leaf (35, .iload_n 2, 1)) (.leaf (36, .if_icmp .gt 10, 3))) (.branch 40 (.leaf (39, .iload_n 3, 1)) (.leaf (40, .iconst 1, 1))))) (.branch 46 (.branch 44 (.branch 43 (.leaf (41, .iload 4, 2)) (.leaf (43, .ishl, 1))) (.branch 45 (.leaf (44, .ior, 1)) (.leaf (45, .istore_n 3, 1)))) (.branch 52 (.branch 49 (.leaf (46, .iinc 4 1, 3)) (.leaf (49, .goto (-44), 3))) (.branch 53 (.leaf (52, .iload_n 3, 1)) (.leaf (53, .ireturn, 1))))))
noncomputable def oX6_bringersBy : List dLf := dFl tX6_bringersBy
theorem ofX6_bringersBy : dFl tX6_bringersBy = oX6_bringersBy := rfl
set_option maxRecDepth 100000 in
theorem odX6_bringersBy : ∀ q ∈ oX6_bringersBy, decode cX6_bringersBy q.1 = .ok (q.2.1, q.2.2) := q_go qT_ok bbX6_bringersBy oX6_bringersBy 0 (by decide +kernel)
set_option maxRecDepth 100000 in
def bX6_dayOfMeeting : List Nat := [42, 28, 27, 182, 0, 155, 16, 254, 159, 0, 22, 42, 180, 0, 15, 42, 180, 0, 25, 180, 0, 92, 29, 50, 180, 0, 130, 159, 0, 6, 16, 254, 172, 42, 180, 0, 19, 54, 5, 42, 180, 0, 22, 54, 6, 42, 21, 4, 29, 182, 0, 155, 16, 254, 159, 0, 22, 42, 180, 0, 15, 42, 180, 0, 25, 180, 0, 92, 27, 50, 180, 0, 130, 159, 0, 6, 16, 254, 172, 21, 5, 42, 180, 0, 19, 184, 0, 143, 54, 7, 21, 7, 21, 6, 42, 180, 0, 22, 184, 0, 161, 162, 0, 8, 21, 7, 167, 0, 5, 16, 254, 172]
set_option maxRecDepth 100000 in
theorem bbX6_dayOfMeeting : cX6_dayOfMeeting.data.toList.map UInt8.toNat = bX6_dayOfMeeting := by decide +kernel
set_option maxRecDepth 100000 in
def tX6_dayOfMeeting : Lean.RArray dLf := .branch 52 (.branch 24 (.branch 11 (.branch 3 (.branch 1 (.leaf (0, .aload_n 0, 1)) (.branch 2 (.leaf (1, .iload_n 2, 1)) (.leaf (2, .iload_n 1, 1)))) (.branch 6 (.leaf (3, .invokevirtual 155, 3)) (.branch 8 (.leaf (6, .bipush (-2), 2)) (.leaf (8, .if_icmp .eq 22, 3))))) (.branch 16 (.branch 12 (.leaf (11, .aload_n 0, 1)) (.branch 15 (.leaf (12, .getfield 15, 3)) (.leaf (15, .aload_n 0, 1)))) (.branch 22 (.branch 19 (.leaf (16, .getfield 25, 3)) (.leaf (19, .getfield 92, 3))) (.branch 23 (.leaf (22, .iload_n 3, 1)) (.leaf (23, .aaload, 1)))))) (.branch 39 (.branch 32 (.branch 27 (.leaf (24, .getfield 130, 3)) (.branch 30 (.leaf (27, .if_icmp .eq 6, 3)) (.leaf (30, .bipush (-2), 2)))) (.branch 34 (.branch 33 (.leaf (32, .ireturn, 1)) (.leaf (33, .aload_n 0, 1))) (.branch 37 (.leaf (34, .getfield 19, 3)) (.leaf (37, .istore 5, 2))))) (.branch 45 (.branch 40 (.leaf (39, .aload_n 0, 1)) (.branch 43 (.leaf (40, .getfield 22, 3)) (.leaf (43, .istore 6, 2)))) (.branch 48 (.branch 46 (.leaf (45, .aload_n 0, 1)) (.leaf (46, .iload 4, 2))) (.branch 49 (.leaf (48, .iload_n 3, 1)) (.leaf (49, .invokevirtual 155, 3))))))) (.branch 81 (.branch 68 (.branch 58 (.branch 54 (.leaf (52, .bipush (-2), 2)) (.branch 57 (.leaf (54, .if_icmp .eq 22, 3)) (.leaf (57, .aload_n 0, 1)))) (.branch 62 (.branch 61 (.leaf (58, .getfield 15, 3)) (.leaf (61, .aload_n 0, 1))) (.branch 65 (.leaf (62, .getfield 25, 3)) (.leaf (65, .getfield 92, 3))))) (.branch 73 (.branch 69 (.leaf (68, .iload_n 1, 1)) (.branch 70 (.leaf (69, .aaload, 1)) (.leaf (70, .getfield 130, 3)))) (.branch 78 (.branch 76 (.leaf (73, .if_icmp .eq 6, 3)) (.leaf (76, .bipush (-2), 2))) (.branch 79 (.leaf (78, .ireturn, 1)) (.leaf (79, .iload 5, 2)))))) (.branch 95 (.branch 88 (.branch 82 (.leaf (81, .aload_n 0, 1)) (.branch 85 (.leaf (82, .getfield 19, 3)) (.leaf (85, .invokestatic 143, 3)))) (.branch 92 (.branch 90 (.leaf (88, .istore 7, 2)) (.leaf (90, .iload 7, 2))) (.branch 94 (.leaf (92, .iload 6, 2)) (.leaf (94, .aload_n 0, 1))))) (.branch 104 (.branch 98 (.leaf (95, .getfield 22, 3)) (.branch 101 (.leaf (98, .invokestatic 161, 3)) (.leaf (101, .if_icmp .ge 8, 3)))) (.branch 109 (.branch 106 (.leaf (104, .iload 7, 2)) (.leaf (106, .goto 5, 3))) (.branch 111 (.leaf (109, .bipush (-2), 2)) (.leaf (111, .ireturn, 1)))))))
noncomputable def oX6_dayOfMeeting : List dLf := dFl tX6_dayOfMeeting
theorem ofX6_dayOfMeeting : dFl tX6_dayOfMeeting = oX6_dayOfMeeting := rfl
set_option maxRecDepth 100000 in
theorem odX6_dayOfMeeting : ∀ q ∈ oX6_dayOfMeeting, decode cX6_dayOfMeeting q.1 = .ok (q.2.1, q.2.2) := q_go qT_ok bbX6_dayOfMeeting oX6_dayOfMeeting 0 (by decide +kernel)
