set_option maxRecDepth 100000 in
def bJ3_checkIndex_8e157 : List Nat := [26, 155, 0, 8, 26, 27, 161, 0, 10, 44, 26, 27, 184, 0, 95, 191, 26, 172]
set_option maxRecDepth 100000 in
theorem bbJ3_checkIndex_8e157 : cJ3_checkIndex_8e157.data.toList.map UInt8.toNat = bJ3_checkIndex_8e157 := by decide +kernel
set_option maxRecDepth 100000 in
def tJ3_checkIndex_8e157 : Lean.RArray dLf := .branch 10 (.branch 5 (.branch 1 (.leaf (0, .iload_n 0, 1)) (.branch 4 (.leaf (1, .ifCond .lt 8, 3)) (.leaf (4, .iload_n 0, 1)))) (.branch 6 (.leaf (5, .iload_n 1, 1)) (.branch 9 (.leaf (6, .if_icmp .lt 10, 3)) (.leaf (9, .aload_n 2, 1))))) (.branch 15 (.branch 11 (.leaf (10, .iload_n 0, 1)) (.branch 12 (.leaf (11, .iload_n 1, 1)) (.leaf (12, .invokestatic 95, 3)))) (.branch 16 (.leaf (15, .athrow, 1)) (.branch 17 (.leaf (16, .iload_n 0, 1)) (.leaf (17, .ireturn, 1)))))
noncomputable def oJ3_checkIndex_8e157 : List dLf := dFl tJ3_checkIndex_8e157
theorem ofJ3_checkIndex_8e157 : dFl tJ3_checkIndex_8e157 = oJ3_checkIndex_8e157 := rfl
set_option maxRecDepth 100000 in
theorem odJ3_checkIndex_8e157 : ∀ q ∈ oJ3_checkIndex_8e157, decode cJ3_checkIndex_8e157 q.1 = .ok (q.2.1, q.2.2) := q_go qT_ok bbJ3_checkIndex_8e157 oJ3_checkIndex_8e157 0 (by decide +kernel)
set_option maxRecDepth 100000 in
def bJ7_fill_53178 : List Nat := [3, 61, 42, 190, 62, 28, 29, 162, 0, 13, 42, 28, 27, 79, 132, 2, 1, 167, 255, 244, 177]
set_option maxRecDepth 100000 in
theorem bbJ7_fill_53178 : cJ7_fill_53178.data.toList.map UInt8.toNat = bJ7_fill_53178 := by decide +kernel
set_option maxRecDepth 100000 in
def tJ7_fill_53178 : Lean.RArray dLf := .branch 7 (.branch 3 (.branch 1 (.leaf (0, .iconst 0, 1)) (.branch 2 (.leaf (1, .istore_n 2, 1)) (.leaf (2, .aload_n 0, 1)))) (.branch 5 (.branch 4 (.leaf (3, .arraylength, 1)) (.leaf (4, .istore_n 3, 1))) (.branch 6 (.leaf (5, .iload_n 2, 1)) (.leaf (6, .iload_n 3, 1))))) (.branch 13 (.branch 11 (.branch 10 (.leaf (7, .if_icmp .ge 13, 3)) (.leaf (10, .aload_n 0, 1))) (.branch 12 (.leaf (11, .iload_n 2, 1)) (.leaf (12, .iload_n 1, 1)))) (.branch 17 (.branch 14 (.leaf (13, .iastore, 1)) (.leaf (14, .iinc 2 1, 3))) (.branch 20 (.leaf (17, .goto (-12), 3)) (.leaf (20, .return_, 1)))))
noncomputable def oJ7_fill_53178 : List dLf := dFl tJ7_fill_53178
theorem ofJ7_fill_53178 : dFl tJ7_fill_53178 = oJ7_fill_53178 := rfl
set_option maxRecDepth 100000 in
theorem odJ7_fill_53178 : ∀ q ∈ oJ7_fill_53178, decode cJ7_fill_53178 q.1 = .ok (q.2.1, q.2.2) := q_go qT_ok bbJ7_fill_53178 oJ7_fill_53178 0 (by decide +kernel)
theorem dJ7_fill_53178_0 : decode cJ7_fill_53178 0 = .ok (.iconst 0, 1) := d_by (d_at odJ7_fill_53178 ofJ7_fill_53178 0) rfl
theorem dJ7_fill_53178_1 : decode cJ7_fill_53178 1 = .ok (.istore_n 2, 1) := d_by (d_at odJ7_fill_53178 ofJ7_fill_53178 1) rfl
theorem dJ7_fill_53178_2 : decode cJ7_fill_53178 2 = .ok (.aload_n 0, 1) := d_by (d_at odJ7_fill_53178 ofJ7_fill_53178 2) rfl
theorem dJ7_fill_53178_3 : decode cJ7_fill_53178 3 = .ok (.arraylength, 1) := d_by (d_at odJ7_fill_53178 ofJ7_fill_53178 3) rfl
theorem dJ7_fill_53178_4 : decode cJ7_fill_53178 4 = .ok (.istore_n 3, 1) := d_by (d_at odJ7_fill_53178 ofJ7_fill_53178 4) rfl
theorem dJ7_fill_53178_5 : decode cJ7_fill_53178 5 = .ok (.iload_n 2, 1) := d_by (d_at odJ7_fill_53178 ofJ7_fill_53178 5) rfl
theorem dJ7_fill_53178_6 : decode cJ7_fill_53178 6 = .ok (.iload_n 3, 1) := d_by (d_at odJ7_fill_53178 ofJ7_fill_53178 6) rfl
theorem dJ7_fill_53178_7 : decode cJ7_fill_53178 7 = .ok (.if_icmp .ge 13, 3) := d_by (d_at odJ7_fill_53178 ofJ7_fill_53178 7) rfl
theorem dJ7_fill_53178_10 : decode cJ7_fill_53178 10 = .ok (.aload_n 0, 1) := d_by (d_at odJ7_fill_53178 ofJ7_fill_53178 10) rfl
theorem dJ7_fill_53178_11 : decode cJ7_fill_53178 11 = .ok (.iload_n 2, 1) := d_by (d_at odJ7_fill_53178 ofJ7_fill_53178 11) rfl
theorem dJ7_fill_53178_12 : decode cJ7_fill_53178 12 = .ok (.iload_n 1, 1) := d_by (d_at odJ7_fill_53178 ofJ7_fill_53178 12) rfl
theorem dJ7_fill_53178_13 : decode cJ7_fill_53178 13 = .ok (.iastore, 1) := d_by (d_at odJ7_fill_53178 ofJ7_fill_53178 13) rfl
theorem dJ7_fill_53178_14 : decode cJ7_fill_53178 14 = .ok (.iinc 2 1, 3) := d_by (d_at odJ7_fill_53178 ofJ7_fill_53178 14) rfl
theorem dJ7_fill_53178_17 : decode cJ7_fill_53178 17 = .ok (.goto (-12), 3) := d_by (d_at odJ7_fill_53178 ofJ7_fill_53178 17) rfl
theorem dJ7_fill_53178_20 : decode cJ7_fill_53178 20 = .ok (.return_, 1) := d_by (d_at odJ7_fill_53178 ofJ7_fill_53178 20) rfl
set_option maxRecDepth 100000 in
def bJ6_bitCount_0f7a4 : List Nat := [26, 26, 4, 124, 19, 1, 9, 126, 100, 59, 26, 19, 1, 10, 126, 26, 5, 124, 19, 1, 10, 126, 96, 59, 26, 26, 7, 124, 96, 19, 1, 11, 126, 59, 26, 26, 16, 8, 124, 96, 59, 26, 26, 16, 16, 124, 96, 59, 26, 16, 63, 126, 172]
set_option maxRecDepth 100000 in
theorem bbJ6_bitCount_0f7a4 : cJ6_bitCount_0f7a4.data.toList.map UInt8.toNat = bJ6_bitCount_0f7a4 := by decide +kernel
set_option maxRecDepth 100000 in
def tJ6_bitCount_0f7a4 : Lean.RArray dLf := .branch 27 (.branch 14 (.branch 7 (.branch 2 (.branch 1 (.leaf (0, .iload_n 0, 1)) (.leaf (1, .iload_n 0, 1))) (.branch 3 (.leaf (2, .iconst 1, 1)) (.branch 4 (.leaf (3, .iushr, 1)) (.leaf (4, .ldc_w 265, 3))))) (.branch 9 (.branch 8 (.leaf (7, .iand, 1)) (.leaf (8, .isub, 1))) (.branch 10 (.leaf (9, .istore_n 0, 1)) (.branch 11 (.leaf (10, .iload_n 0, 1)) (.leaf (11, .ldc_w 266, 3)))))) (.branch 21 (.branch 16 (.branch 15 (.leaf (14, .iand, 1)) (.leaf (15, .iload_n 0, 1))) (.branch 17 (.leaf (16, .iconst 2, 1)) (.branch 18 (.leaf (17, .iushr, 1)) (.leaf (18, .ldc_w 266, 3))))) (.branch 24 (.branch 22 (.leaf (21, .iand, 1)) (.branch 23 (.leaf (22, .iadd, 1)) (.leaf (23, .istore_n 0, 1)))) (.branch 25 (.leaf (24, .iload_n 0, 1)) (.branch 26 (.leaf (25, .iload_n 0, 1)) (.leaf (26, .iconst 4, 1))))))) (.branch 40 (.branch 34 (.branch 29 (.branch 28 (.leaf (27, .iushr, 1)) (.leaf (28, .iadd, 1))) (.branch 32 (.leaf (29, .ldc_w 267, 3)) (.branch 33 (.leaf (32, .iand, 1)) (.leaf (33, .istore_n 0, 1))))) (.branch 36 (.branch 35 (.leaf (34, .iload_n 0, 1)) (.leaf (35, .iload_n 0, 1))) (.branch 38 (.leaf (36, .bipush 8, 2)) (.branch 39 (.leaf (38, .iushr, 1)) (.leaf (39, .iadd, 1)))))) (.branch 46 (.branch 42 (.branch 41 (.leaf (40, .istore_n 0, 1)) (.leaf (41, .iload_n 0, 1))) (.branch 43 (.leaf (42, .iload_n 0, 1)) (.branch 45 (.leaf (43, .bipush 16, 2)) (.leaf (45, .iushr, 1))))) (.branch 49 (.branch 47 (.leaf (46, .iadd, 1)) (.branch 48 (.leaf (47, .istore_n 0, 1)) (.leaf (48, .iload_n 0, 1)))) (.branch 51 (.leaf (49, .bipush 63, 2)) (.branch 52 (.leaf (51, .iand, 1)) (.leaf (52, .ireturn, 1)))))))
noncomputable def oJ6_bitCount_0f7a4 : List dLf := dFl tJ6_bitCount_0f7a4
theorem ofJ6_bitCount_0f7a4 : dFl tJ6_bitCount_0f7a4 = oJ6_bitCount_0f7a4 := rfl
set_option maxRecDepth 100000 in
theorem odJ6_bitCount_0f7a4 : ∀ q ∈ oJ6_bitCount_0f7a4, decode cJ6_bitCount_0f7a4 q.1 = .ok (q.2.1, q.2.2) := q_go qT_ok bbJ6_bitCount_0f7a4 oJ6_bitCount_0f7a4 0 (by decide +kernel)
theorem dJ6_bitCount_0f7a4_0 : decode cJ6_bitCount_0f7a4 0 = .ok (.iload_n 0, 1) := d_by (d_at odJ6_bitCount_0f7a4 ofJ6_bitCount_0f7a4 0) rfl
theorem dJ6_bitCount_0f7a4_1 : decode cJ6_bitCount_0f7a4 1 = .ok (.iload_n 0, 1) := d_by (d_at odJ6_bitCount_0f7a4 ofJ6_bitCount_0f7a4 1) rfl
theorem dJ6_bitCount_0f7a4_2 : decode cJ6_bitCount_0f7a4 2 = .ok (.iconst 1, 1) := d_by (d_at odJ6_bitCount_0f7a4 ofJ6_bitCount_0f7a4 2) rfl
theorem dJ6_bitCount_0f7a4_3 : decode cJ6_bitCount_0f7a4 3 = .ok (.iushr, 1) := d_by (d_at odJ6_bitCount_0f7a4 ofJ6_bitCount_0f7a4 3) rfl
theorem dJ6_bitCount_0f7a4_4 : decode cJ6_bitCount_0f7a4 4 = .ok (.ldc_w 265, 3) := d_by (d_at odJ6_bitCount_0f7a4 ofJ6_bitCount_0f7a4 4) rfl
theorem dJ6_bitCount_0f7a4_7 : decode cJ6_bitCount_0f7a4 7 = .ok (.iand, 1) := d_by (d_at odJ6_bitCount_0f7a4 ofJ6_bitCount_0f7a4 7) rfl
theorem dJ6_bitCount_0f7a4_8 : decode cJ6_bitCount_0f7a4 8 = .ok (.isub, 1) := d_by (d_at odJ6_bitCount_0f7a4 ofJ6_bitCount_0f7a4 8) rfl
theorem dJ6_bitCount_0f7a4_9 : decode cJ6_bitCount_0f7a4 9 = .ok (.istore_n 0, 1) := d_by (d_at odJ6_bitCount_0f7a4 ofJ6_bitCount_0f7a4 9) rfl
theorem dJ6_bitCount_0f7a4_10 : decode cJ6_bitCount_0f7a4 10 = .ok (.iload_n 0, 1) := d_by (d_at odJ6_bitCount_0f7a4 ofJ6_bitCount_0f7a4 10) rfl
theorem dJ6_bitCount_0f7a4_11 : decode cJ6_bitCount_0f7a4 11 = .ok (.ldc_w 266, 3) := d_by (d_at odJ6_bitCount_0f7a4 ofJ6_bitCount_0f7a4 11) rfl
theorem dJ6_bitCount_0f7a4_14 : decode cJ6_bitCount_0f7a4 14 = .ok (.iand, 1) := d_by (d_at odJ6_bitCount_0f7a4 ofJ6_bitCount_0f7a4 14) rfl
theorem dJ6_bitCount_0f7a4_15 : decode cJ6_bitCount_0f7a4 15 = .ok (.iload_n 0, 1) := d_by (d_at odJ6_bitCount_0f7a4 ofJ6_bitCount_0f7a4 15) rfl
theorem dJ6_bitCount_0f7a4_16 : decode cJ6_bitCount_0f7a4 16 = .ok (.iconst 2, 1) := d_by (d_at odJ6_bitCount_0f7a4 ofJ6_bitCount_0f7a4 16) rfl
theorem dJ6_bitCount_0f7a4_17 : decode cJ6_bitCount_0f7a4 17 = .ok (.iushr, 1) := d_by (d_at odJ6_bitCount_0f7a4 ofJ6_bitCount_0f7a4 17) rfl
theorem dJ6_bitCount_0f7a4_18 : decode cJ6_bitCount_0f7a4 18 = .ok (.ldc_w 266, 3) := d_by (d_at odJ6_bitCount_0f7a4 ofJ6_bitCount_0f7a4 18) rfl
theorem dJ6_bitCount_0f7a4_21 : decode cJ6_bitCount_0f7a4 21 = .ok (.iand, 1) := d_by (d_at odJ6_bitCount_0f7a4 ofJ6_bitCount_0f7a4 21) rfl
theorem dJ6_bitCount_0f7a4_22 : decode cJ6_bitCount_0f7a4 22 = .ok (.iadd, 1) := d_by (d_at odJ6_bitCount_0f7a4 ofJ6_bitCount_0f7a4 22) rfl
theorem dJ6_bitCount_0f7a4_23 : decode cJ6_bitCount_0f7a4 23 = .ok (.istore_n 0, 1) := d_by (d_at odJ6_bitCount_0f7a4 ofJ6_bitCount_0f7a4 23) rfl
theorem dJ6_bitCount_0f7a4_24 : decode cJ6_bitCount_0f7a4 24 = .ok (.iload_n 0, 1) := d_by (d_at odJ6_bitCount_0f7a4 ofJ6_bitCount_0f7a4 24) rfl
theorem dJ6_bitCount_0f7a4_25 : decode cJ6_bitCount_0f7a4 25 = .ok (.iload_n 0, 1) := d_by (d_at odJ6_bitCount_0f7a4 ofJ6_bitCount_0f7a4 25) rfl
theorem dJ6_bitCount_0f7a4_26 : decode cJ6_bitCount_0f7a4 26 = .ok (.iconst 4, 1) := d_by (d_at odJ6_bitCount_0f7a4 ofJ6_bitCount_0f7a4 26) rfl
theorem dJ6_bitCount_0f7a4_27 : decode cJ6_bitCount_0f7a4 27 = .ok (.iushr, 1) := d_by (d_at odJ6_bitCount_0f7a4 ofJ6_bitCount_0f7a4 27) rfl
theorem dJ6_bitCount_0f7a4_28 : decode cJ6_bitCount_0f7a4 28 = .ok (.iadd, 1) := d_by (d_at odJ6_bitCount_0f7a4 ofJ6_bitCount_0f7a4 28) rfl
theorem dJ6_bitCount_0f7a4_29 : decode cJ6_bitCount_0f7a4 29 = .ok (.ldc_w 267, 3) := d_by (d_at odJ6_bitCount_0f7a4 ofJ6_bitCount_0f7a4 29) rfl
theorem dJ6_bitCount_0f7a4_32 : decode cJ6_bitCount_0f7a4 32 = .ok (.iand, 1) := d_by (d_at odJ6_bitCount_0f7a4 ofJ6_bitCount_0f7a4 32) rfl
theorem dJ6_bitCount_0f7a4_33 : decode cJ6_bitCount_0f7a4 33 = .ok (.istore_n 0, 1) := d_by (d_at odJ6_bitCount_0f7a4 ofJ6_bitCount_0f7a4 33) rfl
theorem dJ6_bitCount_0f7a4_34 : decode cJ6_bitCount_0f7a4 34 = .ok (.iload_n 0, 1) := d_by (d_at odJ6_bitCount_0f7a4 ofJ6_bitCount_0f7a4 34) rfl
theorem dJ6_bitCount_0f7a4_35 : decode cJ6_bitCount_0f7a4 35 = .ok (.iload_n 0, 1) := d_by (d_at odJ6_bitCount_0f7a4 ofJ6_bitCount_0f7a4 35) rfl
theorem dJ6_bitCount_0f7a4_36 : decode cJ6_bitCount_0f7a4 36 = .ok (.bipush 8, 2) := d_by (d_at odJ6_bitCount_0f7a4 ofJ6_bitCount_0f7a4 36) rfl
theorem dJ6_bitCount_0f7a4_38 : decode cJ6_bitCount_0f7a4 38 = .ok (.iushr, 1) := d_by (d_at odJ6_bitCount_0f7a4 ofJ6_bitCount_0f7a4 38) rfl
theorem dJ6_bitCount_0f7a4_39 : decode cJ6_bitCount_0f7a4 39 = .ok (.iadd, 1) := d_by (d_at odJ6_bitCount_0f7a4 ofJ6_bitCount_0f7a4 39) rfl
theorem dJ6_bitCount_0f7a4_40 : decode cJ6_bitCount_0f7a4 40 = .ok (.istore_n 0, 1) := d_by (d_at odJ6_bitCount_0f7a4 ofJ6_bitCount_0f7a4 40) rfl
theorem dJ6_bitCount_0f7a4_41 : decode cJ6_bitCount_0f7a4 41 = .ok (.iload_n 0, 1) := d_by (d_at odJ6_bitCount_0f7a4 ofJ6_bitCount_0f7a4 41) rfl
theorem dJ6_bitCount_0f7a4_42 : decode cJ6_bitCount_0f7a4 42 = .ok (.iload_n 0, 1) := d_by (d_at odJ6_bitCount_0f7a4 ofJ6_bitCount_0f7a4 42) rfl
theorem dJ6_bitCount_0f7a4_43 : decode cJ6_bitCount_0f7a4 43 = .ok (.bipush 16, 2) := d_by (d_at odJ6_bitCount_0f7a4 ofJ6_bitCount_0f7a4 43) rfl
theorem dJ6_bitCount_0f7a4_45 : decode cJ6_bitCount_0f7a4 45 = .ok (.iushr, 1) := d_by (d_at odJ6_bitCount_0f7a4 ofJ6_bitCount_0f7a4 45) rfl
theorem dJ6_bitCount_0f7a4_46 : decode cJ6_bitCount_0f7a4 46 = .ok (.iadd, 1) := d_by (d_at odJ6_bitCount_0f7a4 ofJ6_bitCount_0f7a4 46) rfl
theorem dJ6_bitCount_0f7a4_47 : decode cJ6_bitCount_0f7a4 47 = .ok (.istore_n 0, 1) := d_by (d_at odJ6_bitCount_0f7a4 ofJ6_bitCount_0f7a4 47) rfl
theorem dJ6_bitCount_0f7a4_48 : decode cJ6_bitCount_0f7a4 48 = .ok (.iload_n 0, 1) := d_by (d_at odJ6_bitCount_0f7a4 ofJ6_bitCount_0f7a4 48) rfl
theorem dJ6_bitCount_0f7a4_49 : decode cJ6_bitCount_0f7a4 49 = .ok (.bipush 63, 2) := d_by (d_at odJ6_bitCount_0f7a4 ofJ6_bitCount_0f7a4 49) rfl
theorem dJ6_bitCount_0f7a4_51 : decode cJ6_bitCount_0f7a4 51 = .ok (.iand, 1) := d_by (d_at odJ6_bitCount_0f7a4 ofJ6_bitCount_0f7a4 51) rfl
theorem dJ6_bitCount_0f7a4_52 : decode cJ6_bitCount_0f7a4 52 = .ok (.ireturn, 1) := d_by (d_at odJ6_bitCount_0f7a4 ofJ6_bitCount_0f7a4 52) rfl
set_option maxRecDepth 100000 in
def bL_law : List Nat := [187, 0, 8, 89, 183, 0, 15, 76, 187, 0, 16, 89, 183, 0, 18, 77, 4, 188, 11, 78, 3, 54, 4, 21, 4, 42, 190, 16, 6, 100, 163, 6, 245, 42, 21, 4, 46, 16, 63, 126, 170, 0, 0, 0, 0, 0, 6, 229, 0, 0, 0, 0, 0, 0, 0, 49, 0, 0, 0, 216, 0, 0, 1, 33, 0, 0, 1, 58, 0, 0, 1, 71, 0, 0, 1, 84, 0, 0, 1, 121, 0, 0, 1, 158, 0, 0, 1, 183, 0, 0, 1, 220, 0, 0, 2, 1, 0, 0, 2, 26, 0, 0, 2, 63, 0, 0, 2, 88, 0, 0, 2, 137, 0, 0, 2, 162, 0, 0, 2, 199, 0, 0, 2, 212, 0, 0, 2, 225, 0, 0, 3, 6, 0, 0, 3, 43, 0, 0, 3, 68, 0, 0, 3, 93, 0, 0, 3, 130, 0, 0, 3, 155, 0, 0, 3, 216, 0, 0, 3, 253, 0, 0, 4, 22, 0, 0, 4, 47, 0, 0, 4, 84, 0, 0, 4, 137, 0, 0, 4, 150, 0, 0, 4, 163, 0, 0, 4, 188, 0, 0, 4, 249, 0, 0, 5, 6, 0, 0, 5, 43, 0, 0, 5, 68, 0, 0, 5, 105, 0, 0, 5, 130, 0, 0, 5, 167, 0, 0, 5, 204, 0, 0, 5, 241, 0, 0, 6, 34, 0, 0, 6, 59, 0, 0, 6, 112, 0, 0, 6, 125, 0, 0, 6, 138, 0, 0, 6, 163, 0, 0, 6, 191, 0, 0, 6, 216, 43, 42, 21, 4, 4, 96, 46, 42, 21, 4, 5, 96, 46, 42, 21, 4, 6, 96, 46, 42, 21, 4, 7, 96, 46, 42, 21, 4, 8, 96, 46, 182, 0, 19, 87, 44, 42, 21, 4, 4, 96, 46, 42, 21, 4, 5, 96, 46, 42, 21, 4, 6, 96, 46, 42, 21, 4, 7, 96, 46, 42, 21, 4, 8, 96, 46, 182, 0, 23, 87, 167, 5, 199, 43, 42, 21, 4, 4, 96, 46, 182, 0, 24, 87, 44, 42, 21, 4, 4, 96, 46, 182, 0, 27, 87, 167, 5, 174, 43, 182, 0, 28, 87, 44, 182, 0, 32, 87, 167, 5, 161, 43, 182, 0, 33, 87, 44, 182, 0, 36, 87, 167, 5, 148, 43, 42, 21, 4, 4, 96, 46, 42, 21, 4, 5, 96, 46, 182, 0, 37, 87, 44, 42, 21, 4, 4, 96, 46, 42, 21, 4, 5, 96, 46, 182, 0, 41, 87, 167, 5, 111, 43, 42, 21, 4, 4, 96, 46, 42, 21, 4, 5, 96, 46, 182, 0, 42, 87, 44, 42, 21, 4, 4, 96, 46, 42, 21, 4, 5, 96, 46, 182, 0, 45, 87, 167, 5, 74, 43, 42, 21, 4, 4, 96, 46, 182, 0, 46, 87, 44, 42, 21, 4, 4, 96, 46, 182, 0, 49, 87, 167, 5, 49, 43, 42, 21, 4, 4, 96, 46, 42, 21, 4, 5, 96, 46, 182, 0, 50, 87, 44, 42, 21, 4, 4, 96, 46, 42, 21, 4, 5, 96, 46, 182, 0, 53, 87, 167, 5, 12, 43, 42, 21, 4, 4, 96, 46, 42, 21, 4, 5, 96, 46, 182, 0, 54, 87, 44, 42, 21, 4, 4, 96, 46, 42, 21, 4, 5, 96, 46, 182, 0, 57, 87, 167, 4, 231, 43, 42, 21, 4, 4, 96, 46, 182, 0, 58, 87, 44, 42, 21, 4, 4, 96, 46, 182, 0, 61, 87, 167, 4, 206, 43, 42, 21, 4, 4, 96, 46, 42, 21, 4, 5, 96, 46, 182, 0, 62, 87, 44, 42, 21, 4, 4, 96, 46, 42, 21, 4, 5, 96, 46, 182, 0, 65, 87, 167, 4, 169, 43, 42, 21, 4, 4, 96, 46, 182, 0, 66, 87, 44, 42, 21, 4, 4, 96, 46, 182, 0, 69, 87, 167, 4, 144, 43, 42, 21, 4, 4, 96, 46, 42, 21, 4, 5, 96, 46, 42, 21, 4, 6, 96, 46, 182, 0, 70, 44, 42, 21, 4, 4, 96, 46, 42, 21, 4, 5, 96, 46, 42, 21, 4, 6, 96, 46, 182, 0, 74, 159, 4, 97, 3, 172, 43, 42, 21, 4, 4, 96, 46, 182, 0, 75, 87, 44, 42, 21, 4, 4, 96, 46, 182, 0, 78, 87, 167, 4, 70, 43, 42, 21, 4, 4, 96, 46, 42, 21, 4, 5, 96, 46, 182, 0, 79, 87, 44, 42, 21, 4, 4, 96, 46, 42, 21, 4, 5, 96, 46, 182, 0, 82, 87, 167, 4, 33, 43, 182, 0, 83, 87, 44, 182, 0, 86, 87, 167, 4, 20, 43, 182, 0, 87, 87, 44, 182, 0, 90, 87, 167, 4, 7, 43, 42, 21, 4, 4, 96, 46, 42, 21, 4, 5, 96, 46, 182, 0, 91, 87, 44, 42, 21, 4, 4, 96, 46, 42, 21, 4, 5, 96, 46, 182, 0, 94, 87, 167, 3, 226, 43, 42, 21, 4, 4, 96, 46, 42, 21, 4, 5, 96, 46, 182, 0, 95, 87, 44, 42, 21, 4, 4, 96, 46, 42, 21, 4, 5, 96, 46, 182, 0, 98, 87, 167, 3, 189, 43, 42, 21, 4, 4, 96, 46, 182, 0, 99, 87, 44, 42, 21, 4, 4, 96, 46, 182, 0, 102, 87, 167, 3, 164, 43, 42, 21, 4, 4, 96, 46, 182, 0, 103, 87, 44, 42, 21, 4, 4, 96, 46, 182, 0, 106, 87, 167, 3, 139, 43, 42, 21, 4, 4, 96, 46, 42, 21, 4, 5, 96, 46, 182, 0, 107, 87, 44, 42, 21, 4, 4, 96, 46, 42, 21, 4, 5, 96, 46, 182, 0, 110, 87, 167, 3, 102, 43, 42, 21, 4, 4, 96, 46, 182, 0, 111, 87, 44, 42, 21, 4, 4, 96, 46, 182, 0, 114, 87, 167, 3, 77, 43, 42, 21, 4, 4, 96, 46, 42, 21, 4, 5, 96, 46, 42, 21, 4, 6, 96, 46, 42, 21, 4, 7, 96, 46, 182, 0, 115, 87, 44, 42, 21, 4, 4, 96, 46, 42, 21, 4, 5, 96, 46, 42, 21, 4, 6, 96, 46, 42, 21, 4, 7, 96, 46, 182, 0, 119, 87, 167, 3, 16, 43, 42, 21, 4, 4, 96, 46, 42, 21, 4, 5, 96, 46, 182, 0, 120, 87, 44, 42, 21, 4, 4, 96, 46, 42, 21, 4, 5, 96, 46, 182, 0, 123, 87, 167, 2, 235, 43, 42, 21, 4, 4, 96, 46, 182, 0, 124, 87, 44, 42, 21, 4, 4, 96, 46, 182, 0, 127, 87, 167, 2, 210, 43, 42, 21, 4, 4, 96, 46, 182, 0, 128, 87, 44, 42, 21, 4, 4, 96, 46, 182, 0, 131, 87, 167, 2, 185, 43, 42, 21, 4, 4, 96, 46, 42, 21, 4, 5, 96, 46, 182, 0, 132, 87, 44, 42, 21, 4, 4, 96, 46, 42, 21, 4, 5, 96, 46, 182, 0, 135, 87, 167, 2, 148, 43, 42, 21, 4, 4, 96, 46, 42, 21, 4, 5, 96, 46, 153, 0, 7, 4, 167, 0, 4, 3, 182, 0, 136, 88, 44, 42, 21, 4, 4, 96, 46, 42, 21, 4, 5, 96, 46, 153, 0, 7, 4, 167, 0, 4, 3, 182, 0, 140, 88, 167, 2, 95, 43, 182, 0, 141, 87, 44, 182, 0, 144, 87, 167, 2, 82, 43, 182, 0, 145, 87, 44, 182, 0, 148, 87, 167, 2, 69, 43, 42, 21, 4, 4, 96, 46, 182, 0, 149, 87, 44, 42, 21, 4, 4, 96, 46, 182, 0, 152, 87, 167, 2, 44, 43, 42, 21, 4, 4, 96, 46, 42, 21, 4, 5, 96, 46, 42, 21, 4, 6, 96, 46, 42, 21, 4, 7, 96, 46, 182, 0, 153, 87, 44, 42, 21, 4, 4, 96, 46, 42, 21, 4, 5, 96, 46, 42, 21, 4, 6, 96, 46, 42, 21, 4, 7, 96, 46, 182, 0, 156, 87, 167, 1, 239, 43, 182, 0, 157, 87, 44, 182, 0, 160, 87, 167, 1, 226, 43, 42, 21, 4, 4, 96, 46, 42, 21, 4, 5, 96, 46, 182, 0, 161, 87, 44, 42, 21, 4, 4, 96, 46, 42, 21, 4, 5, 96, 46, 182, 0, 164, 87, 167, 1, 189, 43, 42, 21, 4, 4, 96, 46, 182, 0, 165, 87, 44, 42, 21, 4, 4, 96, 46, 182, 0, 168, 87, 167, 1, 164, 43, 42, 21, 4, 4, 96, 46, 42, 21, 4, 5, 96, 46, 182, 0, 169, 87, 44, 42, 21, 4, 4, 96, 46, 42, 21, 4, 5, 96, 46, 182, 0, 172, 87, 167, 1, 127, 43, 42, 21, 4, 4, 96, 46, 182, 0, 173, 87, 44, 42, 21, 4, 4, 96, 46, 182, 0, 176, 87, 167, 1, 102, 43, 42, 21, 4, 4, 96, 46, 42, 21, 4, 5, 96, 46, 182, 0, 177, 87, 44, 42, 21, 4, 4, 96, 46, 42, 21, 4, 5, 96, 46, 182, 0, 180, 87, 167, 1, 65, 43, 42, 21, 4, 4, 96, 46, 42, 21, 4, 5, 96, 46, 182, 0, 181, 87, 44, 42, 21, 4, 4, 96, 46, 42, 21, 4, 5, 96, 46, 182, 0, 184, 87, 167, 1, 28, 43, 42, 21, 4, 4, 96, 46, 42, 21, 4, 5, 96, 46, 182, 0, 185, 87, 44, 42, 21, 4, 4, 96, 46, 42, 21, 4, 5, 96, 46, 182, 0, 188, 87, 167, 0, 247, 43, 42, 21, 4, 4, 96, 46, 42, 21, 4, 5, 96, 46, 42, 21, 4, 6, 96, 46, 182, 0, 189, 87, 44, 42, 21, 4, 4, 96, 46, 42, 21, 4, 5, 96, 46, 42, 21, 4, 6, 96, 46, 182, 0, 193, 87, 167, 0, 198, 43, 42, 21, 4, 4, 96, 46, 182, 0, 194, 87, 44, 42, 21, 4, 4, 96, 46, 182, 0, 197, 87, 167, 0, 173, 43, 42, 21, 4, 4, 96, 46, 42, 21, 4, 5, 96, 46, 153, 0, 7, 4, 167, 0, 4, 3, 182, 0, 198, 87, 44, 42, 21, 4, 4, 96, 46, 42, 21, 4, 5, 96, 46, 153, 0, 7, 4, 167, 0, 4, 3, 182, 0, 202, 87, 167, 0, 120, 43, 182, 0, 203, 87, 44, 182, 0, 207, 87, 167, 0, 107, 43, 182, 0, 208, 87, 44, 182, 0, 211, 87, 167, 0, 94, 43, 42, 21, 4, 4, 96, 46, 182, 0, 212, 87, 44, 42, 21, 4, 4, 96, 46, 182, 0, 216, 87, 167, 0, 69, 43, 42, 21, 4, 4, 96, 46, 45, 184, 0, 217, 54, 5, 44, 42, 21, 4, 4, 96, 46, 182, 0, 222, 54, 6, 167, 0, 41, 43, 42, 21, 4, 4, 96, 46, 182, 0, 223, 87, 44, 42, 21, 4, 4, 96, 46, 182, 0, 226, 87, 167, 0, 16, 43, 182, 0, 227, 87, 44, 182, 0, 230, 87, 167, 0, 3, 132, 4, 6, 167, 249, 7, 4, 172]
set_option maxRecDepth 100000 in
theorem bbL_law : cL_law.data.toList.map UInt8.toNat = bL_law := by decide +kernel
theorem eL_law_17 : decode cL_law 17 = .ok (.newarray .long, 2) := by decide +kernel
theorem eL_law_40 : decode cL_law 40 = .ok (.tableswitch 1765 0 49 #[216, 289, 314, 327, 340, 377, 414, 439, 476, 513, 538, 575, 600, 649, 674, 711, 724, 737, 774, 811, 836, 861, 898, 923, 984, 1021, 1046, 1071, 1108, 1161, 1174, 1187, 1212, 1273, 1286, 1323, 1348, 1385, 1410, 1447, 1484, 1521, 1570, 1595, 1648, 1661, 1674, 1699, 1727, 1752], 216) := by decide +kernel
set_option maxRecDepth 100000 in
def tL_laws0 : Lean.RArray dLf := .branch 8 (.branch 4 (.branch 3 (.leaf (0, .new 8, 3)) (.leaf (3, .dup, 1))) (.branch 7 (.leaf (4, .invokespecial 15, 3)) (.leaf (7, .astore_n 1, 1)))) (.branch 12 (.branch 11 (.leaf (8, .new 16, 3)) (.leaf (11, .dup, 1))) (.branch 15 (.leaf (12, .invokespecial 18, 3)) (.branch 16 (.leaf (15, .astore_n 2, 1)) (.leaf (16, .iconst 1, 1)))))
noncomputable def oL_laws0 : List dLf := dFl tL_laws0
theorem ofL_laws0 : dFl tL_laws0 = oL_laws0 := rfl
set_option maxRecDepth 100000 in
theorem odL_laws0 : ∀ q ∈ oL_laws0, decode cL_law q.1 = .ok (q.2.1, q.2.2) := q_go qT_ok bbL_law oL_laws0 0 (by decide +kernel)
set_option maxRecDepth 100000 in
def tL_laws2 : Lean.RArray dLf := .branch 29 (.branch 23 (.branch 20 (.leaf (19, .astore_n 3, 1)) (.branch 21 (.leaf (20, .iconst 0, 1)) (.leaf (21, .istore 4, 2)))) (.branch 26 (.branch 25 (.leaf (23, .iload 4, 2)) (.leaf (25, .aload_n 0, 1))) (.branch 27 (.leaf (26, .arraylength, 1)) (.leaf (27, .bipush 6, 2))))) (.branch 34 (.branch 30 (.leaf (29, .isub, 1)) (.branch 33 (.leaf (30, .if_icmp .gt 1781, 3)) (.leaf (33, .aload_n 0, 1)))) (.branch 37 (.branch 36 (.leaf (34, .iload 4, 2)) (.leaf (36, .iaload, 1))) (.branch 39 (.leaf (37, .bipush 63, 2)) (.leaf (39, .iand, 1)))))
noncomputable def oL_laws2 : List dLf := dFl tL_laws2
theorem ofL_laws2 : dFl tL_laws2 = oL_laws2 := rfl
set_option maxRecDepth 100000 in
theorem odL_laws2 : ∀ q ∈ oL_laws2, decode cL_law q.1 = .ok (q.2.1, q.2.2) := q_go qT_ok bbL_law oL_laws2 19 (by decide +kernel)
set_option maxRecDepth 100000 in
def tL_laws4 : Lean.RArray dLf := .branch 396 (.branch 317 (.branch 286 (.branch 270 (.branch 263 (.branch 260 (.branch 257 (.leaf (256, .aload_n 1, 1)) (.branch 258 (.leaf (257, .aload_n 0, 1)) (.leaf (258, .iload 4, 2)))) (.branch 261 (.leaf (260, .iconst 1, 1)) (.branch 262 (.leaf (261, .iadd, 1)) (.leaf (262, .iaload, 1))))) (.branch 267 (.branch 264 (.leaf (263, .aload_n 0, 1)) (.branch 266 (.leaf (264, .iload 4, 2)) (.leaf (266, .iconst 2, 1)))) (.branch 268 (.leaf (267, .iadd, 1)) (.branch 269 (.leaf (268, .iaload, 1)) (.leaf (269, .aload_n 0, 1)))))) (.branch 278 (.branch 274 (.branch 272 (.leaf (270, .iload 4, 2)) (.branch 273 (.leaf (272, .iconst 3, 1)) (.leaf (273, .iadd, 1)))) (.branch 275 (.leaf (274, .iaload, 1)) (.branch 276 (.leaf (275, .aload_n 0, 1)) (.leaf (276, .iload 4, 2))))) (.branch 281 (.branch 279 (.leaf (278, .iconst 4, 1)) (.branch 280 (.leaf (279, .iadd, 1)) (.leaf (280, .iaload, 1)))) (.branch 284 (.branch 282 (.leaf (281, .aload_n 0, 1)) (.leaf (282, .iload 4, 2))) (.branch 285 (.leaf (284, .iconst 5, 1)) (.leaf (285, .iadd, 1))))))) (.branch 302 (.branch 295 (.branch 291 (.branch 287 (.leaf (286, .iaload, 1)) (.branch 290 (.leaf (287, .invokevirtual 19, 3)) (.leaf (290, .pop, 1)))) (.branch 292 (.leaf (291, .aload_n 2, 1)) (.branch 293 (.leaf (292, .aload_n 0, 1)) (.leaf (293, .iload 4, 2))))) (.branch 298 (.branch 296 (.leaf (295, .iconst 1, 1)) (.branch 297 (.leaf (296, .iadd, 1)) (.leaf (297, .iaload, 1)))) (.branch 299 (.leaf (298, .aload_n 0, 1)) (.branch 301 (.leaf (299, .iload 4, 2)) (.leaf (301, .iconst 2, 1)))))) (.branch 309 (.branch 305 (.branch 303 (.leaf (302, .iadd, 1)) (.branch 304 (.leaf (303, .iaload, 1)) (.leaf (304, .aload_n 0, 1)))) (.branch 307 (.leaf (305, .iload 4, 2)) (.branch 308 (.leaf (307, .iconst 3, 1)) (.leaf (308, .iadd, 1))))) (.branch 313 (.branch 310 (.leaf (309, .iaload, 1)) (.branch 311 (.leaf (310, .aload_n 0, 1)) (.leaf (311, .iload 4, 2)))) (.branch 315 (.branch 314 (.leaf (313, .iconst 4, 1)) (.leaf (314, .iadd, 1))) (.branch 316 (.leaf (315, .iaload, 1)) (.leaf (316, .aload_n 0, 1)))))))) (.branch 355 (.branch 335 (.branch 326 (.branch 321 (.branch 319 (.leaf (317, .iload 4, 2)) (.branch 320 (.leaf (319, .iconst 5, 1)) (.leaf (320, .iadd, 1)))) (.branch 322 (.leaf (321, .iaload, 1)) (.branch 325 (.leaf (322, .invokevirtual 23, 3)) (.leaf (325, .pop, 1))))) (.branch 331 (.branch 329 (.leaf (326, .goto 1479, 3)) (.branch 330 (.leaf (329, .aload_n 1, 1)) (.leaf (330, .aload_n 0, 1)))) (.branch 333 (.leaf (331, .iload 4, 2)) (.branch 334 (.leaf (333, .iconst 1, 1)) (.leaf (334, .iadd, 1)))))) (.branch 344 (.branch 340 (.branch 336 (.leaf (335, .iaload, 1)) (.branch 339 (.leaf (336, .invokevirtual 24, 3)) (.leaf (339, .pop, 1)))) (.branch 341 (.leaf (340, .aload_n 2, 1)) (.branch 342 (.leaf (341, .aload_n 0, 1)) (.leaf (342, .iload 4, 2))))) (.branch 347 (.branch 345 (.leaf (344, .iconst 1, 1)) (.branch 346 (.leaf (345, .iadd, 1)) (.leaf (346, .iaload, 1)))) (.branch 351 (.branch 350 (.leaf (347, .invokevirtual 27, 3)) (.leaf (350, .pop, 1))) (.branch 354 (.leaf (351, .goto 1454, 3)) (.leaf (354, .aload_n 1, 1))))))) (.branch 377 (.branch 367 (.branch 360 (.branch 358 (.leaf (355, .invokevirtual 28, 3)) (.branch 359 (.leaf (358, .pop, 1)) (.leaf (359, .aload_n 2, 1)))) (.branch 363 (.leaf (360, .invokevirtual 32, 3)) (.branch 364 (.leaf (363, .pop, 1)) (.leaf (364, .goto 1441, 3))))) (.branch 372 (.branch 368 (.leaf (367, .aload_n 1, 1)) (.branch 371 (.leaf (368, .invokevirtual 33, 3)) (.leaf (371, .pop, 1)))) (.branch 373 (.leaf (372, .aload_n 2, 1)) (.branch 376 (.leaf (373, .invokevirtual 36, 3)) (.leaf (376, .pop, 1)))))) (.branch 386 (.branch 382 (.branch 380 (.leaf (377, .goto 1428, 3)) (.branch 381 (.leaf (380, .aload_n 1, 1)) (.leaf (381, .aload_n 0, 1)))) (.branch 384 (.leaf (382, .iload 4, 2)) (.branch 385 (.leaf (384, .iconst 1, 1)) (.leaf (385, .iadd, 1))))) (.branch 390 (.branch 387 (.leaf (386, .iaload, 1)) (.branch 388 (.leaf (387, .aload_n 0, 1)) (.leaf (388, .iload 4, 2)))) (.branch 392 (.branch 391 (.leaf (390, .iconst 2, 1)) (.leaf (391, .iadd, 1))) (.branch 393 (.leaf (392, .iaload, 1)) (.leaf (393, .invokevirtual 37, 3))))))))) (.branch 465 (.branch 429 (.branch 410 (.branch 403 (.branch 399 (.branch 397 (.leaf (396, .pop, 1)) (.branch 398 (.leaf (397, .aload_n 2, 1)) (.leaf (398, .aload_n 0, 1)))) (.branch 401 (.leaf (399, .iload 4, 2)) (.branch 402 (.leaf (401, .iconst 1, 1)) (.leaf (402, .iadd, 1))))) (.branch 407 (.branch 404 (.leaf (403, .iaload, 1)) (.branch 405 (.leaf (404, .aload_n 0, 1)) (.leaf (405, .iload 4, 2)))) (.branch 408 (.leaf (407, .iconst 2, 1)) (.branch 409 (.leaf (408, .iadd, 1)) (.leaf (409, .iaload, 1)))))) (.branch 421 (.branch 417 (.branch 413 (.leaf (410, .invokevirtual 41, 3)) (.branch 414 (.leaf (413, .pop, 1)) (.leaf (414, .goto 1391, 3)))) (.branch 418 (.leaf (417, .aload_n 1, 1)) (.branch 419 (.leaf (418, .aload_n 0, 1)) (.leaf (419, .iload 4, 2))))) (.branch 424 (.branch 422 (.leaf (421, .iconst 1, 1)) (.branch 423 (.leaf (422, .iadd, 1)) (.leaf (423, .iaload, 1)))) (.branch 427 (.branch 425 (.leaf (424, .aload_n 0, 1)) (.leaf (425, .iload 4, 2))) (.branch 428 (.leaf (427, .iconst 2, 1)) (.leaf (428, .iadd, 1))))))) (.branch 445 (.branch 438 (.branch 434 (.branch 430 (.leaf (429, .iaload, 1)) (.branch 433 (.leaf (430, .invokevirtual 42, 3)) (.leaf (433, .pop, 1)))) (.branch 435 (.leaf (434, .aload_n 2, 1)) (.branch 436 (.leaf (435, .aload_n 0, 1)) (.leaf (436, .iload 4, 2))))) (.branch 441 (.branch 439 (.leaf (438, .iconst 1, 1)) (.branch 440 (.leaf (439, .iadd, 1)) (.leaf (440, .iaload, 1)))) (.branch 442 (.leaf (441, .aload_n 0, 1)) (.branch 444 (.leaf (442, .iload 4, 2)) (.leaf (444, .iconst 2, 1)))))) (.branch 455 (.branch 450 (.branch 446 (.leaf (445, .iadd, 1)) (.branch 447 (.leaf (446, .iaload, 1)) (.leaf (447, .invokevirtual 45, 3)))) (.branch 451 (.leaf (450, .pop, 1)) (.branch 454 (.leaf (451, .goto 1354, 3)) (.leaf (454, .aload_n 1, 1))))) (.branch 459 (.branch 456 (.leaf (455, .aload_n 0, 1)) (.branch 458 (.leaf (456, .iload 4, 2)) (.leaf (458, .iconst 1, 1)))) (.branch 461 (.branch 460 (.leaf (459, .iadd, 1)) (.leaf (460, .iaload, 1))) (.branch 464 (.leaf (461, .invokevirtual 46, 3)) (.leaf (464, .pop, 1)))))))) (.branch 500 (.branch 483 (.branch 472 (.branch 469 (.branch 466 (.leaf (465, .aload_n 2, 1)) (.branch 467 (.leaf (466, .aload_n 0, 1)) (.leaf (467, .iload 4, 2)))) (.branch 470 (.leaf (469, .iconst 1, 1)) (.branch 471 (.leaf (470, .iadd, 1)) (.leaf (471, .iaload, 1))))) (.branch 479 (.branch 475 (.leaf (472, .invokevirtual 49, 3)) (.branch 476 (.leaf (475, .pop, 1)) (.leaf (476, .goto 1329, 3)))) (.branch 480 (.leaf (479, .aload_n 1, 1)) (.branch 481 (.leaf (480, .aload_n 0, 1)) (.leaf (481, .iload 4, 2)))))) (.branch 490 (.branch 486 (.branch 484 (.leaf (483, .iconst 1, 1)) (.branch 485 (.leaf (484, .iadd, 1)) (.leaf (485, .iaload, 1)))) (.branch 487 (.leaf (486, .aload_n 0, 1)) (.branch 489 (.leaf (487, .iload 4, 2)) (.leaf (489, .iconst 2, 1))))) (.branch 495 (.branch 491 (.leaf (490, .iadd, 1)) (.branch 492 (.leaf (491, .iaload, 1)) (.leaf (492, .invokevirtual 50, 3)))) (.branch 497 (.branch 496 (.leaf (495, .pop, 1)) (.leaf (496, .aload_n 2, 1))) (.branch 498 (.leaf (497, .aload_n 0, 1)) (.leaf (498, .iload 4, 2))))))) (.branch 517 (.branch 507 (.branch 503 (.branch 501 (.leaf (500, .iconst 1, 1)) (.branch 502 (.leaf (501, .iadd, 1)) (.leaf (502, .iaload, 1)))) (.branch 504 (.leaf (503, .aload_n 0, 1)) (.branch 506 (.leaf (504, .iload 4, 2)) (.leaf (506, .iconst 2, 1))))) (.branch 512 (.branch 508 (.leaf (507, .iadd, 1)) (.branch 509 (.leaf (508, .iaload, 1)) (.leaf (509, .invokevirtual 53, 3)))) (.branch 513 (.leaf (512, .pop, 1)) (.branch 516 (.leaf (513, .goto 1292, 3)) (.leaf (516, .aload_n 1, 1)))))) (.branch 524 (.branch 521 (.branch 518 (.leaf (517, .aload_n 0, 1)) (.branch 520 (.leaf (518, .iload 4, 2)) (.leaf (520, .iconst 1, 1)))) (.branch 522 (.leaf (521, .iadd, 1)) (.branch 523 (.leaf (522, .iaload, 1)) (.leaf (523, .aload_n 0, 1))))) (.branch 528 (.branch 526 (.leaf (524, .iload 4, 2)) (.branch 527 (.leaf (526, .iconst 2, 1)) (.leaf (527, .iadd, 1)))) (.branch 532 (.branch 529 (.leaf (528, .iaload, 1)) (.leaf (529, .invokevirtual 54, 3))) (.branch 533 (.leaf (532, .pop, 1)) (.leaf (533, .aload_n 2, 1)))))))))
noncomputable def oL_laws4 : List dLf := dFl tL_laws4
theorem ofL_laws4 : dFl tL_laws4 = oL_laws4 := rfl
set_option maxRecDepth 100000 in
theorem odL_laws4 : ∀ q ∈ oL_laws4, decode cL_law q.1 = .ok (q.2.1, q.2.2) := q_go qT_ok bbL_law oL_laws4 256 (by decide +kernel)
set_option maxRecDepth 100000 in
def tL_laws5 : Lean.RArray dLf := .branch 673 (.branch 603 (.branch 569 (.branch 550 (.branch 541 (.branch 538 (.branch 535 (.leaf (534, .aload_n 0, 1)) (.branch 537 (.leaf (535, .iload 4, 2)) (.leaf (537, .iconst 1, 1)))) (.branch 539 (.leaf (538, .iadd, 1)) (.branch 540 (.leaf (539, .iaload, 1)) (.leaf (540, .aload_n 0, 1))))) (.branch 545 (.branch 543 (.leaf (541, .iload 4, 2)) (.branch 544 (.leaf (543, .iconst 2, 1)) (.leaf (544, .iadd, 1)))) (.branch 546 (.leaf (545, .iaload, 1)) (.branch 549 (.leaf (546, .invokevirtual 57, 3)) (.leaf (549, .pop, 1)))))) (.branch 559 (.branch 555 (.branch 553 (.leaf (550, .goto 1255, 3)) (.branch 554 (.leaf (553, .aload_n 1, 1)) (.leaf (554, .aload_n 0, 1)))) (.branch 557 (.leaf (555, .iload 4, 2)) (.branch 558 (.leaf (557, .iconst 1, 1)) (.leaf (558, .iadd, 1))))) (.branch 564 (.branch 560 (.leaf (559, .iaload, 1)) (.branch 563 (.leaf (560, .invokevirtual 58, 3)) (.leaf (563, .pop, 1)))) (.branch 566 (.branch 565 (.leaf (564, .aload_n 2, 1)) (.leaf (565, .aload_n 0, 1))) (.branch 568 (.leaf (566, .iload 4, 2)) (.leaf (568, .iconst 1, 1))))))) (.branch 586 (.branch 579 (.branch 574 (.branch 570 (.leaf (569, .iadd, 1)) (.branch 571 (.leaf (570, .iaload, 1)) (.leaf (571, .invokevirtual 61, 3)))) (.branch 575 (.leaf (574, .pop, 1)) (.branch 578 (.leaf (575, .goto 1230, 3)) (.leaf (578, .aload_n 1, 1))))) (.branch 583 (.branch 580 (.leaf (579, .aload_n 0, 1)) (.branch 582 (.leaf (580, .iload 4, 2)) (.leaf (582, .iconst 1, 1)))) (.branch 584 (.leaf (583, .iadd, 1)) (.branch 585 (.leaf (584, .iaload, 1)) (.leaf (585, .aload_n 0, 1)))))) (.branch 595 (.branch 590 (.branch 588 (.leaf (586, .iload 4, 2)) (.branch 589 (.leaf (588, .iconst 2, 1)) (.leaf (589, .iadd, 1)))) (.branch 591 (.leaf (590, .iaload, 1)) (.branch 594 (.leaf (591, .invokevirtual 62, 3)) (.leaf (594, .pop, 1))))) (.branch 599 (.branch 596 (.leaf (595, .aload_n 2, 1)) (.branch 597 (.leaf (596, .aload_n 0, 1)) (.leaf (597, .iload 4, 2)))) (.branch 601 (.branch 600 (.leaf (599, .iconst 1, 1)) (.leaf (600, .iadd, 1))) (.branch 602 (.leaf (601, .iaload, 1)) (.leaf (602, .aload_n 0, 1)))))))) (.branch 641 (.branch 621 (.branch 612 (.branch 607 (.branch 605 (.leaf (603, .iload 4, 2)) (.branch 606 (.leaf (605, .iconst 2, 1)) (.leaf (606, .iadd, 1)))) (.branch 608 (.leaf (607, .iaload, 1)) (.branch 611 (.leaf (608, .invokevirtual 65, 3)) (.leaf (611, .pop, 1))))) (.branch 617 (.branch 615 (.leaf (612, .goto 1193, 3)) (.branch 616 (.leaf (615, .aload_n 1, 1)) (.leaf (616, .aload_n 0, 1)))) (.branch 619 (.leaf (617, .iload 4, 2)) (.branch 620 (.leaf (619, .iconst 1, 1)) (.leaf (620, .iadd, 1)))))) (.branch 630 (.branch 626 (.branch 622 (.leaf (621, .iaload, 1)) (.branch 625 (.leaf (622, .invokevirtual 66, 3)) (.leaf (625, .pop, 1)))) (.branch 627 (.leaf (626, .aload_n 2, 1)) (.branch 628 (.leaf (627, .aload_n 0, 1)) (.leaf (628, .iload 4, 2))))) (.branch 633 (.branch 631 (.leaf (630, .iconst 1, 1)) (.branch 632 (.leaf (631, .iadd, 1)) (.leaf (632, .iaload, 1)))) (.branch 637 (.branch 636 (.leaf (633, .invokevirtual 69, 3)) (.leaf (636, .pop, 1))) (.branch 640 (.leaf (637, .goto 1168, 3)) (.leaf (640, .aload_n 1, 1))))))) (.branch 656 (.branch 648 (.branch 645 (.branch 642 (.leaf (641, .aload_n 0, 1)) (.branch 644 (.leaf (642, .iload 4, 2)) (.leaf (644, .iconst 1, 1)))) (.branch 646 (.leaf (645, .iadd, 1)) (.branch 647 (.leaf (646, .iaload, 1)) (.leaf (647, .aload_n 0, 1))))) (.branch 652 (.branch 650 (.leaf (648, .iload 4, 2)) (.branch 651 (.leaf (650, .iconst 2, 1)) (.leaf (651, .iadd, 1)))) (.branch 653 (.leaf (652, .iaload, 1)) (.branch 654 (.leaf (653, .aload_n 0, 1)) (.leaf (654, .iload 4, 2)))))) (.branch 664 (.branch 659 (.branch 657 (.leaf (656, .iconst 3, 1)) (.branch 658 (.leaf (657, .iadd, 1)) (.leaf (658, .iaload, 1)))) (.branch 662 (.leaf (659, .invokevirtual 70, 3)) (.branch 663 (.leaf (662, .aload_n 2, 1)) (.leaf (663, .aload_n 0, 1))))) (.branch 668 (.branch 666 (.leaf (664, .iload 4, 2)) (.branch 667 (.leaf (666, .iconst 1, 1)) (.leaf (667, .iadd, 1)))) (.branch 670 (.branch 669 (.leaf (668, .iaload, 1)) (.leaf (669, .aload_n 0, 1))) (.branch 672 (.leaf (670, .iload 4, 2)) (.leaf (672, .iconst 2, 1))))))))) (.branch 742 (.branch 707 (.branch 690 (.branch 680 (.branch 676 (.branch 674 (.leaf (673, .iadd, 1)) (.branch 675 (.leaf (674, .iaload, 1)) (.leaf (675, .aload_n 0, 1)))) (.branch 678 (.leaf (676, .iload 4, 2)) (.branch 679 (.leaf (678, .iconst 3, 1)) (.leaf (679, .iadd, 1))))) (.branch 687 (.branch 681 (.leaf (680, .iaload, 1)) (.branch 684 (.leaf (681, .invokevirtual 74, 3)) (.leaf (684, .if_icmp .eq 1121, 3)))) (.branch 688 (.leaf (687, .iconst 0, 1)) (.branch 689 (.leaf (688, .ireturn, 1)) (.leaf (689, .aload_n 1, 1)))))) (.branch 699 (.branch 694 (.branch 691 (.leaf (690, .aload_n 0, 1)) (.branch 693 (.leaf (691, .iload 4, 2)) (.leaf (693, .iconst 1, 1)))) (.branch 695 (.leaf (694, .iadd, 1)) (.branch 696 (.leaf (695, .iaload, 1)) (.leaf (696, .invokevirtual 75, 3))))) (.branch 702 (.branch 700 (.leaf (699, .pop, 1)) (.branch 701 (.leaf (700, .aload_n 2, 1)) (.leaf (701, .aload_n 0, 1)))) (.branch 705 (.branch 704 (.leaf (702, .iload 4, 2)) (.leaf (704, .iconst 1, 1))) (.branch 706 (.leaf (705, .iadd, 1)) (.leaf (706, .iaload, 1))))))) (.branch 725 (.branch 718 (.branch 714 (.branch 710 (.leaf (707, .invokevirtual 78, 3)) (.branch 711 (.leaf (710, .pop, 1)) (.leaf (711, .goto 1094, 3)))) (.branch 715 (.leaf (714, .aload_n 1, 1)) (.branch 716 (.leaf (715, .aload_n 0, 1)) (.leaf (716, .iload 4, 2))))) (.branch 721 (.branch 719 (.leaf (718, .iconst 1, 1)) (.branch 720 (.leaf (719, .iadd, 1)) (.leaf (720, .iaload, 1)))) (.branch 722 (.leaf (721, .aload_n 0, 1)) (.branch 724 (.leaf (722, .iload 4, 2)) (.leaf (724, .iconst 2, 1)))))) (.branch 733 (.branch 730 (.branch 726 (.leaf (725, .iadd, 1)) (.branch 727 (.leaf (726, .iaload, 1)) (.leaf (727, .invokevirtual 79, 3)))) (.branch 731 (.leaf (730, .pop, 1)) (.branch 732 (.leaf (731, .aload_n 2, 1)) (.leaf (732, .aload_n 0, 1))))) (.branch 737 (.branch 735 (.leaf (733, .iload 4, 2)) (.branch 736 (.leaf (735, .iconst 1, 1)) (.leaf (736, .iadd, 1)))) (.branch 739 (.branch 738 (.leaf (737, .iaload, 1)) (.leaf (738, .aload_n 0, 1))) (.branch 741 (.leaf (739, .iload 4, 2)) (.leaf (741, .iconst 2, 1)))))))) (.branch 784 (.branch 764 (.branch 752 (.branch 747 (.branch 743 (.leaf (742, .iadd, 1)) (.branch 744 (.leaf (743, .iaload, 1)) (.leaf (744, .invokevirtual 82, 3)))) (.branch 748 (.leaf (747, .pop, 1)) (.branch 751 (.leaf (748, .goto 1057, 3)) (.leaf (751, .aload_n 1, 1))))) (.branch 757 (.branch 755 (.leaf (752, .invokevirtual 83, 3)) (.branch 756 (.leaf (755, .pop, 1)) (.leaf (756, .aload_n 2, 1)))) (.branch 760 (.leaf (757, .invokevirtual 86, 3)) (.branch 761 (.leaf (760, .pop, 1)) (.leaf (761, .goto 1044, 3)))))) (.branch 774 (.branch 769 (.branch 765 (.leaf (764, .aload_n 1, 1)) (.branch 768 (.leaf (765, .invokevirtual 87, 3)) (.leaf (768, .pop, 1)))) (.branch 770 (.leaf (769, .aload_n 2, 1)) (.branch 773 (.leaf (770, .invokevirtual 90, 3)) (.leaf (773, .pop, 1))))) (.branch 779 (.branch 777 (.leaf (774, .goto 1031, 3)) (.branch 778 (.leaf (777, .aload_n 1, 1)) (.leaf (778, .aload_n 0, 1)))) (.branch 782 (.branch 781 (.leaf (779, .iload 4, 2)) (.leaf (781, .iconst 1, 1))) (.branch 783 (.leaf (782, .iadd, 1)) (.leaf (783, .iaload, 1))))))) (.branch 800 (.branch 793 (.branch 788 (.branch 785 (.leaf (784, .aload_n 0, 1)) (.branch 787 (.leaf (785, .iload 4, 2)) (.leaf (787, .iconst 2, 1)))) (.branch 789 (.leaf (788, .iadd, 1)) (.branch 790 (.leaf (789, .iaload, 1)) (.leaf (790, .invokevirtual 91, 3))))) (.branch 796 (.branch 794 (.leaf (793, .pop, 1)) (.branch 795 (.leaf (794, .aload_n 2, 1)) (.leaf (795, .aload_n 0, 1)))) (.branch 798 (.leaf (796, .iload 4, 2)) (.branch 799 (.leaf (798, .iconst 1, 1)) (.leaf (799, .iadd, 1)))))) (.branch 807 (.branch 804 (.branch 801 (.leaf (800, .iaload, 1)) (.branch 802 (.leaf (801, .aload_n 0, 1)) (.leaf (802, .iload 4, 2)))) (.branch 805 (.leaf (804, .iconst 2, 1)) (.branch 806 (.leaf (805, .iadd, 1)) (.leaf (806, .iaload, 1))))) (.branch 814 (.branch 810 (.leaf (807, .invokevirtual 94, 3)) (.branch 811 (.leaf (810, .pop, 1)) (.leaf (811, .goto 994, 3)))) (.branch 816 (.branch 815 (.leaf (814, .aload_n 1, 1)) (.leaf (815, .aload_n 0, 1))) (.branch 818 (.leaf (816, .iload 4, 2)) (.leaf (818, .iconst 1, 1)))))))))
noncomputable def oL_laws5 : List dLf := dFl tL_laws5
theorem ofL_laws5 : dFl tL_laws5 = oL_laws5 := rfl
set_option maxRecDepth 100000 in
theorem odL_laws5 : ∀ q ∈ oL_laws5, decode cL_law q.1 = .ok (q.2.1, q.2.2) := q_go qT_ok bbL_law oL_laws5 534 (by decide +kernel)
set_option maxRecDepth 100000 in
def tL_laws6 : Lean.RArray dLf := .branch 960 (.branch 889 (.branch 853 (.branch 835 (.branch 826 (.branch 822 (.branch 820 (.leaf (819, .iadd, 1)) (.branch 821 (.leaf (820, .iaload, 1)) (.leaf (821, .aload_n 0, 1)))) (.branch 824 (.leaf (822, .iload 4, 2)) (.branch 825 (.leaf (824, .iconst 2, 1)) (.leaf (825, .iadd, 1))))) (.branch 831 (.branch 827 (.leaf (826, .iaload, 1)) (.branch 830 (.leaf (827, .invokevirtual 95, 3)) (.leaf (830, .pop, 1)))) (.branch 832 (.leaf (831, .aload_n 2, 1)) (.branch 833 (.leaf (832, .aload_n 0, 1)) (.leaf (833, .iload 4, 2)))))) (.branch 842 (.branch 838 (.branch 836 (.leaf (835, .iconst 1, 1)) (.branch 837 (.leaf (836, .iadd, 1)) (.leaf (837, .iaload, 1)))) (.branch 839 (.leaf (838, .aload_n 0, 1)) (.branch 841 (.leaf (839, .iload 4, 2)) (.leaf (841, .iconst 2, 1))))) (.branch 847 (.branch 843 (.leaf (842, .iadd, 1)) (.branch 844 (.leaf (843, .iaload, 1)) (.leaf (844, .invokevirtual 98, 3)))) (.branch 851 (.branch 848 (.leaf (847, .pop, 1)) (.leaf (848, .goto 957, 3))) (.branch 852 (.leaf (851, .aload_n 1, 1)) (.leaf (852, .aload_n 0, 1))))))) (.branch 869 (.branch 862 (.branch 857 (.branch 855 (.leaf (853, .iload 4, 2)) (.branch 856 (.leaf (855, .iconst 1, 1)) (.leaf (856, .iadd, 1)))) (.branch 858 (.leaf (857, .iaload, 1)) (.branch 861 (.leaf (858, .invokevirtual 99, 3)) (.leaf (861, .pop, 1))))) (.branch 866 (.branch 863 (.leaf (862, .aload_n 2, 1)) (.branch 864 (.leaf (863, .aload_n 0, 1)) (.leaf (864, .iload 4, 2)))) (.branch 867 (.leaf (866, .iconst 1, 1)) (.branch 868 (.leaf (867, .iadd, 1)) (.leaf (868, .iaload, 1)))))) (.branch 880 (.branch 876 (.branch 872 (.leaf (869, .invokevirtual 102, 3)) (.branch 873 (.leaf (872, .pop, 1)) (.leaf (873, .goto 932, 3)))) (.branch 877 (.leaf (876, .aload_n 1, 1)) (.branch 878 (.leaf (877, .aload_n 0, 1)) (.leaf (878, .iload 4, 2))))) (.branch 883 (.branch 881 (.leaf (880, .iconst 1, 1)) (.branch 882 (.leaf (881, .iadd, 1)) (.leaf (882, .iaload, 1)))) (.branch 887 (.branch 886 (.leaf (883, .invokevirtual 103, 3)) (.leaf (886, .pop, 1))) (.branch 888 (.leaf (887, .aload_n 2, 1)) (.leaf (888, .aload_n 0, 1)))))))) (.branch 924 (.branch 907 (.branch 898 (.branch 893 (.branch 891 (.leaf (889, .iload 4, 2)) (.branch 892 (.leaf (891, .iconst 1, 1)) (.leaf (892, .iadd, 1)))) (.branch 894 (.leaf (893, .iaload, 1)) (.branch 897 (.leaf (894, .invokevirtual 106, 3)) (.leaf (897, .pop, 1))))) (.branch 903 (.branch 901 (.leaf (898, .goto 907, 3)) (.branch 902 (.leaf (901, .aload_n 1, 1)) (.leaf (902, .aload_n 0, 1)))) (.branch 905 (.leaf (903, .iload 4, 2)) (.branch 906 (.leaf (905, .iconst 1, 1)) (.leaf (906, .iadd, 1)))))) (.branch 914 (.branch 911 (.branch 908 (.leaf (907, .iaload, 1)) (.branch 909 (.leaf (908, .aload_n 0, 1)) (.leaf (909, .iload 4, 2)))) (.branch 912 (.leaf (911, .iconst 2, 1)) (.branch 913 (.leaf (912, .iadd, 1)) (.leaf (913, .iaload, 1))))) (.branch 919 (.branch 917 (.leaf (914, .invokevirtual 107, 3)) (.branch 918 (.leaf (917, .pop, 1)) (.leaf (918, .aload_n 2, 1)))) (.branch 922 (.branch 920 (.leaf (919, .aload_n 0, 1)) (.leaf (920, .iload 4, 2))) (.branch 923 (.leaf (922, .iconst 1, 1)) (.leaf (923, .iadd, 1))))))) (.branch 942 (.branch 931 (.branch 928 (.branch 925 (.leaf (924, .iaload, 1)) (.branch 926 (.leaf (925, .aload_n 0, 1)) (.leaf (926, .iload 4, 2)))) (.branch 929 (.leaf (928, .iconst 2, 1)) (.branch 930 (.leaf (929, .iadd, 1)) (.leaf (930, .iaload, 1))))) (.branch 938 (.branch 934 (.leaf (931, .invokevirtual 110, 3)) (.branch 935 (.leaf (934, .pop, 1)) (.leaf (935, .goto 870, 3)))) (.branch 939 (.leaf (938, .aload_n 1, 1)) (.branch 940 (.leaf (939, .aload_n 0, 1)) (.leaf (940, .iload 4, 2)))))) (.branch 950 (.branch 945 (.branch 943 (.leaf (942, .iconst 1, 1)) (.branch 944 (.leaf (943, .iadd, 1)) (.leaf (944, .iaload, 1)))) (.branch 948 (.leaf (945, .invokevirtual 111, 3)) (.branch 949 (.leaf (948, .pop, 1)) (.leaf (949, .aload_n 2, 1))))) (.branch 954 (.branch 951 (.leaf (950, .aload_n 0, 1)) (.branch 953 (.leaf (951, .iload 4, 2)) (.leaf (953, .iconst 1, 1)))) (.branch 956 (.branch 955 (.leaf (954, .iadd, 1)) (.leaf (955, .iaload, 1))) (.branch 959 (.leaf (956, .invokevirtual 114, 3)) (.leaf (959, .pop, 1))))))))) (.branch 1026 (.branch 993 (.branch 976 (.branch 969 (.branch 965 (.branch 963 (.leaf (960, .goto 845, 3)) (.branch 964 (.leaf (963, .aload_n 1, 1)) (.leaf (964, .aload_n 0, 1)))) (.branch 967 (.leaf (965, .iload 4, 2)) (.branch 968 (.leaf (967, .iconst 1, 1)) (.leaf (968, .iadd, 1))))) (.branch 973 (.branch 970 (.leaf (969, .iaload, 1)) (.branch 971 (.leaf (970, .aload_n 0, 1)) (.leaf (971, .iload 4, 2)))) (.branch 974 (.leaf (973, .iconst 2, 1)) (.branch 975 (.leaf (974, .iadd, 1)) (.leaf (975, .iaload, 1)))))) (.branch 983 (.branch 980 (.branch 977 (.leaf (976, .aload_n 0, 1)) (.branch 979 (.leaf (977, .iload 4, 2)) (.leaf (979, .iconst 3, 1)))) (.branch 981 (.leaf (980, .iadd, 1)) (.branch 982 (.leaf (981, .iaload, 1)) (.leaf (982, .aload_n 0, 1))))) (.branch 987 (.branch 985 (.leaf (983, .iload 4, 2)) (.branch 986 (.leaf (985, .iconst 4, 1)) (.leaf (986, .iadd, 1)))) (.branch 991 (.branch 988 (.leaf (987, .iaload, 1)) (.leaf (988, .invokevirtual 115, 3))) (.branch 992 (.leaf (991, .pop, 1)) (.leaf (992, .aload_n 2, 1))))))) (.branch 1008 (.branch 1000 (.branch 997 (.branch 994 (.leaf (993, .aload_n 0, 1)) (.branch 996 (.leaf (994, .iload 4, 2)) (.leaf (996, .iconst 1, 1)))) (.branch 998 (.leaf (997, .iadd, 1)) (.branch 999 (.leaf (998, .iaload, 1)) (.leaf (999, .aload_n 0, 1))))) (.branch 1004 (.branch 1002 (.leaf (1000, .iload 4, 2)) (.branch 1003 (.leaf (1002, .iconst 2, 1)) (.leaf (1003, .iadd, 1)))) (.branch 1005 (.leaf (1004, .iaload, 1)) (.branch 1006 (.leaf (1005, .aload_n 0, 1)) (.leaf (1006, .iload 4, 2)))))) (.branch 1015 (.branch 1011 (.branch 1009 (.leaf (1008, .iconst 3, 1)) (.branch 1010 (.leaf (1009, .iadd, 1)) (.leaf (1010, .iaload, 1)))) (.branch 1012 (.leaf (1011, .aload_n 0, 1)) (.branch 1014 (.leaf (1012, .iload 4, 2)) (.leaf (1014, .iconst 4, 1))))) (.branch 1020 (.branch 1016 (.leaf (1015, .iadd, 1)) (.branch 1017 (.leaf (1016, .iaload, 1)) (.leaf (1017, .invokevirtual 119, 3)))) (.branch 1024 (.branch 1021 (.leaf (1020, .pop, 1)) (.leaf (1021, .goto 784, 3))) (.branch 1025 (.leaf (1024, .aload_n 1, 1)) (.leaf (1025, .aload_n 0, 1)))))))) (.branch 1061 (.branch 1042 (.branch 1034 (.branch 1030 (.branch 1028 (.leaf (1026, .iload 4, 2)) (.branch 1029 (.leaf (1028, .iconst 1, 1)) (.leaf (1029, .iadd, 1)))) (.branch 1031 (.leaf (1030, .iaload, 1)) (.branch 1032 (.leaf (1031, .aload_n 0, 1)) (.leaf (1032, .iload 4, 2))))) (.branch 1037 (.branch 1035 (.leaf (1034, .iconst 2, 1)) (.branch 1036 (.leaf (1035, .iadd, 1)) (.leaf (1036, .iaload, 1)))) (.branch 1040 (.leaf (1037, .invokevirtual 120, 3)) (.branch 1041 (.leaf (1040, .pop, 1)) (.leaf (1041, .aload_n 2, 1)))))) (.branch 1049 (.branch 1046 (.branch 1043 (.leaf (1042, .aload_n 0, 1)) (.branch 1045 (.leaf (1043, .iload 4, 2)) (.leaf (1045, .iconst 1, 1)))) (.branch 1047 (.leaf (1046, .iadd, 1)) (.branch 1048 (.leaf (1047, .iaload, 1)) (.leaf (1048, .aload_n 0, 1))))) (.branch 1053 (.branch 1051 (.leaf (1049, .iload 4, 2)) (.branch 1052 (.leaf (1051, .iconst 2, 1)) (.leaf (1052, .iadd, 1)))) (.branch 1057 (.branch 1054 (.leaf (1053, .iaload, 1)) (.leaf (1054, .invokevirtual 123, 3))) (.branch 1058 (.leaf (1057, .pop, 1)) (.leaf (1058, .goto 747, 3))))))) (.branch 1077 (.branch 1068 (.branch 1065 (.branch 1062 (.leaf (1061, .aload_n 1, 1)) (.branch 1063 (.leaf (1062, .aload_n 0, 1)) (.leaf (1063, .iload 4, 2)))) (.branch 1066 (.leaf (1065, .iconst 1, 1)) (.branch 1067 (.leaf (1066, .iadd, 1)) (.leaf (1067, .iaload, 1))))) (.branch 1073 (.branch 1071 (.leaf (1068, .invokevirtual 124, 3)) (.branch 1072 (.leaf (1071, .pop, 1)) (.leaf (1072, .aload_n 2, 1)))) (.branch 1074 (.leaf (1073, .aload_n 0, 1)) (.branch 1076 (.leaf (1074, .iload 4, 2)) (.leaf (1076, .iconst 1, 1)))))) (.branch 1087 (.branch 1082 (.branch 1078 (.leaf (1077, .iadd, 1)) (.branch 1079 (.leaf (1078, .iaload, 1)) (.leaf (1079, .invokevirtual 127, 3)))) (.branch 1083 (.leaf (1082, .pop, 1)) (.branch 1086 (.leaf (1083, .goto 722, 3)) (.leaf (1086, .aload_n 1, 1))))) (.branch 1091 (.branch 1088 (.leaf (1087, .aload_n 0, 1)) (.branch 1090 (.leaf (1088, .iload 4, 2)) (.leaf (1090, .iconst 1, 1)))) (.branch 1093 (.branch 1092 (.leaf (1091, .iadd, 1)) (.leaf (1092, .iaload, 1))) (.branch 1096 (.leaf (1093, .invokevirtual 128, 3)) (.leaf (1096, .pop, 1)))))))))
noncomputable def oL_laws6 : List dLf := dFl tL_laws6
theorem ofL_laws6 : dFl tL_laws6 = oL_laws6 := rfl
set_option maxRecDepth 100000 in
theorem odL_laws6 : ∀ q ∈ oL_laws6, decode cL_law q.1 = .ok (q.2.1, q.2.2) := q_go qT_ok bbL_law oL_laws6 819 (by decide +kernel)
set_option maxRecDepth 100000 in
def tL_laws7 : Lean.RArray dLf := .branch 1248 (.branch 1168 (.branch 1132 (.branch 1115 (.branch 1104 (.branch 1101 (.branch 1098 (.leaf (1097, .aload_n 2, 1)) (.branch 1099 (.leaf (1098, .aload_n 0, 1)) (.leaf (1099, .iload 4, 2)))) (.branch 1102 (.leaf (1101, .iconst 1, 1)) (.branch 1103 (.leaf (1102, .iadd, 1)) (.leaf (1103, .iaload, 1))))) (.branch 1111 (.branch 1107 (.leaf (1104, .invokevirtual 131, 3)) (.branch 1108 (.leaf (1107, .pop, 1)) (.leaf (1108, .goto 697, 3)))) (.branch 1112 (.leaf (1111, .aload_n 1, 1)) (.branch 1113 (.leaf (1112, .aload_n 0, 1)) (.leaf (1113, .iload 4, 2)))))) (.branch 1122 (.branch 1118 (.branch 1116 (.leaf (1115, .iconst 1, 1)) (.branch 1117 (.leaf (1116, .iadd, 1)) (.leaf (1117, .iaload, 1)))) (.branch 1119 (.leaf (1118, .aload_n 0, 1)) (.branch 1121 (.leaf (1119, .iload 4, 2)) (.leaf (1121, .iconst 2, 1))))) (.branch 1127 (.branch 1123 (.leaf (1122, .iadd, 1)) (.branch 1124 (.leaf (1123, .iaload, 1)) (.leaf (1124, .invokevirtual 132, 3)))) (.branch 1129 (.branch 1128 (.leaf (1127, .pop, 1)) (.leaf (1128, .aload_n 2, 1))) (.branch 1130 (.leaf (1129, .aload_n 0, 1)) (.leaf (1130, .iload 4, 2))))))) (.branch 1149 (.branch 1139 (.branch 1135 (.branch 1133 (.leaf (1132, .iconst 1, 1)) (.branch 1134 (.leaf (1133, .iadd, 1)) (.leaf (1134, .iaload, 1)))) (.branch 1136 (.leaf (1135, .aload_n 0, 1)) (.branch 1138 (.leaf (1136, .iload 4, 2)) (.leaf (1138, .iconst 2, 1))))) (.branch 1144 (.branch 1140 (.leaf (1139, .iadd, 1)) (.branch 1141 (.leaf (1140, .iaload, 1)) (.leaf (1141, .invokevirtual 135, 3)))) (.branch 1145 (.leaf (1144, .pop, 1)) (.branch 1148 (.leaf (1145, .goto 660, 3)) (.leaf (1148, .aload_n 1, 1)))))) (.branch 1156 (.branch 1153 (.branch 1150 (.leaf (1149, .aload_n 0, 1)) (.branch 1152 (.leaf (1150, .iload 4, 2)) (.leaf (1152, .iconst 1, 1)))) (.branch 1154 (.leaf (1153, .iadd, 1)) (.branch 1155 (.leaf (1154, .iaload, 1)) (.leaf (1155, .aload_n 0, 1))))) (.branch 1160 (.branch 1158 (.leaf (1156, .iload 4, 2)) (.branch 1159 (.leaf (1158, .iconst 2, 1)) (.leaf (1159, .iadd, 1)))) (.branch 1164 (.branch 1161 (.leaf (1160, .iaload, 1)) (.leaf (1161, .ifCond .eq 7, 3))) (.branch 1165 (.leaf (1164, .iconst 1, 1)) (.leaf (1165, .goto 4, 3)))))))) (.branch 1207 (.branch 1184 (.branch 1177 (.branch 1173 (.branch 1169 (.leaf (1168, .iconst 0, 1)) (.branch 1172 (.leaf (1169, .invokevirtual 136, 3)) (.leaf (1172, .pop2, 1)))) (.branch 1174 (.leaf (1173, .aload_n 2, 1)) (.branch 1175 (.leaf (1174, .aload_n 0, 1)) (.leaf (1175, .iload 4, 2))))) (.branch 1180 (.branch 1178 (.leaf (1177, .iconst 1, 1)) (.branch 1179 (.leaf (1178, .iadd, 1)) (.leaf (1179, .iaload, 1)))) (.branch 1181 (.leaf (1180, .aload_n 0, 1)) (.branch 1183 (.leaf (1181, .iload 4, 2)) (.leaf (1183, .iconst 2, 1)))))) (.branch 1194 (.branch 1189 (.branch 1185 (.leaf (1184, .iadd, 1)) (.branch 1186 (.leaf (1185, .iaload, 1)) (.leaf (1186, .ifCond .eq 7, 3)))) (.branch 1190 (.leaf (1189, .iconst 1, 1)) (.branch 1193 (.leaf (1190, .goto 4, 3)) (.leaf (1193, .iconst 0, 1))))) (.branch 1201 (.branch 1197 (.leaf (1194, .invokevirtual 140, 3)) (.branch 1198 (.leaf (1197, .pop2, 1)) (.leaf (1198, .goto 607, 3)))) (.branch 1205 (.branch 1202 (.leaf (1201, .aload_n 1, 1)) (.leaf (1202, .invokevirtual 141, 3))) (.branch 1206 (.leaf (1205, .pop, 1)) (.leaf (1206, .aload_n 2, 1))))))) (.branch 1229 (.branch 1219 (.branch 1214 (.branch 1210 (.leaf (1207, .invokevirtual 144, 3)) (.branch 1211 (.leaf (1210, .pop, 1)) (.leaf (1211, .goto 594, 3)))) (.branch 1215 (.leaf (1214, .aload_n 1, 1)) (.branch 1218 (.leaf (1215, .invokevirtual 145, 3)) (.leaf (1218, .pop, 1))))) (.branch 1224 (.branch 1220 (.leaf (1219, .aload_n 2, 1)) (.branch 1223 (.leaf (1220, .invokevirtual 148, 3)) (.leaf (1223, .pop, 1)))) (.branch 1227 (.leaf (1224, .goto 581, 3)) (.branch 1228 (.leaf (1227, .aload_n 1, 1)) (.leaf (1228, .aload_n 0, 1)))))) (.branch 1238 (.branch 1233 (.branch 1231 (.leaf (1229, .iload 4, 2)) (.branch 1232 (.leaf (1231, .iconst 1, 1)) (.leaf (1232, .iadd, 1)))) (.branch 1234 (.leaf (1233, .iaload, 1)) (.branch 1237 (.leaf (1234, .invokevirtual 149, 3)) (.leaf (1237, .pop, 1))))) (.branch 1242 (.branch 1239 (.leaf (1238, .aload_n 2, 1)) (.branch 1240 (.leaf (1239, .aload_n 0, 1)) (.leaf (1240, .iload 4, 2)))) (.branch 1244 (.branch 1243 (.leaf (1242, .iconst 1, 1)) (.leaf (1243, .iadd, 1))) (.branch 1245 (.leaf (1244, .iaload, 1)) (.leaf (1245, .invokevirtual 152, 3))))))))) (.branch 1314 (.branch 1281 (.branch 1264 (.branch 1257 (.branch 1253 (.branch 1249 (.leaf (1248, .pop, 1)) (.branch 1252 (.leaf (1249, .goto 556, 3)) (.leaf (1252, .aload_n 1, 1)))) (.branch 1254 (.leaf (1253, .aload_n 0, 1)) (.branch 1256 (.leaf (1254, .iload 4, 2)) (.leaf (1256, .iconst 1, 1))))) (.branch 1260 (.branch 1258 (.leaf (1257, .iadd, 1)) (.branch 1259 (.leaf (1258, .iaload, 1)) (.leaf (1259, .aload_n 0, 1)))) (.branch 1262 (.leaf (1260, .iload 4, 2)) (.branch 1263 (.leaf (1262, .iconst 2, 1)) (.leaf (1263, .iadd, 1)))))) (.branch 1271 (.branch 1268 (.branch 1265 (.leaf (1264, .iaload, 1)) (.branch 1266 (.leaf (1265, .aload_n 0, 1)) (.leaf (1266, .iload 4, 2)))) (.branch 1269 (.leaf (1268, .iconst 3, 1)) (.branch 1270 (.leaf (1269, .iadd, 1)) (.leaf (1270, .iaload, 1))))) (.branch 1275 (.branch 1272 (.leaf (1271, .aload_n 0, 1)) (.branch 1274 (.leaf (1272, .iload 4, 2)) (.leaf (1274, .iconst 4, 1)))) (.branch 1277 (.branch 1276 (.leaf (1275, .iadd, 1)) (.leaf (1276, .iaload, 1))) (.branch 1280 (.leaf (1277, .invokevirtual 153, 3)) (.leaf (1280, .pop, 1))))))) (.branch 1295 (.branch 1288 (.branch 1285 (.branch 1282 (.leaf (1281, .aload_n 2, 1)) (.branch 1283 (.leaf (1282, .aload_n 0, 1)) (.leaf (1283, .iload 4, 2)))) (.branch 1286 (.leaf (1285, .iconst 1, 1)) (.branch 1287 (.leaf (1286, .iadd, 1)) (.leaf (1287, .iaload, 1))))) (.branch 1292 (.branch 1289 (.leaf (1288, .aload_n 0, 1)) (.branch 1291 (.leaf (1289, .iload 4, 2)) (.leaf (1291, .iconst 2, 1)))) (.branch 1293 (.leaf (1292, .iadd, 1)) (.branch 1294 (.leaf (1293, .iaload, 1)) (.leaf (1294, .aload_n 0, 1)))))) (.branch 1303 (.branch 1299 (.branch 1297 (.leaf (1295, .iload 4, 2)) (.branch 1298 (.leaf (1297, .iconst 3, 1)) (.leaf (1298, .iadd, 1)))) (.branch 1300 (.leaf (1299, .iaload, 1)) (.branch 1301 (.leaf (1300, .aload_n 0, 1)) (.leaf (1301, .iload 4, 2))))) (.branch 1306 (.branch 1304 (.leaf (1303, .iconst 4, 1)) (.branch 1305 (.leaf (1304, .iadd, 1)) (.leaf (1305, .iaload, 1)))) (.branch 1310 (.branch 1309 (.leaf (1306, .invokevirtual 156, 3)) (.leaf (1309, .pop, 1))) (.branch 1313 (.leaf (1310, .goto 495, 3)) (.leaf (1313, .aload_n 1, 1)))))))) (.branch 1350 (.branch 1333 (.branch 1326 (.branch 1319 (.branch 1317 (.leaf (1314, .invokevirtual 157, 3)) (.branch 1318 (.leaf (1317, .pop, 1)) (.leaf (1318, .aload_n 2, 1)))) (.branch 1322 (.leaf (1319, .invokevirtual 160, 3)) (.branch 1323 (.leaf (1322, .pop, 1)) (.leaf (1323, .goto 482, 3))))) (.branch 1330 (.branch 1327 (.leaf (1326, .aload_n 1, 1)) (.branch 1328 (.leaf (1327, .aload_n 0, 1)) (.leaf (1328, .iload 4, 2)))) (.branch 1331 (.leaf (1330, .iconst 1, 1)) (.branch 1332 (.leaf (1331, .iadd, 1)) (.leaf (1332, .iaload, 1)))))) (.branch 1342 (.branch 1337 (.branch 1334 (.leaf (1333, .aload_n 0, 1)) (.branch 1336 (.leaf (1334, .iload 4, 2)) (.leaf (1336, .iconst 2, 1)))) (.branch 1338 (.leaf (1337, .iadd, 1)) (.branch 1339 (.leaf (1338, .iaload, 1)) (.leaf (1339, .invokevirtual 161, 3))))) (.branch 1345 (.branch 1343 (.leaf (1342, .pop, 1)) (.branch 1344 (.leaf (1343, .aload_n 2, 1)) (.leaf (1344, .aload_n 0, 1)))) (.branch 1348 (.branch 1347 (.leaf (1345, .iload 4, 2)) (.leaf (1347, .iconst 1, 1))) (.branch 1349 (.leaf (1348, .iadd, 1)) (.leaf (1349, .iaload, 1))))))) (.branch 1368 (.branch 1359 (.branch 1354 (.branch 1351 (.leaf (1350, .aload_n 0, 1)) (.branch 1353 (.leaf (1351, .iload 4, 2)) (.leaf (1353, .iconst 2, 1)))) (.branch 1355 (.leaf (1354, .iadd, 1)) (.branch 1356 (.leaf (1355, .iaload, 1)) (.leaf (1356, .invokevirtual 164, 3))))) (.branch 1364 (.branch 1360 (.leaf (1359, .pop, 1)) (.branch 1363 (.leaf (1360, .goto 445, 3)) (.leaf (1363, .aload_n 1, 1)))) (.branch 1365 (.leaf (1364, .aload_n 0, 1)) (.branch 1367 (.leaf (1365, .iload 4, 2)) (.leaf (1367, .iconst 1, 1)))))) (.branch 1376 (.branch 1373 (.branch 1369 (.leaf (1368, .iadd, 1)) (.branch 1370 (.leaf (1369, .iaload, 1)) (.leaf (1370, .invokevirtual 165, 3)))) (.branch 1374 (.leaf (1373, .pop, 1)) (.branch 1375 (.leaf (1374, .aload_n 2, 1)) (.leaf (1375, .aload_n 0, 1))))) (.branch 1380 (.branch 1378 (.leaf (1376, .iload 4, 2)) (.branch 1379 (.leaf (1378, .iconst 1, 1)) (.leaf (1379, .iadd, 1)))) (.branch 1384 (.branch 1381 (.leaf (1380, .iaload, 1)) (.leaf (1381, .invokevirtual 168, 3))) (.branch 1385 (.leaf (1384, .pop, 1)) (.leaf (1385, .goto 420, 3)))))))))
noncomputable def oL_laws7 : List dLf := dFl tL_laws7
theorem ofL_laws7 : dFl tL_laws7 = oL_laws7 := rfl
set_option maxRecDepth 100000 in
theorem odL_laws7 : ∀ q ∈ oL_laws7, decode cL_law q.1 = .ok (q.2.1, q.2.2) := q_go qT_ok bbL_law oL_laws7 1097 (by decide +kernel)
set_option maxRecDepth 100000 in
def tL_laws8 : Lean.RArray dLf := .branch 1526 (.branch 1457 (.branch 1421 (.branch 1404 (.branch 1395 (.branch 1392 (.branch 1389 (.leaf (1388, .aload_n 1, 1)) (.branch 1390 (.leaf (1389, .aload_n 0, 1)) (.leaf (1390, .iload 4, 2)))) (.branch 1393 (.leaf (1392, .iconst 1, 1)) (.branch 1394 (.leaf (1393, .iadd, 1)) (.leaf (1394, .iaload, 1))))) (.branch 1399 (.branch 1396 (.leaf (1395, .aload_n 0, 1)) (.branch 1398 (.leaf (1396, .iload 4, 2)) (.leaf (1398, .iconst 2, 1)))) (.branch 1400 (.leaf (1399, .iadd, 1)) (.branch 1401 (.leaf (1400, .iaload, 1)) (.leaf (1401, .invokevirtual 169, 3)))))) (.branch 1411 (.branch 1407 (.branch 1405 (.leaf (1404, .pop, 1)) (.branch 1406 (.leaf (1405, .aload_n 2, 1)) (.leaf (1406, .aload_n 0, 1)))) (.branch 1409 (.leaf (1407, .iload 4, 2)) (.branch 1410 (.leaf (1409, .iconst 1, 1)) (.leaf (1410, .iadd, 1))))) (.branch 1415 (.branch 1412 (.leaf (1411, .iaload, 1)) (.branch 1413 (.leaf (1412, .aload_n 0, 1)) (.leaf (1413, .iload 4, 2)))) (.branch 1417 (.branch 1416 (.leaf (1415, .iconst 2, 1)) (.leaf (1416, .iadd, 1))) (.branch 1418 (.leaf (1417, .iaload, 1)) (.leaf (1418, .invokevirtual 172, 3))))))) (.branch 1438 (.branch 1430 (.branch 1426 (.branch 1422 (.leaf (1421, .pop, 1)) (.branch 1425 (.leaf (1422, .goto 383, 3)) (.leaf (1425, .aload_n 1, 1)))) (.branch 1427 (.leaf (1426, .aload_n 0, 1)) (.branch 1429 (.leaf (1427, .iload 4, 2)) (.leaf (1429, .iconst 1, 1))))) (.branch 1435 (.branch 1431 (.leaf (1430, .iadd, 1)) (.branch 1432 (.leaf (1431, .iaload, 1)) (.leaf (1432, .invokevirtual 173, 3)))) (.branch 1436 (.leaf (1435, .pop, 1)) (.branch 1437 (.leaf (1436, .aload_n 2, 1)) (.leaf (1437, .aload_n 0, 1)))))) (.branch 1447 (.branch 1442 (.branch 1440 (.leaf (1438, .iload 4, 2)) (.branch 1441 (.leaf (1440, .iconst 1, 1)) (.leaf (1441, .iadd, 1)))) (.branch 1443 (.leaf (1442, .iaload, 1)) (.branch 1446 (.leaf (1443, .invokevirtual 176, 3)) (.leaf (1446, .pop, 1))))) (.branch 1452 (.branch 1450 (.leaf (1447, .goto 358, 3)) (.branch 1451 (.leaf (1450, .aload_n 1, 1)) (.leaf (1451, .aload_n 0, 1)))) (.branch 1455 (.branch 1454 (.leaf (1452, .iload 4, 2)) (.leaf (1454, .iconst 1, 1))) (.branch 1456 (.leaf (1455, .iadd, 1)) (.leaf (1456, .iaload, 1)))))))) (.branch 1492 (.branch 1473 (.branch 1466 (.branch 1461 (.branch 1458 (.leaf (1457, .aload_n 0, 1)) (.branch 1460 (.leaf (1458, .iload 4, 2)) (.leaf (1460, .iconst 2, 1)))) (.branch 1462 (.leaf (1461, .iadd, 1)) (.branch 1463 (.leaf (1462, .iaload, 1)) (.leaf (1463, .invokevirtual 177, 3))))) (.branch 1469 (.branch 1467 (.leaf (1466, .pop, 1)) (.branch 1468 (.leaf (1467, .aload_n 2, 1)) (.leaf (1468, .aload_n 0, 1)))) (.branch 1471 (.leaf (1469, .iload 4, 2)) (.branch 1472 (.leaf (1471, .iconst 1, 1)) (.leaf (1472, .iadd, 1)))))) (.branch 1480 (.branch 1477 (.branch 1474 (.leaf (1473, .iaload, 1)) (.branch 1475 (.leaf (1474, .aload_n 0, 1)) (.leaf (1475, .iload 4, 2)))) (.branch 1478 (.leaf (1477, .iconst 2, 1)) (.branch 1479 (.leaf (1478, .iadd, 1)) (.leaf (1479, .iaload, 1))))) (.branch 1487 (.branch 1483 (.leaf (1480, .invokevirtual 180, 3)) (.branch 1484 (.leaf (1483, .pop, 1)) (.leaf (1484, .goto 321, 3)))) (.branch 1489 (.branch 1488 (.leaf (1487, .aload_n 1, 1)) (.leaf (1488, .aload_n 0, 1))) (.branch 1491 (.leaf (1489, .iload 4, 2)) (.leaf (1491, .iconst 1, 1))))))) (.branch 1508 (.branch 1499 (.branch 1495 (.branch 1493 (.leaf (1492, .iadd, 1)) (.branch 1494 (.leaf (1493, .iaload, 1)) (.leaf (1494, .aload_n 0, 1)))) (.branch 1497 (.leaf (1495, .iload 4, 2)) (.branch 1498 (.leaf (1497, .iconst 2, 1)) (.leaf (1498, .iadd, 1))))) (.branch 1504 (.branch 1500 (.leaf (1499, .iaload, 1)) (.branch 1503 (.leaf (1500, .invokevirtual 181, 3)) (.leaf (1503, .pop, 1)))) (.branch 1505 (.leaf (1504, .aload_n 2, 1)) (.branch 1506 (.leaf (1505, .aload_n 0, 1)) (.leaf (1506, .iload 4, 2)))))) (.branch 1515 (.branch 1511 (.branch 1509 (.leaf (1508, .iconst 1, 1)) (.branch 1510 (.leaf (1509, .iadd, 1)) (.leaf (1510, .iaload, 1)))) (.branch 1512 (.leaf (1511, .aload_n 0, 1)) (.branch 1514 (.leaf (1512, .iload 4, 2)) (.leaf (1514, .iconst 2, 1))))) (.branch 1520 (.branch 1516 (.leaf (1515, .iadd, 1)) (.branch 1517 (.leaf (1516, .iaload, 1)) (.leaf (1517, .invokevirtual 184, 3)))) (.branch 1524 (.branch 1521 (.leaf (1520, .pop, 1)) (.leaf (1521, .goto 284, 3))) (.branch 1525 (.leaf (1524, .aload_n 1, 1)) (.leaf (1525, .aload_n 0, 1))))))))) (.branch 1592 (.branch 1561 (.branch 1542 (.branch 1534 (.branch 1530 (.branch 1528 (.leaf (1526, .iload 4, 2)) (.branch 1529 (.leaf (1528, .iconst 1, 1)) (.leaf (1529, .iadd, 1)))) (.branch 1531 (.leaf (1530, .iaload, 1)) (.branch 1532 (.leaf (1531, .aload_n 0, 1)) (.leaf (1532, .iload 4, 2))))) (.branch 1537 (.branch 1535 (.leaf (1534, .iconst 2, 1)) (.branch 1536 (.leaf (1535, .iadd, 1)) (.leaf (1536, .iaload, 1)))) (.branch 1540 (.leaf (1537, .invokevirtual 185, 3)) (.branch 1541 (.leaf (1540, .pop, 1)) (.leaf (1541, .aload_n 2, 1)))))) (.branch 1549 (.branch 1546 (.branch 1543 (.leaf (1542, .aload_n 0, 1)) (.branch 1545 (.leaf (1543, .iload 4, 2)) (.leaf (1545, .iconst 1, 1)))) (.branch 1547 (.leaf (1546, .iadd, 1)) (.branch 1548 (.leaf (1547, .iaload, 1)) (.leaf (1548, .aload_n 0, 1))))) (.branch 1553 (.branch 1551 (.leaf (1549, .iload 4, 2)) (.branch 1552 (.leaf (1551, .iconst 2, 1)) (.leaf (1552, .iadd, 1)))) (.branch 1557 (.branch 1554 (.leaf (1553, .iaload, 1)) (.leaf (1554, .invokevirtual 188, 3))) (.branch 1558 (.leaf (1557, .pop, 1)) (.leaf (1558, .goto 247, 3))))))) (.branch 1575 (.branch 1568 (.branch 1565 (.branch 1562 (.leaf (1561, .aload_n 1, 1)) (.branch 1563 (.leaf (1562, .aload_n 0, 1)) (.leaf (1563, .iload 4, 2)))) (.branch 1566 (.leaf (1565, .iconst 1, 1)) (.branch 1567 (.leaf (1566, .iadd, 1)) (.leaf (1567, .iaload, 1))))) (.branch 1572 (.branch 1569 (.leaf (1568, .aload_n 0, 1)) (.branch 1571 (.leaf (1569, .iload 4, 2)) (.leaf (1571, .iconst 2, 1)))) (.branch 1573 (.leaf (1572, .iadd, 1)) (.branch 1574 (.leaf (1573, .iaload, 1)) (.leaf (1574, .aload_n 0, 1)))))) (.branch 1584 (.branch 1579 (.branch 1577 (.leaf (1575, .iload 4, 2)) (.branch 1578 (.leaf (1577, .iconst 3, 1)) (.leaf (1578, .iadd, 1)))) (.branch 1580 (.leaf (1579, .iaload, 1)) (.branch 1583 (.leaf (1580, .invokevirtual 189, 3)) (.leaf (1583, .pop, 1))))) (.branch 1588 (.branch 1585 (.leaf (1584, .aload_n 2, 1)) (.branch 1586 (.leaf (1585, .aload_n 0, 1)) (.leaf (1586, .iload 4, 2)))) (.branch 1590 (.branch 1589 (.leaf (1588, .iconst 1, 1)) (.leaf (1589, .iadd, 1))) (.branch 1591 (.leaf (1590, .iaload, 1)) (.leaf (1591, .aload_n 0, 1)))))))) (.branch 1627 (.branch 1610 (.branch 1600 (.branch 1596 (.branch 1594 (.leaf (1592, .iload 4, 2)) (.branch 1595 (.leaf (1594, .iconst 2, 1)) (.leaf (1595, .iadd, 1)))) (.branch 1597 (.leaf (1596, .iaload, 1)) (.branch 1598 (.leaf (1597, .aload_n 0, 1)) (.leaf (1598, .iload 4, 2))))) (.branch 1603 (.branch 1601 (.leaf (1600, .iconst 3, 1)) (.branch 1602 (.leaf (1601, .iadd, 1)) (.leaf (1602, .iaload, 1)))) (.branch 1606 (.leaf (1603, .invokevirtual 193, 3)) (.branch 1607 (.leaf (1606, .pop, 1)) (.leaf (1607, .goto 198, 3)))))) (.branch 1617 (.branch 1614 (.branch 1611 (.leaf (1610, .aload_n 1, 1)) (.branch 1612 (.leaf (1611, .aload_n 0, 1)) (.leaf (1612, .iload 4, 2)))) (.branch 1615 (.leaf (1614, .iconst 1, 1)) (.branch 1616 (.leaf (1615, .iadd, 1)) (.leaf (1616, .iaload, 1))))) (.branch 1622 (.branch 1620 (.leaf (1617, .invokevirtual 194, 3)) (.branch 1621 (.leaf (1620, .pop, 1)) (.leaf (1621, .aload_n 2, 1)))) (.branch 1625 (.branch 1623 (.leaf (1622, .aload_n 0, 1)) (.leaf (1623, .iload 4, 2))) (.branch 1626 (.leaf (1625, .iconst 1, 1)) (.leaf (1626, .iadd, 1))))))) (.branch 1645 (.branch 1637 (.branch 1632 (.branch 1628 (.leaf (1627, .iaload, 1)) (.branch 1631 (.leaf (1628, .invokevirtual 197, 3)) (.leaf (1631, .pop, 1)))) (.branch 1635 (.leaf (1632, .goto 173, 3)) (.branch 1636 (.leaf (1635, .aload_n 1, 1)) (.leaf (1636, .aload_n 0, 1))))) (.branch 1641 (.branch 1639 (.leaf (1637, .iload 4, 2)) (.branch 1640 (.leaf (1639, .iconst 1, 1)) (.leaf (1640, .iadd, 1)))) (.branch 1642 (.leaf (1641, .iaload, 1)) (.branch 1643 (.leaf (1642, .aload_n 0, 1)) (.leaf (1643, .iload 4, 2)))))) (.branch 1655 (.branch 1648 (.branch 1646 (.leaf (1645, .iconst 2, 1)) (.branch 1647 (.leaf (1646, .iadd, 1)) (.leaf (1647, .iaload, 1)))) (.branch 1651 (.leaf (1648, .ifCond .eq 7, 3)) (.branch 1652 (.leaf (1651, .iconst 1, 1)) (.leaf (1652, .goto 4, 3))))) (.branch 1660 (.branch 1656 (.leaf (1655, .iconst 0, 1)) (.branch 1659 (.leaf (1656, .invokevirtual 198, 3)) (.leaf (1659, .pop, 1)))) (.branch 1662 (.branch 1661 (.leaf (1660, .aload_n 2, 1)) (.leaf (1661, .aload_n 0, 1))) (.branch 1664 (.leaf (1662, .iload 4, 2)) (.leaf (1664, .iconst 1, 1)))))))))
noncomputable def oL_laws8 : List dLf := dFl tL_laws8
theorem ofL_laws8 : dFl tL_laws8 = oL_laws8 := rfl
set_option maxRecDepth 100000 in
theorem odL_laws8 : ∀ q ∈ oL_laws8, decode cL_law q.1 = .ok (q.2.1, q.2.2) := q_go qT_ok bbL_law oL_laws8 1388 (by decide +kernel)
set_option maxRecDepth 100000 in
def tL_laws9 : Lean.RArray dLf := .branch 1739 (.branch 1702 (.branch 1681 (.branch 1671 (.branch 1667 (.branch 1666 (.leaf (1665, .iadd, 1)) (.leaf (1666, .iaload, 1))) (.branch 1668 (.leaf (1667, .aload_n 0, 1)) (.branch 1670 (.leaf (1668, .iload 4, 2)) (.leaf (1670, .iconst 2, 1))))) (.branch 1676 (.branch 1672 (.leaf (1671, .iadd, 1)) (.branch 1673 (.leaf (1672, .iaload, 1)) (.leaf (1673, .ifCond .eq 7, 3)))) (.branch 1677 (.leaf (1676, .iconst 1, 1)) (.branch 1680 (.leaf (1677, .goto 4, 3)) (.leaf (1680, .iconst 0, 1)))))) (.branch 1692 (.branch 1685 (.branch 1684 (.leaf (1681, .invokevirtual 202, 3)) (.leaf (1684, .pop, 1))) (.branch 1688 (.leaf (1685, .goto 120, 3)) (.branch 1689 (.leaf (1688, .aload_n 1, 1)) (.leaf (1689, .invokevirtual 203, 3))))) (.branch 1697 (.branch 1693 (.leaf (1692, .pop, 1)) (.branch 1694 (.leaf (1693, .aload_n 2, 1)) (.leaf (1694, .invokevirtual 207, 3)))) (.branch 1698 (.leaf (1697, .pop, 1)) (.branch 1701 (.leaf (1698, .goto 107, 3)) (.leaf (1701, .aload_n 1, 1))))))) (.branch 1720 (.branch 1711 (.branch 1706 (.branch 1705 (.leaf (1702, .invokevirtual 208, 3)) (.leaf (1705, .pop, 1))) (.branch 1707 (.leaf (1706, .aload_n 2, 1)) (.branch 1710 (.leaf (1707, .invokevirtual 211, 3)) (.leaf (1710, .pop, 1))))) (.branch 1716 (.branch 1714 (.leaf (1711, .goto 94, 3)) (.branch 1715 (.leaf (1714, .aload_n 1, 1)) (.leaf (1715, .aload_n 0, 1)))) (.branch 1718 (.leaf (1716, .iload 4, 2)) (.branch 1719 (.leaf (1718, .iconst 1, 1)) (.leaf (1719, .iadd, 1)))))) (.branch 1729 (.branch 1725 (.branch 1721 (.leaf (1720, .iaload, 1)) (.branch 1724 (.leaf (1721, .invokevirtual 212, 3)) (.leaf (1724, .pop, 1)))) (.branch 1726 (.leaf (1725, .aload_n 2, 1)) (.branch 1727 (.leaf (1726, .aload_n 0, 1)) (.leaf (1727, .iload 4, 2))))) (.branch 1732 (.branch 1730 (.leaf (1729, .iconst 1, 1)) (.branch 1731 (.leaf (1730, .iadd, 1)) (.leaf (1731, .iaload, 1)))) (.branch 1735 (.leaf (1732, .invokevirtual 216, 3)) (.branch 1736 (.leaf (1735, .pop, 1)) (.leaf (1736, .goto 69, 3)))))))) (.branch 1773 (.branch 1754 (.branch 1745 (.branch 1741 (.branch 1740 (.leaf (1739, .aload_n 1, 1)) (.leaf (1740, .aload_n 0, 1))) (.branch 1743 (.leaf (1741, .iload 4, 2)) (.branch 1744 (.leaf (1743, .iconst 1, 1)) (.leaf (1744, .iadd, 1))))) (.branch 1750 (.branch 1746 (.leaf (1745, .iaload, 1)) (.branch 1747 (.leaf (1746, .aload_n 3, 1)) (.leaf (1747, .invokestatic 217, 3)))) (.branch 1752 (.leaf (1750, .istore 5, 2)) (.branch 1753 (.leaf (1752, .aload_n 2, 1)) (.leaf (1753, .aload_n 0, 1)))))) (.branch 1764 (.branch 1758 (.branch 1756 (.leaf (1754, .iload 4, 2)) (.branch 1757 (.leaf (1756, .iconst 1, 1)) (.leaf (1757, .iadd, 1)))) (.branch 1759 (.leaf (1758, .iaload, 1)) (.branch 1762 (.leaf (1759, .invokevirtual 222, 3)) (.leaf (1762, .istore 6, 2))))) (.branch 1769 (.branch 1767 (.leaf (1764, .goto 41, 3)) (.branch 1768 (.leaf (1767, .aload_n 1, 1)) (.leaf (1768, .aload_n 0, 1)))) (.branch 1771 (.leaf (1769, .iload 4, 2)) (.branch 1772 (.leaf (1771, .iconst 1, 1)) (.leaf (1772, .iadd, 1))))))) (.branch 1789 (.branch 1780 (.branch 1777 (.branch 1774 (.leaf (1773, .iaload, 1)) (.leaf (1774, .invokevirtual 223, 3))) (.branch 1778 (.leaf (1777, .pop, 1)) (.branch 1779 (.leaf (1778, .aload_n 2, 1)) (.leaf (1779, .aload_n 0, 1))))) (.branch 1784 (.branch 1782 (.leaf (1780, .iload 4, 2)) (.branch 1783 (.leaf (1782, .iconst 1, 1)) (.leaf (1783, .iadd, 1)))) (.branch 1785 (.leaf (1784, .iaload, 1)) (.branch 1788 (.leaf (1785, .invokevirtual 226, 3)) (.leaf (1788, .pop, 1)))))) (.branch 1801 (.branch 1796 (.branch 1792 (.leaf (1789, .goto 16, 3)) (.branch 1793 (.leaf (1792, .aload_n 1, 1)) (.leaf (1793, .invokevirtual 227, 3)))) (.branch 1797 (.leaf (1796, .pop, 1)) (.branch 1798 (.leaf (1797, .aload_n 2, 1)) (.leaf (1798, .invokevirtual 230, 3))))) (.branch 1808 (.branch 1802 (.leaf (1801, .pop, 1)) (.branch 1805 (.leaf (1802, .goto 3, 3)) (.leaf (1805, .iinc 4 6, 3)))) (.branch 1811 (.leaf (1808, .goto (-1785), 3)) (.branch 1812 (.leaf (1811, .iconst 1, 1)) (.leaf (1812, .ireturn, 1))))))))
noncomputable def oL_laws9 : List dLf := dFl tL_laws9
theorem ofL_laws9 : dFl tL_laws9 = oL_laws9 := rfl
set_option maxRecDepth 100000 in
theorem odL_laws9 : ∀ q ∈ oL_laws9, decode cL_law q.1 = .ok (q.2.1, q.2.2) := q_go qT_ok bbL_law oL_laws9 1665 (by decide +kernel)
theorem dL_law_0 : decode cL_law 0 = .ok (.new 8, 3) := d_by (d_at odL_laws0 ofL_laws0 0) rfl
theorem dL_law_3 : decode cL_law 3 = .ok (.dup, 1) := d_by (d_at odL_laws0 ofL_laws0 3) rfl
theorem dL_law_4 : decode cL_law 4 = .ok (.invokespecial 15, 3) := d_by (d_at odL_laws0 ofL_laws0 4) rfl
theorem dL_law_7 : decode cL_law 7 = .ok (.astore_n 1, 1) := d_by (d_at odL_laws0 ofL_laws0 7) rfl
theorem dL_law_8 : decode cL_law 8 = .ok (.new 16, 3) := d_by (d_at odL_laws0 ofL_laws0 8) rfl
theorem dL_law_11 : decode cL_law 11 = .ok (.dup, 1) := d_by (d_at odL_laws0 ofL_laws0 11) rfl
theorem dL_law_12 : decode cL_law 12 = .ok (.invokespecial 18, 3) := d_by (d_at odL_laws0 ofL_laws0 12) rfl
theorem dL_law_15 : decode cL_law 15 = .ok (.astore_n 2, 1) := d_by (d_at odL_laws0 ofL_laws0 15) rfl
theorem dL_law_16 : decode cL_law 16 = .ok (.iconst 1, 1) := d_by (d_at odL_laws0 ofL_laws0 16) rfl
theorem dL_law_17 : decode cL_law 17 = .ok (.newarray .long, 2) := eL_law_17
theorem dL_law_19 : decode cL_law 19 = .ok (.astore_n 3, 1) := d_by (d_at odL_laws2 ofL_laws2 19) rfl
theorem dL_law_20 : decode cL_law 20 = .ok (.iconst 0, 1) := d_by (d_at odL_laws2 ofL_laws2 20) rfl
theorem dL_law_21 : decode cL_law 21 = .ok (.istore 4, 2) := d_by (d_at odL_laws2 ofL_laws2 21) rfl
theorem dL_law_23 : decode cL_law 23 = .ok (.iload 4, 2) := d_by (d_at odL_laws2 ofL_laws2 23) rfl
theorem dL_law_25 : decode cL_law 25 = .ok (.aload_n 0, 1) := d_by (d_at odL_laws2 ofL_laws2 25) rfl
theorem dL_law_26 : decode cL_law 26 = .ok (.arraylength, 1) := d_by (d_at odL_laws2 ofL_laws2 26) rfl
theorem dL_law_27 : decode cL_law 27 = .ok (.bipush 6, 2) := d_by (d_at odL_laws2 ofL_laws2 27) rfl
theorem dL_law_29 : decode cL_law 29 = .ok (.isub, 1) := d_by (d_at odL_laws2 ofL_laws2 29) rfl
theorem dL_law_30 : decode cL_law 30 = .ok (.if_icmp .gt 1781, 3) := d_by (d_at odL_laws2 ofL_laws2 30) rfl
theorem dL_law_33 : decode cL_law 33 = .ok (.aload_n 0, 1) := d_by (d_at odL_laws2 ofL_laws2 33) rfl
theorem dL_law_34 : decode cL_law 34 = .ok (.iload 4, 2) := d_by (d_at odL_laws2 ofL_laws2 34) rfl
theorem dL_law_36 : decode cL_law 36 = .ok (.iaload, 1) := d_by (d_at odL_laws2 ofL_laws2 36) rfl
theorem dL_law_37 : decode cL_law 37 = .ok (.bipush 63, 2) := d_by (d_at odL_laws2 ofL_laws2 37) rfl
theorem dL_law_39 : decode cL_law 39 = .ok (.iand, 1) := d_by (d_at odL_laws2 ofL_laws2 39) rfl
theorem dL_law_40 : decode cL_law 40 = .ok (.tableswitch 1765 0 49 #[216, 289, 314, 327, 340, 377, 414, 439, 476, 513, 538, 575, 600, 649, 674, 711, 724, 737, 774, 811, 836, 861, 898, 923, 984, 1021, 1046, 1071, 1108, 1161, 1174, 1187, 1212, 1273, 1286, 1323, 1348, 1385, 1410, 1447, 1484, 1521, 1570, 1595, 1648, 1661, 1674, 1699, 1727, 1752], 216) := eL_law_40
theorem dL_law_256 : decode cL_law 256 = .ok (.aload_n 1, 1) := d_by (d_at odL_laws4 ofL_laws4 256) rfl
theorem dL_law_257 : decode cL_law 257 = .ok (.aload_n 0, 1) := d_by (d_at odL_laws4 ofL_laws4 257) rfl
theorem dL_law_258 : decode cL_law 258 = .ok (.iload 4, 2) := d_by (d_at odL_laws4 ofL_laws4 258) rfl
theorem dL_law_260 : decode cL_law 260 = .ok (.iconst 1, 1) := d_by (d_at odL_laws4 ofL_laws4 260) rfl
theorem dL_law_261 : decode cL_law 261 = .ok (.iadd, 1) := d_by (d_at odL_laws4 ofL_laws4 261) rfl
theorem dL_law_262 : decode cL_law 262 = .ok (.iaload, 1) := d_by (d_at odL_laws4 ofL_laws4 262) rfl
theorem dL_law_263 : decode cL_law 263 = .ok (.aload_n 0, 1) := d_by (d_at odL_laws4 ofL_laws4 263) rfl
theorem dL_law_264 : decode cL_law 264 = .ok (.iload 4, 2) := d_by (d_at odL_laws4 ofL_laws4 264) rfl
theorem dL_law_266 : decode cL_law 266 = .ok (.iconst 2, 1) := d_by (d_at odL_laws4 ofL_laws4 266) rfl
theorem dL_law_267 : decode cL_law 267 = .ok (.iadd, 1) := d_by (d_at odL_laws4 ofL_laws4 267) rfl
theorem dL_law_268 : decode cL_law 268 = .ok (.iaload, 1) := d_by (d_at odL_laws4 ofL_laws4 268) rfl
theorem dL_law_269 : decode cL_law 269 = .ok (.aload_n 0, 1) := d_by (d_at odL_laws4 ofL_laws4 269) rfl
theorem dL_law_270 : decode cL_law 270 = .ok (.iload 4, 2) := d_by (d_at odL_laws4 ofL_laws4 270) rfl
theorem dL_law_272 : decode cL_law 272 = .ok (.iconst 3, 1) := d_by (d_at odL_laws4 ofL_laws4 272) rfl
theorem dL_law_273 : decode cL_law 273 = .ok (.iadd, 1) := d_by (d_at odL_laws4 ofL_laws4 273) rfl
theorem dL_law_274 : decode cL_law 274 = .ok (.iaload, 1) := d_by (d_at odL_laws4 ofL_laws4 274) rfl
theorem dL_law_275 : decode cL_law 275 = .ok (.aload_n 0, 1) := d_by (d_at odL_laws4 ofL_laws4 275) rfl
theorem dL_law_276 : decode cL_law 276 = .ok (.iload 4, 2) := d_by (d_at odL_laws4 ofL_laws4 276) rfl
theorem dL_law_278 : decode cL_law 278 = .ok (.iconst 4, 1) := d_by (d_at odL_laws4 ofL_laws4 278) rfl
theorem dL_law_279 : decode cL_law 279 = .ok (.iadd, 1) := d_by (d_at odL_laws4 ofL_laws4 279) rfl
theorem dL_law_280 : decode cL_law 280 = .ok (.iaload, 1) := d_by (d_at odL_laws4 ofL_laws4 280) rfl
theorem dL_law_281 : decode cL_law 281 = .ok (.aload_n 0, 1) := d_by (d_at odL_laws4 ofL_laws4 281) rfl
theorem dL_law_282 : decode cL_law 282 = .ok (.iload 4, 2) := d_by (d_at odL_laws4 ofL_laws4 282) rfl
theorem dL_law_284 : decode cL_law 284 = .ok (.iconst 5, 1) := d_by (d_at odL_laws4 ofL_laws4 284) rfl
theorem dL_law_285 : decode cL_law 285 = .ok (.iadd, 1) := d_by (d_at odL_laws4 ofL_laws4 285) rfl
theorem dL_law_286 : decode cL_law 286 = .ok (.iaload, 1) := d_by (d_at odL_laws4 ofL_laws4 286) rfl
theorem dL_law_287 : decode cL_law 287 = .ok (.invokevirtual 19, 3) := d_by (d_at odL_laws4 ofL_laws4 287) rfl
theorem dL_law_290 : decode cL_law 290 = .ok (.pop, 1) := d_by (d_at odL_laws4 ofL_laws4 290) rfl
theorem dL_law_291 : decode cL_law 291 = .ok (.aload_n 2, 1) := d_by (d_at odL_laws4 ofL_laws4 291) rfl
theorem dL_law_292 : decode cL_law 292 = .ok (.aload_n 0, 1) := d_by (d_at odL_laws4 ofL_laws4 292) rfl
theorem dL_law_293 : decode cL_law 293 = .ok (.iload 4, 2) := d_by (d_at odL_laws4 ofL_laws4 293) rfl
theorem dL_law_295 : decode cL_law 295 = .ok (.iconst 1, 1) := d_by (d_at odL_laws4 ofL_laws4 295) rfl
theorem dL_law_296 : decode cL_law 296 = .ok (.iadd, 1) := d_by (d_at odL_laws4 ofL_laws4 296) rfl
theorem dL_law_297 : decode cL_law 297 = .ok (.iaload, 1) := d_by (d_at odL_laws4 ofL_laws4 297) rfl
theorem dL_law_298 : decode cL_law 298 = .ok (.aload_n 0, 1) := d_by (d_at odL_laws4 ofL_laws4 298) rfl
theorem dL_law_299 : decode cL_law 299 = .ok (.iload 4, 2) := d_by (d_at odL_laws4 ofL_laws4 299) rfl
theorem dL_law_301 : decode cL_law 301 = .ok (.iconst 2, 1) := d_by (d_at odL_laws4 ofL_laws4 301) rfl
theorem dL_law_302 : decode cL_law 302 = .ok (.iadd, 1) := d_by (d_at odL_laws4 ofL_laws4 302) rfl
theorem dL_law_303 : decode cL_law 303 = .ok (.iaload, 1) := d_by (d_at odL_laws4 ofL_laws4 303) rfl
theorem dL_law_304 : decode cL_law 304 = .ok (.aload_n 0, 1) := d_by (d_at odL_laws4 ofL_laws4 304) rfl
theorem dL_law_305 : decode cL_law 305 = .ok (.iload 4, 2) := d_by (d_at odL_laws4 ofL_laws4 305) rfl
theorem dL_law_307 : decode cL_law 307 = .ok (.iconst 3, 1) := d_by (d_at odL_laws4 ofL_laws4 307) rfl
theorem dL_law_308 : decode cL_law 308 = .ok (.iadd, 1) := d_by (d_at odL_laws4 ofL_laws4 308) rfl
theorem dL_law_309 : decode cL_law 309 = .ok (.iaload, 1) := d_by (d_at odL_laws4 ofL_laws4 309) rfl
theorem dL_law_310 : decode cL_law 310 = .ok (.aload_n 0, 1) := d_by (d_at odL_laws4 ofL_laws4 310) rfl
theorem dL_law_311 : decode cL_law 311 = .ok (.iload 4, 2) := d_by (d_at odL_laws4 ofL_laws4 311) rfl
theorem dL_law_313 : decode cL_law 313 = .ok (.iconst 4, 1) := d_by (d_at odL_laws4 ofL_laws4 313) rfl
theorem dL_law_314 : decode cL_law 314 = .ok (.iadd, 1) := d_by (d_at odL_laws4 ofL_laws4 314) rfl
theorem dL_law_315 : decode cL_law 315 = .ok (.iaload, 1) := d_by (d_at odL_laws4 ofL_laws4 315) rfl
theorem dL_law_316 : decode cL_law 316 = .ok (.aload_n 0, 1) := d_by (d_at odL_laws4 ofL_laws4 316) rfl
theorem dL_law_317 : decode cL_law 317 = .ok (.iload 4, 2) := d_by (d_at odL_laws4 ofL_laws4 317) rfl
theorem dL_law_319 : decode cL_law 319 = .ok (.iconst 5, 1) := d_by (d_at odL_laws4 ofL_laws4 319) rfl
theorem dL_law_320 : decode cL_law 320 = .ok (.iadd, 1) := d_by (d_at odL_laws4 ofL_laws4 320) rfl
theorem dL_law_321 : decode cL_law 321 = .ok (.iaload, 1) := d_by (d_at odL_laws4 ofL_laws4 321) rfl
theorem dL_law_322 : decode cL_law 322 = .ok (.invokevirtual 23, 3) := d_by (d_at odL_laws4 ofL_laws4 322) rfl
theorem dL_law_325 : decode cL_law 325 = .ok (.pop, 1) := d_by (d_at odL_laws4 ofL_laws4 325) rfl
theorem dL_law_326 : decode cL_law 326 = .ok (.goto 1479, 3) := d_by (d_at odL_laws4 ofL_laws4 326) rfl
theorem dL_law_329 : decode cL_law 329 = .ok (.aload_n 1, 1) := d_by (d_at odL_laws4 ofL_laws4 329) rfl
theorem dL_law_330 : decode cL_law 330 = .ok (.aload_n 0, 1) := d_by (d_at odL_laws4 ofL_laws4 330) rfl
theorem dL_law_331 : decode cL_law 331 = .ok (.iload 4, 2) := d_by (d_at odL_laws4 ofL_laws4 331) rfl
theorem dL_law_333 : decode cL_law 333 = .ok (.iconst 1, 1) := d_by (d_at odL_laws4 ofL_laws4 333) rfl
theorem dL_law_334 : decode cL_law 334 = .ok (.iadd, 1) := d_by (d_at odL_laws4 ofL_laws4 334) rfl
theorem dL_law_335 : decode cL_law 335 = .ok (.iaload, 1) := d_by (d_at odL_laws4 ofL_laws4 335) rfl
theorem dL_law_336 : decode cL_law 336 = .ok (.invokevirtual 24, 3) := d_by (d_at odL_laws4 ofL_laws4 336) rfl
theorem dL_law_339 : decode cL_law 339 = .ok (.pop, 1) := d_by (d_at odL_laws4 ofL_laws4 339) rfl
theorem dL_law_340 : decode cL_law 340 = .ok (.aload_n 2, 1) := d_by (d_at odL_laws4 ofL_laws4 340) rfl
theorem dL_law_341 : decode cL_law 341 = .ok (.aload_n 0, 1) := d_by (d_at odL_laws4 ofL_laws4 341) rfl
theorem dL_law_342 : decode cL_law 342 = .ok (.iload 4, 2) := d_by (d_at odL_laws4 ofL_laws4 342) rfl
theorem dL_law_344 : decode cL_law 344 = .ok (.iconst 1, 1) := d_by (d_at odL_laws4 ofL_laws4 344) rfl
theorem dL_law_345 : decode cL_law 345 = .ok (.iadd, 1) := d_by (d_at odL_laws4 ofL_laws4 345) rfl
theorem dL_law_346 : decode cL_law 346 = .ok (.iaload, 1) := d_by (d_at odL_laws4 ofL_laws4 346) rfl
theorem dL_law_347 : decode cL_law 347 = .ok (.invokevirtual 27, 3) := d_by (d_at odL_laws4 ofL_laws4 347) rfl
theorem dL_law_350 : decode cL_law 350 = .ok (.pop, 1) := d_by (d_at odL_laws4 ofL_laws4 350) rfl
theorem dL_law_351 : decode cL_law 351 = .ok (.goto 1454, 3) := d_by (d_at odL_laws4 ofL_laws4 351) rfl
theorem dL_law_354 : decode cL_law 354 = .ok (.aload_n 1, 1) := d_by (d_at odL_laws4 ofL_laws4 354) rfl
theorem dL_law_355 : decode cL_law 355 = .ok (.invokevirtual 28, 3) := d_by (d_at odL_laws4 ofL_laws4 355) rfl
theorem dL_law_358 : decode cL_law 358 = .ok (.pop, 1) := d_by (d_at odL_laws4 ofL_laws4 358) rfl
theorem dL_law_359 : decode cL_law 359 = .ok (.aload_n 2, 1) := d_by (d_at odL_laws4 ofL_laws4 359) rfl
theorem dL_law_360 : decode cL_law 360 = .ok (.invokevirtual 32, 3) := d_by (d_at odL_laws4 ofL_laws4 360) rfl
theorem dL_law_363 : decode cL_law 363 = .ok (.pop, 1) := d_by (d_at odL_laws4 ofL_laws4 363) rfl
theorem dL_law_364 : decode cL_law 364 = .ok (.goto 1441, 3) := d_by (d_at odL_laws4 ofL_laws4 364) rfl
theorem dL_law_367 : decode cL_law 367 = .ok (.aload_n 1, 1) := d_by (d_at odL_laws4 ofL_laws4 367) rfl
theorem dL_law_368 : decode cL_law 368 = .ok (.invokevirtual 33, 3) := d_by (d_at odL_laws4 ofL_laws4 368) rfl
theorem dL_law_371 : decode cL_law 371 = .ok (.pop, 1) := d_by (d_at odL_laws4 ofL_laws4 371) rfl
theorem dL_law_372 : decode cL_law 372 = .ok (.aload_n 2, 1) := d_by (d_at odL_laws4 ofL_laws4 372) rfl
theorem dL_law_373 : decode cL_law 373 = .ok (.invokevirtual 36, 3) := d_by (d_at odL_laws4 ofL_laws4 373) rfl
theorem dL_law_376 : decode cL_law 376 = .ok (.pop, 1) := d_by (d_at odL_laws4 ofL_laws4 376) rfl
theorem dL_law_377 : decode cL_law 377 = .ok (.goto 1428, 3) := d_by (d_at odL_laws4 ofL_laws4 377) rfl
theorem dL_law_380 : decode cL_law 380 = .ok (.aload_n 1, 1) := d_by (d_at odL_laws4 ofL_laws4 380) rfl
theorem dL_law_381 : decode cL_law 381 = .ok (.aload_n 0, 1) := d_by (d_at odL_laws4 ofL_laws4 381) rfl
theorem dL_law_382 : decode cL_law 382 = .ok (.iload 4, 2) := d_by (d_at odL_laws4 ofL_laws4 382) rfl
theorem dL_law_384 : decode cL_law 384 = .ok (.iconst 1, 1) := d_by (d_at odL_laws4 ofL_laws4 384) rfl
theorem dL_law_385 : decode cL_law 385 = .ok (.iadd, 1) := d_by (d_at odL_laws4 ofL_laws4 385) rfl
theorem dL_law_386 : decode cL_law 386 = .ok (.iaload, 1) := d_by (d_at odL_laws4 ofL_laws4 386) rfl
theorem dL_law_387 : decode cL_law 387 = .ok (.aload_n 0, 1) := d_by (d_at odL_laws4 ofL_laws4 387) rfl
theorem dL_law_388 : decode cL_law 388 = .ok (.iload 4, 2) := d_by (d_at odL_laws4 ofL_laws4 388) rfl
theorem dL_law_390 : decode cL_law 390 = .ok (.iconst 2, 1) := d_by (d_at odL_laws4 ofL_laws4 390) rfl
theorem dL_law_391 : decode cL_law 391 = .ok (.iadd, 1) := d_by (d_at odL_laws4 ofL_laws4 391) rfl
theorem dL_law_392 : decode cL_law 392 = .ok (.iaload, 1) := d_by (d_at odL_laws4 ofL_laws4 392) rfl
theorem dL_law_393 : decode cL_law 393 = .ok (.invokevirtual 37, 3) := d_by (d_at odL_laws4 ofL_laws4 393) rfl
theorem dL_law_396 : decode cL_law 396 = .ok (.pop, 1) := d_by (d_at odL_laws4 ofL_laws4 396) rfl
theorem dL_law_397 : decode cL_law 397 = .ok (.aload_n 2, 1) := d_by (d_at odL_laws4 ofL_laws4 397) rfl
theorem dL_law_398 : decode cL_law 398 = .ok (.aload_n 0, 1) := d_by (d_at odL_laws4 ofL_laws4 398) rfl
theorem dL_law_399 : decode cL_law 399 = .ok (.iload 4, 2) := d_by (d_at odL_laws4 ofL_laws4 399) rfl
theorem dL_law_401 : decode cL_law 401 = .ok (.iconst 1, 1) := d_by (d_at odL_laws4 ofL_laws4 401) rfl
theorem dL_law_402 : decode cL_law 402 = .ok (.iadd, 1) := d_by (d_at odL_laws4 ofL_laws4 402) rfl
theorem dL_law_403 : decode cL_law 403 = .ok (.iaload, 1) := d_by (d_at odL_laws4 ofL_laws4 403) rfl
theorem dL_law_404 : decode cL_law 404 = .ok (.aload_n 0, 1) := d_by (d_at odL_laws4 ofL_laws4 404) rfl
theorem dL_law_405 : decode cL_law 405 = .ok (.iload 4, 2) := d_by (d_at odL_laws4 ofL_laws4 405) rfl
theorem dL_law_407 : decode cL_law 407 = .ok (.iconst 2, 1) := d_by (d_at odL_laws4 ofL_laws4 407) rfl
theorem dL_law_408 : decode cL_law 408 = .ok (.iadd, 1) := d_by (d_at odL_laws4 ofL_laws4 408) rfl
theorem dL_law_409 : decode cL_law 409 = .ok (.iaload, 1) := d_by (d_at odL_laws4 ofL_laws4 409) rfl
theorem dL_law_410 : decode cL_law 410 = .ok (.invokevirtual 41, 3) := d_by (d_at odL_laws4 ofL_laws4 410) rfl
theorem dL_law_413 : decode cL_law 413 = .ok (.pop, 1) := d_by (d_at odL_laws4 ofL_laws4 413) rfl
theorem dL_law_414 : decode cL_law 414 = .ok (.goto 1391, 3) := d_by (d_at odL_laws4 ofL_laws4 414) rfl
theorem dL_law_417 : decode cL_law 417 = .ok (.aload_n 1, 1) := d_by (d_at odL_laws4 ofL_laws4 417) rfl
theorem dL_law_418 : decode cL_law 418 = .ok (.aload_n 0, 1) := d_by (d_at odL_laws4 ofL_laws4 418) rfl
theorem dL_law_419 : decode cL_law 419 = .ok (.iload 4, 2) := d_by (d_at odL_laws4 ofL_laws4 419) rfl
theorem dL_law_421 : decode cL_law 421 = .ok (.iconst 1, 1) := d_by (d_at odL_laws4 ofL_laws4 421) rfl
theorem dL_law_422 : decode cL_law 422 = .ok (.iadd, 1) := d_by (d_at odL_laws4 ofL_laws4 422) rfl
theorem dL_law_423 : decode cL_law 423 = .ok (.iaload, 1) := d_by (d_at odL_laws4 ofL_laws4 423) rfl
theorem dL_law_424 : decode cL_law 424 = .ok (.aload_n 0, 1) := d_by (d_at odL_laws4 ofL_laws4 424) rfl
theorem dL_law_425 : decode cL_law 425 = .ok (.iload 4, 2) := d_by (d_at odL_laws4 ofL_laws4 425) rfl
theorem dL_law_427 : decode cL_law 427 = .ok (.iconst 2, 1) := d_by (d_at odL_laws4 ofL_laws4 427) rfl
theorem dL_law_428 : decode cL_law 428 = .ok (.iadd, 1) := d_by (d_at odL_laws4 ofL_laws4 428) rfl
theorem dL_law_429 : decode cL_law 429 = .ok (.iaload, 1) := d_by (d_at odL_laws4 ofL_laws4 429) rfl
theorem dL_law_430 : decode cL_law 430 = .ok (.invokevirtual 42, 3) := d_by (d_at odL_laws4 ofL_laws4 430) rfl
theorem dL_law_433 : decode cL_law 433 = .ok (.pop, 1) := d_by (d_at odL_laws4 ofL_laws4 433) rfl
theorem dL_law_434 : decode cL_law 434 = .ok (.aload_n 2, 1) := d_by (d_at odL_laws4 ofL_laws4 434) rfl
theorem dL_law_435 : decode cL_law 435 = .ok (.aload_n 0, 1) := d_by (d_at odL_laws4 ofL_laws4 435) rfl
theorem dL_law_436 : decode cL_law 436 = .ok (.iload 4, 2) := d_by (d_at odL_laws4 ofL_laws4 436) rfl
theorem dL_law_438 : decode cL_law 438 = .ok (.iconst 1, 1) := d_by (d_at odL_laws4 ofL_laws4 438) rfl
theorem dL_law_439 : decode cL_law 439 = .ok (.iadd, 1) := d_by (d_at odL_laws4 ofL_laws4 439) rfl
theorem dL_law_440 : decode cL_law 440 = .ok (.iaload, 1) := d_by (d_at odL_laws4 ofL_laws4 440) rfl
theorem dL_law_441 : decode cL_law 441 = .ok (.aload_n 0, 1) := d_by (d_at odL_laws4 ofL_laws4 441) rfl
theorem dL_law_442 : decode cL_law 442 = .ok (.iload 4, 2) := d_by (d_at odL_laws4 ofL_laws4 442) rfl
theorem dL_law_444 : decode cL_law 444 = .ok (.iconst 2, 1) := d_by (d_at odL_laws4 ofL_laws4 444) rfl
theorem dL_law_445 : decode cL_law 445 = .ok (.iadd, 1) := d_by (d_at odL_laws4 ofL_laws4 445) rfl
theorem dL_law_446 : decode cL_law 446 = .ok (.iaload, 1) := d_by (d_at odL_laws4 ofL_laws4 446) rfl
theorem dL_law_447 : decode cL_law 447 = .ok (.invokevirtual 45, 3) := d_by (d_at odL_laws4 ofL_laws4 447) rfl
theorem dL_law_450 : decode cL_law 450 = .ok (.pop, 1) := d_by (d_at odL_laws4 ofL_laws4 450) rfl
theorem dL_law_451 : decode cL_law 451 = .ok (.goto 1354, 3) := d_by (d_at odL_laws4 ofL_laws4 451) rfl
theorem dL_law_454 : decode cL_law 454 = .ok (.aload_n 1, 1) := d_by (d_at odL_laws4 ofL_laws4 454) rfl
theorem dL_law_455 : decode cL_law 455 = .ok (.aload_n 0, 1) := d_by (d_at odL_laws4 ofL_laws4 455) rfl
theorem dL_law_456 : decode cL_law 456 = .ok (.iload 4, 2) := d_by (d_at odL_laws4 ofL_laws4 456) rfl
theorem dL_law_458 : decode cL_law 458 = .ok (.iconst 1, 1) := d_by (d_at odL_laws4 ofL_laws4 458) rfl
theorem dL_law_459 : decode cL_law 459 = .ok (.iadd, 1) := d_by (d_at odL_laws4 ofL_laws4 459) rfl
theorem dL_law_460 : decode cL_law 460 = .ok (.iaload, 1) := d_by (d_at odL_laws4 ofL_laws4 460) rfl
theorem dL_law_461 : decode cL_law 461 = .ok (.invokevirtual 46, 3) := d_by (d_at odL_laws4 ofL_laws4 461) rfl
theorem dL_law_464 : decode cL_law 464 = .ok (.pop, 1) := d_by (d_at odL_laws4 ofL_laws4 464) rfl
theorem dL_law_465 : decode cL_law 465 = .ok (.aload_n 2, 1) := d_by (d_at odL_laws4 ofL_laws4 465) rfl
theorem dL_law_466 : decode cL_law 466 = .ok (.aload_n 0, 1) := d_by (d_at odL_laws4 ofL_laws4 466) rfl
theorem dL_law_467 : decode cL_law 467 = .ok (.iload 4, 2) := d_by (d_at odL_laws4 ofL_laws4 467) rfl
theorem dL_law_469 : decode cL_law 469 = .ok (.iconst 1, 1) := d_by (d_at odL_laws4 ofL_laws4 469) rfl
theorem dL_law_470 : decode cL_law 470 = .ok (.iadd, 1) := d_by (d_at odL_laws4 ofL_laws4 470) rfl
theorem dL_law_471 : decode cL_law 471 = .ok (.iaload, 1) := d_by (d_at odL_laws4 ofL_laws4 471) rfl
theorem dL_law_472 : decode cL_law 472 = .ok (.invokevirtual 49, 3) := d_by (d_at odL_laws4 ofL_laws4 472) rfl
theorem dL_law_475 : decode cL_law 475 = .ok (.pop, 1) := d_by (d_at odL_laws4 ofL_laws4 475) rfl
theorem dL_law_476 : decode cL_law 476 = .ok (.goto 1329, 3) := d_by (d_at odL_laws4 ofL_laws4 476) rfl
theorem dL_law_479 : decode cL_law 479 = .ok (.aload_n 1, 1) := d_by (d_at odL_laws4 ofL_laws4 479) rfl
theorem dL_law_480 : decode cL_law 480 = .ok (.aload_n 0, 1) := d_by (d_at odL_laws4 ofL_laws4 480) rfl
theorem dL_law_481 : decode cL_law 481 = .ok (.iload 4, 2) := d_by (d_at odL_laws4 ofL_laws4 481) rfl
theorem dL_law_483 : decode cL_law 483 = .ok (.iconst 1, 1) := d_by (d_at odL_laws4 ofL_laws4 483) rfl
theorem dL_law_484 : decode cL_law 484 = .ok (.iadd, 1) := d_by (d_at odL_laws4 ofL_laws4 484) rfl
theorem dL_law_485 : decode cL_law 485 = .ok (.iaload, 1) := d_by (d_at odL_laws4 ofL_laws4 485) rfl
theorem dL_law_486 : decode cL_law 486 = .ok (.aload_n 0, 1) := d_by (d_at odL_laws4 ofL_laws4 486) rfl
theorem dL_law_487 : decode cL_law 487 = .ok (.iload 4, 2) := d_by (d_at odL_laws4 ofL_laws4 487) rfl
theorem dL_law_489 : decode cL_law 489 = .ok (.iconst 2, 1) := d_by (d_at odL_laws4 ofL_laws4 489) rfl
theorem dL_law_490 : decode cL_law 490 = .ok (.iadd, 1) := d_by (d_at odL_laws4 ofL_laws4 490) rfl
theorem dL_law_491 : decode cL_law 491 = .ok (.iaload, 1) := d_by (d_at odL_laws4 ofL_laws4 491) rfl
theorem dL_law_492 : decode cL_law 492 = .ok (.invokevirtual 50, 3) := d_by (d_at odL_laws4 ofL_laws4 492) rfl
theorem dL_law_495 : decode cL_law 495 = .ok (.pop, 1) := d_by (d_at odL_laws4 ofL_laws4 495) rfl
theorem dL_law_496 : decode cL_law 496 = .ok (.aload_n 2, 1) := d_by (d_at odL_laws4 ofL_laws4 496) rfl
theorem dL_law_497 : decode cL_law 497 = .ok (.aload_n 0, 1) := d_by (d_at odL_laws4 ofL_laws4 497) rfl
theorem dL_law_498 : decode cL_law 498 = .ok (.iload 4, 2) := d_by (d_at odL_laws4 ofL_laws4 498) rfl
theorem dL_law_500 : decode cL_law 500 = .ok (.iconst 1, 1) := d_by (d_at odL_laws4 ofL_laws4 500) rfl
theorem dL_law_501 : decode cL_law 501 = .ok (.iadd, 1) := d_by (d_at odL_laws4 ofL_laws4 501) rfl
theorem dL_law_502 : decode cL_law 502 = .ok (.iaload, 1) := d_by (d_at odL_laws4 ofL_laws4 502) rfl
theorem dL_law_503 : decode cL_law 503 = .ok (.aload_n 0, 1) := d_by (d_at odL_laws4 ofL_laws4 503) rfl
theorem dL_law_504 : decode cL_law 504 = .ok (.iload 4, 2) := d_by (d_at odL_laws4 ofL_laws4 504) rfl
theorem dL_law_506 : decode cL_law 506 = .ok (.iconst 2, 1) := d_by (d_at odL_laws4 ofL_laws4 506) rfl
theorem dL_law_507 : decode cL_law 507 = .ok (.iadd, 1) := d_by (d_at odL_laws4 ofL_laws4 507) rfl
theorem dL_law_508 : decode cL_law 508 = .ok (.iaload, 1) := d_by (d_at odL_laws4 ofL_laws4 508) rfl
theorem dL_law_509 : decode cL_law 509 = .ok (.invokevirtual 53, 3) := d_by (d_at odL_laws4 ofL_laws4 509) rfl
theorem dL_law_512 : decode cL_law 512 = .ok (.pop, 1) := d_by (d_at odL_laws4 ofL_laws4 512) rfl
theorem dL_law_513 : decode cL_law 513 = .ok (.goto 1292, 3) := d_by (d_at odL_laws4 ofL_laws4 513) rfl
theorem dL_law_516 : decode cL_law 516 = .ok (.aload_n 1, 1) := d_by (d_at odL_laws4 ofL_laws4 516) rfl
theorem dL_law_517 : decode cL_law 517 = .ok (.aload_n 0, 1) := d_by (d_at odL_laws4 ofL_laws4 517) rfl
theorem dL_law_518 : decode cL_law 518 = .ok (.iload 4, 2) := d_by (d_at odL_laws4 ofL_laws4 518) rfl
theorem dL_law_520 : decode cL_law 520 = .ok (.iconst 1, 1) := d_by (d_at odL_laws4 ofL_laws4 520) rfl
theorem dL_law_521 : decode cL_law 521 = .ok (.iadd, 1) := d_by (d_at odL_laws4 ofL_laws4 521) rfl
theorem dL_law_522 : decode cL_law 522 = .ok (.iaload, 1) := d_by (d_at odL_laws4 ofL_laws4 522) rfl
theorem dL_law_523 : decode cL_law 523 = .ok (.aload_n 0, 1) := d_by (d_at odL_laws4 ofL_laws4 523) rfl
theorem dL_law_524 : decode cL_law 524 = .ok (.iload 4, 2) := d_by (d_at odL_laws4 ofL_laws4 524) rfl
theorem dL_law_526 : decode cL_law 526 = .ok (.iconst 2, 1) := d_by (d_at odL_laws4 ofL_laws4 526) rfl
theorem dL_law_527 : decode cL_law 527 = .ok (.iadd, 1) := d_by (d_at odL_laws4 ofL_laws4 527) rfl
theorem dL_law_528 : decode cL_law 528 = .ok (.iaload, 1) := d_by (d_at odL_laws4 ofL_laws4 528) rfl
theorem dL_law_529 : decode cL_law 529 = .ok (.invokevirtual 54, 3) := d_by (d_at odL_laws4 ofL_laws4 529) rfl
theorem dL_law_532 : decode cL_law 532 = .ok (.pop, 1) := d_by (d_at odL_laws4 ofL_laws4 532) rfl
theorem dL_law_533 : decode cL_law 533 = .ok (.aload_n 2, 1) := d_by (d_at odL_laws4 ofL_laws4 533) rfl
theorem dL_law_534 : decode cL_law 534 = .ok (.aload_n 0, 1) := d_by (d_at odL_laws5 ofL_laws5 534) rfl
theorem dL_law_535 : decode cL_law 535 = .ok (.iload 4, 2) := d_by (d_at odL_laws5 ofL_laws5 535) rfl
theorem dL_law_537 : decode cL_law 537 = .ok (.iconst 1, 1) := d_by (d_at odL_laws5 ofL_laws5 537) rfl
theorem dL_law_538 : decode cL_law 538 = .ok (.iadd, 1) := d_by (d_at odL_laws5 ofL_laws5 538) rfl
theorem dL_law_539 : decode cL_law 539 = .ok (.iaload, 1) := d_by (d_at odL_laws5 ofL_laws5 539) rfl
theorem dL_law_540 : decode cL_law 540 = .ok (.aload_n 0, 1) := d_by (d_at odL_laws5 ofL_laws5 540) rfl
theorem dL_law_541 : decode cL_law 541 = .ok (.iload 4, 2) := d_by (d_at odL_laws5 ofL_laws5 541) rfl
theorem dL_law_543 : decode cL_law 543 = .ok (.iconst 2, 1) := d_by (d_at odL_laws5 ofL_laws5 543) rfl
theorem dL_law_544 : decode cL_law 544 = .ok (.iadd, 1) := d_by (d_at odL_laws5 ofL_laws5 544) rfl
theorem dL_law_545 : decode cL_law 545 = .ok (.iaload, 1) := d_by (d_at odL_laws5 ofL_laws5 545) rfl
theorem dL_law_546 : decode cL_law 546 = .ok (.invokevirtual 57, 3) := d_by (d_at odL_laws5 ofL_laws5 546) rfl
theorem dL_law_549 : decode cL_law 549 = .ok (.pop, 1) := d_by (d_at odL_laws5 ofL_laws5 549) rfl
theorem dL_law_550 : decode cL_law 550 = .ok (.goto 1255, 3) := d_by (d_at odL_laws5 ofL_laws5 550) rfl
theorem dL_law_553 : decode cL_law 553 = .ok (.aload_n 1, 1) := d_by (d_at odL_laws5 ofL_laws5 553) rfl
theorem dL_law_554 : decode cL_law 554 = .ok (.aload_n 0, 1) := d_by (d_at odL_laws5 ofL_laws5 554) rfl
theorem dL_law_555 : decode cL_law 555 = .ok (.iload 4, 2) := d_by (d_at odL_laws5 ofL_laws5 555) rfl
theorem dL_law_557 : decode cL_law 557 = .ok (.iconst 1, 1) := d_by (d_at odL_laws5 ofL_laws5 557) rfl
theorem dL_law_558 : decode cL_law 558 = .ok (.iadd, 1) := d_by (d_at odL_laws5 ofL_laws5 558) rfl
theorem dL_law_559 : decode cL_law 559 = .ok (.iaload, 1) := d_by (d_at odL_laws5 ofL_laws5 559) rfl
theorem dL_law_560 : decode cL_law 560 = .ok (.invokevirtual 58, 3) := d_by (d_at odL_laws5 ofL_laws5 560) rfl
theorem dL_law_563 : decode cL_law 563 = .ok (.pop, 1) := d_by (d_at odL_laws5 ofL_laws5 563) rfl
theorem dL_law_564 : decode cL_law 564 = .ok (.aload_n 2, 1) := d_by (d_at odL_laws5 ofL_laws5 564) rfl
theorem dL_law_565 : decode cL_law 565 = .ok (.aload_n 0, 1) := d_by (d_at odL_laws5 ofL_laws5 565) rfl
theorem dL_law_566 : decode cL_law 566 = .ok (.iload 4, 2) := d_by (d_at odL_laws5 ofL_laws5 566) rfl
theorem dL_law_568 : decode cL_law 568 = .ok (.iconst 1, 1) := d_by (d_at odL_laws5 ofL_laws5 568) rfl
theorem dL_law_569 : decode cL_law 569 = .ok (.iadd, 1) := d_by (d_at odL_laws5 ofL_laws5 569) rfl
theorem dL_law_570 : decode cL_law 570 = .ok (.iaload, 1) := d_by (d_at odL_laws5 ofL_laws5 570) rfl
theorem dL_law_571 : decode cL_law 571 = .ok (.invokevirtual 61, 3) := d_by (d_at odL_laws5 ofL_laws5 571) rfl
theorem dL_law_574 : decode cL_law 574 = .ok (.pop, 1) := d_by (d_at odL_laws5 ofL_laws5 574) rfl
theorem dL_law_575 : decode cL_law 575 = .ok (.goto 1230, 3) := d_by (d_at odL_laws5 ofL_laws5 575) rfl
theorem dL_law_578 : decode cL_law 578 = .ok (.aload_n 1, 1) := d_by (d_at odL_laws5 ofL_laws5 578) rfl
theorem dL_law_579 : decode cL_law 579 = .ok (.aload_n 0, 1) := d_by (d_at odL_laws5 ofL_laws5 579) rfl
theorem dL_law_580 : decode cL_law 580 = .ok (.iload 4, 2) := d_by (d_at odL_laws5 ofL_laws5 580) rfl
theorem dL_law_582 : decode cL_law 582 = .ok (.iconst 1, 1) := d_by (d_at odL_laws5 ofL_laws5 582) rfl
theorem dL_law_583 : decode cL_law 583 = .ok (.iadd, 1) := d_by (d_at odL_laws5 ofL_laws5 583) rfl
theorem dL_law_584 : decode cL_law 584 = .ok (.iaload, 1) := d_by (d_at odL_laws5 ofL_laws5 584) rfl
theorem dL_law_585 : decode cL_law 585 = .ok (.aload_n 0, 1) := d_by (d_at odL_laws5 ofL_laws5 585) rfl
theorem dL_law_586 : decode cL_law 586 = .ok (.iload 4, 2) := d_by (d_at odL_laws5 ofL_laws5 586) rfl
theorem dL_law_588 : decode cL_law 588 = .ok (.iconst 2, 1) := d_by (d_at odL_laws5 ofL_laws5 588) rfl
theorem dL_law_589 : decode cL_law 589 = .ok (.iadd, 1) := d_by (d_at odL_laws5 ofL_laws5 589) rfl
theorem dL_law_590 : decode cL_law 590 = .ok (.iaload, 1) := d_by (d_at odL_laws5 ofL_laws5 590) rfl
theorem dL_law_591 : decode cL_law 591 = .ok (.invokevirtual 62, 3) := d_by (d_at odL_laws5 ofL_laws5 591) rfl
theorem dL_law_594 : decode cL_law 594 = .ok (.pop, 1) := d_by (d_at odL_laws5 ofL_laws5 594) rfl
theorem dL_law_595 : decode cL_law 595 = .ok (.aload_n 2, 1) := d_by (d_at odL_laws5 ofL_laws5 595) rfl
theorem dL_law_596 : decode cL_law 596 = .ok (.aload_n 0, 1) := d_by (d_at odL_laws5 ofL_laws5 596) rfl
theorem dL_law_597 : decode cL_law 597 = .ok (.iload 4, 2) := d_by (d_at odL_laws5 ofL_laws5 597) rfl
theorem dL_law_599 : decode cL_law 599 = .ok (.iconst 1, 1) := d_by (d_at odL_laws5 ofL_laws5 599) rfl
theorem dL_law_600 : decode cL_law 600 = .ok (.iadd, 1) := d_by (d_at odL_laws5 ofL_laws5 600) rfl
theorem dL_law_601 : decode cL_law 601 = .ok (.iaload, 1) := d_by (d_at odL_laws5 ofL_laws5 601) rfl
theorem dL_law_602 : decode cL_law 602 = .ok (.aload_n 0, 1) := d_by (d_at odL_laws5 ofL_laws5 602) rfl
theorem dL_law_603 : decode cL_law 603 = .ok (.iload 4, 2) := d_by (d_at odL_laws5 ofL_laws5 603) rfl
theorem dL_law_605 : decode cL_law 605 = .ok (.iconst 2, 1) := d_by (d_at odL_laws5 ofL_laws5 605) rfl
theorem dL_law_606 : decode cL_law 606 = .ok (.iadd, 1) := d_by (d_at odL_laws5 ofL_laws5 606) rfl
theorem dL_law_607 : decode cL_law 607 = .ok (.iaload, 1) := d_by (d_at odL_laws5 ofL_laws5 607) rfl
theorem dL_law_608 : decode cL_law 608 = .ok (.invokevirtual 65, 3) := d_by (d_at odL_laws5 ofL_laws5 608) rfl
theorem dL_law_611 : decode cL_law 611 = .ok (.pop, 1) := d_by (d_at odL_laws5 ofL_laws5 611) rfl
theorem dL_law_612 : decode cL_law 612 = .ok (.goto 1193, 3) := d_by (d_at odL_laws5 ofL_laws5 612) rfl
theorem dL_law_615 : decode cL_law 615 = .ok (.aload_n 1, 1) := d_by (d_at odL_laws5 ofL_laws5 615) rfl
theorem dL_law_616 : decode cL_law 616 = .ok (.aload_n 0, 1) := d_by (d_at odL_laws5 ofL_laws5 616) rfl
theorem dL_law_617 : decode cL_law 617 = .ok (.iload 4, 2) := d_by (d_at odL_laws5 ofL_laws5 617) rfl
theorem dL_law_619 : decode cL_law 619 = .ok (.iconst 1, 1) := d_by (d_at odL_laws5 ofL_laws5 619) rfl
theorem dL_law_620 : decode cL_law 620 = .ok (.iadd, 1) := d_by (d_at odL_laws5 ofL_laws5 620) rfl
theorem dL_law_621 : decode cL_law 621 = .ok (.iaload, 1) := d_by (d_at odL_laws5 ofL_laws5 621) rfl
theorem dL_law_622 : decode cL_law 622 = .ok (.invokevirtual 66, 3) := d_by (d_at odL_laws5 ofL_laws5 622) rfl
theorem dL_law_625 : decode cL_law 625 = .ok (.pop, 1) := d_by (d_at odL_laws5 ofL_laws5 625) rfl
theorem dL_law_626 : decode cL_law 626 = .ok (.aload_n 2, 1) := d_by (d_at odL_laws5 ofL_laws5 626) rfl
theorem dL_law_627 : decode cL_law 627 = .ok (.aload_n 0, 1) := d_by (d_at odL_laws5 ofL_laws5 627) rfl
theorem dL_law_628 : decode cL_law 628 = .ok (.iload 4, 2) := d_by (d_at odL_laws5 ofL_laws5 628) rfl
theorem dL_law_630 : decode cL_law 630 = .ok (.iconst 1, 1) := d_by (d_at odL_laws5 ofL_laws5 630) rfl
theorem dL_law_631 : decode cL_law 631 = .ok (.iadd, 1) := d_by (d_at odL_laws5 ofL_laws5 631) rfl
theorem dL_law_632 : decode cL_law 632 = .ok (.iaload, 1) := d_by (d_at odL_laws5 ofL_laws5 632) rfl
theorem dL_law_633 : decode cL_law 633 = .ok (.invokevirtual 69, 3) := d_by (d_at odL_laws5 ofL_laws5 633) rfl
theorem dL_law_636 : decode cL_law 636 = .ok (.pop, 1) := d_by (d_at odL_laws5 ofL_laws5 636) rfl
theorem dL_law_637 : decode cL_law 637 = .ok (.goto 1168, 3) := d_by (d_at odL_laws5 ofL_laws5 637) rfl
theorem dL_law_640 : decode cL_law 640 = .ok (.aload_n 1, 1) := d_by (d_at odL_laws5 ofL_laws5 640) rfl
theorem dL_law_641 : decode cL_law 641 = .ok (.aload_n 0, 1) := d_by (d_at odL_laws5 ofL_laws5 641) rfl
theorem dL_law_642 : decode cL_law 642 = .ok (.iload 4, 2) := d_by (d_at odL_laws5 ofL_laws5 642) rfl
theorem dL_law_644 : decode cL_law 644 = .ok (.iconst 1, 1) := d_by (d_at odL_laws5 ofL_laws5 644) rfl
theorem dL_law_645 : decode cL_law 645 = .ok (.iadd, 1) := d_by (d_at odL_laws5 ofL_laws5 645) rfl
theorem dL_law_646 : decode cL_law 646 = .ok (.iaload, 1) := d_by (d_at odL_laws5 ofL_laws5 646) rfl
theorem dL_law_647 : decode cL_law 647 = .ok (.aload_n 0, 1) := d_by (d_at odL_laws5 ofL_laws5 647) rfl
theorem dL_law_648 : decode cL_law 648 = .ok (.iload 4, 2) := d_by (d_at odL_laws5 ofL_laws5 648) rfl
theorem dL_law_650 : decode cL_law 650 = .ok (.iconst 2, 1) := d_by (d_at odL_laws5 ofL_laws5 650) rfl
theorem dL_law_651 : decode cL_law 651 = .ok (.iadd, 1) := d_by (d_at odL_laws5 ofL_laws5 651) rfl
theorem dL_law_652 : decode cL_law 652 = .ok (.iaload, 1) := d_by (d_at odL_laws5 ofL_laws5 652) rfl
theorem dL_law_653 : decode cL_law 653 = .ok (.aload_n 0, 1) := d_by (d_at odL_laws5 ofL_laws5 653) rfl
theorem dL_law_654 : decode cL_law 654 = .ok (.iload 4, 2) := d_by (d_at odL_laws5 ofL_laws5 654) rfl
theorem dL_law_656 : decode cL_law 656 = .ok (.iconst 3, 1) := d_by (d_at odL_laws5 ofL_laws5 656) rfl
theorem dL_law_657 : decode cL_law 657 = .ok (.iadd, 1) := d_by (d_at odL_laws5 ofL_laws5 657) rfl
theorem dL_law_658 : decode cL_law 658 = .ok (.iaload, 1) := d_by (d_at odL_laws5 ofL_laws5 658) rfl
theorem dL_law_659 : decode cL_law 659 = .ok (.invokevirtual 70, 3) := d_by (d_at odL_laws5 ofL_laws5 659) rfl
theorem dL_law_662 : decode cL_law 662 = .ok (.aload_n 2, 1) := d_by (d_at odL_laws5 ofL_laws5 662) rfl
theorem dL_law_663 : decode cL_law 663 = .ok (.aload_n 0, 1) := d_by (d_at odL_laws5 ofL_laws5 663) rfl
theorem dL_law_664 : decode cL_law 664 = .ok (.iload 4, 2) := d_by (d_at odL_laws5 ofL_laws5 664) rfl
theorem dL_law_666 : decode cL_law 666 = .ok (.iconst 1, 1) := d_by (d_at odL_laws5 ofL_laws5 666) rfl
theorem dL_law_667 : decode cL_law 667 = .ok (.iadd, 1) := d_by (d_at odL_laws5 ofL_laws5 667) rfl
theorem dL_law_668 : decode cL_law 668 = .ok (.iaload, 1) := d_by (d_at odL_laws5 ofL_laws5 668) rfl
theorem dL_law_669 : decode cL_law 669 = .ok (.aload_n 0, 1) := d_by (d_at odL_laws5 ofL_laws5 669) rfl
theorem dL_law_670 : decode cL_law 670 = .ok (.iload 4, 2) := d_by (d_at odL_laws5 ofL_laws5 670) rfl
theorem dL_law_672 : decode cL_law 672 = .ok (.iconst 2, 1) := d_by (d_at odL_laws5 ofL_laws5 672) rfl
theorem dL_law_673 : decode cL_law 673 = .ok (.iadd, 1) := d_by (d_at odL_laws5 ofL_laws5 673) rfl
theorem dL_law_674 : decode cL_law 674 = .ok (.iaload, 1) := d_by (d_at odL_laws5 ofL_laws5 674) rfl
theorem dL_law_675 : decode cL_law 675 = .ok (.aload_n 0, 1) := d_by (d_at odL_laws5 ofL_laws5 675) rfl
theorem dL_law_676 : decode cL_law 676 = .ok (.iload 4, 2) := d_by (d_at odL_laws5 ofL_laws5 676) rfl
theorem dL_law_678 : decode cL_law 678 = .ok (.iconst 3, 1) := d_by (d_at odL_laws5 ofL_laws5 678) rfl
theorem dL_law_679 : decode cL_law 679 = .ok (.iadd, 1) := d_by (d_at odL_laws5 ofL_laws5 679) rfl
theorem dL_law_680 : decode cL_law 680 = .ok (.iaload, 1) := d_by (d_at odL_laws5 ofL_laws5 680) rfl
theorem dL_law_681 : decode cL_law 681 = .ok (.invokevirtual 74, 3) := d_by (d_at odL_laws5 ofL_laws5 681) rfl
theorem dL_law_684 : decode cL_law 684 = .ok (.if_icmp .eq 1121, 3) := d_by (d_at odL_laws5 ofL_laws5 684) rfl
theorem dL_law_689 : decode cL_law 689 = .ok (.aload_n 1, 1) := d_by (d_at odL_laws5 ofL_laws5 689) rfl
theorem dL_law_690 : decode cL_law 690 = .ok (.aload_n 0, 1) := d_by (d_at odL_laws5 ofL_laws5 690) rfl
theorem dL_law_691 : decode cL_law 691 = .ok (.iload 4, 2) := d_by (d_at odL_laws5 ofL_laws5 691) rfl
theorem dL_law_693 : decode cL_law 693 = .ok (.iconst 1, 1) := d_by (d_at odL_laws5 ofL_laws5 693) rfl
theorem dL_law_694 : decode cL_law 694 = .ok (.iadd, 1) := d_by (d_at odL_laws5 ofL_laws5 694) rfl
theorem dL_law_695 : decode cL_law 695 = .ok (.iaload, 1) := d_by (d_at odL_laws5 ofL_laws5 695) rfl
theorem dL_law_696 : decode cL_law 696 = .ok (.invokevirtual 75, 3) := d_by (d_at odL_laws5 ofL_laws5 696) rfl
theorem dL_law_699 : decode cL_law 699 = .ok (.pop, 1) := d_by (d_at odL_laws5 ofL_laws5 699) rfl
theorem dL_law_700 : decode cL_law 700 = .ok (.aload_n 2, 1) := d_by (d_at odL_laws5 ofL_laws5 700) rfl
theorem dL_law_701 : decode cL_law 701 = .ok (.aload_n 0, 1) := d_by (d_at odL_laws5 ofL_laws5 701) rfl
theorem dL_law_702 : decode cL_law 702 = .ok (.iload 4, 2) := d_by (d_at odL_laws5 ofL_laws5 702) rfl
theorem dL_law_704 : decode cL_law 704 = .ok (.iconst 1, 1) := d_by (d_at odL_laws5 ofL_laws5 704) rfl
theorem dL_law_705 : decode cL_law 705 = .ok (.iadd, 1) := d_by (d_at odL_laws5 ofL_laws5 705) rfl
theorem dL_law_706 : decode cL_law 706 = .ok (.iaload, 1) := d_by (d_at odL_laws5 ofL_laws5 706) rfl
theorem dL_law_707 : decode cL_law 707 = .ok (.invokevirtual 78, 3) := d_by (d_at odL_laws5 ofL_laws5 707) rfl
theorem dL_law_710 : decode cL_law 710 = .ok (.pop, 1) := d_by (d_at odL_laws5 ofL_laws5 710) rfl
theorem dL_law_711 : decode cL_law 711 = .ok (.goto 1094, 3) := d_by (d_at odL_laws5 ofL_laws5 711) rfl
theorem dL_law_714 : decode cL_law 714 = .ok (.aload_n 1, 1) := d_by (d_at odL_laws5 ofL_laws5 714) rfl
theorem dL_law_715 : decode cL_law 715 = .ok (.aload_n 0, 1) := d_by (d_at odL_laws5 ofL_laws5 715) rfl
theorem dL_law_716 : decode cL_law 716 = .ok (.iload 4, 2) := d_by (d_at odL_laws5 ofL_laws5 716) rfl
theorem dL_law_718 : decode cL_law 718 = .ok (.iconst 1, 1) := d_by (d_at odL_laws5 ofL_laws5 718) rfl
theorem dL_law_719 : decode cL_law 719 = .ok (.iadd, 1) := d_by (d_at odL_laws5 ofL_laws5 719) rfl
theorem dL_law_720 : decode cL_law 720 = .ok (.iaload, 1) := d_by (d_at odL_laws5 ofL_laws5 720) rfl
theorem dL_law_721 : decode cL_law 721 = .ok (.aload_n 0, 1) := d_by (d_at odL_laws5 ofL_laws5 721) rfl
theorem dL_law_722 : decode cL_law 722 = .ok (.iload 4, 2) := d_by (d_at odL_laws5 ofL_laws5 722) rfl
theorem dL_law_724 : decode cL_law 724 = .ok (.iconst 2, 1) := d_by (d_at odL_laws5 ofL_laws5 724) rfl
theorem dL_law_725 : decode cL_law 725 = .ok (.iadd, 1) := d_by (d_at odL_laws5 ofL_laws5 725) rfl
theorem dL_law_726 : decode cL_law 726 = .ok (.iaload, 1) := d_by (d_at odL_laws5 ofL_laws5 726) rfl
theorem dL_law_727 : decode cL_law 727 = .ok (.invokevirtual 79, 3) := d_by (d_at odL_laws5 ofL_laws5 727) rfl
theorem dL_law_730 : decode cL_law 730 = .ok (.pop, 1) := d_by (d_at odL_laws5 ofL_laws5 730) rfl
theorem dL_law_731 : decode cL_law 731 = .ok (.aload_n 2, 1) := d_by (d_at odL_laws5 ofL_laws5 731) rfl
theorem dL_law_732 : decode cL_law 732 = .ok (.aload_n 0, 1) := d_by (d_at odL_laws5 ofL_laws5 732) rfl
theorem dL_law_733 : decode cL_law 733 = .ok (.iload 4, 2) := d_by (d_at odL_laws5 ofL_laws5 733) rfl
theorem dL_law_735 : decode cL_law 735 = .ok (.iconst 1, 1) := d_by (d_at odL_laws5 ofL_laws5 735) rfl
theorem dL_law_736 : decode cL_law 736 = .ok (.iadd, 1) := d_by (d_at odL_laws5 ofL_laws5 736) rfl
theorem dL_law_737 : decode cL_law 737 = .ok (.iaload, 1) := d_by (d_at odL_laws5 ofL_laws5 737) rfl
theorem dL_law_738 : decode cL_law 738 = .ok (.aload_n 0, 1) := d_by (d_at odL_laws5 ofL_laws5 738) rfl
theorem dL_law_739 : decode cL_law 739 = .ok (.iload 4, 2) := d_by (d_at odL_laws5 ofL_laws5 739) rfl
theorem dL_law_741 : decode cL_law 741 = .ok (.iconst 2, 1) := d_by (d_at odL_laws5 ofL_laws5 741) rfl
theorem dL_law_742 : decode cL_law 742 = .ok (.iadd, 1) := d_by (d_at odL_laws5 ofL_laws5 742) rfl
theorem dL_law_743 : decode cL_law 743 = .ok (.iaload, 1) := d_by (d_at odL_laws5 ofL_laws5 743) rfl
theorem dL_law_744 : decode cL_law 744 = .ok (.invokevirtual 82, 3) := d_by (d_at odL_laws5 ofL_laws5 744) rfl
theorem dL_law_747 : decode cL_law 747 = .ok (.pop, 1) := d_by (d_at odL_laws5 ofL_laws5 747) rfl
theorem dL_law_748 : decode cL_law 748 = .ok (.goto 1057, 3) := d_by (d_at odL_laws5 ofL_laws5 748) rfl
theorem dL_law_751 : decode cL_law 751 = .ok (.aload_n 1, 1) := d_by (d_at odL_laws5 ofL_laws5 751) rfl
theorem dL_law_752 : decode cL_law 752 = .ok (.invokevirtual 83, 3) := d_by (d_at odL_laws5 ofL_laws5 752) rfl
theorem dL_law_755 : decode cL_law 755 = .ok (.pop, 1) := d_by (d_at odL_laws5 ofL_laws5 755) rfl
theorem dL_law_756 : decode cL_law 756 = .ok (.aload_n 2, 1) := d_by (d_at odL_laws5 ofL_laws5 756) rfl
theorem dL_law_757 : decode cL_law 757 = .ok (.invokevirtual 86, 3) := d_by (d_at odL_laws5 ofL_laws5 757) rfl
theorem dL_law_760 : decode cL_law 760 = .ok (.pop, 1) := d_by (d_at odL_laws5 ofL_laws5 760) rfl
theorem dL_law_761 : decode cL_law 761 = .ok (.goto 1044, 3) := d_by (d_at odL_laws5 ofL_laws5 761) rfl
theorem dL_law_764 : decode cL_law 764 = .ok (.aload_n 1, 1) := d_by (d_at odL_laws5 ofL_laws5 764) rfl
theorem dL_law_765 : decode cL_law 765 = .ok (.invokevirtual 87, 3) := d_by (d_at odL_laws5 ofL_laws5 765) rfl
theorem dL_law_768 : decode cL_law 768 = .ok (.pop, 1) := d_by (d_at odL_laws5 ofL_laws5 768) rfl
theorem dL_law_769 : decode cL_law 769 = .ok (.aload_n 2, 1) := d_by (d_at odL_laws5 ofL_laws5 769) rfl
theorem dL_law_770 : decode cL_law 770 = .ok (.invokevirtual 90, 3) := d_by (d_at odL_laws5 ofL_laws5 770) rfl
theorem dL_law_773 : decode cL_law 773 = .ok (.pop, 1) := d_by (d_at odL_laws5 ofL_laws5 773) rfl
theorem dL_law_774 : decode cL_law 774 = .ok (.goto 1031, 3) := d_by (d_at odL_laws5 ofL_laws5 774) rfl
theorem dL_law_777 : decode cL_law 777 = .ok (.aload_n 1, 1) := d_by (d_at odL_laws5 ofL_laws5 777) rfl
theorem dL_law_778 : decode cL_law 778 = .ok (.aload_n 0, 1) := d_by (d_at odL_laws5 ofL_laws5 778) rfl
theorem dL_law_779 : decode cL_law 779 = .ok (.iload 4, 2) := d_by (d_at odL_laws5 ofL_laws5 779) rfl
theorem dL_law_781 : decode cL_law 781 = .ok (.iconst 1, 1) := d_by (d_at odL_laws5 ofL_laws5 781) rfl
theorem dL_law_782 : decode cL_law 782 = .ok (.iadd, 1) := d_by (d_at odL_laws5 ofL_laws5 782) rfl
theorem dL_law_783 : decode cL_law 783 = .ok (.iaload, 1) := d_by (d_at odL_laws5 ofL_laws5 783) rfl
theorem dL_law_784 : decode cL_law 784 = .ok (.aload_n 0, 1) := d_by (d_at odL_laws5 ofL_laws5 784) rfl
theorem dL_law_785 : decode cL_law 785 = .ok (.iload 4, 2) := d_by (d_at odL_laws5 ofL_laws5 785) rfl
theorem dL_law_787 : decode cL_law 787 = .ok (.iconst 2, 1) := d_by (d_at odL_laws5 ofL_laws5 787) rfl
theorem dL_law_788 : decode cL_law 788 = .ok (.iadd, 1) := d_by (d_at odL_laws5 ofL_laws5 788) rfl
theorem dL_law_789 : decode cL_law 789 = .ok (.iaload, 1) := d_by (d_at odL_laws5 ofL_laws5 789) rfl
theorem dL_law_790 : decode cL_law 790 = .ok (.invokevirtual 91, 3) := d_by (d_at odL_laws5 ofL_laws5 790) rfl
theorem dL_law_793 : decode cL_law 793 = .ok (.pop, 1) := d_by (d_at odL_laws5 ofL_laws5 793) rfl
theorem dL_law_794 : decode cL_law 794 = .ok (.aload_n 2, 1) := d_by (d_at odL_laws5 ofL_laws5 794) rfl
theorem dL_law_795 : decode cL_law 795 = .ok (.aload_n 0, 1) := d_by (d_at odL_laws5 ofL_laws5 795) rfl
theorem dL_law_796 : decode cL_law 796 = .ok (.iload 4, 2) := d_by (d_at odL_laws5 ofL_laws5 796) rfl
theorem dL_law_798 : decode cL_law 798 = .ok (.iconst 1, 1) := d_by (d_at odL_laws5 ofL_laws5 798) rfl
theorem dL_law_799 : decode cL_law 799 = .ok (.iadd, 1) := d_by (d_at odL_laws5 ofL_laws5 799) rfl
theorem dL_law_800 : decode cL_law 800 = .ok (.iaload, 1) := d_by (d_at odL_laws5 ofL_laws5 800) rfl
theorem dL_law_801 : decode cL_law 801 = .ok (.aload_n 0, 1) := d_by (d_at odL_laws5 ofL_laws5 801) rfl
theorem dL_law_802 : decode cL_law 802 = .ok (.iload 4, 2) := d_by (d_at odL_laws5 ofL_laws5 802) rfl
theorem dL_law_804 : decode cL_law 804 = .ok (.iconst 2, 1) := d_by (d_at odL_laws5 ofL_laws5 804) rfl
theorem dL_law_805 : decode cL_law 805 = .ok (.iadd, 1) := d_by (d_at odL_laws5 ofL_laws5 805) rfl
theorem dL_law_806 : decode cL_law 806 = .ok (.iaload, 1) := d_by (d_at odL_laws5 ofL_laws5 806) rfl
theorem dL_law_807 : decode cL_law 807 = .ok (.invokevirtual 94, 3) := d_by (d_at odL_laws5 ofL_laws5 807) rfl
theorem dL_law_810 : decode cL_law 810 = .ok (.pop, 1) := d_by (d_at odL_laws5 ofL_laws5 810) rfl
theorem dL_law_811 : decode cL_law 811 = .ok (.goto 994, 3) := d_by (d_at odL_laws5 ofL_laws5 811) rfl
theorem dL_law_814 : decode cL_law 814 = .ok (.aload_n 1, 1) := d_by (d_at odL_laws5 ofL_laws5 814) rfl
theorem dL_law_815 : decode cL_law 815 = .ok (.aload_n 0, 1) := d_by (d_at odL_laws5 ofL_laws5 815) rfl
theorem dL_law_816 : decode cL_law 816 = .ok (.iload 4, 2) := d_by (d_at odL_laws5 ofL_laws5 816) rfl
theorem dL_law_818 : decode cL_law 818 = .ok (.iconst 1, 1) := d_by (d_at odL_laws5 ofL_laws5 818) rfl
theorem dL_law_819 : decode cL_law 819 = .ok (.iadd, 1) := d_by (d_at odL_laws6 ofL_laws6 819) rfl
theorem dL_law_820 : decode cL_law 820 = .ok (.iaload, 1) := d_by (d_at odL_laws6 ofL_laws6 820) rfl
theorem dL_law_821 : decode cL_law 821 = .ok (.aload_n 0, 1) := d_by (d_at odL_laws6 ofL_laws6 821) rfl
theorem dL_law_822 : decode cL_law 822 = .ok (.iload 4, 2) := d_by (d_at odL_laws6 ofL_laws6 822) rfl
theorem dL_law_824 : decode cL_law 824 = .ok (.iconst 2, 1) := d_by (d_at odL_laws6 ofL_laws6 824) rfl
theorem dL_law_825 : decode cL_law 825 = .ok (.iadd, 1) := d_by (d_at odL_laws6 ofL_laws6 825) rfl
theorem dL_law_826 : decode cL_law 826 = .ok (.iaload, 1) := d_by (d_at odL_laws6 ofL_laws6 826) rfl
theorem dL_law_827 : decode cL_law 827 = .ok (.invokevirtual 95, 3) := d_by (d_at odL_laws6 ofL_laws6 827) rfl
theorem dL_law_830 : decode cL_law 830 = .ok (.pop, 1) := d_by (d_at odL_laws6 ofL_laws6 830) rfl
theorem dL_law_831 : decode cL_law 831 = .ok (.aload_n 2, 1) := d_by (d_at odL_laws6 ofL_laws6 831) rfl
theorem dL_law_832 : decode cL_law 832 = .ok (.aload_n 0, 1) := d_by (d_at odL_laws6 ofL_laws6 832) rfl
theorem dL_law_833 : decode cL_law 833 = .ok (.iload 4, 2) := d_by (d_at odL_laws6 ofL_laws6 833) rfl
theorem dL_law_835 : decode cL_law 835 = .ok (.iconst 1, 1) := d_by (d_at odL_laws6 ofL_laws6 835) rfl
theorem dL_law_836 : decode cL_law 836 = .ok (.iadd, 1) := d_by (d_at odL_laws6 ofL_laws6 836) rfl
theorem dL_law_837 : decode cL_law 837 = .ok (.iaload, 1) := d_by (d_at odL_laws6 ofL_laws6 837) rfl
theorem dL_law_838 : decode cL_law 838 = .ok (.aload_n 0, 1) := d_by (d_at odL_laws6 ofL_laws6 838) rfl
theorem dL_law_839 : decode cL_law 839 = .ok (.iload 4, 2) := d_by (d_at odL_laws6 ofL_laws6 839) rfl
theorem dL_law_841 : decode cL_law 841 = .ok (.iconst 2, 1) := d_by (d_at odL_laws6 ofL_laws6 841) rfl
theorem dL_law_842 : decode cL_law 842 = .ok (.iadd, 1) := d_by (d_at odL_laws6 ofL_laws6 842) rfl
theorem dL_law_843 : decode cL_law 843 = .ok (.iaload, 1) := d_by (d_at odL_laws6 ofL_laws6 843) rfl
theorem dL_law_844 : decode cL_law 844 = .ok (.invokevirtual 98, 3) := d_by (d_at odL_laws6 ofL_laws6 844) rfl
theorem dL_law_847 : decode cL_law 847 = .ok (.pop, 1) := d_by (d_at odL_laws6 ofL_laws6 847) rfl
theorem dL_law_848 : decode cL_law 848 = .ok (.goto 957, 3) := d_by (d_at odL_laws6 ofL_laws6 848) rfl
theorem dL_law_851 : decode cL_law 851 = .ok (.aload_n 1, 1) := d_by (d_at odL_laws6 ofL_laws6 851) rfl
theorem dL_law_852 : decode cL_law 852 = .ok (.aload_n 0, 1) := d_by (d_at odL_laws6 ofL_laws6 852) rfl
theorem dL_law_853 : decode cL_law 853 = .ok (.iload 4, 2) := d_by (d_at odL_laws6 ofL_laws6 853) rfl
theorem dL_law_855 : decode cL_law 855 = .ok (.iconst 1, 1) := d_by (d_at odL_laws6 ofL_laws6 855) rfl
theorem dL_law_856 : decode cL_law 856 = .ok (.iadd, 1) := d_by (d_at odL_laws6 ofL_laws6 856) rfl
theorem dL_law_857 : decode cL_law 857 = .ok (.iaload, 1) := d_by (d_at odL_laws6 ofL_laws6 857) rfl
theorem dL_law_858 : decode cL_law 858 = .ok (.invokevirtual 99, 3) := d_by (d_at odL_laws6 ofL_laws6 858) rfl
theorem dL_law_861 : decode cL_law 861 = .ok (.pop, 1) := d_by (d_at odL_laws6 ofL_laws6 861) rfl
theorem dL_law_862 : decode cL_law 862 = .ok (.aload_n 2, 1) := d_by (d_at odL_laws6 ofL_laws6 862) rfl
theorem dL_law_863 : decode cL_law 863 = .ok (.aload_n 0, 1) := d_by (d_at odL_laws6 ofL_laws6 863) rfl
theorem dL_law_864 : decode cL_law 864 = .ok (.iload 4, 2) := d_by (d_at odL_laws6 ofL_laws6 864) rfl
theorem dL_law_866 : decode cL_law 866 = .ok (.iconst 1, 1) := d_by (d_at odL_laws6 ofL_laws6 866) rfl
theorem dL_law_867 : decode cL_law 867 = .ok (.iadd, 1) := d_by (d_at odL_laws6 ofL_laws6 867) rfl
theorem dL_law_868 : decode cL_law 868 = .ok (.iaload, 1) := d_by (d_at odL_laws6 ofL_laws6 868) rfl
theorem dL_law_869 : decode cL_law 869 = .ok (.invokevirtual 102, 3) := d_by (d_at odL_laws6 ofL_laws6 869) rfl
theorem dL_law_872 : decode cL_law 872 = .ok (.pop, 1) := d_by (d_at odL_laws6 ofL_laws6 872) rfl
theorem dL_law_873 : decode cL_law 873 = .ok (.goto 932, 3) := d_by (d_at odL_laws6 ofL_laws6 873) rfl
theorem dL_law_876 : decode cL_law 876 = .ok (.aload_n 1, 1) := d_by (d_at odL_laws6 ofL_laws6 876) rfl
theorem dL_law_877 : decode cL_law 877 = .ok (.aload_n 0, 1) := d_by (d_at odL_laws6 ofL_laws6 877) rfl
theorem dL_law_878 : decode cL_law 878 = .ok (.iload 4, 2) := d_by (d_at odL_laws6 ofL_laws6 878) rfl
theorem dL_law_880 : decode cL_law 880 = .ok (.iconst 1, 1) := d_by (d_at odL_laws6 ofL_laws6 880) rfl
theorem dL_law_881 : decode cL_law 881 = .ok (.iadd, 1) := d_by (d_at odL_laws6 ofL_laws6 881) rfl
theorem dL_law_882 : decode cL_law 882 = .ok (.iaload, 1) := d_by (d_at odL_laws6 ofL_laws6 882) rfl
theorem dL_law_883 : decode cL_law 883 = .ok (.invokevirtual 103, 3) := d_by (d_at odL_laws6 ofL_laws6 883) rfl
theorem dL_law_886 : decode cL_law 886 = .ok (.pop, 1) := d_by (d_at odL_laws6 ofL_laws6 886) rfl
theorem dL_law_887 : decode cL_law 887 = .ok (.aload_n 2, 1) := d_by (d_at odL_laws6 ofL_laws6 887) rfl
theorem dL_law_888 : decode cL_law 888 = .ok (.aload_n 0, 1) := d_by (d_at odL_laws6 ofL_laws6 888) rfl
theorem dL_law_889 : decode cL_law 889 = .ok (.iload 4, 2) := d_by (d_at odL_laws6 ofL_laws6 889) rfl
theorem dL_law_891 : decode cL_law 891 = .ok (.iconst 1, 1) := d_by (d_at odL_laws6 ofL_laws6 891) rfl
theorem dL_law_892 : decode cL_law 892 = .ok (.iadd, 1) := d_by (d_at odL_laws6 ofL_laws6 892) rfl
theorem dL_law_893 : decode cL_law 893 = .ok (.iaload, 1) := d_by (d_at odL_laws6 ofL_laws6 893) rfl
theorem dL_law_894 : decode cL_law 894 = .ok (.invokevirtual 106, 3) := d_by (d_at odL_laws6 ofL_laws6 894) rfl
theorem dL_law_897 : decode cL_law 897 = .ok (.pop, 1) := d_by (d_at odL_laws6 ofL_laws6 897) rfl
theorem dL_law_898 : decode cL_law 898 = .ok (.goto 907, 3) := d_by (d_at odL_laws6 ofL_laws6 898) rfl
theorem dL_law_901 : decode cL_law 901 = .ok (.aload_n 1, 1) := d_by (d_at odL_laws6 ofL_laws6 901) rfl
theorem dL_law_902 : decode cL_law 902 = .ok (.aload_n 0, 1) := d_by (d_at odL_laws6 ofL_laws6 902) rfl
theorem dL_law_903 : decode cL_law 903 = .ok (.iload 4, 2) := d_by (d_at odL_laws6 ofL_laws6 903) rfl
theorem dL_law_905 : decode cL_law 905 = .ok (.iconst 1, 1) := d_by (d_at odL_laws6 ofL_laws6 905) rfl
theorem dL_law_906 : decode cL_law 906 = .ok (.iadd, 1) := d_by (d_at odL_laws6 ofL_laws6 906) rfl
theorem dL_law_907 : decode cL_law 907 = .ok (.iaload, 1) := d_by (d_at odL_laws6 ofL_laws6 907) rfl
theorem dL_law_908 : decode cL_law 908 = .ok (.aload_n 0, 1) := d_by (d_at odL_laws6 ofL_laws6 908) rfl
theorem dL_law_909 : decode cL_law 909 = .ok (.iload 4, 2) := d_by (d_at odL_laws6 ofL_laws6 909) rfl
theorem dL_law_911 : decode cL_law 911 = .ok (.iconst 2, 1) := d_by (d_at odL_laws6 ofL_laws6 911) rfl
theorem dL_law_912 : decode cL_law 912 = .ok (.iadd, 1) := d_by (d_at odL_laws6 ofL_laws6 912) rfl
theorem dL_law_913 : decode cL_law 913 = .ok (.iaload, 1) := d_by (d_at odL_laws6 ofL_laws6 913) rfl
theorem dL_law_914 : decode cL_law 914 = .ok (.invokevirtual 107, 3) := d_by (d_at odL_laws6 ofL_laws6 914) rfl
theorem dL_law_917 : decode cL_law 917 = .ok (.pop, 1) := d_by (d_at odL_laws6 ofL_laws6 917) rfl
theorem dL_law_918 : decode cL_law 918 = .ok (.aload_n 2, 1) := d_by (d_at odL_laws6 ofL_laws6 918) rfl
theorem dL_law_919 : decode cL_law 919 = .ok (.aload_n 0, 1) := d_by (d_at odL_laws6 ofL_laws6 919) rfl
theorem dL_law_920 : decode cL_law 920 = .ok (.iload 4, 2) := d_by (d_at odL_laws6 ofL_laws6 920) rfl
theorem dL_law_922 : decode cL_law 922 = .ok (.iconst 1, 1) := d_by (d_at odL_laws6 ofL_laws6 922) rfl
theorem dL_law_923 : decode cL_law 923 = .ok (.iadd, 1) := d_by (d_at odL_laws6 ofL_laws6 923) rfl
theorem dL_law_924 : decode cL_law 924 = .ok (.iaload, 1) := d_by (d_at odL_laws6 ofL_laws6 924) rfl
theorem dL_law_925 : decode cL_law 925 = .ok (.aload_n 0, 1) := d_by (d_at odL_laws6 ofL_laws6 925) rfl
theorem dL_law_926 : decode cL_law 926 = .ok (.iload 4, 2) := d_by (d_at odL_laws6 ofL_laws6 926) rfl
theorem dL_law_928 : decode cL_law 928 = .ok (.iconst 2, 1) := d_by (d_at odL_laws6 ofL_laws6 928) rfl
theorem dL_law_929 : decode cL_law 929 = .ok (.iadd, 1) := d_by (d_at odL_laws6 ofL_laws6 929) rfl
theorem dL_law_930 : decode cL_law 930 = .ok (.iaload, 1) := d_by (d_at odL_laws6 ofL_laws6 930) rfl
theorem dL_law_931 : decode cL_law 931 = .ok (.invokevirtual 110, 3) := d_by (d_at odL_laws6 ofL_laws6 931) rfl
theorem dL_law_934 : decode cL_law 934 = .ok (.pop, 1) := d_by (d_at odL_laws6 ofL_laws6 934) rfl
theorem dL_law_935 : decode cL_law 935 = .ok (.goto 870, 3) := d_by (d_at odL_laws6 ofL_laws6 935) rfl
theorem dL_law_938 : decode cL_law 938 = .ok (.aload_n 1, 1) := d_by (d_at odL_laws6 ofL_laws6 938) rfl
theorem dL_law_939 : decode cL_law 939 = .ok (.aload_n 0, 1) := d_by (d_at odL_laws6 ofL_laws6 939) rfl
theorem dL_law_940 : decode cL_law 940 = .ok (.iload 4, 2) := d_by (d_at odL_laws6 ofL_laws6 940) rfl
theorem dL_law_942 : decode cL_law 942 = .ok (.iconst 1, 1) := d_by (d_at odL_laws6 ofL_laws6 942) rfl
theorem dL_law_943 : decode cL_law 943 = .ok (.iadd, 1) := d_by (d_at odL_laws6 ofL_laws6 943) rfl
theorem dL_law_944 : decode cL_law 944 = .ok (.iaload, 1) := d_by (d_at odL_laws6 ofL_laws6 944) rfl
theorem dL_law_945 : decode cL_law 945 = .ok (.invokevirtual 111, 3) := d_by (d_at odL_laws6 ofL_laws6 945) rfl
theorem dL_law_948 : decode cL_law 948 = .ok (.pop, 1) := d_by (d_at odL_laws6 ofL_laws6 948) rfl
theorem dL_law_949 : decode cL_law 949 = .ok (.aload_n 2, 1) := d_by (d_at odL_laws6 ofL_laws6 949) rfl
theorem dL_law_950 : decode cL_law 950 = .ok (.aload_n 0, 1) := d_by (d_at odL_laws6 ofL_laws6 950) rfl
theorem dL_law_951 : decode cL_law 951 = .ok (.iload 4, 2) := d_by (d_at odL_laws6 ofL_laws6 951) rfl
theorem dL_law_953 : decode cL_law 953 = .ok (.iconst 1, 1) := d_by (d_at odL_laws6 ofL_laws6 953) rfl
theorem dL_law_954 : decode cL_law 954 = .ok (.iadd, 1) := d_by (d_at odL_laws6 ofL_laws6 954) rfl
theorem dL_law_955 : decode cL_law 955 = .ok (.iaload, 1) := d_by (d_at odL_laws6 ofL_laws6 955) rfl
theorem dL_law_956 : decode cL_law 956 = .ok (.invokevirtual 114, 3) := d_by (d_at odL_laws6 ofL_laws6 956) rfl
theorem dL_law_959 : decode cL_law 959 = .ok (.pop, 1) := d_by (d_at odL_laws6 ofL_laws6 959) rfl
theorem dL_law_960 : decode cL_law 960 = .ok (.goto 845, 3) := d_by (d_at odL_laws6 ofL_laws6 960) rfl
theorem dL_law_963 : decode cL_law 963 = .ok (.aload_n 1, 1) := d_by (d_at odL_laws6 ofL_laws6 963) rfl
theorem dL_law_964 : decode cL_law 964 = .ok (.aload_n 0, 1) := d_by (d_at odL_laws6 ofL_laws6 964) rfl
theorem dL_law_965 : decode cL_law 965 = .ok (.iload 4, 2) := d_by (d_at odL_laws6 ofL_laws6 965) rfl
theorem dL_law_967 : decode cL_law 967 = .ok (.iconst 1, 1) := d_by (d_at odL_laws6 ofL_laws6 967) rfl
theorem dL_law_968 : decode cL_law 968 = .ok (.iadd, 1) := d_by (d_at odL_laws6 ofL_laws6 968) rfl
theorem dL_law_969 : decode cL_law 969 = .ok (.iaload, 1) := d_by (d_at odL_laws6 ofL_laws6 969) rfl
theorem dL_law_970 : decode cL_law 970 = .ok (.aload_n 0, 1) := d_by (d_at odL_laws6 ofL_laws6 970) rfl
theorem dL_law_971 : decode cL_law 971 = .ok (.iload 4, 2) := d_by (d_at odL_laws6 ofL_laws6 971) rfl
theorem dL_law_973 : decode cL_law 973 = .ok (.iconst 2, 1) := d_by (d_at odL_laws6 ofL_laws6 973) rfl
theorem dL_law_974 : decode cL_law 974 = .ok (.iadd, 1) := d_by (d_at odL_laws6 ofL_laws6 974) rfl
theorem dL_law_975 : decode cL_law 975 = .ok (.iaload, 1) := d_by (d_at odL_laws6 ofL_laws6 975) rfl
theorem dL_law_976 : decode cL_law 976 = .ok (.aload_n 0, 1) := d_by (d_at odL_laws6 ofL_laws6 976) rfl
theorem dL_law_977 : decode cL_law 977 = .ok (.iload 4, 2) := d_by (d_at odL_laws6 ofL_laws6 977) rfl
theorem dL_law_979 : decode cL_law 979 = .ok (.iconst 3, 1) := d_by (d_at odL_laws6 ofL_laws6 979) rfl
theorem dL_law_980 : decode cL_law 980 = .ok (.iadd, 1) := d_by (d_at odL_laws6 ofL_laws6 980) rfl
theorem dL_law_981 : decode cL_law 981 = .ok (.iaload, 1) := d_by (d_at odL_laws6 ofL_laws6 981) rfl
theorem dL_law_982 : decode cL_law 982 = .ok (.aload_n 0, 1) := d_by (d_at odL_laws6 ofL_laws6 982) rfl
theorem dL_law_983 : decode cL_law 983 = .ok (.iload 4, 2) := d_by (d_at odL_laws6 ofL_laws6 983) rfl
theorem dL_law_985 : decode cL_law 985 = .ok (.iconst 4, 1) := d_by (d_at odL_laws6 ofL_laws6 985) rfl
theorem dL_law_986 : decode cL_law 986 = .ok (.iadd, 1) := d_by (d_at odL_laws6 ofL_laws6 986) rfl
theorem dL_law_987 : decode cL_law 987 = .ok (.iaload, 1) := d_by (d_at odL_laws6 ofL_laws6 987) rfl
theorem dL_law_988 : decode cL_law 988 = .ok (.invokevirtual 115, 3) := d_by (d_at odL_laws6 ofL_laws6 988) rfl
theorem dL_law_991 : decode cL_law 991 = .ok (.pop, 1) := d_by (d_at odL_laws6 ofL_laws6 991) rfl
theorem dL_law_992 : decode cL_law 992 = .ok (.aload_n 2, 1) := d_by (d_at odL_laws6 ofL_laws6 992) rfl
theorem dL_law_993 : decode cL_law 993 = .ok (.aload_n 0, 1) := d_by (d_at odL_laws6 ofL_laws6 993) rfl
theorem dL_law_994 : decode cL_law 994 = .ok (.iload 4, 2) := d_by (d_at odL_laws6 ofL_laws6 994) rfl
theorem dL_law_996 : decode cL_law 996 = .ok (.iconst 1, 1) := d_by (d_at odL_laws6 ofL_laws6 996) rfl
theorem dL_law_997 : decode cL_law 997 = .ok (.iadd, 1) := d_by (d_at odL_laws6 ofL_laws6 997) rfl
theorem dL_law_998 : decode cL_law 998 = .ok (.iaload, 1) := d_by (d_at odL_laws6 ofL_laws6 998) rfl
theorem dL_law_999 : decode cL_law 999 = .ok (.aload_n 0, 1) := d_by (d_at odL_laws6 ofL_laws6 999) rfl
theorem dL_law_1000 : decode cL_law 1000 = .ok (.iload 4, 2) := d_by (d_at odL_laws6 ofL_laws6 1000) rfl
theorem dL_law_1002 : decode cL_law 1002 = .ok (.iconst 2, 1) := d_by (d_at odL_laws6 ofL_laws6 1002) rfl
theorem dL_law_1003 : decode cL_law 1003 = .ok (.iadd, 1) := d_by (d_at odL_laws6 ofL_laws6 1003) rfl
theorem dL_law_1004 : decode cL_law 1004 = .ok (.iaload, 1) := d_by (d_at odL_laws6 ofL_laws6 1004) rfl
theorem dL_law_1005 : decode cL_law 1005 = .ok (.aload_n 0, 1) := d_by (d_at odL_laws6 ofL_laws6 1005) rfl
theorem dL_law_1006 : decode cL_law 1006 = .ok (.iload 4, 2) := d_by (d_at odL_laws6 ofL_laws6 1006) rfl
theorem dL_law_1008 : decode cL_law 1008 = .ok (.iconst 3, 1) := d_by (d_at odL_laws6 ofL_laws6 1008) rfl
theorem dL_law_1009 : decode cL_law 1009 = .ok (.iadd, 1) := d_by (d_at odL_laws6 ofL_laws6 1009) rfl
theorem dL_law_1010 : decode cL_law 1010 = .ok (.iaload, 1) := d_by (d_at odL_laws6 ofL_laws6 1010) rfl
theorem dL_law_1011 : decode cL_law 1011 = .ok (.aload_n 0, 1) := d_by (d_at odL_laws6 ofL_laws6 1011) rfl
theorem dL_law_1012 : decode cL_law 1012 = .ok (.iload 4, 2) := d_by (d_at odL_laws6 ofL_laws6 1012) rfl
theorem dL_law_1014 : decode cL_law 1014 = .ok (.iconst 4, 1) := d_by (d_at odL_laws6 ofL_laws6 1014) rfl
theorem dL_law_1015 : decode cL_law 1015 = .ok (.iadd, 1) := d_by (d_at odL_laws6 ofL_laws6 1015) rfl
theorem dL_law_1016 : decode cL_law 1016 = .ok (.iaload, 1) := d_by (d_at odL_laws6 ofL_laws6 1016) rfl
theorem dL_law_1017 : decode cL_law 1017 = .ok (.invokevirtual 119, 3) := d_by (d_at odL_laws6 ofL_laws6 1017) rfl
theorem dL_law_1020 : decode cL_law 1020 = .ok (.pop, 1) := d_by (d_at odL_laws6 ofL_laws6 1020) rfl
theorem dL_law_1021 : decode cL_law 1021 = .ok (.goto 784, 3) := d_by (d_at odL_laws6 ofL_laws6 1021) rfl
theorem dL_law_1024 : decode cL_law 1024 = .ok (.aload_n 1, 1) := d_by (d_at odL_laws6 ofL_laws6 1024) rfl
theorem dL_law_1025 : decode cL_law 1025 = .ok (.aload_n 0, 1) := d_by (d_at odL_laws6 ofL_laws6 1025) rfl
theorem dL_law_1026 : decode cL_law 1026 = .ok (.iload 4, 2) := d_by (d_at odL_laws6 ofL_laws6 1026) rfl
theorem dL_law_1028 : decode cL_law 1028 = .ok (.iconst 1, 1) := d_by (d_at odL_laws6 ofL_laws6 1028) rfl
theorem dL_law_1029 : decode cL_law 1029 = .ok (.iadd, 1) := d_by (d_at odL_laws6 ofL_laws6 1029) rfl
theorem dL_law_1030 : decode cL_law 1030 = .ok (.iaload, 1) := d_by (d_at odL_laws6 ofL_laws6 1030) rfl
theorem dL_law_1031 : decode cL_law 1031 = .ok (.aload_n 0, 1) := d_by (d_at odL_laws6 ofL_laws6 1031) rfl
theorem dL_law_1032 : decode cL_law 1032 = .ok (.iload 4, 2) := d_by (d_at odL_laws6 ofL_laws6 1032) rfl
theorem dL_law_1034 : decode cL_law 1034 = .ok (.iconst 2, 1) := d_by (d_at odL_laws6 ofL_laws6 1034) rfl
theorem dL_law_1035 : decode cL_law 1035 = .ok (.iadd, 1) := d_by (d_at odL_laws6 ofL_laws6 1035) rfl
theorem dL_law_1036 : decode cL_law 1036 = .ok (.iaload, 1) := d_by (d_at odL_laws6 ofL_laws6 1036) rfl
theorem dL_law_1037 : decode cL_law 1037 = .ok (.invokevirtual 120, 3) := d_by (d_at odL_laws6 ofL_laws6 1037) rfl
theorem dL_law_1040 : decode cL_law 1040 = .ok (.pop, 1) := d_by (d_at odL_laws6 ofL_laws6 1040) rfl
theorem dL_law_1041 : decode cL_law 1041 = .ok (.aload_n 2, 1) := d_by (d_at odL_laws6 ofL_laws6 1041) rfl
theorem dL_law_1042 : decode cL_law 1042 = .ok (.aload_n 0, 1) := d_by (d_at odL_laws6 ofL_laws6 1042) rfl
theorem dL_law_1043 : decode cL_law 1043 = .ok (.iload 4, 2) := d_by (d_at odL_laws6 ofL_laws6 1043) rfl
theorem dL_law_1045 : decode cL_law 1045 = .ok (.iconst 1, 1) := d_by (d_at odL_laws6 ofL_laws6 1045) rfl
theorem dL_law_1046 : decode cL_law 1046 = .ok (.iadd, 1) := d_by (d_at odL_laws6 ofL_laws6 1046) rfl
theorem dL_law_1047 : decode cL_law 1047 = .ok (.iaload, 1) := d_by (d_at odL_laws6 ofL_laws6 1047) rfl
theorem dL_law_1048 : decode cL_law 1048 = .ok (.aload_n 0, 1) := d_by (d_at odL_laws6 ofL_laws6 1048) rfl
theorem dL_law_1049 : decode cL_law 1049 = .ok (.iload 4, 2) := d_by (d_at odL_laws6 ofL_laws6 1049) rfl
theorem dL_law_1051 : decode cL_law 1051 = .ok (.iconst 2, 1) := d_by (d_at odL_laws6 ofL_laws6 1051) rfl
theorem dL_law_1052 : decode cL_law 1052 = .ok (.iadd, 1) := d_by (d_at odL_laws6 ofL_laws6 1052) rfl
theorem dL_law_1053 : decode cL_law 1053 = .ok (.iaload, 1) := d_by (d_at odL_laws6 ofL_laws6 1053) rfl
theorem dL_law_1054 : decode cL_law 1054 = .ok (.invokevirtual 123, 3) := d_by (d_at odL_laws6 ofL_laws6 1054) rfl
theorem dL_law_1057 : decode cL_law 1057 = .ok (.pop, 1) := d_by (d_at odL_laws6 ofL_laws6 1057) rfl
theorem dL_law_1058 : decode cL_law 1058 = .ok (.goto 747, 3) := d_by (d_at odL_laws6 ofL_laws6 1058) rfl
theorem dL_law_1061 : decode cL_law 1061 = .ok (.aload_n 1, 1) := d_by (d_at odL_laws6 ofL_laws6 1061) rfl
theorem dL_law_1062 : decode cL_law 1062 = .ok (.aload_n 0, 1) := d_by (d_at odL_laws6 ofL_laws6 1062) rfl
theorem dL_law_1063 : decode cL_law 1063 = .ok (.iload 4, 2) := d_by (d_at odL_laws6 ofL_laws6 1063) rfl
theorem dL_law_1065 : decode cL_law 1065 = .ok (.iconst 1, 1) := d_by (d_at odL_laws6 ofL_laws6 1065) rfl
theorem dL_law_1066 : decode cL_law 1066 = .ok (.iadd, 1) := d_by (d_at odL_laws6 ofL_laws6 1066) rfl
theorem dL_law_1067 : decode cL_law 1067 = .ok (.iaload, 1) := d_by (d_at odL_laws6 ofL_laws6 1067) rfl
theorem dL_law_1068 : decode cL_law 1068 = .ok (.invokevirtual 124, 3) := d_by (d_at odL_laws6 ofL_laws6 1068) rfl
theorem dL_law_1071 : decode cL_law 1071 = .ok (.pop, 1) := d_by (d_at odL_laws6 ofL_laws6 1071) rfl
theorem dL_law_1072 : decode cL_law 1072 = .ok (.aload_n 2, 1) := d_by (d_at odL_laws6 ofL_laws6 1072) rfl
theorem dL_law_1073 : decode cL_law 1073 = .ok (.aload_n 0, 1) := d_by (d_at odL_laws6 ofL_laws6 1073) rfl
theorem dL_law_1074 : decode cL_law 1074 = .ok (.iload 4, 2) := d_by (d_at odL_laws6 ofL_laws6 1074) rfl
theorem dL_law_1076 : decode cL_law 1076 = .ok (.iconst 1, 1) := d_by (d_at odL_laws6 ofL_laws6 1076) rfl
theorem dL_law_1077 : decode cL_law 1077 = .ok (.iadd, 1) := d_by (d_at odL_laws6 ofL_laws6 1077) rfl
theorem dL_law_1078 : decode cL_law 1078 = .ok (.iaload, 1) := d_by (d_at odL_laws6 ofL_laws6 1078) rfl
theorem dL_law_1079 : decode cL_law 1079 = .ok (.invokevirtual 127, 3) := d_by (d_at odL_laws6 ofL_laws6 1079) rfl
theorem dL_law_1082 : decode cL_law 1082 = .ok (.pop, 1) := d_by (d_at odL_laws6 ofL_laws6 1082) rfl
theorem dL_law_1083 : decode cL_law 1083 = .ok (.goto 722, 3) := d_by (d_at odL_laws6 ofL_laws6 1083) rfl
theorem dL_law_1086 : decode cL_law 1086 = .ok (.aload_n 1, 1) := d_by (d_at odL_laws6 ofL_laws6 1086) rfl
theorem dL_law_1087 : decode cL_law 1087 = .ok (.aload_n 0, 1) := d_by (d_at odL_laws6 ofL_laws6 1087) rfl
theorem dL_law_1088 : decode cL_law 1088 = .ok (.iload 4, 2) := d_by (d_at odL_laws6 ofL_laws6 1088) rfl
theorem dL_law_1090 : decode cL_law 1090 = .ok (.iconst 1, 1) := d_by (d_at odL_laws6 ofL_laws6 1090) rfl
theorem dL_law_1091 : decode cL_law 1091 = .ok (.iadd, 1) := d_by (d_at odL_laws6 ofL_laws6 1091) rfl
theorem dL_law_1092 : decode cL_law 1092 = .ok (.iaload, 1) := d_by (d_at odL_laws6 ofL_laws6 1092) rfl
theorem dL_law_1093 : decode cL_law 1093 = .ok (.invokevirtual 128, 3) := d_by (d_at odL_laws6 ofL_laws6 1093) rfl
theorem dL_law_1096 : decode cL_law 1096 = .ok (.pop, 1) := d_by (d_at odL_laws6 ofL_laws6 1096) rfl
theorem dL_law_1097 : decode cL_law 1097 = .ok (.aload_n 2, 1) := d_by (d_at odL_laws7 ofL_laws7 1097) rfl
theorem dL_law_1098 : decode cL_law 1098 = .ok (.aload_n 0, 1) := d_by (d_at odL_laws7 ofL_laws7 1098) rfl
theorem dL_law_1099 : decode cL_law 1099 = .ok (.iload 4, 2) := d_by (d_at odL_laws7 ofL_laws7 1099) rfl
theorem dL_law_1101 : decode cL_law 1101 = .ok (.iconst 1, 1) := d_by (d_at odL_laws7 ofL_laws7 1101) rfl
theorem dL_law_1102 : decode cL_law 1102 = .ok (.iadd, 1) := d_by (d_at odL_laws7 ofL_laws7 1102) rfl
theorem dL_law_1103 : decode cL_law 1103 = .ok (.iaload, 1) := d_by (d_at odL_laws7 ofL_laws7 1103) rfl
theorem dL_law_1104 : decode cL_law 1104 = .ok (.invokevirtual 131, 3) := d_by (d_at odL_laws7 ofL_laws7 1104) rfl
theorem dL_law_1107 : decode cL_law 1107 = .ok (.pop, 1) := d_by (d_at odL_laws7 ofL_laws7 1107) rfl
theorem dL_law_1108 : decode cL_law 1108 = .ok (.goto 697, 3) := d_by (d_at odL_laws7 ofL_laws7 1108) rfl
theorem dL_law_1111 : decode cL_law 1111 = .ok (.aload_n 1, 1) := d_by (d_at odL_laws7 ofL_laws7 1111) rfl
theorem dL_law_1112 : decode cL_law 1112 = .ok (.aload_n 0, 1) := d_by (d_at odL_laws7 ofL_laws7 1112) rfl
theorem dL_law_1113 : decode cL_law 1113 = .ok (.iload 4, 2) := d_by (d_at odL_laws7 ofL_laws7 1113) rfl
theorem dL_law_1115 : decode cL_law 1115 = .ok (.iconst 1, 1) := d_by (d_at odL_laws7 ofL_laws7 1115) rfl
theorem dL_law_1116 : decode cL_law 1116 = .ok (.iadd, 1) := d_by (d_at odL_laws7 ofL_laws7 1116) rfl
theorem dL_law_1117 : decode cL_law 1117 = .ok (.iaload, 1) := d_by (d_at odL_laws7 ofL_laws7 1117) rfl
theorem dL_law_1118 : decode cL_law 1118 = .ok (.aload_n 0, 1) := d_by (d_at odL_laws7 ofL_laws7 1118) rfl
theorem dL_law_1119 : decode cL_law 1119 = .ok (.iload 4, 2) := d_by (d_at odL_laws7 ofL_laws7 1119) rfl
theorem dL_law_1121 : decode cL_law 1121 = .ok (.iconst 2, 1) := d_by (d_at odL_laws7 ofL_laws7 1121) rfl
theorem dL_law_1122 : decode cL_law 1122 = .ok (.iadd, 1) := d_by (d_at odL_laws7 ofL_laws7 1122) rfl
theorem dL_law_1123 : decode cL_law 1123 = .ok (.iaload, 1) := d_by (d_at odL_laws7 ofL_laws7 1123) rfl
theorem dL_law_1124 : decode cL_law 1124 = .ok (.invokevirtual 132, 3) := d_by (d_at odL_laws7 ofL_laws7 1124) rfl
theorem dL_law_1127 : decode cL_law 1127 = .ok (.pop, 1) := d_by (d_at odL_laws7 ofL_laws7 1127) rfl
theorem dL_law_1128 : decode cL_law 1128 = .ok (.aload_n 2, 1) := d_by (d_at odL_laws7 ofL_laws7 1128) rfl
theorem dL_law_1129 : decode cL_law 1129 = .ok (.aload_n 0, 1) := d_by (d_at odL_laws7 ofL_laws7 1129) rfl
theorem dL_law_1130 : decode cL_law 1130 = .ok (.iload 4, 2) := d_by (d_at odL_laws7 ofL_laws7 1130) rfl
theorem dL_law_1132 : decode cL_law 1132 = .ok (.iconst 1, 1) := d_by (d_at odL_laws7 ofL_laws7 1132) rfl
theorem dL_law_1133 : decode cL_law 1133 = .ok (.iadd, 1) := d_by (d_at odL_laws7 ofL_laws7 1133) rfl
theorem dL_law_1134 : decode cL_law 1134 = .ok (.iaload, 1) := d_by (d_at odL_laws7 ofL_laws7 1134) rfl
theorem dL_law_1135 : decode cL_law 1135 = .ok (.aload_n 0, 1) := d_by (d_at odL_laws7 ofL_laws7 1135) rfl
theorem dL_law_1136 : decode cL_law 1136 = .ok (.iload 4, 2) := d_by (d_at odL_laws7 ofL_laws7 1136) rfl
theorem dL_law_1138 : decode cL_law 1138 = .ok (.iconst 2, 1) := d_by (d_at odL_laws7 ofL_laws7 1138) rfl
theorem dL_law_1139 : decode cL_law 1139 = .ok (.iadd, 1) := d_by (d_at odL_laws7 ofL_laws7 1139) rfl
theorem dL_law_1140 : decode cL_law 1140 = .ok (.iaload, 1) := d_by (d_at odL_laws7 ofL_laws7 1140) rfl
theorem dL_law_1141 : decode cL_law 1141 = .ok (.invokevirtual 135, 3) := d_by (d_at odL_laws7 ofL_laws7 1141) rfl
theorem dL_law_1144 : decode cL_law 1144 = .ok (.pop, 1) := d_by (d_at odL_laws7 ofL_laws7 1144) rfl
theorem dL_law_1145 : decode cL_law 1145 = .ok (.goto 660, 3) := d_by (d_at odL_laws7 ofL_laws7 1145) rfl
theorem dL_law_1148 : decode cL_law 1148 = .ok (.aload_n 1, 1) := d_by (d_at odL_laws7 ofL_laws7 1148) rfl
theorem dL_law_1149 : decode cL_law 1149 = .ok (.aload_n 0, 1) := d_by (d_at odL_laws7 ofL_laws7 1149) rfl
theorem dL_law_1150 : decode cL_law 1150 = .ok (.iload 4, 2) := d_by (d_at odL_laws7 ofL_laws7 1150) rfl
theorem dL_law_1152 : decode cL_law 1152 = .ok (.iconst 1, 1) := d_by (d_at odL_laws7 ofL_laws7 1152) rfl
theorem dL_law_1153 : decode cL_law 1153 = .ok (.iadd, 1) := d_by (d_at odL_laws7 ofL_laws7 1153) rfl
theorem dL_law_1154 : decode cL_law 1154 = .ok (.iaload, 1) := d_by (d_at odL_laws7 ofL_laws7 1154) rfl
theorem dL_law_1155 : decode cL_law 1155 = .ok (.aload_n 0, 1) := d_by (d_at odL_laws7 ofL_laws7 1155) rfl
theorem dL_law_1156 : decode cL_law 1156 = .ok (.iload 4, 2) := d_by (d_at odL_laws7 ofL_laws7 1156) rfl
theorem dL_law_1158 : decode cL_law 1158 = .ok (.iconst 2, 1) := d_by (d_at odL_laws7 ofL_laws7 1158) rfl
theorem dL_law_1159 : decode cL_law 1159 = .ok (.iadd, 1) := d_by (d_at odL_laws7 ofL_laws7 1159) rfl
theorem dL_law_1160 : decode cL_law 1160 = .ok (.iaload, 1) := d_by (d_at odL_laws7 ofL_laws7 1160) rfl
theorem dL_law_1161 : decode cL_law 1161 = .ok (.ifCond .eq 7, 3) := d_by (d_at odL_laws7 ofL_laws7 1161) rfl
theorem dL_law_1164 : decode cL_law 1164 = .ok (.iconst 1, 1) := d_by (d_at odL_laws7 ofL_laws7 1164) rfl
theorem dL_law_1165 : decode cL_law 1165 = .ok (.goto 4, 3) := d_by (d_at odL_laws7 ofL_laws7 1165) rfl
theorem dL_law_1168 : decode cL_law 1168 = .ok (.iconst 0, 1) := d_by (d_at odL_laws7 ofL_laws7 1168) rfl
theorem dL_law_1169 : decode cL_law 1169 = .ok (.invokevirtual 136, 3) := d_by (d_at odL_laws7 ofL_laws7 1169) rfl
theorem dL_law_1172 : decode cL_law 1172 = .ok (.pop2, 1) := d_by (d_at odL_laws7 ofL_laws7 1172) rfl
theorem dL_law_1173 : decode cL_law 1173 = .ok (.aload_n 2, 1) := d_by (d_at odL_laws7 ofL_laws7 1173) rfl
theorem dL_law_1174 : decode cL_law 1174 = .ok (.aload_n 0, 1) := d_by (d_at odL_laws7 ofL_laws7 1174) rfl
theorem dL_law_1175 : decode cL_law 1175 = .ok (.iload 4, 2) := d_by (d_at odL_laws7 ofL_laws7 1175) rfl
theorem dL_law_1177 : decode cL_law 1177 = .ok (.iconst 1, 1) := d_by (d_at odL_laws7 ofL_laws7 1177) rfl
theorem dL_law_1178 : decode cL_law 1178 = .ok (.iadd, 1) := d_by (d_at odL_laws7 ofL_laws7 1178) rfl
theorem dL_law_1179 : decode cL_law 1179 = .ok (.iaload, 1) := d_by (d_at odL_laws7 ofL_laws7 1179) rfl
theorem dL_law_1180 : decode cL_law 1180 = .ok (.aload_n 0, 1) := d_by (d_at odL_laws7 ofL_laws7 1180) rfl
theorem dL_law_1181 : decode cL_law 1181 = .ok (.iload 4, 2) := d_by (d_at odL_laws7 ofL_laws7 1181) rfl
theorem dL_law_1183 : decode cL_law 1183 = .ok (.iconst 2, 1) := d_by (d_at odL_laws7 ofL_laws7 1183) rfl
theorem dL_law_1184 : decode cL_law 1184 = .ok (.iadd, 1) := d_by (d_at odL_laws7 ofL_laws7 1184) rfl
theorem dL_law_1185 : decode cL_law 1185 = .ok (.iaload, 1) := d_by (d_at odL_laws7 ofL_laws7 1185) rfl
theorem dL_law_1186 : decode cL_law 1186 = .ok (.ifCond .eq 7, 3) := d_by (d_at odL_laws7 ofL_laws7 1186) rfl
theorem dL_law_1189 : decode cL_law 1189 = .ok (.iconst 1, 1) := d_by (d_at odL_laws7 ofL_laws7 1189) rfl
theorem dL_law_1190 : decode cL_law 1190 = .ok (.goto 4, 3) := d_by (d_at odL_laws7 ofL_laws7 1190) rfl
theorem dL_law_1193 : decode cL_law 1193 = .ok (.iconst 0, 1) := d_by (d_at odL_laws7 ofL_laws7 1193) rfl
theorem dL_law_1194 : decode cL_law 1194 = .ok (.invokevirtual 140, 3) := d_by (d_at odL_laws7 ofL_laws7 1194) rfl
theorem dL_law_1197 : decode cL_law 1197 = .ok (.pop2, 1) := d_by (d_at odL_laws7 ofL_laws7 1197) rfl
theorem dL_law_1198 : decode cL_law 1198 = .ok (.goto 607, 3) := d_by (d_at odL_laws7 ofL_laws7 1198) rfl
theorem dL_law_1201 : decode cL_law 1201 = .ok (.aload_n 1, 1) := d_by (d_at odL_laws7 ofL_laws7 1201) rfl
theorem dL_law_1202 : decode cL_law 1202 = .ok (.invokevirtual 141, 3) := d_by (d_at odL_laws7 ofL_laws7 1202) rfl
theorem dL_law_1205 : decode cL_law 1205 = .ok (.pop, 1) := d_by (d_at odL_laws7 ofL_laws7 1205) rfl
theorem dL_law_1206 : decode cL_law 1206 = .ok (.aload_n 2, 1) := d_by (d_at odL_laws7 ofL_laws7 1206) rfl
theorem dL_law_1207 : decode cL_law 1207 = .ok (.invokevirtual 144, 3) := d_by (d_at odL_laws7 ofL_laws7 1207) rfl
theorem dL_law_1210 : decode cL_law 1210 = .ok (.pop, 1) := d_by (d_at odL_laws7 ofL_laws7 1210) rfl
theorem dL_law_1211 : decode cL_law 1211 = .ok (.goto 594, 3) := d_by (d_at odL_laws7 ofL_laws7 1211) rfl
theorem dL_law_1214 : decode cL_law 1214 = .ok (.aload_n 1, 1) := d_by (d_at odL_laws7 ofL_laws7 1214) rfl
theorem dL_law_1215 : decode cL_law 1215 = .ok (.invokevirtual 145, 3) := d_by (d_at odL_laws7 ofL_laws7 1215) rfl
theorem dL_law_1218 : decode cL_law 1218 = .ok (.pop, 1) := d_by (d_at odL_laws7 ofL_laws7 1218) rfl
theorem dL_law_1219 : decode cL_law 1219 = .ok (.aload_n 2, 1) := d_by (d_at odL_laws7 ofL_laws7 1219) rfl
theorem dL_law_1220 : decode cL_law 1220 = .ok (.invokevirtual 148, 3) := d_by (d_at odL_laws7 ofL_laws7 1220) rfl
theorem dL_law_1223 : decode cL_law 1223 = .ok (.pop, 1) := d_by (d_at odL_laws7 ofL_laws7 1223) rfl
theorem dL_law_1224 : decode cL_law 1224 = .ok (.goto 581, 3) := d_by (d_at odL_laws7 ofL_laws7 1224) rfl
theorem dL_law_1227 : decode cL_law 1227 = .ok (.aload_n 1, 1) := d_by (d_at odL_laws7 ofL_laws7 1227) rfl
theorem dL_law_1228 : decode cL_law 1228 = .ok (.aload_n 0, 1) := d_by (d_at odL_laws7 ofL_laws7 1228) rfl
theorem dL_law_1229 : decode cL_law 1229 = .ok (.iload 4, 2) := d_by (d_at odL_laws7 ofL_laws7 1229) rfl
theorem dL_law_1231 : decode cL_law 1231 = .ok (.iconst 1, 1) := d_by (d_at odL_laws7 ofL_laws7 1231) rfl
theorem dL_law_1232 : decode cL_law 1232 = .ok (.iadd, 1) := d_by (d_at odL_laws7 ofL_laws7 1232) rfl
theorem dL_law_1233 : decode cL_law 1233 = .ok (.iaload, 1) := d_by (d_at odL_laws7 ofL_laws7 1233) rfl
theorem dL_law_1234 : decode cL_law 1234 = .ok (.invokevirtual 149, 3) := d_by (d_at odL_laws7 ofL_laws7 1234) rfl
theorem dL_law_1237 : decode cL_law 1237 = .ok (.pop, 1) := d_by (d_at odL_laws7 ofL_laws7 1237) rfl
theorem dL_law_1238 : decode cL_law 1238 = .ok (.aload_n 2, 1) := d_by (d_at odL_laws7 ofL_laws7 1238) rfl
theorem dL_law_1239 : decode cL_law 1239 = .ok (.aload_n 0, 1) := d_by (d_at odL_laws7 ofL_laws7 1239) rfl
theorem dL_law_1240 : decode cL_law 1240 = .ok (.iload 4, 2) := d_by (d_at odL_laws7 ofL_laws7 1240) rfl
theorem dL_law_1242 : decode cL_law 1242 = .ok (.iconst 1, 1) := d_by (d_at odL_laws7 ofL_laws7 1242) rfl
theorem dL_law_1243 : decode cL_law 1243 = .ok (.iadd, 1) := d_by (d_at odL_laws7 ofL_laws7 1243) rfl
theorem dL_law_1244 : decode cL_law 1244 = .ok (.iaload, 1) := d_by (d_at odL_laws7 ofL_laws7 1244) rfl
theorem dL_law_1245 : decode cL_law 1245 = .ok (.invokevirtual 152, 3) := d_by (d_at odL_laws7 ofL_laws7 1245) rfl
theorem dL_law_1248 : decode cL_law 1248 = .ok (.pop, 1) := d_by (d_at odL_laws7 ofL_laws7 1248) rfl
theorem dL_law_1249 : decode cL_law 1249 = .ok (.goto 556, 3) := d_by (d_at odL_laws7 ofL_laws7 1249) rfl
theorem dL_law_1252 : decode cL_law 1252 = .ok (.aload_n 1, 1) := d_by (d_at odL_laws7 ofL_laws7 1252) rfl
theorem dL_law_1253 : decode cL_law 1253 = .ok (.aload_n 0, 1) := d_by (d_at odL_laws7 ofL_laws7 1253) rfl
theorem dL_law_1254 : decode cL_law 1254 = .ok (.iload 4, 2) := d_by (d_at odL_laws7 ofL_laws7 1254) rfl
theorem dL_law_1256 : decode cL_law 1256 = .ok (.iconst 1, 1) := d_by (d_at odL_laws7 ofL_laws7 1256) rfl
theorem dL_law_1257 : decode cL_law 1257 = .ok (.iadd, 1) := d_by (d_at odL_laws7 ofL_laws7 1257) rfl
theorem dL_law_1258 : decode cL_law 1258 = .ok (.iaload, 1) := d_by (d_at odL_laws7 ofL_laws7 1258) rfl
theorem dL_law_1259 : decode cL_law 1259 = .ok (.aload_n 0, 1) := d_by (d_at odL_laws7 ofL_laws7 1259) rfl
theorem dL_law_1260 : decode cL_law 1260 = .ok (.iload 4, 2) := d_by (d_at odL_laws7 ofL_laws7 1260) rfl
theorem dL_law_1262 : decode cL_law 1262 = .ok (.iconst 2, 1) := d_by (d_at odL_laws7 ofL_laws7 1262) rfl
theorem dL_law_1263 : decode cL_law 1263 = .ok (.iadd, 1) := d_by (d_at odL_laws7 ofL_laws7 1263) rfl
theorem dL_law_1264 : decode cL_law 1264 = .ok (.iaload, 1) := d_by (d_at odL_laws7 ofL_laws7 1264) rfl
theorem dL_law_1265 : decode cL_law 1265 = .ok (.aload_n 0, 1) := d_by (d_at odL_laws7 ofL_laws7 1265) rfl
theorem dL_law_1266 : decode cL_law 1266 = .ok (.iload 4, 2) := d_by (d_at odL_laws7 ofL_laws7 1266) rfl
theorem dL_law_1268 : decode cL_law 1268 = .ok (.iconst 3, 1) := d_by (d_at odL_laws7 ofL_laws7 1268) rfl
theorem dL_law_1269 : decode cL_law 1269 = .ok (.iadd, 1) := d_by (d_at odL_laws7 ofL_laws7 1269) rfl
theorem dL_law_1270 : decode cL_law 1270 = .ok (.iaload, 1) := d_by (d_at odL_laws7 ofL_laws7 1270) rfl
theorem dL_law_1271 : decode cL_law 1271 = .ok (.aload_n 0, 1) := d_by (d_at odL_laws7 ofL_laws7 1271) rfl
theorem dL_law_1272 : decode cL_law 1272 = .ok (.iload 4, 2) := d_by (d_at odL_laws7 ofL_laws7 1272) rfl
theorem dL_law_1274 : decode cL_law 1274 = .ok (.iconst 4, 1) := d_by (d_at odL_laws7 ofL_laws7 1274) rfl
theorem dL_law_1275 : decode cL_law 1275 = .ok (.iadd, 1) := d_by (d_at odL_laws7 ofL_laws7 1275) rfl
theorem dL_law_1276 : decode cL_law 1276 = .ok (.iaload, 1) := d_by (d_at odL_laws7 ofL_laws7 1276) rfl
theorem dL_law_1277 : decode cL_law 1277 = .ok (.invokevirtual 153, 3) := d_by (d_at odL_laws7 ofL_laws7 1277) rfl
theorem dL_law_1280 : decode cL_law 1280 = .ok (.pop, 1) := d_by (d_at odL_laws7 ofL_laws7 1280) rfl
theorem dL_law_1281 : decode cL_law 1281 = .ok (.aload_n 2, 1) := d_by (d_at odL_laws7 ofL_laws7 1281) rfl
theorem dL_law_1282 : decode cL_law 1282 = .ok (.aload_n 0, 1) := d_by (d_at odL_laws7 ofL_laws7 1282) rfl
theorem dL_law_1283 : decode cL_law 1283 = .ok (.iload 4, 2) := d_by (d_at odL_laws7 ofL_laws7 1283) rfl
theorem dL_law_1285 : decode cL_law 1285 = .ok (.iconst 1, 1) := d_by (d_at odL_laws7 ofL_laws7 1285) rfl
theorem dL_law_1286 : decode cL_law 1286 = .ok (.iadd, 1) := d_by (d_at odL_laws7 ofL_laws7 1286) rfl
theorem dL_law_1287 : decode cL_law 1287 = .ok (.iaload, 1) := d_by (d_at odL_laws7 ofL_laws7 1287) rfl
theorem dL_law_1288 : decode cL_law 1288 = .ok (.aload_n 0, 1) := d_by (d_at odL_laws7 ofL_laws7 1288) rfl
theorem dL_law_1289 : decode cL_law 1289 = .ok (.iload 4, 2) := d_by (d_at odL_laws7 ofL_laws7 1289) rfl
theorem dL_law_1291 : decode cL_law 1291 = .ok (.iconst 2, 1) := d_by (d_at odL_laws7 ofL_laws7 1291) rfl
theorem dL_law_1292 : decode cL_law 1292 = .ok (.iadd, 1) := d_by (d_at odL_laws7 ofL_laws7 1292) rfl
theorem dL_law_1293 : decode cL_law 1293 = .ok (.iaload, 1) := d_by (d_at odL_laws7 ofL_laws7 1293) rfl
theorem dL_law_1294 : decode cL_law 1294 = .ok (.aload_n 0, 1) := d_by (d_at odL_laws7 ofL_laws7 1294) rfl
theorem dL_law_1295 : decode cL_law 1295 = .ok (.iload 4, 2) := d_by (d_at odL_laws7 ofL_laws7 1295) rfl
theorem dL_law_1297 : decode cL_law 1297 = .ok (.iconst 3, 1) := d_by (d_at odL_laws7 ofL_laws7 1297) rfl
theorem dL_law_1298 : decode cL_law 1298 = .ok (.iadd, 1) := d_by (d_at odL_laws7 ofL_laws7 1298) rfl
theorem dL_law_1299 : decode cL_law 1299 = .ok (.iaload, 1) := d_by (d_at odL_laws7 ofL_laws7 1299) rfl
theorem dL_law_1300 : decode cL_law 1300 = .ok (.aload_n 0, 1) := d_by (d_at odL_laws7 ofL_laws7 1300) rfl
theorem dL_law_1301 : decode cL_law 1301 = .ok (.iload 4, 2) := d_by (d_at odL_laws7 ofL_laws7 1301) rfl
theorem dL_law_1303 : decode cL_law 1303 = .ok (.iconst 4, 1) := d_by (d_at odL_laws7 ofL_laws7 1303) rfl
theorem dL_law_1304 : decode cL_law 1304 = .ok (.iadd, 1) := d_by (d_at odL_laws7 ofL_laws7 1304) rfl
theorem dL_law_1305 : decode cL_law 1305 = .ok (.iaload, 1) := d_by (d_at odL_laws7 ofL_laws7 1305) rfl
theorem dL_law_1306 : decode cL_law 1306 = .ok (.invokevirtual 156, 3) := d_by (d_at odL_laws7 ofL_laws7 1306) rfl
theorem dL_law_1309 : decode cL_law 1309 = .ok (.pop, 1) := d_by (d_at odL_laws7 ofL_laws7 1309) rfl
theorem dL_law_1310 : decode cL_law 1310 = .ok (.goto 495, 3) := d_by (d_at odL_laws7 ofL_laws7 1310) rfl
theorem dL_law_1313 : decode cL_law 1313 = .ok (.aload_n 1, 1) := d_by (d_at odL_laws7 ofL_laws7 1313) rfl
theorem dL_law_1314 : decode cL_law 1314 = .ok (.invokevirtual 157, 3) := d_by (d_at odL_laws7 ofL_laws7 1314) rfl
theorem dL_law_1317 : decode cL_law 1317 = .ok (.pop, 1) := d_by (d_at odL_laws7 ofL_laws7 1317) rfl
theorem dL_law_1318 : decode cL_law 1318 = .ok (.aload_n 2, 1) := d_by (d_at odL_laws7 ofL_laws7 1318) rfl
theorem dL_law_1319 : decode cL_law 1319 = .ok (.invokevirtual 160, 3) := d_by (d_at odL_laws7 ofL_laws7 1319) rfl
theorem dL_law_1322 : decode cL_law 1322 = .ok (.pop, 1) := d_by (d_at odL_laws7 ofL_laws7 1322) rfl
theorem dL_law_1323 : decode cL_law 1323 = .ok (.goto 482, 3) := d_by (d_at odL_laws7 ofL_laws7 1323) rfl
theorem dL_law_1326 : decode cL_law 1326 = .ok (.aload_n 1, 1) := d_by (d_at odL_laws7 ofL_laws7 1326) rfl
theorem dL_law_1327 : decode cL_law 1327 = .ok (.aload_n 0, 1) := d_by (d_at odL_laws7 ofL_laws7 1327) rfl
theorem dL_law_1328 : decode cL_law 1328 = .ok (.iload 4, 2) := d_by (d_at odL_laws7 ofL_laws7 1328) rfl
theorem dL_law_1330 : decode cL_law 1330 = .ok (.iconst 1, 1) := d_by (d_at odL_laws7 ofL_laws7 1330) rfl
theorem dL_law_1331 : decode cL_law 1331 = .ok (.iadd, 1) := d_by (d_at odL_laws7 ofL_laws7 1331) rfl
theorem dL_law_1332 : decode cL_law 1332 = .ok (.iaload, 1) := d_by (d_at odL_laws7 ofL_laws7 1332) rfl
theorem dL_law_1333 : decode cL_law 1333 = .ok (.aload_n 0, 1) := d_by (d_at odL_laws7 ofL_laws7 1333) rfl
theorem dL_law_1334 : decode cL_law 1334 = .ok (.iload 4, 2) := d_by (d_at odL_laws7 ofL_laws7 1334) rfl
theorem dL_law_1336 : decode cL_law 1336 = .ok (.iconst 2, 1) := d_by (d_at odL_laws7 ofL_laws7 1336) rfl
theorem dL_law_1337 : decode cL_law 1337 = .ok (.iadd, 1) := d_by (d_at odL_laws7 ofL_laws7 1337) rfl
theorem dL_law_1338 : decode cL_law 1338 = .ok (.iaload, 1) := d_by (d_at odL_laws7 ofL_laws7 1338) rfl
theorem dL_law_1339 : decode cL_law 1339 = .ok (.invokevirtual 161, 3) := d_by (d_at odL_laws7 ofL_laws7 1339) rfl
theorem dL_law_1342 : decode cL_law 1342 = .ok (.pop, 1) := d_by (d_at odL_laws7 ofL_laws7 1342) rfl
theorem dL_law_1343 : decode cL_law 1343 = .ok (.aload_n 2, 1) := d_by (d_at odL_laws7 ofL_laws7 1343) rfl
theorem dL_law_1344 : decode cL_law 1344 = .ok (.aload_n 0, 1) := d_by (d_at odL_laws7 ofL_laws7 1344) rfl
theorem dL_law_1345 : decode cL_law 1345 = .ok (.iload 4, 2) := d_by (d_at odL_laws7 ofL_laws7 1345) rfl
theorem dL_law_1347 : decode cL_law 1347 = .ok (.iconst 1, 1) := d_by (d_at odL_laws7 ofL_laws7 1347) rfl
theorem dL_law_1348 : decode cL_law 1348 = .ok (.iadd, 1) := d_by (d_at odL_laws7 ofL_laws7 1348) rfl
theorem dL_law_1349 : decode cL_law 1349 = .ok (.iaload, 1) := d_by (d_at odL_laws7 ofL_laws7 1349) rfl
theorem dL_law_1350 : decode cL_law 1350 = .ok (.aload_n 0, 1) := d_by (d_at odL_laws7 ofL_laws7 1350) rfl
theorem dL_law_1351 : decode cL_law 1351 = .ok (.iload 4, 2) := d_by (d_at odL_laws7 ofL_laws7 1351) rfl
theorem dL_law_1353 : decode cL_law 1353 = .ok (.iconst 2, 1) := d_by (d_at odL_laws7 ofL_laws7 1353) rfl
theorem dL_law_1354 : decode cL_law 1354 = .ok (.iadd, 1) := d_by (d_at odL_laws7 ofL_laws7 1354) rfl
theorem dL_law_1355 : decode cL_law 1355 = .ok (.iaload, 1) := d_by (d_at odL_laws7 ofL_laws7 1355) rfl
theorem dL_law_1356 : decode cL_law 1356 = .ok (.invokevirtual 164, 3) := d_by (d_at odL_laws7 ofL_laws7 1356) rfl
theorem dL_law_1359 : decode cL_law 1359 = .ok (.pop, 1) := d_by (d_at odL_laws7 ofL_laws7 1359) rfl
theorem dL_law_1360 : decode cL_law 1360 = .ok (.goto 445, 3) := d_by (d_at odL_laws7 ofL_laws7 1360) rfl
theorem dL_law_1363 : decode cL_law 1363 = .ok (.aload_n 1, 1) := d_by (d_at odL_laws7 ofL_laws7 1363) rfl
theorem dL_law_1364 : decode cL_law 1364 = .ok (.aload_n 0, 1) := d_by (d_at odL_laws7 ofL_laws7 1364) rfl
theorem dL_law_1365 : decode cL_law 1365 = .ok (.iload 4, 2) := d_by (d_at odL_laws7 ofL_laws7 1365) rfl
theorem dL_law_1367 : decode cL_law 1367 = .ok (.iconst 1, 1) := d_by (d_at odL_laws7 ofL_laws7 1367) rfl
theorem dL_law_1368 : decode cL_law 1368 = .ok (.iadd, 1) := d_by (d_at odL_laws7 ofL_laws7 1368) rfl
theorem dL_law_1369 : decode cL_law 1369 = .ok (.iaload, 1) := d_by (d_at odL_laws7 ofL_laws7 1369) rfl
theorem dL_law_1370 : decode cL_law 1370 = .ok (.invokevirtual 165, 3) := d_by (d_at odL_laws7 ofL_laws7 1370) rfl
theorem dL_law_1373 : decode cL_law 1373 = .ok (.pop, 1) := d_by (d_at odL_laws7 ofL_laws7 1373) rfl
theorem dL_law_1374 : decode cL_law 1374 = .ok (.aload_n 2, 1) := d_by (d_at odL_laws7 ofL_laws7 1374) rfl
theorem dL_law_1375 : decode cL_law 1375 = .ok (.aload_n 0, 1) := d_by (d_at odL_laws7 ofL_laws7 1375) rfl
theorem dL_law_1376 : decode cL_law 1376 = .ok (.iload 4, 2) := d_by (d_at odL_laws7 ofL_laws7 1376) rfl
theorem dL_law_1378 : decode cL_law 1378 = .ok (.iconst 1, 1) := d_by (d_at odL_laws7 ofL_laws7 1378) rfl
theorem dL_law_1379 : decode cL_law 1379 = .ok (.iadd, 1) := d_by (d_at odL_laws7 ofL_laws7 1379) rfl
theorem dL_law_1380 : decode cL_law 1380 = .ok (.iaload, 1) := d_by (d_at odL_laws7 ofL_laws7 1380) rfl
theorem dL_law_1381 : decode cL_law 1381 = .ok (.invokevirtual 168, 3) := d_by (d_at odL_laws7 ofL_laws7 1381) rfl
theorem dL_law_1384 : decode cL_law 1384 = .ok (.pop, 1) := d_by (d_at odL_laws7 ofL_laws7 1384) rfl
theorem dL_law_1385 : decode cL_law 1385 = .ok (.goto 420, 3) := d_by (d_at odL_laws7 ofL_laws7 1385) rfl
theorem dL_law_1388 : decode cL_law 1388 = .ok (.aload_n 1, 1) := d_by (d_at odL_laws8 ofL_laws8 1388) rfl
theorem dL_law_1389 : decode cL_law 1389 = .ok (.aload_n 0, 1) := d_by (d_at odL_laws8 ofL_laws8 1389) rfl
theorem dL_law_1390 : decode cL_law 1390 = .ok (.iload 4, 2) := d_by (d_at odL_laws8 ofL_laws8 1390) rfl
theorem dL_law_1392 : decode cL_law 1392 = .ok (.iconst 1, 1) := d_by (d_at odL_laws8 ofL_laws8 1392) rfl
theorem dL_law_1393 : decode cL_law 1393 = .ok (.iadd, 1) := d_by (d_at odL_laws8 ofL_laws8 1393) rfl
theorem dL_law_1394 : decode cL_law 1394 = .ok (.iaload, 1) := d_by (d_at odL_laws8 ofL_laws8 1394) rfl
theorem dL_law_1395 : decode cL_law 1395 = .ok (.aload_n 0, 1) := d_by (d_at odL_laws8 ofL_laws8 1395) rfl
theorem dL_law_1396 : decode cL_law 1396 = .ok (.iload 4, 2) := d_by (d_at odL_laws8 ofL_laws8 1396) rfl
theorem dL_law_1398 : decode cL_law 1398 = .ok (.iconst 2, 1) := d_by (d_at odL_laws8 ofL_laws8 1398) rfl
theorem dL_law_1399 : decode cL_law 1399 = .ok (.iadd, 1) := d_by (d_at odL_laws8 ofL_laws8 1399) rfl
theorem dL_law_1400 : decode cL_law 1400 = .ok (.iaload, 1) := d_by (d_at odL_laws8 ofL_laws8 1400) rfl
theorem dL_law_1401 : decode cL_law 1401 = .ok (.invokevirtual 169, 3) := d_by (d_at odL_laws8 ofL_laws8 1401) rfl
theorem dL_law_1404 : decode cL_law 1404 = .ok (.pop, 1) := d_by (d_at odL_laws8 ofL_laws8 1404) rfl
theorem dL_law_1405 : decode cL_law 1405 = .ok (.aload_n 2, 1) := d_by (d_at odL_laws8 ofL_laws8 1405) rfl
theorem dL_law_1406 : decode cL_law 1406 = .ok (.aload_n 0, 1) := d_by (d_at odL_laws8 ofL_laws8 1406) rfl
theorem dL_law_1407 : decode cL_law 1407 = .ok (.iload 4, 2) := d_by (d_at odL_laws8 ofL_laws8 1407) rfl
theorem dL_law_1409 : decode cL_law 1409 = .ok (.iconst 1, 1) := d_by (d_at odL_laws8 ofL_laws8 1409) rfl
theorem dL_law_1410 : decode cL_law 1410 = .ok (.iadd, 1) := d_by (d_at odL_laws8 ofL_laws8 1410) rfl
theorem dL_law_1411 : decode cL_law 1411 = .ok (.iaload, 1) := d_by (d_at odL_laws8 ofL_laws8 1411) rfl
theorem dL_law_1412 : decode cL_law 1412 = .ok (.aload_n 0, 1) := d_by (d_at odL_laws8 ofL_laws8 1412) rfl
theorem dL_law_1413 : decode cL_law 1413 = .ok (.iload 4, 2) := d_by (d_at odL_laws8 ofL_laws8 1413) rfl
theorem dL_law_1415 : decode cL_law 1415 = .ok (.iconst 2, 1) := d_by (d_at odL_laws8 ofL_laws8 1415) rfl
theorem dL_law_1416 : decode cL_law 1416 = .ok (.iadd, 1) := d_by (d_at odL_laws8 ofL_laws8 1416) rfl
theorem dL_law_1417 : decode cL_law 1417 = .ok (.iaload, 1) := d_by (d_at odL_laws8 ofL_laws8 1417) rfl
theorem dL_law_1418 : decode cL_law 1418 = .ok (.invokevirtual 172, 3) := d_by (d_at odL_laws8 ofL_laws8 1418) rfl
theorem dL_law_1421 : decode cL_law 1421 = .ok (.pop, 1) := d_by (d_at odL_laws8 ofL_laws8 1421) rfl
theorem dL_law_1422 : decode cL_law 1422 = .ok (.goto 383, 3) := d_by (d_at odL_laws8 ofL_laws8 1422) rfl
theorem dL_law_1425 : decode cL_law 1425 = .ok (.aload_n 1, 1) := d_by (d_at odL_laws8 ofL_laws8 1425) rfl
theorem dL_law_1426 : decode cL_law 1426 = .ok (.aload_n 0, 1) := d_by (d_at odL_laws8 ofL_laws8 1426) rfl
theorem dL_law_1427 : decode cL_law 1427 = .ok (.iload 4, 2) := d_by (d_at odL_laws8 ofL_laws8 1427) rfl
theorem dL_law_1429 : decode cL_law 1429 = .ok (.iconst 1, 1) := d_by (d_at odL_laws8 ofL_laws8 1429) rfl
theorem dL_law_1430 : decode cL_law 1430 = .ok (.iadd, 1) := d_by (d_at odL_laws8 ofL_laws8 1430) rfl
theorem dL_law_1431 : decode cL_law 1431 = .ok (.iaload, 1) := d_by (d_at odL_laws8 ofL_laws8 1431) rfl
theorem dL_law_1432 : decode cL_law 1432 = .ok (.invokevirtual 173, 3) := d_by (d_at odL_laws8 ofL_laws8 1432) rfl
theorem dL_law_1435 : decode cL_law 1435 = .ok (.pop, 1) := d_by (d_at odL_laws8 ofL_laws8 1435) rfl
theorem dL_law_1436 : decode cL_law 1436 = .ok (.aload_n 2, 1) := d_by (d_at odL_laws8 ofL_laws8 1436) rfl
theorem dL_law_1437 : decode cL_law 1437 = .ok (.aload_n 0, 1) := d_by (d_at odL_laws8 ofL_laws8 1437) rfl
theorem dL_law_1438 : decode cL_law 1438 = .ok (.iload 4, 2) := d_by (d_at odL_laws8 ofL_laws8 1438) rfl
theorem dL_law_1440 : decode cL_law 1440 = .ok (.iconst 1, 1) := d_by (d_at odL_laws8 ofL_laws8 1440) rfl
theorem dL_law_1441 : decode cL_law 1441 = .ok (.iadd, 1) := d_by (d_at odL_laws8 ofL_laws8 1441) rfl
theorem dL_law_1442 : decode cL_law 1442 = .ok (.iaload, 1) := d_by (d_at odL_laws8 ofL_laws8 1442) rfl
theorem dL_law_1443 : decode cL_law 1443 = .ok (.invokevirtual 176, 3) := d_by (d_at odL_laws8 ofL_laws8 1443) rfl
theorem dL_law_1446 : decode cL_law 1446 = .ok (.pop, 1) := d_by (d_at odL_laws8 ofL_laws8 1446) rfl
theorem dL_law_1447 : decode cL_law 1447 = .ok (.goto 358, 3) := d_by (d_at odL_laws8 ofL_laws8 1447) rfl
theorem dL_law_1450 : decode cL_law 1450 = .ok (.aload_n 1, 1) := d_by (d_at odL_laws8 ofL_laws8 1450) rfl
theorem dL_law_1451 : decode cL_law 1451 = .ok (.aload_n 0, 1) := d_by (d_at odL_laws8 ofL_laws8 1451) rfl
theorem dL_law_1452 : decode cL_law 1452 = .ok (.iload 4, 2) := d_by (d_at odL_laws8 ofL_laws8 1452) rfl
theorem dL_law_1454 : decode cL_law 1454 = .ok (.iconst 1, 1) := d_by (d_at odL_laws8 ofL_laws8 1454) rfl
theorem dL_law_1455 : decode cL_law 1455 = .ok (.iadd, 1) := d_by (d_at odL_laws8 ofL_laws8 1455) rfl
theorem dL_law_1456 : decode cL_law 1456 = .ok (.iaload, 1) := d_by (d_at odL_laws8 ofL_laws8 1456) rfl
theorem dL_law_1457 : decode cL_law 1457 = .ok (.aload_n 0, 1) := d_by (d_at odL_laws8 ofL_laws8 1457) rfl
theorem dL_law_1458 : decode cL_law 1458 = .ok (.iload 4, 2) := d_by (d_at odL_laws8 ofL_laws8 1458) rfl
theorem dL_law_1460 : decode cL_law 1460 = .ok (.iconst 2, 1) := d_by (d_at odL_laws8 ofL_laws8 1460) rfl
theorem dL_law_1461 : decode cL_law 1461 = .ok (.iadd, 1) := d_by (d_at odL_laws8 ofL_laws8 1461) rfl
theorem dL_law_1462 : decode cL_law 1462 = .ok (.iaload, 1) := d_by (d_at odL_laws8 ofL_laws8 1462) rfl
theorem dL_law_1463 : decode cL_law 1463 = .ok (.invokevirtual 177, 3) := d_by (d_at odL_laws8 ofL_laws8 1463) rfl
theorem dL_law_1466 : decode cL_law 1466 = .ok (.pop, 1) := d_by (d_at odL_laws8 ofL_laws8 1466) rfl
theorem dL_law_1467 : decode cL_law 1467 = .ok (.aload_n 2, 1) := d_by (d_at odL_laws8 ofL_laws8 1467) rfl
theorem dL_law_1468 : decode cL_law 1468 = .ok (.aload_n 0, 1) := d_by (d_at odL_laws8 ofL_laws8 1468) rfl
theorem dL_law_1469 : decode cL_law 1469 = .ok (.iload 4, 2) := d_by (d_at odL_laws8 ofL_laws8 1469) rfl
theorem dL_law_1471 : decode cL_law 1471 = .ok (.iconst 1, 1) := d_by (d_at odL_laws8 ofL_laws8 1471) rfl
theorem dL_law_1472 : decode cL_law 1472 = .ok (.iadd, 1) := d_by (d_at odL_laws8 ofL_laws8 1472) rfl
theorem dL_law_1473 : decode cL_law 1473 = .ok (.iaload, 1) := d_by (d_at odL_laws8 ofL_laws8 1473) rfl
theorem dL_law_1474 : decode cL_law 1474 = .ok (.aload_n 0, 1) := d_by (d_at odL_laws8 ofL_laws8 1474) rfl
theorem dL_law_1475 : decode cL_law 1475 = .ok (.iload 4, 2) := d_by (d_at odL_laws8 ofL_laws8 1475) rfl
theorem dL_law_1477 : decode cL_law 1477 = .ok (.iconst 2, 1) := d_by (d_at odL_laws8 ofL_laws8 1477) rfl
theorem dL_law_1478 : decode cL_law 1478 = .ok (.iadd, 1) := d_by (d_at odL_laws8 ofL_laws8 1478) rfl
theorem dL_law_1479 : decode cL_law 1479 = .ok (.iaload, 1) := d_by (d_at odL_laws8 ofL_laws8 1479) rfl
theorem dL_law_1480 : decode cL_law 1480 = .ok (.invokevirtual 180, 3) := d_by (d_at odL_laws8 ofL_laws8 1480) rfl
theorem dL_law_1483 : decode cL_law 1483 = .ok (.pop, 1) := d_by (d_at odL_laws8 ofL_laws8 1483) rfl
theorem dL_law_1484 : decode cL_law 1484 = .ok (.goto 321, 3) := d_by (d_at odL_laws8 ofL_laws8 1484) rfl
theorem dL_law_1487 : decode cL_law 1487 = .ok (.aload_n 1, 1) := d_by (d_at odL_laws8 ofL_laws8 1487) rfl
theorem dL_law_1488 : decode cL_law 1488 = .ok (.aload_n 0, 1) := d_by (d_at odL_laws8 ofL_laws8 1488) rfl
theorem dL_law_1489 : decode cL_law 1489 = .ok (.iload 4, 2) := d_by (d_at odL_laws8 ofL_laws8 1489) rfl
theorem dL_law_1491 : decode cL_law 1491 = .ok (.iconst 1, 1) := d_by (d_at odL_laws8 ofL_laws8 1491) rfl
theorem dL_law_1492 : decode cL_law 1492 = .ok (.iadd, 1) := d_by (d_at odL_laws8 ofL_laws8 1492) rfl
theorem dL_law_1493 : decode cL_law 1493 = .ok (.iaload, 1) := d_by (d_at odL_laws8 ofL_laws8 1493) rfl
theorem dL_law_1494 : decode cL_law 1494 = .ok (.aload_n 0, 1) := d_by (d_at odL_laws8 ofL_laws8 1494) rfl
theorem dL_law_1495 : decode cL_law 1495 = .ok (.iload 4, 2) := d_by (d_at odL_laws8 ofL_laws8 1495) rfl
theorem dL_law_1497 : decode cL_law 1497 = .ok (.iconst 2, 1) := d_by (d_at odL_laws8 ofL_laws8 1497) rfl
theorem dL_law_1498 : decode cL_law 1498 = .ok (.iadd, 1) := d_by (d_at odL_laws8 ofL_laws8 1498) rfl
theorem dL_law_1499 : decode cL_law 1499 = .ok (.iaload, 1) := d_by (d_at odL_laws8 ofL_laws8 1499) rfl
theorem dL_law_1500 : decode cL_law 1500 = .ok (.invokevirtual 181, 3) := d_by (d_at odL_laws8 ofL_laws8 1500) rfl
theorem dL_law_1503 : decode cL_law 1503 = .ok (.pop, 1) := d_by (d_at odL_laws8 ofL_laws8 1503) rfl
theorem dL_law_1504 : decode cL_law 1504 = .ok (.aload_n 2, 1) := d_by (d_at odL_laws8 ofL_laws8 1504) rfl
theorem dL_law_1505 : decode cL_law 1505 = .ok (.aload_n 0, 1) := d_by (d_at odL_laws8 ofL_laws8 1505) rfl
theorem dL_law_1506 : decode cL_law 1506 = .ok (.iload 4, 2) := d_by (d_at odL_laws8 ofL_laws8 1506) rfl
theorem dL_law_1508 : decode cL_law 1508 = .ok (.iconst 1, 1) := d_by (d_at odL_laws8 ofL_laws8 1508) rfl
theorem dL_law_1509 : decode cL_law 1509 = .ok (.iadd, 1) := d_by (d_at odL_laws8 ofL_laws8 1509) rfl
theorem dL_law_1510 : decode cL_law 1510 = .ok (.iaload, 1) := d_by (d_at odL_laws8 ofL_laws8 1510) rfl
theorem dL_law_1511 : decode cL_law 1511 = .ok (.aload_n 0, 1) := d_by (d_at odL_laws8 ofL_laws8 1511) rfl
theorem dL_law_1512 : decode cL_law 1512 = .ok (.iload 4, 2) := d_by (d_at odL_laws8 ofL_laws8 1512) rfl
theorem dL_law_1514 : decode cL_law 1514 = .ok (.iconst 2, 1) := d_by (d_at odL_laws8 ofL_laws8 1514) rfl
theorem dL_law_1515 : decode cL_law 1515 = .ok (.iadd, 1) := d_by (d_at odL_laws8 ofL_laws8 1515) rfl
theorem dL_law_1516 : decode cL_law 1516 = .ok (.iaload, 1) := d_by (d_at odL_laws8 ofL_laws8 1516) rfl
theorem dL_law_1517 : decode cL_law 1517 = .ok (.invokevirtual 184, 3) := d_by (d_at odL_laws8 ofL_laws8 1517) rfl
theorem dL_law_1520 : decode cL_law 1520 = .ok (.pop, 1) := d_by (d_at odL_laws8 ofL_laws8 1520) rfl
theorem dL_law_1521 : decode cL_law 1521 = .ok (.goto 284, 3) := d_by (d_at odL_laws8 ofL_laws8 1521) rfl
theorem dL_law_1524 : decode cL_law 1524 = .ok (.aload_n 1, 1) := d_by (d_at odL_laws8 ofL_laws8 1524) rfl
theorem dL_law_1525 : decode cL_law 1525 = .ok (.aload_n 0, 1) := d_by (d_at odL_laws8 ofL_laws8 1525) rfl
theorem dL_law_1526 : decode cL_law 1526 = .ok (.iload 4, 2) := d_by (d_at odL_laws8 ofL_laws8 1526) rfl
theorem dL_law_1528 : decode cL_law 1528 = .ok (.iconst 1, 1) := d_by (d_at odL_laws8 ofL_laws8 1528) rfl
theorem dL_law_1529 : decode cL_law 1529 = .ok (.iadd, 1) := d_by (d_at odL_laws8 ofL_laws8 1529) rfl
theorem dL_law_1530 : decode cL_law 1530 = .ok (.iaload, 1) := d_by (d_at odL_laws8 ofL_laws8 1530) rfl
theorem dL_law_1531 : decode cL_law 1531 = .ok (.aload_n 0, 1) := d_by (d_at odL_laws8 ofL_laws8 1531) rfl
theorem dL_law_1532 : decode cL_law 1532 = .ok (.iload 4, 2) := d_by (d_at odL_laws8 ofL_laws8 1532) rfl
theorem dL_law_1534 : decode cL_law 1534 = .ok (.iconst 2, 1) := d_by (d_at odL_laws8 ofL_laws8 1534) rfl
theorem dL_law_1535 : decode cL_law 1535 = .ok (.iadd, 1) := d_by (d_at odL_laws8 ofL_laws8 1535) rfl
theorem dL_law_1536 : decode cL_law 1536 = .ok (.iaload, 1) := d_by (d_at odL_laws8 ofL_laws8 1536) rfl
theorem dL_law_1537 : decode cL_law 1537 = .ok (.invokevirtual 185, 3) := d_by (d_at odL_laws8 ofL_laws8 1537) rfl
theorem dL_law_1540 : decode cL_law 1540 = .ok (.pop, 1) := d_by (d_at odL_laws8 ofL_laws8 1540) rfl
theorem dL_law_1541 : decode cL_law 1541 = .ok (.aload_n 2, 1) := d_by (d_at odL_laws8 ofL_laws8 1541) rfl
theorem dL_law_1542 : decode cL_law 1542 = .ok (.aload_n 0, 1) := d_by (d_at odL_laws8 ofL_laws8 1542) rfl
theorem dL_law_1543 : decode cL_law 1543 = .ok (.iload 4, 2) := d_by (d_at odL_laws8 ofL_laws8 1543) rfl
theorem dL_law_1545 : decode cL_law 1545 = .ok (.iconst 1, 1) := d_by (d_at odL_laws8 ofL_laws8 1545) rfl
theorem dL_law_1546 : decode cL_law 1546 = .ok (.iadd, 1) := d_by (d_at odL_laws8 ofL_laws8 1546) rfl
theorem dL_law_1547 : decode cL_law 1547 = .ok (.iaload, 1) := d_by (d_at odL_laws8 ofL_laws8 1547) rfl
theorem dL_law_1548 : decode cL_law 1548 = .ok (.aload_n 0, 1) := d_by (d_at odL_laws8 ofL_laws8 1548) rfl
theorem dL_law_1549 : decode cL_law 1549 = .ok (.iload 4, 2) := d_by (d_at odL_laws8 ofL_laws8 1549) rfl
theorem dL_law_1551 : decode cL_law 1551 = .ok (.iconst 2, 1) := d_by (d_at odL_laws8 ofL_laws8 1551) rfl
theorem dL_law_1552 : decode cL_law 1552 = .ok (.iadd, 1) := d_by (d_at odL_laws8 ofL_laws8 1552) rfl
theorem dL_law_1553 : decode cL_law 1553 = .ok (.iaload, 1) := d_by (d_at odL_laws8 ofL_laws8 1553) rfl
theorem dL_law_1554 : decode cL_law 1554 = .ok (.invokevirtual 188, 3) := d_by (d_at odL_laws8 ofL_laws8 1554) rfl
theorem dL_law_1557 : decode cL_law 1557 = .ok (.pop, 1) := d_by (d_at odL_laws8 ofL_laws8 1557) rfl
theorem dL_law_1558 : decode cL_law 1558 = .ok (.goto 247, 3) := d_by (d_at odL_laws8 ofL_laws8 1558) rfl
theorem dL_law_1561 : decode cL_law 1561 = .ok (.aload_n 1, 1) := d_by (d_at odL_laws8 ofL_laws8 1561) rfl
theorem dL_law_1562 : decode cL_law 1562 = .ok (.aload_n 0, 1) := d_by (d_at odL_laws8 ofL_laws8 1562) rfl
theorem dL_law_1563 : decode cL_law 1563 = .ok (.iload 4, 2) := d_by (d_at odL_laws8 ofL_laws8 1563) rfl
theorem dL_law_1565 : decode cL_law 1565 = .ok (.iconst 1, 1) := d_by (d_at odL_laws8 ofL_laws8 1565) rfl
theorem dL_law_1566 : decode cL_law 1566 = .ok (.iadd, 1) := d_by (d_at odL_laws8 ofL_laws8 1566) rfl
theorem dL_law_1567 : decode cL_law 1567 = .ok (.iaload, 1) := d_by (d_at odL_laws8 ofL_laws8 1567) rfl
theorem dL_law_1568 : decode cL_law 1568 = .ok (.aload_n 0, 1) := d_by (d_at odL_laws8 ofL_laws8 1568) rfl
theorem dL_law_1569 : decode cL_law 1569 = .ok (.iload 4, 2) := d_by (d_at odL_laws8 ofL_laws8 1569) rfl
theorem dL_law_1571 : decode cL_law 1571 = .ok (.iconst 2, 1) := d_by (d_at odL_laws8 ofL_laws8 1571) rfl
theorem dL_law_1572 : decode cL_law 1572 = .ok (.iadd, 1) := d_by (d_at odL_laws8 ofL_laws8 1572) rfl
theorem dL_law_1573 : decode cL_law 1573 = .ok (.iaload, 1) := d_by (d_at odL_laws8 ofL_laws8 1573) rfl
theorem dL_law_1574 : decode cL_law 1574 = .ok (.aload_n 0, 1) := d_by (d_at odL_laws8 ofL_laws8 1574) rfl
theorem dL_law_1575 : decode cL_law 1575 = .ok (.iload 4, 2) := d_by (d_at odL_laws8 ofL_laws8 1575) rfl
theorem dL_law_1577 : decode cL_law 1577 = .ok (.iconst 3, 1) := d_by (d_at odL_laws8 ofL_laws8 1577) rfl
theorem dL_law_1578 : decode cL_law 1578 = .ok (.iadd, 1) := d_by (d_at odL_laws8 ofL_laws8 1578) rfl
theorem dL_law_1579 : decode cL_law 1579 = .ok (.iaload, 1) := d_by (d_at odL_laws8 ofL_laws8 1579) rfl
theorem dL_law_1580 : decode cL_law 1580 = .ok (.invokevirtual 189, 3) := d_by (d_at odL_laws8 ofL_laws8 1580) rfl
theorem dL_law_1583 : decode cL_law 1583 = .ok (.pop, 1) := d_by (d_at odL_laws8 ofL_laws8 1583) rfl
theorem dL_law_1584 : decode cL_law 1584 = .ok (.aload_n 2, 1) := d_by (d_at odL_laws8 ofL_laws8 1584) rfl
theorem dL_law_1585 : decode cL_law 1585 = .ok (.aload_n 0, 1) := d_by (d_at odL_laws8 ofL_laws8 1585) rfl
theorem dL_law_1586 : decode cL_law 1586 = .ok (.iload 4, 2) := d_by (d_at odL_laws8 ofL_laws8 1586) rfl
theorem dL_law_1588 : decode cL_law 1588 = .ok (.iconst 1, 1) := d_by (d_at odL_laws8 ofL_laws8 1588) rfl
theorem dL_law_1589 : decode cL_law 1589 = .ok (.iadd, 1) := d_by (d_at odL_laws8 ofL_laws8 1589) rfl
theorem dL_law_1590 : decode cL_law 1590 = .ok (.iaload, 1) := d_by (d_at odL_laws8 ofL_laws8 1590) rfl
theorem dL_law_1591 : decode cL_law 1591 = .ok (.aload_n 0, 1) := d_by (d_at odL_laws8 ofL_laws8 1591) rfl
theorem dL_law_1592 : decode cL_law 1592 = .ok (.iload 4, 2) := d_by (d_at odL_laws8 ofL_laws8 1592) rfl
theorem dL_law_1594 : decode cL_law 1594 = .ok (.iconst 2, 1) := d_by (d_at odL_laws8 ofL_laws8 1594) rfl
theorem dL_law_1595 : decode cL_law 1595 = .ok (.iadd, 1) := d_by (d_at odL_laws8 ofL_laws8 1595) rfl
theorem dL_law_1596 : decode cL_law 1596 = .ok (.iaload, 1) := d_by (d_at odL_laws8 ofL_laws8 1596) rfl
theorem dL_law_1597 : decode cL_law 1597 = .ok (.aload_n 0, 1) := d_by (d_at odL_laws8 ofL_laws8 1597) rfl
theorem dL_law_1598 : decode cL_law 1598 = .ok (.iload 4, 2) := d_by (d_at odL_laws8 ofL_laws8 1598) rfl
theorem dL_law_1600 : decode cL_law 1600 = .ok (.iconst 3, 1) := d_by (d_at odL_laws8 ofL_laws8 1600) rfl
theorem dL_law_1601 : decode cL_law 1601 = .ok (.iadd, 1) := d_by (d_at odL_laws8 ofL_laws8 1601) rfl
theorem dL_law_1602 : decode cL_law 1602 = .ok (.iaload, 1) := d_by (d_at odL_laws8 ofL_laws8 1602) rfl
theorem dL_law_1603 : decode cL_law 1603 = .ok (.invokevirtual 193, 3) := d_by (d_at odL_laws8 ofL_laws8 1603) rfl
theorem dL_law_1606 : decode cL_law 1606 = .ok (.pop, 1) := d_by (d_at odL_laws8 ofL_laws8 1606) rfl
theorem dL_law_1607 : decode cL_law 1607 = .ok (.goto 198, 3) := d_by (d_at odL_laws8 ofL_laws8 1607) rfl
theorem dL_law_1610 : decode cL_law 1610 = .ok (.aload_n 1, 1) := d_by (d_at odL_laws8 ofL_laws8 1610) rfl
theorem dL_law_1611 : decode cL_law 1611 = .ok (.aload_n 0, 1) := d_by (d_at odL_laws8 ofL_laws8 1611) rfl
theorem dL_law_1612 : decode cL_law 1612 = .ok (.iload 4, 2) := d_by (d_at odL_laws8 ofL_laws8 1612) rfl
theorem dL_law_1614 : decode cL_law 1614 = .ok (.iconst 1, 1) := d_by (d_at odL_laws8 ofL_laws8 1614) rfl
theorem dL_law_1615 : decode cL_law 1615 = .ok (.iadd, 1) := d_by (d_at odL_laws8 ofL_laws8 1615) rfl
theorem dL_law_1616 : decode cL_law 1616 = .ok (.iaload, 1) := d_by (d_at odL_laws8 ofL_laws8 1616) rfl
theorem dL_law_1617 : decode cL_law 1617 = .ok (.invokevirtual 194, 3) := d_by (d_at odL_laws8 ofL_laws8 1617) rfl
theorem dL_law_1620 : decode cL_law 1620 = .ok (.pop, 1) := d_by (d_at odL_laws8 ofL_laws8 1620) rfl
theorem dL_law_1621 : decode cL_law 1621 = .ok (.aload_n 2, 1) := d_by (d_at odL_laws8 ofL_laws8 1621) rfl
theorem dL_law_1622 : decode cL_law 1622 = .ok (.aload_n 0, 1) := d_by (d_at odL_laws8 ofL_laws8 1622) rfl
theorem dL_law_1623 : decode cL_law 1623 = .ok (.iload 4, 2) := d_by (d_at odL_laws8 ofL_laws8 1623) rfl
theorem dL_law_1625 : decode cL_law 1625 = .ok (.iconst 1, 1) := d_by (d_at odL_laws8 ofL_laws8 1625) rfl
theorem dL_law_1626 : decode cL_law 1626 = .ok (.iadd, 1) := d_by (d_at odL_laws8 ofL_laws8 1626) rfl
theorem dL_law_1627 : decode cL_law 1627 = .ok (.iaload, 1) := d_by (d_at odL_laws8 ofL_laws8 1627) rfl
theorem dL_law_1628 : decode cL_law 1628 = .ok (.invokevirtual 197, 3) := d_by (d_at odL_laws8 ofL_laws8 1628) rfl
theorem dL_law_1631 : decode cL_law 1631 = .ok (.pop, 1) := d_by (d_at odL_laws8 ofL_laws8 1631) rfl
theorem dL_law_1632 : decode cL_law 1632 = .ok (.goto 173, 3) := d_by (d_at odL_laws8 ofL_laws8 1632) rfl
theorem dL_law_1635 : decode cL_law 1635 = .ok (.aload_n 1, 1) := d_by (d_at odL_laws8 ofL_laws8 1635) rfl
theorem dL_law_1636 : decode cL_law 1636 = .ok (.aload_n 0, 1) := d_by (d_at odL_laws8 ofL_laws8 1636) rfl
theorem dL_law_1637 : decode cL_law 1637 = .ok (.iload 4, 2) := d_by (d_at odL_laws8 ofL_laws8 1637) rfl
theorem dL_law_1639 : decode cL_law 1639 = .ok (.iconst 1, 1) := d_by (d_at odL_laws8 ofL_laws8 1639) rfl
theorem dL_law_1640 : decode cL_law 1640 = .ok (.iadd, 1) := d_by (d_at odL_laws8 ofL_laws8 1640) rfl
theorem dL_law_1641 : decode cL_law 1641 = .ok (.iaload, 1) := d_by (d_at odL_laws8 ofL_laws8 1641) rfl
theorem dL_law_1642 : decode cL_law 1642 = .ok (.aload_n 0, 1) := d_by (d_at odL_laws8 ofL_laws8 1642) rfl
theorem dL_law_1643 : decode cL_law 1643 = .ok (.iload 4, 2) := d_by (d_at odL_laws8 ofL_laws8 1643) rfl
theorem dL_law_1645 : decode cL_law 1645 = .ok (.iconst 2, 1) := d_by (d_at odL_laws8 ofL_laws8 1645) rfl
theorem dL_law_1646 : decode cL_law 1646 = .ok (.iadd, 1) := d_by (d_at odL_laws8 ofL_laws8 1646) rfl
theorem dL_law_1647 : decode cL_law 1647 = .ok (.iaload, 1) := d_by (d_at odL_laws8 ofL_laws8 1647) rfl
theorem dL_law_1648 : decode cL_law 1648 = .ok (.ifCond .eq 7, 3) := d_by (d_at odL_laws8 ofL_laws8 1648) rfl
theorem dL_law_1651 : decode cL_law 1651 = .ok (.iconst 1, 1) := d_by (d_at odL_laws8 ofL_laws8 1651) rfl
theorem dL_law_1652 : decode cL_law 1652 = .ok (.goto 4, 3) := d_by (d_at odL_laws8 ofL_laws8 1652) rfl
theorem dL_law_1655 : decode cL_law 1655 = .ok (.iconst 0, 1) := d_by (d_at odL_laws8 ofL_laws8 1655) rfl
theorem dL_law_1656 : decode cL_law 1656 = .ok (.invokevirtual 198, 3) := d_by (d_at odL_laws8 ofL_laws8 1656) rfl
theorem dL_law_1659 : decode cL_law 1659 = .ok (.pop, 1) := d_by (d_at odL_laws8 ofL_laws8 1659) rfl
theorem dL_law_1660 : decode cL_law 1660 = .ok (.aload_n 2, 1) := d_by (d_at odL_laws8 ofL_laws8 1660) rfl
theorem dL_law_1661 : decode cL_law 1661 = .ok (.aload_n 0, 1) := d_by (d_at odL_laws8 ofL_laws8 1661) rfl
theorem dL_law_1662 : decode cL_law 1662 = .ok (.iload 4, 2) := d_by (d_at odL_laws8 ofL_laws8 1662) rfl
theorem dL_law_1664 : decode cL_law 1664 = .ok (.iconst 1, 1) := d_by (d_at odL_laws8 ofL_laws8 1664) rfl
theorem dL_law_1665 : decode cL_law 1665 = .ok (.iadd, 1) := d_by (d_at odL_laws9 ofL_laws9 1665) rfl
theorem dL_law_1666 : decode cL_law 1666 = .ok (.iaload, 1) := d_by (d_at odL_laws9 ofL_laws9 1666) rfl
theorem dL_law_1667 : decode cL_law 1667 = .ok (.aload_n 0, 1) := d_by (d_at odL_laws9 ofL_laws9 1667) rfl
theorem dL_law_1668 : decode cL_law 1668 = .ok (.iload 4, 2) := d_by (d_at odL_laws9 ofL_laws9 1668) rfl
theorem dL_law_1670 : decode cL_law 1670 = .ok (.iconst 2, 1) := d_by (d_at odL_laws9 ofL_laws9 1670) rfl
theorem dL_law_1671 : decode cL_law 1671 = .ok (.iadd, 1) := d_by (d_at odL_laws9 ofL_laws9 1671) rfl
theorem dL_law_1672 : decode cL_law 1672 = .ok (.iaload, 1) := d_by (d_at odL_laws9 ofL_laws9 1672) rfl
theorem dL_law_1673 : decode cL_law 1673 = .ok (.ifCond .eq 7, 3) := d_by (d_at odL_laws9 ofL_laws9 1673) rfl
theorem dL_law_1676 : decode cL_law 1676 = .ok (.iconst 1, 1) := d_by (d_at odL_laws9 ofL_laws9 1676) rfl
theorem dL_law_1677 : decode cL_law 1677 = .ok (.goto 4, 3) := d_by (d_at odL_laws9 ofL_laws9 1677) rfl
theorem dL_law_1680 : decode cL_law 1680 = .ok (.iconst 0, 1) := d_by (d_at odL_laws9 ofL_laws9 1680) rfl
theorem dL_law_1681 : decode cL_law 1681 = .ok (.invokevirtual 202, 3) := d_by (d_at odL_laws9 ofL_laws9 1681) rfl
theorem dL_law_1684 : decode cL_law 1684 = .ok (.pop, 1) := d_by (d_at odL_laws9 ofL_laws9 1684) rfl
theorem dL_law_1685 : decode cL_law 1685 = .ok (.goto 120, 3) := d_by (d_at odL_laws9 ofL_laws9 1685) rfl
theorem dL_law_1688 : decode cL_law 1688 = .ok (.aload_n 1, 1) := d_by (d_at odL_laws9 ofL_laws9 1688) rfl
theorem dL_law_1689 : decode cL_law 1689 = .ok (.invokevirtual 203, 3) := d_by (d_at odL_laws9 ofL_laws9 1689) rfl
theorem dL_law_1692 : decode cL_law 1692 = .ok (.pop, 1) := d_by (d_at odL_laws9 ofL_laws9 1692) rfl
theorem dL_law_1693 : decode cL_law 1693 = .ok (.aload_n 2, 1) := d_by (d_at odL_laws9 ofL_laws9 1693) rfl
theorem dL_law_1694 : decode cL_law 1694 = .ok (.invokevirtual 207, 3) := d_by (d_at odL_laws9 ofL_laws9 1694) rfl
theorem dL_law_1697 : decode cL_law 1697 = .ok (.pop, 1) := d_by (d_at odL_laws9 ofL_laws9 1697) rfl
theorem dL_law_1698 : decode cL_law 1698 = .ok (.goto 107, 3) := d_by (d_at odL_laws9 ofL_laws9 1698) rfl
theorem dL_law_1701 : decode cL_law 1701 = .ok (.aload_n 1, 1) := d_by (d_at odL_laws9 ofL_laws9 1701) rfl
theorem dL_law_1702 : decode cL_law 1702 = .ok (.invokevirtual 208, 3) := d_by (d_at odL_laws9 ofL_laws9 1702) rfl
theorem dL_law_1705 : decode cL_law 1705 = .ok (.pop, 1) := d_by (d_at odL_laws9 ofL_laws9 1705) rfl
theorem dL_law_1706 : decode cL_law 1706 = .ok (.aload_n 2, 1) := d_by (d_at odL_laws9 ofL_laws9 1706) rfl
theorem dL_law_1707 : decode cL_law 1707 = .ok (.invokevirtual 211, 3) := d_by (d_at odL_laws9 ofL_laws9 1707) rfl
theorem dL_law_1710 : decode cL_law 1710 = .ok (.pop, 1) := d_by (d_at odL_laws9 ofL_laws9 1710) rfl
theorem dL_law_1711 : decode cL_law 1711 = .ok (.goto 94, 3) := d_by (d_at odL_laws9 ofL_laws9 1711) rfl
theorem dL_law_1714 : decode cL_law 1714 = .ok (.aload_n 1, 1) := d_by (d_at odL_laws9 ofL_laws9 1714) rfl
theorem dL_law_1715 : decode cL_law 1715 = .ok (.aload_n 0, 1) := d_by (d_at odL_laws9 ofL_laws9 1715) rfl
theorem dL_law_1716 : decode cL_law 1716 = .ok (.iload 4, 2) := d_by (d_at odL_laws9 ofL_laws9 1716) rfl
theorem dL_law_1718 : decode cL_law 1718 = .ok (.iconst 1, 1) := d_by (d_at odL_laws9 ofL_laws9 1718) rfl
theorem dL_law_1719 : decode cL_law 1719 = .ok (.iadd, 1) := d_by (d_at odL_laws9 ofL_laws9 1719) rfl
theorem dL_law_1720 : decode cL_law 1720 = .ok (.iaload, 1) := d_by (d_at odL_laws9 ofL_laws9 1720) rfl
theorem dL_law_1721 : decode cL_law 1721 = .ok (.invokevirtual 212, 3) := d_by (d_at odL_laws9 ofL_laws9 1721) rfl
theorem dL_law_1724 : decode cL_law 1724 = .ok (.pop, 1) := d_by (d_at odL_laws9 ofL_laws9 1724) rfl
theorem dL_law_1725 : decode cL_law 1725 = .ok (.aload_n 2, 1) := d_by (d_at odL_laws9 ofL_laws9 1725) rfl
theorem dL_law_1726 : decode cL_law 1726 = .ok (.aload_n 0, 1) := d_by (d_at odL_laws9 ofL_laws9 1726) rfl
theorem dL_law_1727 : decode cL_law 1727 = .ok (.iload 4, 2) := d_by (d_at odL_laws9 ofL_laws9 1727) rfl
theorem dL_law_1729 : decode cL_law 1729 = .ok (.iconst 1, 1) := d_by (d_at odL_laws9 ofL_laws9 1729) rfl
theorem dL_law_1730 : decode cL_law 1730 = .ok (.iadd, 1) := d_by (d_at odL_laws9 ofL_laws9 1730) rfl
theorem dL_law_1731 : decode cL_law 1731 = .ok (.iaload, 1) := d_by (d_at odL_laws9 ofL_laws9 1731) rfl
theorem dL_law_1732 : decode cL_law 1732 = .ok (.invokevirtual 216, 3) := d_by (d_at odL_laws9 ofL_laws9 1732) rfl
theorem dL_law_1735 : decode cL_law 1735 = .ok (.pop, 1) := d_by (d_at odL_laws9 ofL_laws9 1735) rfl
theorem dL_law_1736 : decode cL_law 1736 = .ok (.goto 69, 3) := d_by (d_at odL_laws9 ofL_laws9 1736) rfl
theorem dL_law_1739 : decode cL_law 1739 = .ok (.aload_n 1, 1) := d_by (d_at odL_laws9 ofL_laws9 1739) rfl
theorem dL_law_1740 : decode cL_law 1740 = .ok (.aload_n 0, 1) := d_by (d_at odL_laws9 ofL_laws9 1740) rfl
theorem dL_law_1741 : decode cL_law 1741 = .ok (.iload 4, 2) := d_by (d_at odL_laws9 ofL_laws9 1741) rfl
theorem dL_law_1743 : decode cL_law 1743 = .ok (.iconst 1, 1) := d_by (d_at odL_laws9 ofL_laws9 1743) rfl
theorem dL_law_1744 : decode cL_law 1744 = .ok (.iadd, 1) := d_by (d_at odL_laws9 ofL_laws9 1744) rfl
theorem dL_law_1745 : decode cL_law 1745 = .ok (.iaload, 1) := d_by (d_at odL_laws9 ofL_laws9 1745) rfl
theorem dL_law_1746 : decode cL_law 1746 = .ok (.aload_n 3, 1) := d_by (d_at odL_laws9 ofL_laws9 1746) rfl
theorem dL_law_1747 : decode cL_law 1747 = .ok (.invokestatic 217, 3) := d_by (d_at odL_laws9 ofL_laws9 1747) rfl
theorem dL_law_1750 : decode cL_law 1750 = .ok (.istore 5, 2) := d_by (d_at odL_laws9 ofL_laws9 1750) rfl
theorem dL_law_1752 : decode cL_law 1752 = .ok (.aload_n 2, 1) := d_by (d_at odL_laws9 ofL_laws9 1752) rfl
theorem dL_law_1753 : decode cL_law 1753 = .ok (.aload_n 0, 1) := d_by (d_at odL_laws9 ofL_laws9 1753) rfl
theorem dL_law_1754 : decode cL_law 1754 = .ok (.iload 4, 2) := d_by (d_at odL_laws9 ofL_laws9 1754) rfl
theorem dL_law_1756 : decode cL_law 1756 = .ok (.iconst 1, 1) := d_by (d_at odL_laws9 ofL_laws9 1756) rfl
theorem dL_law_1757 : decode cL_law 1757 = .ok (.iadd, 1) := d_by (d_at odL_laws9 ofL_laws9 1757) rfl
theorem dL_law_1758 : decode cL_law 1758 = .ok (.iaload, 1) := d_by (d_at odL_laws9 ofL_laws9 1758) rfl
theorem dL_law_1759 : decode cL_law 1759 = .ok (.invokevirtual 222, 3) := d_by (d_at odL_laws9 ofL_laws9 1759) rfl
theorem dL_law_1762 : decode cL_law 1762 = .ok (.istore 6, 2) := d_by (d_at odL_laws9 ofL_laws9 1762) rfl
theorem dL_law_1764 : decode cL_law 1764 = .ok (.goto 41, 3) := d_by (d_at odL_laws9 ofL_laws9 1764) rfl
theorem dL_law_1767 : decode cL_law 1767 = .ok (.aload_n 1, 1) := d_by (d_at odL_laws9 ofL_laws9 1767) rfl
theorem dL_law_1768 : decode cL_law 1768 = .ok (.aload_n 0, 1) := d_by (d_at odL_laws9 ofL_laws9 1768) rfl
theorem dL_law_1769 : decode cL_law 1769 = .ok (.iload 4, 2) := d_by (d_at odL_laws9 ofL_laws9 1769) rfl
theorem dL_law_1771 : decode cL_law 1771 = .ok (.iconst 1, 1) := d_by (d_at odL_laws9 ofL_laws9 1771) rfl
theorem dL_law_1772 : decode cL_law 1772 = .ok (.iadd, 1) := d_by (d_at odL_laws9 ofL_laws9 1772) rfl
theorem dL_law_1773 : decode cL_law 1773 = .ok (.iaload, 1) := d_by (d_at odL_laws9 ofL_laws9 1773) rfl
theorem dL_law_1774 : decode cL_law 1774 = .ok (.invokevirtual 223, 3) := d_by (d_at odL_laws9 ofL_laws9 1774) rfl
theorem dL_law_1777 : decode cL_law 1777 = .ok (.pop, 1) := d_by (d_at odL_laws9 ofL_laws9 1777) rfl
theorem dL_law_1778 : decode cL_law 1778 = .ok (.aload_n 2, 1) := d_by (d_at odL_laws9 ofL_laws9 1778) rfl
theorem dL_law_1779 : decode cL_law 1779 = .ok (.aload_n 0, 1) := d_by (d_at odL_laws9 ofL_laws9 1779) rfl
theorem dL_law_1780 : decode cL_law 1780 = .ok (.iload 4, 2) := d_by (d_at odL_laws9 ofL_laws9 1780) rfl
theorem dL_law_1782 : decode cL_law 1782 = .ok (.iconst 1, 1) := d_by (d_at odL_laws9 ofL_laws9 1782) rfl
theorem dL_law_1783 : decode cL_law 1783 = .ok (.iadd, 1) := d_by (d_at odL_laws9 ofL_laws9 1783) rfl
theorem dL_law_1784 : decode cL_law 1784 = .ok (.iaload, 1) := d_by (d_at odL_laws9 ofL_laws9 1784) rfl
theorem dL_law_1785 : decode cL_law 1785 = .ok (.invokevirtual 226, 3) := d_by (d_at odL_laws9 ofL_laws9 1785) rfl
theorem dL_law_1788 : decode cL_law 1788 = .ok (.pop, 1) := d_by (d_at odL_laws9 ofL_laws9 1788) rfl
theorem dL_law_1789 : decode cL_law 1789 = .ok (.goto 16, 3) := d_by (d_at odL_laws9 ofL_laws9 1789) rfl
theorem dL_law_1792 : decode cL_law 1792 = .ok (.aload_n 1, 1) := d_by (d_at odL_laws9 ofL_laws9 1792) rfl
theorem dL_law_1793 : decode cL_law 1793 = .ok (.invokevirtual 227, 3) := d_by (d_at odL_laws9 ofL_laws9 1793) rfl
theorem dL_law_1796 : decode cL_law 1796 = .ok (.pop, 1) := d_by (d_at odL_laws9 ofL_laws9 1796) rfl
theorem dL_law_1797 : decode cL_law 1797 = .ok (.aload_n 2, 1) := d_by (d_at odL_laws9 ofL_laws9 1797) rfl
theorem dL_law_1798 : decode cL_law 1798 = .ok (.invokevirtual 230, 3) := d_by (d_at odL_laws9 ofL_laws9 1798) rfl
theorem dL_law_1801 : decode cL_law 1801 = .ok (.pop, 1) := d_by (d_at odL_laws9 ofL_laws9 1801) rfl
theorem dL_law_1802 : decode cL_law 1802 = .ok (.goto 3, 3) := d_by (d_at odL_laws9 ofL_laws9 1802) rfl
theorem dL_law_1805 : decode cL_law 1805 = .ok (.iinc 4 6, 3) := d_by (d_at odL_laws9 ofL_laws9 1805) rfl
theorem dL_law_1808 : decode cL_law 1808 = .ok (.goto (-1785), 3) := d_by (d_at odL_laws9 ofL_laws9 1808) rfl
theorem dL_law_1811 : decode cL_law 1811 = .ok (.iconst 1, 1) := d_by (d_at odL_laws9 ofL_laws9 1811) rfl
theorem dL_law_1812 : decode cL_law 1812 = .ok (.ireturn, 1) := d_by (d_at odL_laws9 ofL_laws9 1812) rfl
set_option maxRecDepth 100000 in
def bL_led : List Nat := [44, 3, 42, 27, 182, 0, 7, 133, 80, 167, 0, 6, 78, 4, 172, 3, 172]
set_option maxRecDepth 100000 in
theorem bbL_led : cL_led.data.toList.map UInt8.toNat = bL_led := by decide +kernel
set_option maxRecDepth 100000 in
def tL_led : Lean.RArray dLf := .branch 8 (.branch 3 (.branch 1 (.leaf (0, .aload_n 2, 1)) (.branch 2 (.leaf (1, .iconst 0, 1)) (.leaf (2, .aload_n 0, 1)))) (.branch 4 (.leaf (3, .iload_n 1, 1)) (.branch 7 (.leaf (4, .invokevirtual 7, 3)) (.leaf (7, .i2l, 1))))) (.branch 13 (.branch 9 (.leaf (8, .lastore, 1)) (.branch 12 (.leaf (9, .goto 6, 3)) (.leaf (12, .astore_n 3, 1)))) (.branch 15 (.branch 14 (.leaf (13, .iconst 1, 1)) (.leaf (14, .ireturn, 1))) (.branch 16 (.leaf (15, .iconst 0, 1)) (.leaf (16, .ireturn, 1)))))
noncomputable def oL_led : List dLf := dFl tL_led
theorem ofL_led : dFl tL_led = oL_led := rfl
set_option maxRecDepth 100000 in
theorem odL_led : ∀ q ∈ oL_led, decode cL_led q.1 = .ok (q.2.1, q.2.2) := q_go qT_ok bbL_led oL_led 0 (by decide +kernel)
theorem dL_led_0 : decode cL_led 0 = .ok (.aload_n 2, 1) := d_by (d_at odL_led ofL_led 0) rfl
theorem dL_led_1 : decode cL_led 1 = .ok (.iconst 0, 1) := d_by (d_at odL_led ofL_led 1) rfl
theorem dL_led_2 : decode cL_led 2 = .ok (.aload_n 0, 1) := d_by (d_at odL_led ofL_led 2) rfl
theorem dL_led_3 : decode cL_led 3 = .ok (.iload_n 1, 1) := d_by (d_at odL_led ofL_led 3) rfl
theorem dL_led_4 : decode cL_led 4 = .ok (.invokevirtual 7, 3) := d_by (d_at odL_led ofL_led 4) rfl
theorem dL_led_7 : decode cL_led 7 = .ok (.i2l, 1) := d_by (d_at odL_led ofL_led 7) rfl
theorem dL_led_8 : decode cL_led 8 = .ok (.lastore, 1) := d_by (d_at odL_led ofL_led 8) rfl
theorem dL_led_9 : decode cL_led 9 = .ok (.goto 6, 3) := d_by (d_at odL_led ofL_led 9) rfl
theorem dL_led_12 : decode cL_led 12 = .ok (.astore_n 3, 1) := d_by (d_at odL_led ofL_led 12) rfl
theorem dL_led_13 : decode cL_led 13 = .ok (.iconst 1, 1) := d_by (d_at odL_led ofL_led 13) rfl
theorem dL_led_14 : decode cL_led 14 = .ok (.ireturn, 1) := d_by (d_at odL_led ofL_led 14) rfl
theorem dL_led_15 : decode cL_led 15 = .ok (.iconst 0, 1) := d_by (d_at odL_led ofL_led 15) rfl
theorem dL_led_16 : decode cL_led 16 = .ok (.ireturn, 1) := d_by (d_at odL_led ofL_led 16) rfl
