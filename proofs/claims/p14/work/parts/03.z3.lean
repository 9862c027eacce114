set_option maxRecDepth 100000 in
def bX11_noteAt : List Nat := [26, 5, 27, 4, 100, 28, 100, 104, 122, 6, 126, 172]
set_option maxRecDepth 100000 in
theorem bbX11_noteAt : cX11_noteAt.data.toList.map UInt8.toNat = bX11_noteAt := by decide +kernel
set_option maxRecDepth 100000 in
def tX11_noteAt : Lean.RArray dLf := .branch 6 (.branch 3 (.branch 1 (.leaf (0, .iload_n 0, 1)) (.branch 2 (.leaf (1, .iconst 2, 1)) (.leaf (2, .iload_n 1, 1)))) (.branch 4 (.leaf (3, .iconst 1, 1)) (.branch 5 (.leaf (4, .isub, 1)) (.leaf (5, .iload_n 2, 1))))) (.branch 9 (.branch 7 (.leaf (6, .isub, 1)) (.branch 8 (.leaf (7, .imul, 1)) (.leaf (8, .ishr, 1)))) (.branch 10 (.leaf (9, .iconst 3, 1)) (.branch 11 (.leaf (10, .iand, 1)) (.leaf (11, .ireturn, 1)))))
noncomputable def oX11_noteAt : List dLf := dFl tX11_noteAt
theorem ofX11_noteAt : dFl tX11_noteAt = oX11_noteAt := rfl
set_option maxRecDepth 100000 in
theorem odX11_noteAt : ∀ q ∈ oX11_noteAt, decode cX11_noteAt q.1 = .ok (q.2.1, q.2.2) := q_go qT_ok bbX11_noteAt oX11_noteAt 0 (by decide +kernel)
theorem dX11_noteAt_0 : decode cX11_noteAt 0 = .ok (.iload_n 0, 1) := d_by (d_at odX11_noteAt ofX11_noteAt 0) rfl
theorem dX11_noteAt_1 : decode cX11_noteAt 1 = .ok (.iconst 2, 1) := d_by (d_at odX11_noteAt ofX11_noteAt 1) rfl
theorem dX11_noteAt_2 : decode cX11_noteAt 2 = .ok (.iload_n 1, 1) := d_by (d_at odX11_noteAt ofX11_noteAt 2) rfl
theorem dX11_noteAt_3 : decode cX11_noteAt 3 = .ok (.iconst 1, 1) := d_by (d_at odX11_noteAt ofX11_noteAt 3) rfl
theorem dX11_noteAt_4 : decode cX11_noteAt 4 = .ok (.isub, 1) := d_by (d_at odX11_noteAt ofX11_noteAt 4) rfl
theorem dX11_noteAt_5 : decode cX11_noteAt 5 = .ok (.iload_n 2, 1) := d_by (d_at odX11_noteAt ofX11_noteAt 5) rfl
theorem dX11_noteAt_6 : decode cX11_noteAt 6 = .ok (.isub, 1) := d_by (d_at odX11_noteAt ofX11_noteAt 6) rfl
theorem dX11_noteAt_7 : decode cX11_noteAt 7 = .ok (.imul, 1) := d_by (d_at odX11_noteAt ofX11_noteAt 7) rfl
theorem dX11_noteAt_8 : decode cX11_noteAt 8 = .ok (.ishr, 1) := d_by (d_at odX11_noteAt ofX11_noteAt 8) rfl
theorem dX11_noteAt_9 : decode cX11_noteAt 9 = .ok (.iconst 3, 1) := d_by (d_at odX11_noteAt ofX11_noteAt 9) rfl
theorem dX11_noteAt_10 : decode cX11_noteAt 10 = .ok (.iand, 1) := d_by (d_at odX11_noteAt ofX11_noteAt 10) rfl
theorem dX11_noteAt_11 : decode cX11_noteAt 11 = .ok (.ireturn, 1) := d_by (d_at odX11_noteAt ofX11_noteAt 11) rfl
set_option maxRecDepth 100000 in
def bX11_withNote : List Nat := [5, 27, 4, 100, 28, 100, 104, 54, 4, 26, 6, 21, 4, 120, 2, 130, 126, 29, 21, 4, 120, 128, 172]
set_option maxRecDepth 100000 in
theorem bbX11_withNote : cX11_withNote.data.toList.map UInt8.toNat = bX11_withNote := by decide +kernel
set_option maxRecDepth 100000 in
def tX11_withNote : Lean.RArray dLf := .branch 11 (.branch 5 (.branch 2 (.branch 1 (.leaf (0, .iconst 2, 1)) (.leaf (1, .iload_n 1, 1))) (.branch 3 (.leaf (2, .iconst 1, 1)) (.branch 4 (.leaf (3, .isub, 1)) (.leaf (4, .iload_n 2, 1))))) (.branch 7 (.branch 6 (.leaf (5, .isub, 1)) (.leaf (6, .imul, 1))) (.branch 9 (.leaf (7, .istore 4, 2)) (.branch 10 (.leaf (9, .iload_n 0, 1)) (.leaf (10, .iconst 3, 1)))))) (.branch 17 (.branch 14 (.branch 13 (.leaf (11, .iload 4, 2)) (.leaf (13, .ishl, 1))) (.branch 15 (.leaf (14, .iconst (-1), 1)) (.branch 16 (.leaf (15, .ixor, 1)) (.leaf (16, .iand, 1))))) (.branch 20 (.branch 18 (.leaf (17, .iload_n 3, 1)) (.leaf (18, .iload 4, 2))) (.branch 21 (.leaf (20, .ishl, 1)) (.branch 22 (.leaf (21, .ior, 1)) (.leaf (22, .ireturn, 1))))))
noncomputable def oX11_withNote : List dLf := dFl tX11_withNote
theorem ofX11_withNote : dFl tX11_withNote = oX11_withNote := rfl
set_option maxRecDepth 100000 in
theorem odX11_withNote : ∀ q ∈ oX11_withNote, decode cX11_withNote q.1 = .ok (q.2.1, q.2.2) := q_go qT_ok bbX11_withNote oX11_withNote 0 (by decide +kernel)
theorem dX11_withNote_0 : decode cX11_withNote 0 = .ok (.iconst 2, 1) := d_by (d_at odX11_withNote ofX11_withNote 0) rfl
theorem dX11_withNote_1 : decode cX11_withNote 1 = .ok (.iload_n 1, 1) := d_by (d_at odX11_withNote ofX11_withNote 1) rfl
theorem dX11_withNote_2 : decode cX11_withNote 2 = .ok (.iconst 1, 1) := d_by (d_at odX11_withNote ofX11_withNote 2) rfl
theorem dX11_withNote_3 : decode cX11_withNote 3 = .ok (.isub, 1) := d_by (d_at odX11_withNote ofX11_withNote 3) rfl
theorem dX11_withNote_4 : decode cX11_withNote 4 = .ok (.iload_n 2, 1) := d_by (d_at odX11_withNote ofX11_withNote 4) rfl
theorem dX11_withNote_5 : decode cX11_withNote 5 = .ok (.isub, 1) := d_by (d_at odX11_withNote ofX11_withNote 5) rfl
theorem dX11_withNote_6 : decode cX11_withNote 6 = .ok (.imul, 1) := d_by (d_at odX11_withNote ofX11_withNote 6) rfl
theorem dX11_withNote_7 : decode cX11_withNote 7 = .ok (.istore 4, 2) := d_by (d_at odX11_withNote ofX11_withNote 7) rfl
theorem dX11_withNote_9 : decode cX11_withNote 9 = .ok (.iload_n 0, 1) := d_by (d_at odX11_withNote ofX11_withNote 9) rfl
theorem dX11_withNote_10 : decode cX11_withNote 10 = .ok (.iconst 3, 1) := d_by (d_at odX11_withNote ofX11_withNote 10) rfl
theorem dX11_withNote_11 : decode cX11_withNote 11 = .ok (.iload 4, 2) := d_by (d_at odX11_withNote ofX11_withNote 11) rfl
theorem dX11_withNote_13 : decode cX11_withNote 13 = .ok (.ishl, 1) := d_by (d_at odX11_withNote ofX11_withNote 13) rfl
theorem dX11_withNote_14 : decode cX11_withNote 14 = .ok (.iconst (-1), 1) := d_by (d_at odX11_withNote ofX11_withNote 14) rfl
theorem dX11_withNote_15 : decode cX11_withNote 15 = .ok (.ixor, 1) := d_by (d_at odX11_withNote ofX11_withNote 15) rfl
theorem dX11_withNote_16 : decode cX11_withNote 16 = .ok (.iand, 1) := d_by (d_at odX11_withNote ofX11_withNote 16) rfl
theorem dX11_withNote_17 : decode cX11_withNote 17 = .ok (.iload_n 3, 1) := d_by (d_at odX11_withNote ofX11_withNote 17) rfl
theorem dX11_withNote_18 : decode cX11_withNote 18 = .ok (.iload 4, 2) := d_by (d_at odX11_withNote ofX11_withNote 18) rfl
theorem dX11_withNote_20 : decode cX11_withNote 20 = .ok (.ishl, 1) := d_by (d_at odX11_withNote ofX11_withNote 20) rfl
theorem dX11_withNote_21 : decode cX11_withNote 21 = .ok (.ior, 1) := d_by (d_at odX11_withNote ofX11_withNote 21) rfl
theorem dX11_withNote_22 : decode cX11_withNote 22 = .ok (.ireturn, 1) := d_by (d_at odX11_withNote ofX11_withNote 22) rfl
set_option maxRecDepth 100000 in
def bX11_unlikeNotes : List Nat := [26, 27, 130, 61, 28, 28, 4, 122, 128, 17, 5, 85, 126, 184, 1, 155, 172]
set_option maxRecDepth 100000 in
theorem bbX11_unlikeNotes : cX11_unlikeNotes.data.toList.map UInt8.toNat = bX11_unlikeNotes := by decide +kernel
set_option maxRecDepth 100000 in
def tX11_unlikeNotes : Lean.RArray dLf := .branch 6 (.branch 3 (.branch 1 (.leaf (0, .iload_n 0, 1)) (.branch 2 (.leaf (1, .iload_n 1, 1)) (.leaf (2, .ixor, 1)))) (.branch 4 (.leaf (3, .istore_n 2, 1)) (.branch 5 (.leaf (4, .iload_n 2, 1)) (.leaf (5, .iload_n 2, 1))))) (.branch 9 (.branch 7 (.leaf (6, .iconst 1, 1)) (.branch 8 (.leaf (7, .ishr, 1)) (.leaf (8, .ior, 1)))) (.branch 13 (.branch 12 (.leaf (9, .sipush 1365, 3)) (.leaf (12, .iand, 1))) (.branch 16 (.leaf (13, .invokestatic 411, 3)) (.leaf (16, .ireturn, 1)))))
noncomputable def oX11_unlikeNotes : List dLf := dFl tX11_unlikeNotes
theorem ofX11_unlikeNotes : dFl tX11_unlikeNotes = oX11_unlikeNotes := rfl
set_option maxRecDepth 100000 in
theorem odX11_unlikeNotes : ∀ q ∈ oX11_unlikeNotes, decode cX11_unlikeNotes q.1 = .ok (q.2.1, q.2.2) := q_go qT_ok bbX11_unlikeNotes oX11_unlikeNotes 0 (by decide +kernel)
theorem dX11_unlikeNotes_0 : decode cX11_unlikeNotes 0 = .ok (.iload_n 0, 1) := d_by (d_at odX11_unlikeNotes ofX11_unlikeNotes 0) rfl
theorem dX11_unlikeNotes_1 : decode cX11_unlikeNotes 1 = .ok (.iload_n 1, 1) := d_by (d_at odX11_unlikeNotes ofX11_unlikeNotes 1) rfl
theorem dX11_unlikeNotes_2 : decode cX11_unlikeNotes 2 = .ok (.ixor, 1) := d_by (d_at odX11_unlikeNotes ofX11_unlikeNotes 2) rfl
theorem dX11_unlikeNotes_3 : decode cX11_unlikeNotes 3 = .ok (.istore_n 2, 1) := d_by (d_at odX11_unlikeNotes ofX11_unlikeNotes 3) rfl
theorem dX11_unlikeNotes_4 : decode cX11_unlikeNotes 4 = .ok (.iload_n 2, 1) := d_by (d_at odX11_unlikeNotes ofX11_unlikeNotes 4) rfl
theorem dX11_unlikeNotes_5 : decode cX11_unlikeNotes 5 = .ok (.iload_n 2, 1) := d_by (d_at odX11_unlikeNotes ofX11_unlikeNotes 5) rfl
theorem dX11_unlikeNotes_6 : decode cX11_unlikeNotes 6 = .ok (.iconst 1, 1) := d_by (d_at odX11_unlikeNotes ofX11_unlikeNotes 6) rfl
theorem dX11_unlikeNotes_7 : decode cX11_unlikeNotes 7 = .ok (.ishr, 1) := d_by (d_at odX11_unlikeNotes ofX11_unlikeNotes 7) rfl
theorem dX11_unlikeNotes_8 : decode cX11_unlikeNotes 8 = .ok (.ior, 1) := d_by (d_at odX11_unlikeNotes ofX11_unlikeNotes 8) rfl
theorem dX11_unlikeNotes_9 : decode cX11_unlikeNotes 9 = .ok (.sipush 1365, 3) := d_by (d_at odX11_unlikeNotes ofX11_unlikeNotes 9) rfl
theorem dX11_unlikeNotes_12 : decode cX11_unlikeNotes 12 = .ok (.iand, 1) := d_by (d_at odX11_unlikeNotes ofX11_unlikeNotes 12) rfl
theorem dX11_unlikeNotes_13 : decode cX11_unlikeNotes 13 = .ok (.invokestatic 411, 3) := d_by (d_at odX11_unlikeNotes ofX11_unlikeNotes 13) rfl
theorem dX11_unlikeNotes_16 : decode cX11_unlikeNotes 16 = .ok (.ireturn, 1) := d_by (d_at odX11_unlikeNotes ofX11_unlikeNotes 16) rfl
set_option maxRecDepth 100000 in
def bX12_init : List Nat := [42, 183, 0, 1, 42, 17, 3, 232, 188, 10, 181, 0, 7, 42, 2, 181, 0, 13, 42, 16, 8, 188, 10, 181, 0, 17, 42, 17, 1, 107, 188, 10, 181, 0, 20, 42, 17, 1, 107, 188, 10, 181, 0, 23, 42, 16, 76, 188, 10, 181, 0, 26, 42, 17, 3, 144, 188, 10, 181, 0, 29, 42, 17, 0, 228, 188, 10, 181, 0, 32, 42, 17, 12, 128, 188, 10, 181, 0, 35, 42, 16, 7, 188, 10, 181, 0, 38, 42, 16, 7, 188, 10, 181, 0, 41, 42, 16, 8, 188, 10, 181, 0, 44, 42, 16, 8, 188, 10, 181, 0, 47, 42, 16, 40, 188, 10, 181, 0, 50, 42, 16, 49, 188, 10, 181, 0, 53, 42, 16, 7, 188, 10, 181, 0, 56, 42, 16, 7, 188, 10, 181, 0, 59, 177]
set_option maxRecDepth 100000 in
theorem bbX12_init : cX12_init.data.toList.map UInt8.toNat = bX12_init := by decide +kernel
theorem eX12_init_8 : decode cX12_init 8 = .ok (.newarray .int, 2) := by decide +kernel
theorem eX12_init_21 : decode cX12_init 21 = .ok (.newarray .int, 2) := by decide +kernel
theorem eX12_init_30 : decode cX12_init 30 = .ok (.newarray .int, 2) := by decide +kernel
theorem eX12_init_39 : decode cX12_init 39 = .ok (.newarray .int, 2) := by decide +kernel
theorem eX12_init_47 : decode cX12_init 47 = .ok (.newarray .int, 2) := by decide +kernel
theorem eX12_init_56 : decode cX12_init 56 = .ok (.newarray .int, 2) := by decide +kernel
theorem eX12_init_65 : decode cX12_init 65 = .ok (.newarray .int, 2) := by decide +kernel
theorem eX12_init_74 : decode cX12_init 74 = .ok (.newarray .int, 2) := by decide +kernel
theorem eX12_init_82 : decode cX12_init 82 = .ok (.newarray .int, 2) := by decide +kernel
theorem eX12_init_90 : decode cX12_init 90 = .ok (.newarray .int, 2) := by decide +kernel
theorem eX12_init_98 : decode cX12_init 98 = .ok (.newarray .int, 2) := by decide +kernel
theorem eX12_init_106 : decode cX12_init 106 = .ok (.newarray .int, 2) := by decide +kernel
theorem eX12_init_114 : decode cX12_init 114 = .ok (.newarray .int, 2) := by decide +kernel
theorem eX12_init_122 : decode cX12_init 122 = .ok (.newarray .int, 2) := by decide +kernel
theorem eX12_init_130 : decode cX12_init 130 = .ok (.newarray .int, 2) := by decide +kernel
theorem eX12_init_138 : decode cX12_init 138 = .ok (.newarray .int, 2) := by decide +kernel
set_option maxRecDepth 100000 in
def oX12_inits0 : List dLf := [(0, .aload_n 0, 1), (1, .invokespecial 1, 3), (4, .aload_n 0, 1), (5, .sipush 1000, 3)]
set_option maxRecDepth 100000 in
theorem odX12_inits0 : ∀ q ∈ oX12_inits0, decode cX12_init q.1 = .ok (q.2.1, q.2.2) := q_go qT_ok bbX12_init oX12_inits0 0 (by decide +kernel)
set_option maxRecDepth 100000 in
def oX12_inits2 : List dLf := [(10, .putfield 7, 3), (13, .aload_n 0, 1), (14, .iconst (-1), 1), (15, .putfield 13, 3), (18, .aload_n 0, 1), (19, .bipush 8, 2)]
set_option maxRecDepth 100000 in
theorem odX12_inits2 : ∀ q ∈ oX12_inits2, decode cX12_init q.1 = .ok (q.2.1, q.2.2) := q_go qT_ok bbX12_init oX12_inits2 10 (by decide +kernel)
set_option maxRecDepth 100000 in
def oX12_inits4 : List dLf := [(23, .putfield 17, 3), (26, .aload_n 0, 1), (27, .sipush 363, 3)]
set_option maxRecDepth 100000 in
theorem odX12_inits4 : ∀ q ∈ oX12_inits4, decode cX12_init q.1 = .ok (q.2.1, q.2.2) := q_go qT_ok bbX12_init oX12_inits4 23 (by decide +kernel)
set_option maxRecDepth 100000 in
def oX12_inits6 : List dLf := [(32, .putfield 20, 3), (35, .aload_n 0, 1), (36, .sipush 363, 3)]
set_option maxRecDepth 100000 in
theorem odX12_inits6 : ∀ q ∈ oX12_inits6, decode cX12_init q.1 = .ok (q.2.1, q.2.2) := q_go qT_ok bbX12_init oX12_inits6 32 (by decide +kernel)
set_option maxRecDepth 100000 in
def oX12_inits8 : List dLf := [(41, .putfield 23, 3), (44, .aload_n 0, 1), (45, .bipush 76, 2)]
set_option maxRecDepth 100000 in
theorem odX12_inits8 : ∀ q ∈ oX12_inits8, decode cX12_init q.1 = .ok (q.2.1, q.2.2) := q_go qT_ok bbX12_init oX12_inits8 41 (by decide +kernel)
set_option maxRecDepth 100000 in
def oX12_inits10 : List dLf := [(49, .putfield 26, 3), (52, .aload_n 0, 1), (53, .sipush 912, 3)]
set_option maxRecDepth 100000 in
theorem odX12_inits10 : ∀ q ∈ oX12_inits10, decode cX12_init q.1 = .ok (q.2.1, q.2.2) := q_go qT_ok bbX12_init oX12_inits10 49 (by decide +kernel)
set_option maxRecDepth 100000 in
def oX12_inits12 : List dLf := [(58, .putfield 29, 3), (61, .aload_n 0, 1), (62, .sipush 228, 3)]
set_option maxRecDepth 100000 in
theorem odX12_inits12 : ∀ q ∈ oX12_inits12, decode cX12_init q.1 = .ok (q.2.1, q.2.2) := q_go qT_ok bbX12_init oX12_inits12 58 (by decide +kernel)
set_option maxRecDepth 100000 in
def oX12_inits14 : List dLf := [(67, .putfield 32, 3), (70, .aload_n 0, 1), (71, .sipush 3200, 3)]
set_option maxRecDepth 100000 in
theorem odX12_inits14 : ∀ q ∈ oX12_inits14, decode cX12_init q.1 = .ok (q.2.1, q.2.2) := q_go qT_ok bbX12_init oX12_inits14 67 (by decide +kernel)
set_option maxRecDepth 100000 in
def oX12_inits16 : List dLf := [(76, .putfield 35, 3), (79, .aload_n 0, 1), (80, .bipush 7, 2)]
set_option maxRecDepth 100000 in
theorem odX12_inits16 : ∀ q ∈ oX12_inits16, decode cX12_init q.1 = .ok (q.2.1, q.2.2) := q_go qT_ok bbX12_init oX12_inits16 76 (by decide +kernel)
set_option maxRecDepth 100000 in
def oX12_inits18 : List dLf := [(84, .putfield 38, 3), (87, .aload_n 0, 1), (88, .bipush 7, 2)]
set_option maxRecDepth 100000 in
theorem odX12_inits18 : ∀ q ∈ oX12_inits18, decode cX12_init q.1 = .ok (q.2.1, q.2.2) := q_go qT_ok bbX12_init oX12_inits18 84 (by decide +kernel)
set_option maxRecDepth 100000 in
def oX12_inits20 : List dLf := [(92, .putfield 41, 3), (95, .aload_n 0, 1), (96, .bipush 8, 2)]
set_option maxRecDepth 100000 in
theorem odX12_inits20 : ∀ q ∈ oX12_inits20, decode cX12_init q.1 = .ok (q.2.1, q.2.2) := q_go qT_ok bbX12_init oX12_inits20 92 (by decide +kernel)
set_option maxRecDepth 100000 in
def oX12_inits22 : List dLf := [(100, .putfield 44, 3), (103, .aload_n 0, 1), (104, .bipush 8, 2)]
set_option maxRecDepth 100000 in
theorem odX12_inits22 : ∀ q ∈ oX12_inits22, decode cX12_init q.1 = .ok (q.2.1, q.2.2) := q_go qT_ok bbX12_init oX12_inits22 100 (by decide +kernel)
set_option maxRecDepth 100000 in
def oX12_inits24 : List dLf := [(108, .putfield 47, 3), (111, .aload_n 0, 1), (112, .bipush 40, 2)]
set_option maxRecDepth 100000 in
theorem odX12_inits24 : ∀ q ∈ oX12_inits24, decode cX12_init q.1 = .ok (q.2.1, q.2.2) := q_go qT_ok bbX12_init oX12_inits24 108 (by decide +kernel)
set_option maxRecDepth 100000 in
def oX12_inits26 : List dLf := [(116, .putfield 50, 3), (119, .aload_n 0, 1), (120, .bipush 49, 2)]
set_option maxRecDepth 100000 in
theorem odX12_inits26 : ∀ q ∈ oX12_inits26, decode cX12_init q.1 = .ok (q.2.1, q.2.2) := q_go qT_ok bbX12_init oX12_inits26 116 (by decide +kernel)
set_option maxRecDepth 100000 in
def oX12_inits28 : List dLf := [(124, .putfield 53, 3), (127, .aload_n 0, 1), (128, .bipush 7, 2)]
set_option maxRecDepth 100000 in
theorem odX12_inits28 : ∀ q ∈ oX12_inits28, decode cX12_init q.1 = .ok (q.2.1, q.2.2) := q_go qT_ok bbX12_init oX12_inits28 124 (by decide +kernel)
set_option maxRecDepth 100000 in
def oX12_inits30 : List dLf := [(132, .putfield 56, 3), (135, .aload_n 0, 1), (136, .bipush 7, 2)]
set_option maxRecDepth 100000 in
theorem odX12_inits30 : ∀ q ∈ oX12_inits30, decode cX12_init q.1 = .ok (q.2.1, q.2.2) := q_go qT_ok bbX12_init oX12_inits30 132 (by decide +kernel)
set_option maxRecDepth 100000 in
def oX12_inits32 : List dLf := [(140, .putfield 59, 3), (143, .return_, 1)]
set_option maxRecDepth 100000 in
theorem odX12_inits32 : ∀ q ∈ oX12_inits32, decode cX12_init q.1 = .ok (q.2.1, q.2.2) := q_go qT_ok bbX12_init oX12_inits32 140 (by decide +kernel)
set_option maxRecDepth 100000 in
def oX12_init : List dLf := [(0, .aload_n 0, 1), (1, .invokespecial 1, 3), (4, .aload_n 0, 1), (5, .sipush 1000, 3), (8, .newarray .int, 2), (10, .putfield 7, 3), (13, .aload_n 0, 1), (14, .iconst (-1), 1), (15, .putfield 13, 3), (18, .aload_n 0, 1), (19, .bipush 8, 2), (21, .newarray .int, 2), (23, .putfield 17, 3), (26, .aload_n 0, 1), (27, .sipush 363, 3), (30, .newarray .int, 2), (32, .putfield 20, 3), (35, .aload_n 0, 1), (36, .sipush 363, 3), (39, .newarray .int, 2), (41, .putfield 23, 3), (44, .aload_n 0, 1), (45, .bipush 76, 2), (47, .newarray .int, 2), (49, .putfield 26, 3), (52, .aload_n 0, 1), (53, .sipush 912, 3), (56, .newarray .int, 2), (58, .putfield 29, 3), (61, .aload_n 0, 1), (62, .sipush 228, 3), (65, .newarray .int, 2), (67, .putfield 32, 3), (70, .aload_n 0, 1), (71, .sipush 3200, 3), (74, .newarray .int, 2), (76, .putfield 35, 3), (79, .aload_n 0, 1), (80, .bipush 7, 2), (82, .newarray .int, 2), (84, .putfield 38, 3), (87, .aload_n 0, 1), (88, .bipush 7, 2), (90, .newarray .int, 2), (92, .putfield 41, 3), (95, .aload_n 0, 1), (96, .bipush 8, 2), (98, .newarray .int, 2), (100, .putfield 44, 3), (103, .aload_n 0, 1), (104, .bipush 8, 2), (106, .newarray .int, 2), (108, .putfield 47, 3), (111, .aload_n 0, 1), (112, .bipush 40, 2), (114, .newarray .int, 2), (116, .putfield 50, 3), (119, .aload_n 0, 1), (120, .bipush 49, 2), (122, .newarray .int, 2), (124, .putfield 53, 3), (127, .aload_n 0, 1), (128, .bipush 7, 2), (130, .newarray .int, 2), (132, .putfield 56, 3), (135, .aload_n 0, 1), (136, .bipush 7, 2), (138, .newarray .int, 2), (140, .putfield 59, 3), (143, .return_, 1)]
set_option maxRecDepth 100000 in
theorem odX12_init : ∀ q ∈ oX12_init, decode cX12_init q.1 = .ok (q.2.1, q.2.2) := by
  have e : oX12_init = oX12_inits0 ++ ([(8, .newarray .int, 2)] ++ (oX12_inits2 ++ ([(21, .newarray .int, 2)] ++ (oX12_inits4 ++ ([(30, .newarray .int, 2)] ++ (oX12_inits6 ++ ([(39, .newarray .int, 2)] ++ (oX12_inits8 ++ ([(47, .newarray .int, 2)] ++ (oX12_inits10 ++ ([(56, .newarray .int, 2)] ++ (oX12_inits12 ++ ([(65, .newarray .int, 2)] ++ (oX12_inits14 ++ ([(74, .newarray .int, 2)] ++ (oX12_inits16 ++ ([(82, .newarray .int, 2)] ++ (oX12_inits18 ++ ([(90, .newarray .int, 2)] ++ (oX12_inits20 ++ ([(98, .newarray .int, 2)] ++ (oX12_inits22 ++ ([(106, .newarray .int, 2)] ++ (oX12_inits24 ++ ([(114, .newarray .int, 2)] ++ (oX12_inits26 ++ ([(122, .newarray .int, 2)] ++ (oX12_inits28 ++ ([(130, .newarray .int, 2)] ++ (oX12_inits30 ++ ([(138, .newarray .int, 2)] ++ (oX12_inits32)))))))))))))))))))))))))))))))) := rfl
  rw [e]
  exact List.forall_mem_append.mpr ⟨odX12_inits0, List.forall_mem_append.mpr ⟨(List.forall_mem_singleton.mpr eX12_init_8), List.forall_mem_append.mpr ⟨odX12_inits2, List.forall_mem_append.mpr ⟨(List.forall_mem_singleton.mpr eX12_init_21), List.forall_mem_append.mpr ⟨odX12_inits4, List.forall_mem_append.mpr ⟨(List.forall_mem_singleton.mpr eX12_init_30), List.forall_mem_append.mpr ⟨odX12_inits6, List.forall_mem_append.mpr ⟨(List.forall_mem_singleton.mpr eX12_init_39), List.forall_mem_append.mpr ⟨odX12_inits8, List.forall_mem_append.mpr ⟨(List.forall_mem_singleton.mpr eX12_init_47), List.forall_mem_append.mpr ⟨odX12_inits10, List.forall_mem_append.mpr ⟨(List.forall_mem_singleton.mpr eX12_init_56), List.forall_mem_append.mpr ⟨odX12_inits12, List.forall_mem_append.mpr ⟨(List.forall_mem_singleton.mpr eX12_init_65), List.forall_mem_append.mpr ⟨odX12_inits14, List.forall_mem_append.mpr ⟨(List.forall_mem_singleton.mpr eX12_init_74), List.forall_mem_append.mpr ⟨odX12_inits16, List.forall_mem_append.mpr ⟨(List.forall_mem_singleton.mpr eX12_init_82), List.forall_mem_append.mpr ⟨odX12_inits18, List.forall_mem_append.mpr ⟨(List.forall_mem_singleton.mpr eX12_init_90), List.forall_mem_append.mpr ⟨odX12_inits20, List.forall_mem_append.mpr ⟨(List.forall_mem_singleton.mpr eX12_init_98), List.forall_mem_append.mpr ⟨odX12_inits22, List.forall_mem_append.mpr ⟨(List.forall_mem_singleton.mpr eX12_init_106), List.forall_mem_append.mpr ⟨odX12_inits24, List.forall_mem_append.mpr ⟨(List.forall_mem_singleton.mpr eX12_init_114), List.forall_mem_append.mpr ⟨odX12_inits26, List.forall_mem_append.mpr ⟨(List.forall_mem_singleton.mpr eX12_init_122), List.forall_mem_append.mpr ⟨odX12_inits28, List.forall_mem_append.mpr ⟨(List.forall_mem_singleton.mpr eX12_init_130), List.forall_mem_append.mpr ⟨odX12_inits30, List.forall_mem_append.mpr ⟨(List.forall_mem_singleton.mpr eX12_init_138), odX12_inits32⟩⟩⟩⟩⟩⟩⟩⟩⟩⟩⟩⟩⟩⟩⟩⟩⟩⟩⟩⟩⟩⟩⟩⟩⟩⟩⟩⟩⟩⟩⟩⟩
set_option maxRecDepth 100000 in
def tX12_init : Lean.RArray dLf := .branch 74 (.branch 35 (.branch 15 (.branch 8 (.branch 4 (.branch 1 (.leaf (0, .aload_n 0, 1)) (.leaf (1, .invokespecial 1, 3))) (.branch 5 (.leaf (4, .aload_n 0, 1)) (.leaf (5, .sipush 1000, 3)))) (.branch 13 (.branch 10 (.leaf (8, .newarray .int, 2)) (.leaf (10, .putfield 7, 3))) (.branch 14 (.leaf (13, .aload_n 0, 1)) (.leaf (14, .iconst (-1), 1))))) (.branch 23 (.branch 19 (.branch 18 (.leaf (15, .putfield 13, 3)) (.leaf (18, .aload_n 0, 1))) (.branch 21 (.leaf (19, .bipush 8, 2)) (.leaf (21, .newarray .int, 2)))) (.branch 27 (.branch 26 (.leaf (23, .putfield 17, 3)) (.leaf (26, .aload_n 0, 1))) (.branch 30 (.leaf (27, .sipush 363, 3)) (.branch 32 (.leaf (30, .newarray .int, 2)) (.leaf (32, .putfield 20, 3))))))) (.branch 53 (.branch 44 (.branch 39 (.branch 36 (.leaf (35, .aload_n 0, 1)) (.leaf (36, .sipush 363, 3))) (.branch 41 (.leaf (39, .newarray .int, 2)) (.leaf (41, .putfield 23, 3)))) (.branch 47 (.branch 45 (.leaf (44, .aload_n 0, 1)) (.leaf (45, .bipush 76, 2))) (.branch 49 (.leaf (47, .newarray .int, 2)) (.branch 52 (.leaf (49, .putfield 26, 3)) (.leaf (52, .aload_n 0, 1)))))) (.branch 62 (.branch 58 (.branch 56 (.leaf (53, .sipush 912, 3)) (.leaf (56, .newarray .int, 2))) (.branch 61 (.leaf (58, .putfield 29, 3)) (.leaf (61, .aload_n 0, 1)))) (.branch 67 (.branch 65 (.leaf (62, .sipush 228, 3)) (.leaf (65, .newarray .int, 2))) (.branch 70 (.leaf (67, .putfield 32, 3)) (.branch 71 (.leaf (70, .aload_n 0, 1)) (.leaf (71, .sipush 3200, 3)))))))) (.branch 108 (.branch 90 (.branch 82 (.branch 79 (.branch 76 (.leaf (74, .newarray .int, 2)) (.leaf (76, .putfield 35, 3))) (.branch 80 (.leaf (79, .aload_n 0, 1)) (.leaf (80, .bipush 7, 2)))) (.branch 87 (.branch 84 (.leaf (82, .newarray .int, 2)) (.leaf (84, .putfield 38, 3))) (.branch 88 (.leaf (87, .aload_n 0, 1)) (.leaf (88, .bipush 7, 2))))) (.branch 98 (.branch 95 (.branch 92 (.leaf (90, .newarray .int, 2)) (.leaf (92, .putfield 41, 3))) (.branch 96 (.leaf (95, .aload_n 0, 1)) (.leaf (96, .bipush 8, 2)))) (.branch 103 (.branch 100 (.leaf (98, .newarray .int, 2)) (.leaf (100, .putfield 44, 3))) (.branch 104 (.leaf (103, .aload_n 0, 1)) (.branch 106 (.leaf (104, .bipush 8, 2)) (.leaf (106, .newarray .int, 2))))))) (.branch 127 (.branch 116 (.branch 112 (.branch 111 (.leaf (108, .putfield 47, 3)) (.leaf (111, .aload_n 0, 1))) (.branch 114 (.leaf (112, .bipush 40, 2)) (.leaf (114, .newarray .int, 2)))) (.branch 120 (.branch 119 (.leaf (116, .putfield 50, 3)) (.leaf (119, .aload_n 0, 1))) (.branch 122 (.leaf (120, .bipush 49, 2)) (.branch 124 (.leaf (122, .newarray .int, 2)) (.leaf (124, .putfield 53, 3)))))) (.branch 135 (.branch 130 (.branch 128 (.leaf (127, .aload_n 0, 1)) (.leaf (128, .bipush 7, 2))) (.branch 132 (.leaf (130, .newarray .int, 2)) (.leaf (132, .putfield 56, 3)))) (.branch 138 (.branch 136 (.leaf (135, .aload_n 0, 1)) (.leaf (136, .bipush 7, 2))) (.branch 140 (.leaf (138, .newarray .int, 2)) (.branch 143 (.leaf (140, .putfield 59, 3)) (.leaf (143, .return_, 1))))))))
set_option maxRecDepth 100000 in
theorem ofX12_init : dFl tX12_init = oX12_init := rfl
theorem dX12_init_0 : decode cX12_init 0 = .ok (.aload_n 0, 1) := d_by (d_at odX12_init ofX12_init 0) rfl
theorem dX12_init_1 : decode cX12_init 1 = .ok (.invokespecial 1, 3) := d_by (d_at odX12_init ofX12_init 1) rfl
theorem dX12_init_4 : decode cX12_init 4 = .ok (.aload_n 0, 1) := d_by (d_at odX12_init ofX12_init 4) rfl
theorem dX12_init_5 : decode cX12_init 5 = .ok (.sipush 1000, 3) := d_by (d_at odX12_init ofX12_init 5) rfl
theorem dX12_init_8 : decode cX12_init 8 = .ok (.newarray .int, 2) := d_by (d_at odX12_init ofX12_init 8) rfl
theorem dX12_init_10 : decode cX12_init 10 = .ok (.putfield 7, 3) := d_by (d_at odX12_init ofX12_init 10) rfl
theorem dX12_init_13 : decode cX12_init 13 = .ok (.aload_n 0, 1) := d_by (d_at odX12_init ofX12_init 13) rfl
theorem dX12_init_14 : decode cX12_init 14 = .ok (.iconst (-1), 1) := d_by (d_at odX12_init ofX12_init 14) rfl
theorem dX12_init_15 : decode cX12_init 15 = .ok (.putfield 13, 3) := d_by (d_at odX12_init ofX12_init 15) rfl
theorem dX12_init_18 : decode cX12_init 18 = .ok (.aload_n 0, 1) := d_by (d_at odX12_init ofX12_init 18) rfl
theorem dX12_init_19 : decode cX12_init 19 = .ok (.bipush 8, 2) := d_by (d_at odX12_init ofX12_init 19) rfl
theorem dX12_init_21 : decode cX12_init 21 = .ok (.newarray .int, 2) := d_by (d_at odX12_init ofX12_init 21) rfl
theorem dX12_init_23 : decode cX12_init 23 = .ok (.putfield 17, 3) := d_by (d_at odX12_init ofX12_init 23) rfl
theorem dX12_init_26 : decode cX12_init 26 = .ok (.aload_n 0, 1) := d_by (d_at odX12_init ofX12_init 26) rfl
theorem dX12_init_27 : decode cX12_init 27 = .ok (.sipush 363, 3) := d_by (d_at odX12_init ofX12_init 27) rfl
theorem dX12_init_30 : decode cX12_init 30 = .ok (.newarray .int, 2) := d_by (d_at odX12_init ofX12_init 30) rfl
theorem dX12_init_32 : decode cX12_init 32 = .ok (.putfield 20, 3) := d_by (d_at odX12_init ofX12_init 32) rfl
theorem dX12_init_35 : decode cX12_init 35 = .ok (.aload_n 0, 1) := d_by (d_at odX12_init ofX12_init 35) rfl
theorem dX12_init_36 : decode cX12_init 36 = .ok (.sipush 363, 3) := d_by (d_at odX12_init ofX12_init 36) rfl
theorem dX12_init_39 : decode cX12_init 39 = .ok (.newarray .int, 2) := d_by (d_at odX12_init ofX12_init 39) rfl
theorem dX12_init_41 : decode cX12_init 41 = .ok (.putfield 23, 3) := d_by (d_at odX12_init ofX12_init 41) rfl
theorem dX12_init_44 : decode cX12_init 44 = .ok (.aload_n 0, 1) := d_by (d_at odX12_init ofX12_init 44) rfl
theorem dX12_init_45 : decode cX12_init 45 = .ok (.bipush 76, 2) := d_by (d_at odX12_init ofX12_init 45) rfl
theorem dX12_init_47 : decode cX12_init 47 = .ok (.newarray .int, 2) := d_by (d_at odX12_init ofX12_init 47) rfl
theorem dX12_init_49 : decode cX12_init 49 = .ok (.putfield 26, 3) := d_by (d_at odX12_init ofX12_init 49) rfl
theorem dX12_init_52 : decode cX12_init 52 = .ok (.aload_n 0, 1) := d_by (d_at odX12_init ofX12_init 52) rfl
theorem dX12_init_53 : decode cX12_init 53 = .ok (.sipush 912, 3) := d_by (d_at odX12_init ofX12_init 53) rfl
theorem dX12_init_56 : decode cX12_init 56 = .ok (.newarray .int, 2) := d_by (d_at odX12_init ofX12_init 56) rfl
theorem dX12_init_58 : decode cX12_init 58 = .ok (.putfield 29, 3) := d_by (d_at odX12_init ofX12_init 58) rfl
theorem dX12_init_61 : decode cX12_init 61 = .ok (.aload_n 0, 1) := d_by (d_at odX12_init ofX12_init 61) rfl
theorem dX12_init_62 : decode cX12_init 62 = .ok (.sipush 228, 3) := d_by (d_at odX12_init ofX12_init 62) rfl
theorem dX12_init_65 : decode cX12_init 65 = .ok (.newarray .int, 2) := d_by (d_at odX12_init ofX12_init 65) rfl
theorem dX12_init_67 : decode cX12_init 67 = .ok (.putfield 32, 3) := d_by (d_at odX12_init ofX12_init 67) rfl
theorem dX12_init_70 : decode cX12_init 70 = .ok (.aload_n 0, 1) := d_by (d_at odX12_init ofX12_init 70) rfl
theorem dX12_init_71 : decode cX12_init 71 = .ok (.sipush 3200, 3) := d_by (d_at odX12_init ofX12_init 71) rfl
theorem dX12_init_74 : decode cX12_init 74 = .ok (.newarray .int, 2) := d_by (d_at odX12_init ofX12_init 74) rfl
theorem dX12_init_76 : decode cX12_init 76 = .ok (.putfield 35, 3) := d_by (d_at odX12_init ofX12_init 76) rfl
theorem dX12_init_79 : decode cX12_init 79 = .ok (.aload_n 0, 1) := d_by (d_at odX12_init ofX12_init 79) rfl
theorem dX12_init_80 : decode cX12_init 80 = .ok (.bipush 7, 2) := d_by (d_at odX12_init ofX12_init 80) rfl
theorem dX12_init_82 : decode cX12_init 82 = .ok (.newarray .int, 2) := d_by (d_at odX12_init ofX12_init 82) rfl
theorem dX12_init_84 : decode cX12_init 84 = .ok (.putfield 38, 3) := d_by (d_at odX12_init ofX12_init 84) rfl
theorem dX12_init_87 : decode cX12_init 87 = .ok (.aload_n 0, 1) := d_by (d_at odX12_init ofX12_init 87) rfl
theorem dX12_init_88 : decode cX12_init 88 = .ok (.bipush 7, 2) := d_by (d_at odX12_init ofX12_init 88) rfl
theorem dX12_init_90 : decode cX12_init 90 = .ok (.newarray .int, 2) := d_by (d_at odX12_init ofX12_init 90) rfl
theorem dX12_init_92 : decode cX12_init 92 = .ok (.putfield 41, 3) := d_by (d_at odX12_init ofX12_init 92) rfl
theorem dX12_init_95 : decode cX12_init 95 = .ok (.aload_n 0, 1) := d_by (d_at odX12_init ofX12_init 95) rfl
theorem dX12_init_96 : decode cX12_init 96 = .ok (.bipush 8, 2) := d_by (d_at odX12_init ofX12_init 96) rfl
theorem dX12_init_98 : decode cX12_init 98 = .ok (.newarray .int, 2) := d_by (d_at odX12_init ofX12_init 98) rfl
theorem dX12_init_100 : decode cX12_init 100 = .ok (.putfield 44, 3) := d_by (d_at odX12_init ofX12_init 100) rfl
theorem dX12_init_103 : decode cX12_init 103 = .ok (.aload_n 0, 1) := d_by (d_at odX12_init ofX12_init 103) rfl
theorem dX12_init_104 : decode cX12_init 104 = .ok (.bipush 8, 2) := d_by (d_at odX12_init ofX12_init 104) rfl
theorem dX12_init_106 : decode cX12_init 106 = .ok (.newarray .int, 2) := d_by (d_at odX12_init ofX12_init 106) rfl
theorem dX12_init_108 : decode cX12_init 108 = .ok (.putfield 47, 3) := d_by (d_at odX12_init ofX12_init 108) rfl
theorem dX12_init_111 : decode cX12_init 111 = .ok (.aload_n 0, 1) := d_by (d_at odX12_init ofX12_init 111) rfl
theorem dX12_init_112 : decode cX12_init 112 = .ok (.bipush 40, 2) := d_by (d_at odX12_init ofX12_init 112) rfl
theorem dX12_init_114 : decode cX12_init 114 = .ok (.newarray .int, 2) := d_by (d_at odX12_init ofX12_init 114) rfl
theorem dX12_init_116 : decode cX12_init 116 = .ok (.putfield 50, 3) := d_by (d_at odX12_init ofX12_init 116) rfl
theorem dX12_init_119 : decode cX12_init 119 = .ok (.aload_n 0, 1) := d_by (d_at odX12_init ofX12_init 119) rfl
theorem dX12_init_120 : decode cX12_init 120 = .ok (.bipush 49, 2) := d_by (d_at odX12_init ofX12_init 120) rfl
theorem dX12_init_122 : decode cX12_init 122 = .ok (.newarray .int, 2) := d_by (d_at odX12_init ofX12_init 122) rfl
theorem dX12_init_124 : decode cX12_init 124 = .ok (.putfield 53, 3) := d_by (d_at odX12_init ofX12_init 124) rfl
theorem dX12_init_127 : decode cX12_init 127 = .ok (.aload_n 0, 1) := d_by (d_at odX12_init ofX12_init 127) rfl
theorem dX12_init_128 : decode cX12_init 128 = .ok (.bipush 7, 2) := d_by (d_at odX12_init ofX12_init 128) rfl
theorem dX12_init_130 : decode cX12_init 130 = .ok (.newarray .int, 2) := d_by (d_at odX12_init ofX12_init 130) rfl
theorem dX12_init_132 : decode cX12_init 132 = .ok (.putfield 56, 3) := d_by (d_at odX12_init ofX12_init 132) rfl
theorem dX12_init_135 : decode cX12_init 135 = .ok (.aload_n 0, 1) := d_by (d_at odX12_init ofX12_init 135) rfl
theorem dX12_init_136 : decode cX12_init 136 = .ok (.bipush 7, 2) := d_by (d_at odX12_init ofX12_init 136) rfl
theorem dX12_init_138 : decode cX12_init 138 = .ok (.newarray .int, 2) := d_by (d_at odX12_init ofX12_init 138) rfl
theorem dX12_init_140 : decode cX12_init 140 = .ok (.putfield 59, 3) := d_by (d_at odX12_init ofX12_init 140) rfl
theorem dX12_init_143 : decode cX12_init 143 = .ok (.return_, 1) := d_by (d_at odX12_init ofX12_init 143) rfl
set_option maxRecDepth 100000 in
def bX12_good : List Nat := [42, 3, 181, 0, 62, 42, 3, 181, 0, 65, 177]
set_option maxRecDepth 100000 in
theorem bbX12_good : cX12_good.data.toList.map UInt8.toNat = bX12_good := by decide +kernel
set_option maxRecDepth 100000 in
def tX12_good : Lean.RArray dLf := .branch 5 (.branch 1 (.leaf (0, .aload_n 0, 1)) (.branch 2 (.leaf (1, .iconst 0, 1)) (.leaf (2, .putfield 62, 3)))) (.branch 7 (.branch 6 (.leaf (5, .aload_n 0, 1)) (.leaf (6, .iconst 0, 1))) (.branch 10 (.leaf (7, .putfield 65, 3)) (.leaf (10, .return_, 1))))
noncomputable def oX12_good : List dLf := dFl tX12_good
theorem ofX12_good : dFl tX12_good = oX12_good := rfl
set_option maxRecDepth 100000 in
theorem odX12_good : ∀ q ∈ oX12_good, decode cX12_good q.1 = .ok (q.2.1, q.2.2) := q_go qT_ok bbX12_good oX12_good 0 (by decide +kernel)
theorem dX12_good_0 : decode cX12_good 0 = .ok (.aload_n 0, 1) := d_by (d_at odX12_good ofX12_good 0) rfl
theorem dX12_good_1 : decode cX12_good 1 = .ok (.iconst 0, 1) := d_by (d_at odX12_good ofX12_good 1) rfl
theorem dX12_good_2 : decode cX12_good 2 = .ok (.putfield 62, 3) := d_by (d_at odX12_good ofX12_good 2) rfl
theorem dX12_good_5 : decode cX12_good 5 = .ok (.aload_n 0, 1) := d_by (d_at odX12_good ofX12_good 5) rfl
theorem dX12_good_6 : decode cX12_good 6 = .ok (.iconst 0, 1) := d_by (d_at odX12_good ofX12_good 6) rfl
theorem dX12_good_7 : decode cX12_good 7 = .ok (.putfield 65, 3) := d_by (d_at odX12_good ofX12_good 7) rfl
theorem dX12_good_10 : decode cX12_good 10 = .ok (.return_, 1) := d_by (d_at odX12_good ofX12_good 10) rfl
set_option maxRecDepth 100000 in
def bX12_no : List Nat := [42, 27, 181, 0, 65, 2, 172]
set_option maxRecDepth 100000 in
theorem bbX12_no : cX12_no.data.toList.map UInt8.toNat = bX12_no := by decide +kernel
set_option maxRecDepth 100000 in
def tX12_no : Lean.RArray dLf := .branch 2 (.branch 1 (.leaf (0, .aload_n 0, 1)) (.leaf (1, .iload_n 1, 1))) (.branch 5 (.leaf (2, .putfield 65, 3)) (.branch 6 (.leaf (5, .iconst (-1), 1)) (.leaf (6, .ireturn, 1))))
noncomputable def oX12_no : List dLf := dFl tX12_no
theorem ofX12_no : dFl tX12_no = oX12_no := rfl
set_option maxRecDepth 100000 in
theorem odX12_no : ∀ q ∈ oX12_no, decode cX12_no q.1 = .ok (q.2.1, q.2.2) := q_go qT_ok bbX12_no oX12_no 0 (by decide +kernel)
theorem dX12_no_0 : decode cX12_no 0 = .ok (.aload_n 0, 1) := d_by (d_at odX12_no ofX12_no 0) rfl
theorem dX12_no_1 : decode cX12_no 1 = .ok (.iload_n 1, 1) := d_by (d_at odX12_no ofX12_no 1) rfl
theorem dX12_no_2 : decode cX12_no 2 = .ok (.putfield 65, 3) := d_by (d_at odX12_no ofX12_no 2) rfl
theorem dX12_no_5 : decode cX12_no 5 = .ok (.iconst (-1), 1) := d_by (d_at odX12_no ofX12_no 5) rfl
theorem dX12_no_6 : decode cX12_no 6 = .ok (.ireturn, 1) := d_by (d_at odX12_no ofX12_no 6) rfl
set_option maxRecDepth 100000 in
def bX12_isNot : List Nat := [42, 27, 181, 0, 65, 3, 172]
set_option maxRecDepth 100000 in
theorem bbX12_isNot : cX12_isNot.data.toList.map UInt8.toNat = bX12_isNot := by decide +kernel
set_option maxRecDepth 100000 in
def tX12_isNot : Lean.RArray dLf := .branch 2 (.branch 1 (.leaf (0, .aload_n 0, 1)) (.leaf (1, .iload_n 1, 1))) (.branch 5 (.leaf (2, .putfield 65, 3)) (.branch 6 (.leaf (5, .iconst 0, 1)) (.leaf (6, .ireturn, 1))))
noncomputable def oX12_isNot : List dLf := dFl tX12_isNot
theorem ofX12_isNot : dFl tX12_isNot = oX12_isNot := rfl
set_option maxRecDepth 100000 in
theorem odX12_isNot : ∀ q ∈ oX12_isNot, decode cX12_isNot q.1 = .ok (q.2.1, q.2.2) := q_go qT_ok bbX12_isNot oX12_isNot 0 (by decide +kernel)
theorem dX12_isNot_0 : decode cX12_isNot 0 = .ok (.aload_n 0, 1) := d_by (d_at odX12_isNot ofX12_isNot 0) rfl
theorem dX12_isNot_1 : decode cX12_isNot 1 = .ok (.iload_n 1, 1) := d_by (d_at odX12_isNot ofX12_isNot 1) rfl
theorem dX12_isNot_2 : decode cX12_isNot 2 = .ok (.putfield 65, 3) := d_by (d_at odX12_isNot ofX12_isNot 2) rfl
theorem dX12_isNot_5 : decode cX12_isNot 5 = .ok (.iconst 0, 1) := d_by (d_at odX12_isNot ofX12_isNot 5) rfl
theorem dX12_isNot_6 : decode cX12_isNot 6 = .ok (.ireturn, 1) := d_by (d_at odX12_isNot ofX12_isNot 6) rfl
set_option maxRecDepth 100000 in
def bX12_in : List Nat := [26, 27, 161, 0, 12, 26, 28, 163, 0, 7, 4, 167, 0, 4, 3, 172]
set_option maxRecDepth 100000 in
theorem bbX12_in : cX12_in.data.toList.map UInt8.toNat = bX12_in := by decide +kernel
set_option maxRecDepth 100000 in
def tX12_in : Lean.RArray dLf := .branch 7 (.branch 2 (.branch 1 (.leaf (0, .iload_n 0, 1)) (.leaf (1, .iload_n 1, 1))) (.branch 5 (.leaf (2, .if_icmp .lt 12, 3)) (.branch 6 (.leaf (5, .iload_n 0, 1)) (.leaf (6, .iload_n 2, 1))))) (.branch 11 (.branch 10 (.leaf (7, .if_icmp .gt 7, 3)) (.leaf (10, .iconst 1, 1))) (.branch 14 (.leaf (11, .goto 4, 3)) (.branch 15 (.leaf (14, .iconst 0, 1)) (.leaf (15, .ireturn, 1)))))
noncomputable def oX12_in : List dLf := dFl tX12_in
theorem ofX12_in : dFl tX12_in = oX12_in := rfl
set_option maxRecDepth 100000 in
theorem odX12_in : ∀ q ∈ oX12_in, decode cX12_in q.1 = .ok (q.2.1, q.2.2) := q_go qT_ok bbX12_in oX12_in 0 (by decide +kernel)
theorem dX12_in_0 : decode cX12_in 0 = .ok (.iload_n 0, 1) := d_by (d_at odX12_in ofX12_in 0) rfl
theorem dX12_in_1 : decode cX12_in 1 = .ok (.iload_n 1, 1) := d_by (d_at odX12_in ofX12_in 1) rfl
theorem dX12_in_2 : decode cX12_in 2 = .ok (.if_icmp .lt 12, 3) := d_by (d_at odX12_in ofX12_in 2) rfl
theorem dX12_in_5 : decode cX12_in 5 = .ok (.iload_n 0, 1) := d_by (d_at odX12_in ofX12_in 5) rfl
theorem dX12_in_6 : decode cX12_in 6 = .ok (.iload_n 2, 1) := d_by (d_at odX12_in ofX12_in 6) rfl
theorem dX12_in_7 : decode cX12_in 7 = .ok (.if_icmp .gt 7, 3) := d_by (d_at odX12_in ofX12_in 7) rfl
theorem dX12_in_10 : decode cX12_in 10 = .ok (.iconst 1, 1) := d_by (d_at odX12_in ofX12_in 10) rfl
theorem dX12_in_11 : decode cX12_in 11 = .ok (.goto 4, 3) := d_by (d_at odX12_in ofX12_in 11) rfl
theorem dX12_in_14 : decode cX12_in 14 = .ok (.iconst 0, 1) := d_by (d_at odX12_in ofX12_in 14) rfl
theorem dX12_in_15 : decode cX12_in 15 = .ok (.ireturn, 1) := d_by (d_at odX12_in ofX12_in 15) rfl
set_option maxRecDepth 100000 in
def bX12_hasBit : List Nat := [26, 27, 122, 4, 126, 4, 160, 0, 7, 4, 167, 0, 4, 3, 172]
set_option maxRecDepth 100000 in
theorem bbX12_hasBit : cX12_hasBit.data.toList.map UInt8.toNat = bX12_hasBit := by decide +kernel
set_option maxRecDepth 100000 in
def tX12_hasBit : Lean.RArray dLf := .branch 5 (.branch 2 (.branch 1 (.leaf (0, .iload_n 0, 1)) (.leaf (1, .iload_n 1, 1))) (.branch 3 (.leaf (2, .ishr, 1)) (.branch 4 (.leaf (3, .iconst 1, 1)) (.leaf (4, .iand, 1))))) (.branch 10 (.branch 6 (.leaf (5, .iconst 1, 1)) (.branch 9 (.leaf (6, .if_icmp .ne 7, 3)) (.leaf (9, .iconst 1, 1)))) (.branch 13 (.leaf (10, .goto 4, 3)) (.branch 14 (.leaf (13, .iconst 0, 1)) (.leaf (14, .ireturn, 1)))))
noncomputable def oX12_hasBit : List dLf := dFl tX12_hasBit
theorem ofX12_hasBit : dFl tX12_hasBit = oX12_hasBit := rfl
set_option maxRecDepth 100000 in
theorem odX12_hasBit : ∀ q ∈ oX12_hasBit, decode cX12_hasBit q.1 = .ok (q.2.1, q.2.2) := q_go qT_ok bbX12_hasBit oX12_hasBit 0 (by decide +kernel)
theorem dX12_hasBit_0 : decode cX12_hasBit 0 = .ok (.iload_n 0, 1) := d_by (d_at odX12_hasBit ofX12_hasBit 0) rfl
theorem dX12_hasBit_1 : decode cX12_hasBit 1 = .ok (.iload_n 1, 1) := d_by (d_at odX12_hasBit ofX12_hasBit 1) rfl
theorem dX12_hasBit_2 : decode cX12_hasBit 2 = .ok (.ishr, 1) := d_by (d_at odX12_hasBit ofX12_hasBit 2) rfl
theorem dX12_hasBit_3 : decode cX12_hasBit 3 = .ok (.iconst 1, 1) := d_by (d_at odX12_hasBit ofX12_hasBit 3) rfl
theorem dX12_hasBit_4 : decode cX12_hasBit 4 = .ok (.iand, 1) := d_by (d_at odX12_hasBit ofX12_hasBit 4) rfl
theorem dX12_hasBit_5 : decode cX12_hasBit 5 = .ok (.iconst 1, 1) := d_by (d_at odX12_hasBit ofX12_hasBit 5) rfl
theorem dX12_hasBit_6 : decode cX12_hasBit 6 = .ok (.if_icmp .ne 7, 3) := d_by (d_at odX12_hasBit ofX12_hasBit 6) rfl
theorem dX12_hasBit_9 : decode cX12_hasBit 9 = .ok (.iconst 1, 1) := d_by (d_at odX12_hasBit ofX12_hasBit 9) rfl
theorem dX12_hasBit_10 : decode cX12_hasBit 10 = .ok (.goto 4, 3) := d_by (d_at odX12_hasBit ofX12_hasBit 10) rfl
theorem dX12_hasBit_13 : decode cX12_hasBit 13 = .ok (.iconst 0, 1) := d_by (d_at odX12_hasBit ofX12_hasBit 13) rfl
theorem dX12_hasBit_14 : decode cX12_hasBit 14 = .ok (.ireturn, 1) := d_by (d_at odX12_hasBit ofX12_hasBit 14) rfl
set_option maxRecDepth 100000 in
def bX12_ones : List Nat := [3, 60, 3, 61, 28, 16, 12, 162, 0, 17, 27, 26, 28, 122, 4, 126, 96, 60, 132, 2, 1, 167, 255, 239, 27, 172]
set_option maxRecDepth 100000 in
theorem bbX12_ones : cX12_ones.data.toList.map UInt8.toNat = bX12_ones := by decide +kernel
set_option maxRecDepth 100000 in
def tX12_ones : Lean.RArray dLf := .branch 12 (.branch 4 (.branch 2 (.branch 1 (.leaf (0, .iconst 0, 1)) (.leaf (1, .istore_n 1, 1))) (.branch 3 (.leaf (2, .iconst 0, 1)) (.leaf (3, .istore_n 2, 1)))) (.branch 7 (.branch 5 (.leaf (4, .iload_n 2, 1)) (.leaf (5, .bipush 12, 2))) (.branch 10 (.leaf (7, .if_icmp .ge 17, 3)) (.branch 11 (.leaf (10, .iload_n 1, 1)) (.leaf (11, .iload_n 0, 1)))))) (.branch 17 (.branch 14 (.branch 13 (.leaf (12, .iload_n 2, 1)) (.leaf (13, .ishr, 1))) (.branch 15 (.leaf (14, .iconst 1, 1)) (.branch 16 (.leaf (15, .iand, 1)) (.leaf (16, .iadd, 1))))) (.branch 21 (.branch 18 (.leaf (17, .istore_n 1, 1)) (.leaf (18, .iinc 2 1, 3))) (.branch 24 (.leaf (21, .goto (-17), 3)) (.branch 25 (.leaf (24, .iload_n 1, 1)) (.leaf (25, .ireturn, 1))))))
noncomputable def oX12_ones : List dLf := dFl tX12_ones
theorem ofX12_ones : dFl tX12_ones = oX12_ones := rfl
set_option maxRecDepth 100000 in
theorem odX12_ones : ∀ q ∈ oX12_ones, decode cX12_ones q.1 = .ok (q.2.1, q.2.2) := q_go qT_ok bbX12_ones oX12_ones 0 (by decide +kernel)
set_option maxRecDepth 100000 in
def bX12_copy : List Nat := [3, 54, 5, 21, 5, 21, 4, 162, 0, 21, 44, 29, 21, 5, 96, 42, 27, 21, 5, 96, 46, 79, 132, 5, 1, 167, 255, 234, 177]
set_option maxRecDepth 100000 in
theorem bbX12_copy : cX12_copy.data.toList.map UInt8.toNat = bX12_copy := by decide +kernel
set_option maxRecDepth 100000 in
def tX12_copy : Lean.RArray dLf := .branch 15 (.branch 7 (.branch 3 (.branch 1 (.leaf (0, .iconst 0, 1)) (.leaf (1, .istore 5, 2))) (.branch 5 (.leaf (3, .iload 5, 2)) (.leaf (5, .iload 4, 2)))) (.branch 11 (.branch 10 (.leaf (7, .if_icmp .ge 21, 3)) (.leaf (10, .aload_n 2, 1))) (.branch 12 (.leaf (11, .iload_n 3, 1)) (.branch 14 (.leaf (12, .iload 5, 2)) (.leaf (14, .iadd, 1)))))) (.branch 20 (.branch 17 (.branch 16 (.leaf (15, .aload_n 0, 1)) (.leaf (16, .iload_n 1, 1))) (.branch 19 (.leaf (17, .iload 5, 2)) (.leaf (19, .iadd, 1)))) (.branch 22 (.branch 21 (.leaf (20, .iaload, 1)) (.leaf (21, .iastore, 1))) (.branch 25 (.leaf (22, .iinc 5 1, 3)) (.branch 28 (.leaf (25, .goto (-22), 3)) (.leaf (28, .return_, 1))))))
noncomputable def oX12_copy : List dLf := dFl tX12_copy
theorem ofX12_copy : dFl tX12_copy = oX12_copy := rfl
set_option maxRecDepth 100000 in
theorem odX12_copy : ∀ q ∈ oX12_copy, decode cX12_copy q.1 = .ok (q.2.1, q.2.2) := q_go qT_ok bbX12_copy oX12_copy 0 (by decide +kernel)
theorem dX12_copy_0 : decode cX12_copy 0 = .ok (.iconst 0, 1) := d_by (d_at odX12_copy ofX12_copy 0) rfl
theorem dX12_copy_1 : decode cX12_copy 1 = .ok (.istore 5, 2) := d_by (d_at odX12_copy ofX12_copy 1) rfl
theorem dX12_copy_3 : decode cX12_copy 3 = .ok (.iload 5, 2) := d_by (d_at odX12_copy ofX12_copy 3) rfl
theorem dX12_copy_5 : decode cX12_copy 5 = .ok (.iload 4, 2) := d_by (d_at odX12_copy ofX12_copy 5) rfl
theorem dX12_copy_7 : decode cX12_copy 7 = .ok (.if_icmp .ge 21, 3) := d_by (d_at odX12_copy ofX12_copy 7) rfl
theorem dX12_copy_10 : decode cX12_copy 10 = .ok (.aload_n 2, 1) := d_by (d_at odX12_copy ofX12_copy 10) rfl
theorem dX12_copy_11 : decode cX12_copy 11 = .ok (.iload_n 3, 1) := d_by (d_at odX12_copy ofX12_copy 11) rfl
theorem dX12_copy_12 : decode cX12_copy 12 = .ok (.iload 5, 2) := d_by (d_at odX12_copy ofX12_copy 12) rfl
theorem dX12_copy_14 : decode cX12_copy 14 = .ok (.iadd, 1) := d_by (d_at odX12_copy ofX12_copy 14) rfl
theorem dX12_copy_15 : decode cX12_copy 15 = .ok (.aload_n 0, 1) := d_by (d_at odX12_copy ofX12_copy 15) rfl
theorem dX12_copy_16 : decode cX12_copy 16 = .ok (.iload_n 1, 1) := d_by (d_at odX12_copy ofX12_copy 16) rfl
theorem dX12_copy_17 : decode cX12_copy 17 = .ok (.iload 5, 2) := d_by (d_at odX12_copy ofX12_copy 17) rfl
theorem dX12_copy_19 : decode cX12_copy 19 = .ok (.iadd, 1) := d_by (d_at odX12_copy ofX12_copy 19) rfl
theorem dX12_copy_20 : decode cX12_copy 20 = .ok (.iaload, 1) := d_by (d_at odX12_copy ofX12_copy 20) rfl
theorem dX12_copy_21 : decode cX12_copy 21 = .ok (.iastore, 1) := d_by (d_at odX12_copy ofX12_copy 21) rfl
theorem dX12_copy_22 : decode cX12_copy 22 = .ok (.iinc 5 1, 3) := d_by (d_at odX12_copy ofX12_copy 22) rfl
theorem dX12_copy_25 : decode cX12_copy 25 = .ok (.goto (-22), 3) := d_by (d_at odX12_copy ofX12_copy 25) rfl
theorem dX12_copy_28 : decode cX12_copy 28 = .ok (.return_, 1) := d_by (d_at odX12_copy ofX12_copy 28) rfl
set_option maxRecDepth 100000 in
def bX12_later : List Nat := [26, 27, 164, 0, 7, 26, 167, 0, 4, 27, 172]
set_option maxRecDepth 100000 in
theorem bbX12_later : cX12_later.data.toList.map UInt8.toNat = bX12_later := by decide +kernel
set_option maxRecDepth 100000 in
def tX12_later : Lean.RArray dLf := .branch 5 (.branch 1 (.leaf (0, .iload_n 0, 1)) (.branch 2 (.leaf (1, .iload_n 1, 1)) (.leaf (2, .if_icmp .le 7, 3)))) (.branch 9 (.branch 6 (.leaf (5, .iload_n 0, 1)) (.leaf (6, .goto 4, 3))) (.branch 10 (.leaf (9, .iload_n 1, 1)) (.leaf (10, .ireturn, 1))))
noncomputable def oX12_later : List dLf := dFl tX12_later
theorem ofX12_later : dFl tX12_later = oX12_later := rfl
set_option maxRecDepth 100000 in
theorem odX12_later : ∀ q ∈ oX12_later, decode cX12_later q.1 = .ok (q.2.1, q.2.2) := q_go qT_ok bbX12_later oX12_later 0 (by decide +kernel)
theorem dX12_later_0 : decode cX12_later 0 = .ok (.iload_n 0, 1) := d_by (d_at odX12_later ofX12_later 0) rfl
theorem dX12_later_1 : decode cX12_later 1 = .ok (.iload_n 1, 1) := d_by (d_at odX12_later ofX12_later 1) rfl
theorem dX12_later_2 : decode cX12_later 2 = .ok (.if_icmp .le 7, 3) := d_by (d_at odX12_later ofX12_later 2) rfl
theorem dX12_later_5 : decode cX12_later 5 = .ok (.iload_n 0, 1) := d_by (d_at odX12_later ofX12_later 5) rfl
theorem dX12_later_6 : decode cX12_later 6 = .ok (.goto 4, 3) := d_by (d_at odX12_later ofX12_later 6) rfl
theorem dX12_later_9 : decode cX12_later 9 = .ok (.iload_n 1, 1) := d_by (d_at odX12_later ofX12_later 9) rfl
theorem dX12_later_10 : decode cX12_later 10 = .ok (.ireturn, 1) := d_by (d_at odX12_later ofX12_later 10) rfl
set_option maxRecDepth 100000 in
def bX12_feed : List Nat := [42, 3, 181, 0, 62, 42, 180, 0, 68, 16, 20, 96, 17, 3, 232, 164, 0, 5, 2, 172, 3, 54, 6, 21, 6, 16, 20, 162, 0, 93, 21, 6, 7, 162, 0, 7, 27, 167, 0, 39, 21, 6, 16, 8, 162, 0, 7, 28, 167, 0, 28, 21, 6, 16, 12, 162, 0, 7, 29, 167, 0, 17, 21, 6, 16, 16, 162, 0, 8, 21, 4, 167, 0, 5, 21, 5, 54, 7, 42, 180, 0, 7, 42, 180, 0, 68, 21, 7, 16, 24, 16, 8, 21, 6, 7, 112, 104, 100, 122, 17, 0, 255, 126, 79, 42, 89, 180, 0, 68, 4, 96, 181, 0, 68, 132, 6, 1, 167, 255, 162, 42, 180, 0, 68, 172]
set_option maxRecDepth 100000 in
theorem bbX12_feed : cX12_feed.data.toList.map UInt8.toNat = bX12_feed := by decide +kernel
set_option maxRecDepth 100000 in
def tX12_feed : Lean.RArray dLf := .branch 64 (.branch 30 (.branch 15 (.branch 6 (.branch 2 (.branch 1 (.leaf (0, .aload_n 0, 1)) (.leaf (1, .iconst 0, 1))) (.branch 5 (.leaf (2, .putfield 62, 3)) (.leaf (5, .aload_n 0, 1)))) (.branch 11 (.branch 9 (.leaf (6, .getfield 68, 3)) (.leaf (9, .bipush 20, 2))) (.branch 12 (.leaf (11, .iadd, 1)) (.leaf (12, .sipush 1000, 3))))) (.branch 21 (.branch 19 (.branch 18 (.leaf (15, .if_icmp .le 5, 3)) (.leaf (18, .iconst (-1), 1))) (.branch 20 (.leaf (19, .ireturn, 1)) (.leaf (20, .iconst 0, 1)))) (.branch 25 (.branch 23 (.leaf (21, .istore 6, 2)) (.leaf (23, .iload 6, 2))) (.branch 27 (.leaf (25, .bipush 20, 2)) (.leaf (27, .if_icmp .ge 93, 3)))))) (.branch 47 (.branch 37 (.branch 33 (.branch 32 (.leaf (30, .iload 6, 2)) (.leaf (32, .iconst 4, 1))) (.branch 36 (.leaf (33, .if_icmp .ge 7, 3)) (.leaf (36, .iload_n 1, 1)))) (.branch 42 (.branch 40 (.leaf (37, .goto 39, 3)) (.leaf (40, .iload 6, 2))) (.branch 44 (.leaf (42, .bipush 8, 2)) (.leaf (44, .if_icmp .ge 7, 3))))) (.branch 55 (.branch 51 (.branch 48 (.leaf (47, .iload_n 2, 1)) (.leaf (48, .goto 28, 3))) (.branch 53 (.leaf (51, .iload 6, 2)) (.leaf (53, .bipush 12, 2)))) (.branch 59 (.branch 58 (.leaf (55, .if_icmp .ge 7, 3)) (.leaf (58, .iload_n 3, 1))) (.branch 62 (.leaf (59, .goto 17, 3)) (.leaf (62, .iload 6, 2))))))) (.branch 96 (.branch 82 (.branch 74 (.branch 69 (.branch 66 (.leaf (64, .bipush 16, 2)) (.leaf (66, .if_icmp .ge 8, 3))) (.branch 71 (.leaf (69, .iload 4, 2)) (.leaf (71, .goto 5, 3)))) (.branch 78 (.branch 76 (.leaf (74, .iload 5, 2)) (.leaf (76, .istore 7, 2))) (.branch 79 (.leaf (78, .aload_n 0, 1)) (.leaf (79, .getfield 7, 3))))) (.branch 90 (.branch 86 (.branch 83 (.leaf (82, .aload_n 0, 1)) (.leaf (83, .getfield 68, 3))) (.branch 88 (.leaf (86, .iload 7, 2)) (.leaf (88, .bipush 24, 2)))) (.branch 94 (.branch 92 (.leaf (90, .bipush 8, 2)) (.leaf (92, .iload 6, 2))) (.branch 95 (.leaf (94, .iconst 4, 1)) (.leaf (95, .irem, 1)))))) (.branch 106 (.branch 102 (.branch 98 (.branch 97 (.leaf (96, .imul, 1)) (.leaf (97, .isub, 1))) (.branch 99 (.leaf (98, .ishr, 1)) (.leaf (99, .sipush 255, 3)))) (.branch 104 (.branch 103 (.leaf (102, .iand, 1)) (.leaf (103, .iastore, 1))) (.branch 105 (.leaf (104, .aload_n 0, 1)) (.leaf (105, .dup, 1))))) (.branch 114 (.branch 110 (.branch 109 (.leaf (106, .getfield 68, 3)) (.leaf (109, .iconst 1, 1))) (.branch 111 (.leaf (110, .iadd, 1)) (.leaf (111, .putfield 68, 3)))) (.branch 120 (.branch 117 (.leaf (114, .iinc 6 1, 3)) (.leaf (117, .goto (-94), 3))) (.branch 121 (.leaf (120, .aload_n 0, 1)) (.branch 124 (.leaf (121, .getfield 68, 3)) (.leaf (124, .ireturn, 1))))))))
noncomputable def oX12_feed : List dLf := dFl tX12_feed
theorem ofX12_feed : dFl tX12_feed = oX12_feed := rfl
set_option maxRecDepth 100000 in
theorem odX12_feed : ∀ q ∈ oX12_feed, decode cX12_feed q.1 = .ok (q.2.1, q.2.2) := q_go qT_ok bbX12_feed oX12_feed 0 (by decide +kernel)
theorem dX12_feed_0 : decode cX12_feed 0 = .ok (.aload_n 0, 1) := d_by (d_at odX12_feed ofX12_feed 0) rfl
theorem dX12_feed_1 : decode cX12_feed 1 = .ok (.iconst 0, 1) := d_by (d_at odX12_feed ofX12_feed 1) rfl
theorem dX12_feed_2 : decode cX12_feed 2 = .ok (.putfield 62, 3) := d_by (d_at odX12_feed ofX12_feed 2) rfl
theorem dX12_feed_5 : decode cX12_feed 5 = .ok (.aload_n 0, 1) := d_by (d_at odX12_feed ofX12_feed 5) rfl
theorem dX12_feed_6 : decode cX12_feed 6 = .ok (.getfield 68, 3) := d_by (d_at odX12_feed ofX12_feed 6) rfl
theorem dX12_feed_9 : decode cX12_feed 9 = .ok (.bipush 20, 2) := d_by (d_at odX12_feed ofX12_feed 9) rfl
theorem dX12_feed_11 : decode cX12_feed 11 = .ok (.iadd, 1) := d_by (d_at odX12_feed ofX12_feed 11) rfl
theorem dX12_feed_12 : decode cX12_feed 12 = .ok (.sipush 1000, 3) := d_by (d_at odX12_feed ofX12_feed 12) rfl
theorem dX12_feed_15 : decode cX12_feed 15 = .ok (.if_icmp .le 5, 3) := d_by (d_at odX12_feed ofX12_feed 15) rfl
theorem dX12_feed_18 : decode cX12_feed 18 = .ok (.iconst (-1), 1) := d_by (d_at odX12_feed ofX12_feed 18) rfl
theorem dX12_feed_19 : decode cX12_feed 19 = .ok (.ireturn, 1) := d_by (d_at odX12_feed ofX12_feed 19) rfl
theorem dX12_feed_20 : decode cX12_feed 20 = .ok (.iconst 0, 1) := d_by (d_at odX12_feed ofX12_feed 20) rfl
theorem dX12_feed_21 : decode cX12_feed 21 = .ok (.istore 6, 2) := d_by (d_at odX12_feed ofX12_feed 21) rfl
theorem dX12_feed_23 : decode cX12_feed 23 = .ok (.iload 6, 2) := d_by (d_at odX12_feed ofX12_feed 23) rfl
theorem dX12_feed_25 : decode cX12_feed 25 = .ok (.bipush 20, 2) := d_by (d_at odX12_feed ofX12_feed 25) rfl
theorem dX12_feed_27 : decode cX12_feed 27 = .ok (.if_icmp .ge 93, 3) := d_by (d_at odX12_feed ofX12_feed 27) rfl
theorem dX12_feed_30 : decode cX12_feed 30 = .ok (.iload 6, 2) := d_by (d_at odX12_feed ofX12_feed 30) rfl
theorem dX12_feed_32 : decode cX12_feed 32 = .ok (.iconst 4, 1) := d_by (d_at odX12_feed ofX12_feed 32) rfl
theorem dX12_feed_33 : decode cX12_feed 33 = .ok (.if_icmp .ge 7, 3) := d_by (d_at odX12_feed ofX12_feed 33) rfl
theorem dX12_feed_36 : decode cX12_feed 36 = .ok (.iload_n 1, 1) := d_by (d_at odX12_feed ofX12_feed 36) rfl
theorem dX12_feed_37 : decode cX12_feed 37 = .ok (.goto 39, 3) := d_by (d_at odX12_feed ofX12_feed 37) rfl
theorem dX12_feed_40 : decode cX12_feed 40 = .ok (.iload 6, 2) := d_by (d_at odX12_feed ofX12_feed 40) rfl
theorem dX12_feed_42 : decode cX12_feed 42 = .ok (.bipush 8, 2) := d_by (d_at odX12_feed ofX12_feed 42) rfl
theorem dX12_feed_44 : decode cX12_feed 44 = .ok (.if_icmp .ge 7, 3) := d_by (d_at odX12_feed ofX12_feed 44) rfl
theorem dX12_feed_47 : decode cX12_feed 47 = .ok (.iload_n 2, 1) := d_by (d_at odX12_feed ofX12_feed 47) rfl
theorem dX12_feed_48 : decode cX12_feed 48 = .ok (.goto 28, 3) := d_by (d_at odX12_feed ofX12_feed 48) rfl
theorem dX12_feed_51 : decode cX12_feed 51 = .ok (.iload 6, 2) := d_by (d_at odX12_feed ofX12_feed 51) rfl
theorem dX12_feed_53 : decode cX12_feed 53 = .ok (.bipush 12, 2) := d_by (d_at odX12_feed ofX12_feed 53) rfl
theorem dX12_feed_55 : decode cX12_feed 55 = .ok (.if_icmp .ge 7, 3) := d_by (d_at odX12_feed ofX12_feed 55) rfl
theorem dX12_feed_58 : decode cX12_feed 58 = .ok (.iload_n 3, 1) := d_by (d_at odX12_feed ofX12_feed 58) rfl
theorem dX12_feed_59 : decode cX12_feed 59 = .ok (.goto 17, 3) := d_by (d_at odX12_feed ofX12_feed 59) rfl
theorem dX12_feed_62 : decode cX12_feed 62 = .ok (.iload 6, 2) := d_by (d_at odX12_feed ofX12_feed 62) rfl
theorem dX12_feed_64 : decode cX12_feed 64 = .ok (.bipush 16, 2) := d_by (d_at odX12_feed ofX12_feed 64) rfl
theorem dX12_feed_66 : decode cX12_feed 66 = .ok (.if_icmp .ge 8, 3) := d_by (d_at odX12_feed ofX12_feed 66) rfl
theorem dX12_feed_69 : decode cX12_feed 69 = .ok (.iload 4, 2) := d_by (d_at odX12_feed ofX12_feed 69) rfl
theorem dX12_feed_71 : decode cX12_feed 71 = .ok (.goto 5, 3) := d_by (d_at odX12_feed ofX12_feed 71) rfl
theorem dX12_feed_74 : decode cX12_feed 74 = .ok (.iload 5, 2) := d_by (d_at odX12_feed ofX12_feed 74) rfl
theorem dX12_feed_76 : decode cX12_feed 76 = .ok (.istore 7, 2) := d_by (d_at odX12_feed ofX12_feed 76) rfl
theorem dX12_feed_78 : decode cX12_feed 78 = .ok (.aload_n 0, 1) := d_by (d_at odX12_feed ofX12_feed 78) rfl
theorem dX12_feed_79 : decode cX12_feed 79 = .ok (.getfield 7, 3) := d_by (d_at odX12_feed ofX12_feed 79) rfl
theorem dX12_feed_82 : decode cX12_feed 82 = .ok (.aload_n 0, 1) := d_by (d_at odX12_feed ofX12_feed 82) rfl
theorem dX12_feed_83 : decode cX12_feed 83 = .ok (.getfield 68, 3) := d_by (d_at odX12_feed ofX12_feed 83) rfl
theorem dX12_feed_86 : decode cX12_feed 86 = .ok (.iload 7, 2) := d_by (d_at odX12_feed ofX12_feed 86) rfl
theorem dX12_feed_88 : decode cX12_feed 88 = .ok (.bipush 24, 2) := d_by (d_at odX12_feed ofX12_feed 88) rfl
theorem dX12_feed_90 : decode cX12_feed 90 = .ok (.bipush 8, 2) := d_by (d_at odX12_feed ofX12_feed 90) rfl
theorem dX12_feed_92 : decode cX12_feed 92 = .ok (.iload 6, 2) := d_by (d_at odX12_feed ofX12_feed 92) rfl
theorem dX12_feed_94 : decode cX12_feed 94 = .ok (.iconst 4, 1) := d_by (d_at odX12_feed ofX12_feed 94) rfl
theorem dX12_feed_95 : decode cX12_feed 95 = .ok (.irem, 1) := d_by (d_at odX12_feed ofX12_feed 95) rfl
theorem dX12_feed_96 : decode cX12_feed 96 = .ok (.imul, 1) := d_by (d_at odX12_feed ofX12_feed 96) rfl
theorem dX12_feed_97 : decode cX12_feed 97 = .ok (.isub, 1) := d_by (d_at odX12_feed ofX12_feed 97) rfl
theorem dX12_feed_98 : decode cX12_feed 98 = .ok (.ishr, 1) := d_by (d_at odX12_feed ofX12_feed 98) rfl
theorem dX12_feed_99 : decode cX12_feed 99 = .ok (.sipush 255, 3) := d_by (d_at odX12_feed ofX12_feed 99) rfl
theorem dX12_feed_102 : decode cX12_feed 102 = .ok (.iand, 1) := d_by (d_at odX12_feed ofX12_feed 102) rfl
theorem dX12_feed_103 : decode cX12_feed 103 = .ok (.iastore, 1) := d_by (d_at odX12_feed ofX12_feed 103) rfl
theorem dX12_feed_104 : decode cX12_feed 104 = .ok (.aload_n 0, 1) := d_by (d_at odX12_feed ofX12_feed 104) rfl
theorem dX12_feed_105 : decode cX12_feed 105 = .ok (.dup, 1) := d_by (d_at odX12_feed ofX12_feed 105) rfl
theorem dX12_feed_106 : decode cX12_feed 106 = .ok (.getfield 68, 3) := d_by (d_at odX12_feed ofX12_feed 106) rfl
theorem dX12_feed_109 : decode cX12_feed 109 = .ok (.iconst 1, 1) := d_by (d_at odX12_feed ofX12_feed 109) rfl
theorem dX12_feed_110 : decode cX12_feed 110 = .ok (.iadd, 1) := d_by (d_at odX12_feed ofX12_feed 110) rfl
theorem dX12_feed_111 : decode cX12_feed 111 = .ok (.putfield 68, 3) := d_by (d_at odX12_feed ofX12_feed 111) rfl
theorem dX12_feed_114 : decode cX12_feed 114 = .ok (.iinc 6 1, 3) := d_by (d_at odX12_feed ofX12_feed 114) rfl
theorem dX12_feed_117 : decode cX12_feed 117 = .ok (.goto (-94), 3) := d_by (d_at odX12_feed ofX12_feed 117) rfl
theorem dX12_feed_120 : decode cX12_feed 120 = .ok (.aload_n 0, 1) := d_by (d_at odX12_feed ofX12_feed 120) rfl
theorem dX12_feed_121 : decode cX12_feed 121 = .ok (.getfield 68, 3) := d_by (d_at odX12_feed ofX12_feed 121) rfl
theorem dX12_feed_124 : decode cX12_feed 124 = .ok (.ireturn, 1) := d_by (d_at odX12_feed ofX12_feed 124) rfl
set_option maxRecDepth 100000 in
def bX12_look : List Nat := [27, 42, 180, 0, 71, 162, 0, 12, 42, 180, 0, 7, 27, 46, 167, 0, 4, 2, 172]
set_option maxRecDepth 100000 in
theorem bbX12_look : cX12_look.data.toList.map UInt8.toNat = bX12_look := by decide +kernel
set_option maxRecDepth 100000 in
def tX12_look : Lean.RArray dLf := .branch 9 (.branch 2 (.branch 1 (.leaf (0, .iload_n 1, 1)) (.leaf (1, .aload_n 0, 1))) (.branch 5 (.leaf (2, .getfield 71, 3)) (.branch 8 (.leaf (5, .if_icmp .ge 12, 3)) (.leaf (8, .aload_n 0, 1))))) (.branch 14 (.branch 12 (.leaf (9, .getfield 7, 3)) (.branch 13 (.leaf (12, .iload_n 1, 1)) (.leaf (13, .iaload, 1)))) (.branch 17 (.leaf (14, .goto 4, 3)) (.branch 18 (.leaf (17, .iconst (-1), 1)) (.leaf (18, .ireturn, 1)))))
noncomputable def oX12_look : List dLf := dFl tX12_look
theorem ofX12_look : dFl tX12_look = oX12_look := rfl
set_option maxRecDepth 100000 in
theorem odX12_look : ∀ q ∈ oX12_look, decode cX12_look q.1 = .ok (q.2.1, q.2.2) := q_go qT_ok bbX12_look oX12_look 0 (by decide +kernel)
theorem dX12_look_0 : decode cX12_look 0 = .ok (.iload_n 1, 1) := d_by (d_at odX12_look ofX12_look 0) rfl
theorem dX12_look_1 : decode cX12_look 1 = .ok (.aload_n 0, 1) := d_by (d_at odX12_look ofX12_look 1) rfl
theorem dX12_look_2 : decode cX12_look 2 = .ok (.getfield 71, 3) := d_by (d_at odX12_look ofX12_look 2) rfl
theorem dX12_look_5 : decode cX12_look 5 = .ok (.if_icmp .ge 12, 3) := d_by (d_at odX12_look ofX12_look 5) rfl
theorem dX12_look_8 : decode cX12_look 8 = .ok (.aload_n 0, 1) := d_by (d_at odX12_look ofX12_look 8) rfl
theorem dX12_look_9 : decode cX12_look 9 = .ok (.getfield 7, 3) := d_by (d_at odX12_look ofX12_look 9) rfl
theorem dX12_look_12 : decode cX12_look 12 = .ok (.iload_n 1, 1) := d_by (d_at odX12_look ofX12_look 12) rfl
theorem dX12_look_13 : decode cX12_look 13 = .ok (.iaload, 1) := d_by (d_at odX12_look ofX12_look 13) rfl
theorem dX12_look_14 : decode cX12_look 14 = .ok (.goto 4, 3) := d_by (d_at odX12_look ofX12_look 14) rfl
theorem dX12_look_17 : decode cX12_look 17 = .ok (.iconst (-1), 1) := d_by (d_at odX12_look ofX12_look 17) rfl
theorem dX12_look_18 : decode cX12_look 18 = .ok (.ireturn, 1) := d_by (d_at odX12_look ofX12_look 18) rfl
set_option maxRecDepth 100000 in
def bX12_isSmall : List Nat := [26, 16, 97, 161, 0, 13, 26, 16, 122, 163, 0, 7, 4, 167, 0, 4, 3, 172]
set_option maxRecDepth 100000 in
theorem bbX12_isSmall : cX12_isSmall.data.toList.map UInt8.toNat = bX12_isSmall := by decide +kernel
set_option maxRecDepth 100000 in
def tX12_isSmall : Lean.RArray dLf := .branch 9 (.branch 3 (.branch 1 (.leaf (0, .iload_n 0, 1)) (.leaf (1, .bipush 97, 2))) (.branch 6 (.leaf (3, .if_icmp .lt 13, 3)) (.branch 7 (.leaf (6, .iload_n 0, 1)) (.leaf (7, .bipush 122, 2))))) (.branch 13 (.branch 12 (.leaf (9, .if_icmp .gt 7, 3)) (.leaf (12, .iconst 1, 1))) (.branch 16 (.leaf (13, .goto 4, 3)) (.branch 17 (.leaf (16, .iconst 0, 1)) (.leaf (17, .ireturn, 1)))))
noncomputable def oX12_isSmall : List dLf := dFl tX12_isSmall
theorem ofX12_isSmall : dFl tX12_isSmall = oX12_isSmall := rfl
set_option maxRecDepth 100000 in
theorem odX12_isSmall : ∀ q ∈ oX12_isSmall, decode cX12_isSmall q.1 = .ok (q.2.1, q.2.2) := q_go qT_ok bbX12_isSmall oX12_isSmall 0 (by decide +kernel)
theorem dX12_isSmall_0 : decode cX12_isSmall 0 = .ok (.iload_n 0, 1) := d_by (d_at odX12_isSmall ofX12_isSmall 0) rfl
theorem dX12_isSmall_1 : decode cX12_isSmall 1 = .ok (.bipush 97, 2) := d_by (d_at odX12_isSmall ofX12_isSmall 1) rfl
theorem dX12_isSmall_3 : decode cX12_isSmall 3 = .ok (.if_icmp .lt 13, 3) := d_by (d_at odX12_isSmall ofX12_isSmall 3) rfl
theorem dX12_isSmall_6 : decode cX12_isSmall 6 = .ok (.iload_n 0, 1) := d_by (d_at odX12_isSmall ofX12_isSmall 6) rfl
theorem dX12_isSmall_7 : decode cX12_isSmall 7 = .ok (.bipush 122, 2) := d_by (d_at odX12_isSmall ofX12_isSmall 7) rfl
theorem dX12_isSmall_9 : decode cX12_isSmall 9 = .ok (.if_icmp .gt 7, 3) := d_by (d_at odX12_isSmall ofX12_isSmall 9) rfl
theorem dX12_isSmall_12 : decode cX12_isSmall 12 = .ok (.iconst 1, 1) := d_by (d_at odX12_isSmall ofX12_isSmall 12) rfl
theorem dX12_isSmall_13 : decode cX12_isSmall 13 = .ok (.goto 4, 3) := d_by (d_at odX12_isSmall ofX12_isSmall 13) rfl
theorem dX12_isSmall_16 : decode cX12_isSmall 16 = .ok (.iconst 0, 1) := d_by (d_at odX12_isSmall ofX12_isSmall 16) rfl
theorem dX12_isSmall_17 : decode cX12_isSmall 17 = .ok (.ireturn, 1) := d_by (d_at odX12_isSmall ofX12_isSmall 17) rfl
set_option maxRecDepth 100000 in
def bX12_isDigit : List Nat := [26, 16, 48, 161, 0, 13, 26, 16, 57, 163, 0, 7, 4, 167, 0, 4, 3, 172]
set_option maxRecDepth 100000 in
theorem bbX12_isDigit : cX12_isDigit.data.toList.map UInt8.toNat = bX12_isDigit := by decide +kernel
set_option maxRecDepth 100000 in
def tX12_isDigit : Lean.RArray dLf := .branch 9 (.branch 3 (.branch 1 (.leaf (0, .iload_n 0, 1)) (.leaf (1, .bipush 48, 2))) (.branch 6 (.leaf (3, .if_icmp .lt 13, 3)) (.branch 7 (.leaf (6, .iload_n 0, 1)) (.leaf (7, .bipush 57, 2))))) (.branch 13 (.branch 12 (.leaf (9, .if_icmp .gt 7, 3)) (.leaf (12, .iconst 1, 1))) (.branch 16 (.leaf (13, .goto 4, 3)) (.branch 17 (.leaf (16, .iconst 0, 1)) (.leaf (17, .ireturn, 1)))))
noncomputable def oX12_isDigit : List dLf := dFl tX12_isDigit
theorem ofX12_isDigit : dFl tX12_isDigit = oX12_isDigit := rfl
set_option maxRecDepth 100000 in
theorem odX12_isDigit : ∀ q ∈ oX12_isDigit, decode cX12_isDigit q.1 = .ok (q.2.1, q.2.2) := q_go qT_ok bbX12_isDigit oX12_isDigit 0 (by decide +kernel)
theorem dX12_isDigit_0 : decode cX12_isDigit 0 = .ok (.iload_n 0, 1) := d_by (d_at odX12_isDigit ofX12_isDigit 0) rfl
theorem dX12_isDigit_1 : decode cX12_isDigit 1 = .ok (.bipush 48, 2) := d_by (d_at odX12_isDigit ofX12_isDigit 1) rfl
theorem dX12_isDigit_3 : decode cX12_isDigit 3 = .ok (.if_icmp .lt 13, 3) := d_by (d_at odX12_isDigit ofX12_isDigit 3) rfl
theorem dX12_isDigit_6 : decode cX12_isDigit 6 = .ok (.iload_n 0, 1) := d_by (d_at odX12_isDigit ofX12_isDigit 6) rfl
theorem dX12_isDigit_7 : decode cX12_isDigit 7 = .ok (.bipush 57, 2) := d_by (d_at odX12_isDigit ofX12_isDigit 7) rfl
theorem dX12_isDigit_9 : decode cX12_isDigit 9 = .ok (.if_icmp .gt 7, 3) := d_by (d_at odX12_isDigit ofX12_isDigit 9) rfl
theorem dX12_isDigit_12 : decode cX12_isDigit 12 = .ok (.iconst 1, 1) := d_by (d_at odX12_isDigit ofX12_isDigit 12) rfl
theorem dX12_isDigit_13 : decode cX12_isDigit 13 = .ok (.goto 4, 3) := d_by (d_at odX12_isDigit ofX12_isDigit 13) rfl
theorem dX12_isDigit_16 : decode cX12_isDigit 16 = .ok (.iconst 0, 1) := d_by (d_at odX12_isDigit ofX12_isDigit 16) rfl
theorem dX12_isDigit_17 : decode cX12_isDigit 17 = .ok (.ireturn, 1) := d_by (d_at odX12_isDigit ofX12_isDigit 17) rfl
set_option maxRecDepth 100000 in
def bX12_next : List Nat := [42, 180, 0, 74, 60, 42, 27, 182, 0, 77, 16, 32, 160, 0, 9, 132, 1, 1, 167, 255, 243, 42, 27, 181, 0, 81, 42, 27, 182, 0, 77, 61, 42, 3, 181, 0, 84, 42, 3, 181, 0, 87, 28, 2, 160, 0, 16, 42, 3, 181, 0, 90, 42, 27, 181, 0, 74, 167, 0, 184, 28, 184, 0, 93, 153, 0, 79, 42, 27, 182, 0, 77, 184, 0, 93, 153, 0, 42, 42, 180, 0, 84, 16, 8, 162, 0, 17, 42, 180, 0, 17, 42, 180, 0, 84, 42, 27, 182, 0, 77, 79, 42, 89, 180, 0, 84, 4, 96, 181, 0, 84, 132, 1, 1, 167, 255, 209, 42, 27, 181, 0, 74, 42, 42, 180, 0, 84, 16, 8, 164, 0, 7, 4, 167, 0, 4, 5, 181, 0, 90, 167, 0, 101, 28, 184, 0, 97, 153, 0, 72, 3, 62, 42, 27, 182, 0, 77, 184, 0, 97, 153, 0, 37, 29, 7, 162, 0, 23, 42, 16, 10, 42, 180, 0, 87, 104, 42, 27, 182, 0, 77, 96, 16, 48, 100, 181, 0, 87, 132, 3, 1, 132, 1, 1, 167, 255, 214, 42, 27, 181, 0, 74, 42, 29, 7, 164, 0, 7, 4, 167, 0, 4, 6, 181, 0, 90, 167, 0, 25, 42, 27, 4, 96, 181, 0, 74, 42, 28, 16, 59, 160, 0, 7, 28, 167, 0, 4, 4, 181, 0, 90, 177]
set_option maxRecDepth 100000 in
theorem bbX12_next : cX12_next.data.toList.map UInt8.toNat = bX12_next := by decide +kernel
set_option maxRecDepth 100000 in
def tX12_next : Lean.RArray dLf := .branch 122 (.branch 57 (.branch 31 (.branch 15 (.branch 6 (.branch 4 (.branch 1 (.leaf (0, .aload_n 0, 1)) (.leaf (1, .getfield 74, 3))) (.branch 5 (.leaf (4, .istore_n 1, 1)) (.leaf (5, .aload_n 0, 1)))) (.branch 10 (.branch 7 (.leaf (6, .iload_n 1, 1)) (.leaf (7, .invokevirtual 77, 3))) (.branch 12 (.leaf (10, .bipush 32, 2)) (.leaf (12, .if_icmp .ne 9, 3))))) (.branch 23 (.branch 21 (.branch 18 (.leaf (15, .iinc 1 1, 3)) (.leaf (18, .goto (-13), 3))) (.branch 22 (.leaf (21, .aload_n 0, 1)) (.leaf (22, .iload_n 1, 1)))) (.branch 27 (.branch 26 (.leaf (23, .putfield 81, 3)) (.leaf (26, .aload_n 0, 1))) (.branch 28 (.leaf (27, .iload_n 1, 1)) (.leaf (28, .invokevirtual 77, 3)))))) (.branch 43 (.branch 37 (.branch 33 (.branch 32 (.leaf (31, .istore_n 2, 1)) (.leaf (32, .aload_n 0, 1))) (.branch 34 (.leaf (33, .iconst 0, 1)) (.leaf (34, .putfield 84, 3)))) (.branch 39 (.branch 38 (.leaf (37, .aload_n 0, 1)) (.leaf (38, .iconst 0, 1))) (.branch 42 (.leaf (39, .putfield 87, 3)) (.leaf (42, .iload_n 2, 1))))) (.branch 49 (.branch 47 (.branch 44 (.leaf (43, .iconst (-1), 1)) (.leaf (44, .if_icmp .ne 16, 3))) (.branch 48 (.leaf (47, .aload_n 0, 1)) (.leaf (48, .iconst 0, 1)))) (.branch 53 (.branch 52 (.leaf (49, .putfield 90, 3)) (.leaf (52, .aload_n 0, 1))) (.branch 54 (.leaf (53, .iload_n 1, 1)) (.leaf (54, .putfield 74, 3))))))) (.branch 92 (.branch 75 (.branch 67 (.branch 61 (.branch 60 (.leaf (57, .goto 184, 3)) (.leaf (60, .iload_n 2, 1))) (.branch 64 (.leaf (61, .invokestatic 93, 3)) (.leaf (64, .ifCond .eq 79, 3)))) (.branch 69 (.branch 68 (.leaf (67, .aload_n 0, 1)) (.leaf (68, .iload_n 1, 1))) (.branch 72 (.leaf (69, .invokevirtual 77, 3)) (.leaf (72, .invokestatic 93, 3))))) (.branch 84 (.branch 79 (.branch 78 (.leaf (75, .ifCond .eq 42, 3)) (.leaf (78, .aload_n 0, 1))) (.branch 82 (.leaf (79, .getfield 84, 3)) (.leaf (82, .bipush 8, 2)))) (.branch 88 (.branch 87 (.leaf (84, .if_icmp .ge 17, 3)) (.leaf (87, .aload_n 0, 1))) (.branch 91 (.leaf (88, .getfield 17, 3)) (.leaf (91, .aload_n 0, 1)))))) (.branch 106 (.branch 100 (.branch 96 (.branch 95 (.leaf (92, .getfield 84, 3)) (.leaf (95, .aload_n 0, 1))) (.branch 97 (.leaf (96, .iload_n 1, 1)) (.leaf (97, .invokevirtual 77, 3)))) (.branch 102 (.branch 101 (.leaf (100, .iastore, 1)) (.leaf (101, .aload_n 0, 1))) (.branch 103 (.leaf (102, .dup, 1)) (.leaf (103, .getfield 84, 3))))) (.branch 114 (.branch 108 (.branch 107 (.leaf (106, .iconst 1, 1)) (.leaf (107, .iadd, 1))) (.branch 111 (.leaf (108, .putfield 84, 3)) (.leaf (111, .iinc 1 1, 3)))) (.branch 118 (.branch 117 (.leaf (114, .goto (-47), 3)) (.leaf (117, .aload_n 0, 1))) (.branch 119 (.leaf (118, .iload_n 1, 1)) (.leaf (119, .putfield 74, 3)))))))) (.branch 182 (.branch 153 (.branch 137 (.branch 129 (.branch 124 (.branch 123 (.leaf (122, .aload_n 0, 1)) (.leaf (123, .aload_n 0, 1))) (.branch 127 (.leaf (124, .getfield 84, 3)) (.leaf (127, .bipush 8, 2)))) (.branch 133 (.branch 132 (.leaf (129, .if_icmp .le 7, 3)) (.leaf (132, .iconst 1, 1))) (.branch 136 (.leaf (133, .goto 4, 3)) (.leaf (136, .iconst 2, 1))))) (.branch 147 (.branch 143 (.branch 140 (.leaf (137, .putfield 90, 3)) (.leaf (140, .goto 101, 3))) (.branch 144 (.leaf (143, .iload_n 2, 1)) (.leaf (144, .invokestatic 97, 3)))) (.branch 151 (.branch 150 (.leaf (147, .ifCond .eq 72, 3)) (.leaf (150, .iconst 0, 1))) (.branch 152 (.leaf (151, .istore_n 3, 1)) (.leaf (152, .aload_n 0, 1)))))) (.branch 169 (.branch 163 (.branch 157 (.branch 154 (.leaf (153, .iload_n 1, 1)) (.leaf (154, .invokevirtual 77, 3))) (.branch 160 (.leaf (157, .invokestatic 97, 3)) (.leaf (160, .ifCond .eq 37, 3)))) (.branch 165 (.branch 164 (.leaf (163, .iload_n 3, 1)) (.leaf (164, .iconst 4, 1))) (.branch 168 (.leaf (165, .if_icmp .ge 23, 3)) (.leaf (168, .aload_n 0, 1))))) (.branch 176 (.branch 172 (.branch 171 (.leaf (169, .bipush 10, 2)) (.leaf (171, .aload_n 0, 1))) (.branch 175 (.leaf (172, .getfield 87, 3)) (.leaf (175, .imul, 1)))) (.branch 178 (.branch 177 (.leaf (176, .aload_n 0, 1)) (.leaf (177, .iload_n 1, 1))) (.branch 181 (.leaf (178, .invokevirtual 77, 3)) (.leaf (181, .iadd, 1))))))) (.branch 213 (.branch 199 (.branch 191 (.branch 185 (.branch 184 (.leaf (182, .bipush 48, 2)) (.leaf (184, .isub, 1))) (.branch 188 (.leaf (185, .putfield 87, 3)) (.leaf (188, .iinc 3 1, 3)))) (.branch 197 (.branch 194 (.leaf (191, .iinc 1 1, 3)) (.leaf (194, .goto (-42), 3))) (.branch 198 (.leaf (197, .aload_n 0, 1)) (.leaf (198, .iload_n 1, 1))))) (.branch 205 (.branch 203 (.branch 202 (.leaf (199, .putfield 74, 3)) (.leaf (202, .aload_n 0, 1))) (.branch 204 (.leaf (203, .iload_n 3, 1)) (.leaf (204, .iconst 4, 1)))) (.branch 209 (.branch 208 (.leaf (205, .if_icmp .le 7, 3)) (.leaf (208, .iconst 1, 1))) (.branch 212 (.leaf (209, .goto 4, 3)) (.leaf (212, .iconst 3, 1)))))) (.branch 227 (.branch 221 (.branch 219 (.branch 216 (.leaf (213, .putfield 90, 3)) (.leaf (216, .goto 25, 3))) (.branch 220 (.leaf (219, .aload_n 0, 1)) (.leaf (220, .iload_n 1, 1)))) (.branch 223 (.branch 222 (.leaf (221, .iconst 1, 1)) (.leaf (222, .iadd, 1))) (.branch 226 (.leaf (223, .putfield 74, 3)) (.leaf (226, .aload_n 0, 1))))) (.branch 234 (.branch 230 (.branch 228 (.leaf (227, .iload_n 2, 1)) (.leaf (228, .bipush 59, 2))) (.branch 233 (.leaf (230, .if_icmp .ne 7, 3)) (.leaf (233, .iload_n 2, 1)))) (.branch 238 (.branch 237 (.leaf (234, .goto 4, 3)) (.leaf (237, .iconst 1, 1))) (.branch 241 (.leaf (238, .putfield 90, 3)) (.leaf (241, .return_, 1))))))))
noncomputable def oX12_next : List dLf := dFl tX12_next
theorem ofX12_next : dFl tX12_next = oX12_next := rfl
set_option maxRecDepth 100000 in
theorem odX12_next : ∀ q ∈ oX12_next, decode cX12_next q.1 = .ok (q.2.1, q.2.2) := q_go qT_ok bbX12_next oX12_next 0 (by decide +kernel)
theorem dX12_next_0 : decode cX12_next 0 = .ok (.aload_n 0, 1) := d_by (d_at odX12_next ofX12_next 0) rfl
theorem dX12_next_1 : decode cX12_next 1 = .ok (.getfield 74, 3) := d_by (d_at odX12_next ofX12_next 1) rfl
theorem dX12_next_4 : decode cX12_next 4 = .ok (.istore_n 1, 1) := d_by (d_at odX12_next ofX12_next 4) rfl
theorem dX12_next_5 : decode cX12_next 5 = .ok (.aload_n 0, 1) := d_by (d_at odX12_next ofX12_next 5) rfl
theorem dX12_next_6 : decode cX12_next 6 = .ok (.iload_n 1, 1) := d_by (d_at odX12_next ofX12_next 6) rfl
theorem dX12_next_7 : decode cX12_next 7 = .ok (.invokevirtual 77, 3) := d_by (d_at odX12_next ofX12_next 7) rfl
theorem dX12_next_10 : decode cX12_next 10 = .ok (.bipush 32, 2) := d_by (d_at odX12_next ofX12_next 10) rfl
theorem dX12_next_12 : decode cX12_next 12 = .ok (.if_icmp .ne 9, 3) := d_by (d_at odX12_next ofX12_next 12) rfl
theorem dX12_next_15 : decode cX12_next 15 = .ok (.iinc 1 1, 3) := d_by (d_at odX12_next ofX12_next 15) rfl
theorem dX12_next_18 : decode cX12_next 18 = .ok (.goto (-13), 3) := d_by (d_at odX12_next ofX12_next 18) rfl
theorem dX12_next_21 : decode cX12_next 21 = .ok (.aload_n 0, 1) := d_by (d_at odX12_next ofX12_next 21) rfl
theorem dX12_next_22 : decode cX12_next 22 = .ok (.iload_n 1, 1) := d_by (d_at odX12_next ofX12_next 22) rfl
theorem dX12_next_23 : decode cX12_next 23 = .ok (.putfield 81, 3) := d_by (d_at odX12_next ofX12_next 23) rfl
theorem dX12_next_26 : decode cX12_next 26 = .ok (.aload_n 0, 1) := d_by (d_at odX12_next ofX12_next 26) rfl
theorem dX12_next_27 : decode cX12_next 27 = .ok (.iload_n 1, 1) := d_by (d_at odX12_next ofX12_next 27) rfl
theorem dX12_next_28 : decode cX12_next 28 = .ok (.invokevirtual 77, 3) := d_by (d_at odX12_next ofX12_next 28) rfl
theorem dX12_next_31 : decode cX12_next 31 = .ok (.istore_n 2, 1) := d_by (d_at odX12_next ofX12_next 31) rfl
theorem dX12_next_32 : decode cX12_next 32 = .ok (.aload_n 0, 1) := d_by (d_at odX12_next ofX12_next 32) rfl
theorem dX12_next_33 : decode cX12_next 33 = .ok (.iconst 0, 1) := d_by (d_at odX12_next ofX12_next 33) rfl
theorem dX12_next_34 : decode cX12_next 34 = .ok (.putfield 84, 3) := d_by (d_at odX12_next ofX12_next 34) rfl
theorem dX12_next_37 : decode cX12_next 37 = .ok (.aload_n 0, 1) := d_by (d_at odX12_next ofX12_next 37) rfl
theorem dX12_next_38 : decode cX12_next 38 = .ok (.iconst 0, 1) := d_by (d_at odX12_next ofX12_next 38) rfl
theorem dX12_next_39 : decode cX12_next 39 = .ok (.putfield 87, 3) := d_by (d_at odX12_next ofX12_next 39) rfl
theorem dX12_next_42 : decode cX12_next 42 = .ok (.iload_n 2, 1) := d_by (d_at odX12_next ofX12_next 42) rfl
theorem dX12_next_43 : decode cX12_next 43 = .ok (.iconst (-1), 1) := d_by (d_at odX12_next ofX12_next 43) rfl
theorem dX12_next_44 : decode cX12_next 44 = .ok (.if_icmp .ne 16, 3) := d_by (d_at odX12_next ofX12_next 44) rfl
theorem dX12_next_47 : decode cX12_next 47 = .ok (.aload_n 0, 1) := d_by (d_at odX12_next ofX12_next 47) rfl
theorem dX12_next_48 : decode cX12_next 48 = .ok (.iconst 0, 1) := d_by (d_at odX12_next ofX12_next 48) rfl
theorem dX12_next_49 : decode cX12_next 49 = .ok (.putfield 90, 3) := d_by (d_at odX12_next ofX12_next 49) rfl
theorem dX12_next_52 : decode cX12_next 52 = .ok (.aload_n 0, 1) := d_by (d_at odX12_next ofX12_next 52) rfl
theorem dX12_next_53 : decode cX12_next 53 = .ok (.iload_n 1, 1) := d_by (d_at odX12_next ofX12_next 53) rfl
theorem dX12_next_54 : decode cX12_next 54 = .ok (.putfield 74, 3) := d_by (d_at odX12_next ofX12_next 54) rfl
theorem dX12_next_57 : decode cX12_next 57 = .ok (.goto 184, 3) := d_by (d_at odX12_next ofX12_next 57) rfl
theorem dX12_next_60 : decode cX12_next 60 = .ok (.iload_n 2, 1) := d_by (d_at odX12_next ofX12_next 60) rfl
theorem dX12_next_61 : decode cX12_next 61 = .ok (.invokestatic 93, 3) := d_by (d_at odX12_next ofX12_next 61) rfl
theorem dX12_next_64 : decode cX12_next 64 = .ok (.ifCond .eq 79, 3) := d_by (d_at odX12_next ofX12_next 64) rfl
theorem dX12_next_67 : decode cX12_next 67 = .ok (.aload_n 0, 1) := d_by (d_at odX12_next ofX12_next 67) rfl
theorem dX12_next_68 : decode cX12_next 68 = .ok (.iload_n 1, 1) := d_by (d_at odX12_next ofX12_next 68) rfl
theorem dX12_next_69 : decode cX12_next 69 = .ok (.invokevirtual 77, 3) := d_by (d_at odX12_next ofX12_next 69) rfl
theorem dX12_next_72 : decode cX12_next 72 = .ok (.invokestatic 93, 3) := d_by (d_at odX12_next ofX12_next 72) rfl
theorem dX12_next_75 : decode cX12_next 75 = .ok (.ifCond .eq 42, 3) := d_by (d_at odX12_next ofX12_next 75) rfl
theorem dX12_next_78 : decode cX12_next 78 = .ok (.aload_n 0, 1) := d_by (d_at odX12_next ofX12_next 78) rfl
theorem dX12_next_79 : decode cX12_next 79 = .ok (.getfield 84, 3) := d_by (d_at odX12_next ofX12_next 79) rfl
theorem dX12_next_82 : decode cX12_next 82 = .ok (.bipush 8, 2) := d_by (d_at odX12_next ofX12_next 82) rfl
theorem dX12_next_84 : decode cX12_next 84 = .ok (.if_icmp .ge 17, 3) := d_by (d_at odX12_next ofX12_next 84) rfl
theorem dX12_next_87 : decode cX12_next 87 = .ok (.aload_n 0, 1) := d_by (d_at odX12_next ofX12_next 87) rfl
theorem dX12_next_88 : decode cX12_next 88 = .ok (.getfield 17, 3) := d_by (d_at odX12_next ofX12_next 88) rfl
theorem dX12_next_91 : decode cX12_next 91 = .ok (.aload_n 0, 1) := d_by (d_at odX12_next ofX12_next 91) rfl
theorem dX12_next_92 : decode cX12_next 92 = .ok (.getfield 84, 3) := d_by (d_at odX12_next ofX12_next 92) rfl
theorem dX12_next_95 : decode cX12_next 95 = .ok (.aload_n 0, 1) := d_by (d_at odX12_next ofX12_next 95) rfl
theorem dX12_next_96 : decode cX12_next 96 = .ok (.iload_n 1, 1) := d_by (d_at odX12_next ofX12_next 96) rfl
theorem dX12_next_97 : decode cX12_next 97 = .ok (.invokevirtual 77, 3) := d_by (d_at odX12_next ofX12_next 97) rfl
theorem dX12_next_100 : decode cX12_next 100 = .ok (.iastore, 1) := d_by (d_at odX12_next ofX12_next 100) rfl
theorem dX12_next_101 : decode cX12_next 101 = .ok (.aload_n 0, 1) := d_by (d_at odX12_next ofX12_next 101) rfl
theorem dX12_next_102 : decode cX12_next 102 = .ok (.dup, 1) := d_by (d_at odX12_next ofX12_next 102) rfl
theorem dX12_next_103 : decode cX12_next 103 = .ok (.getfield 84, 3) := d_by (d_at odX12_next ofX12_next 103) rfl
theorem dX12_next_106 : decode cX12_next 106 = .ok (.iconst 1, 1) := d_by (d_at odX12_next ofX12_next 106) rfl
theorem dX12_next_107 : decode cX12_next 107 = .ok (.iadd, 1) := d_by (d_at odX12_next ofX12_next 107) rfl
theorem dX12_next_108 : decode cX12_next 108 = .ok (.putfield 84, 3) := d_by (d_at odX12_next ofX12_next 108) rfl
theorem dX12_next_111 : decode cX12_next 111 = .ok (.iinc 1 1, 3) := d_by (d_at odX12_next ofX12_next 111) rfl
theorem dX12_next_114 : decode cX12_next 114 = .ok (.goto (-47), 3) := d_by (d_at odX12_next ofX12_next 114) rfl
theorem dX12_next_117 : decode cX12_next 117 = .ok (.aload_n 0, 1) := d_by (d_at odX12_next ofX12_next 117) rfl
theorem dX12_next_118 : decode cX12_next 118 = .ok (.iload_n 1, 1) := d_by (d_at odX12_next ofX12_next 118) rfl
theorem dX12_next_119 : decode cX12_next 119 = .ok (.putfield 74, 3) := d_by (d_at odX12_next ofX12_next 119) rfl
theorem dX12_next_122 : decode cX12_next 122 = .ok (.aload_n 0, 1) := d_by (d_at odX12_next ofX12_next 122) rfl
theorem dX12_next_123 : decode cX12_next 123 = .ok (.aload_n 0, 1) := d_by (d_at odX12_next ofX12_next 123) rfl
theorem dX12_next_124 : decode cX12_next 124 = .ok (.getfield 84, 3) := d_by (d_at odX12_next ofX12_next 124) rfl
theorem dX12_next_127 : decode cX12_next 127 = .ok (.bipush 8, 2) := d_by (d_at odX12_next ofX12_next 127) rfl
theorem dX12_next_129 : decode cX12_next 129 = .ok (.if_icmp .le 7, 3) := d_by (d_at odX12_next ofX12_next 129) rfl
theorem dX12_next_132 : decode cX12_next 132 = .ok (.iconst 1, 1) := d_by (d_at odX12_next ofX12_next 132) rfl
theorem dX12_next_133 : decode cX12_next 133 = .ok (.goto 4, 3) := d_by (d_at odX12_next ofX12_next 133) rfl
theorem dX12_next_136 : decode cX12_next 136 = .ok (.iconst 2, 1) := d_by (d_at odX12_next ofX12_next 136) rfl
theorem dX12_next_137 : decode cX12_next 137 = .ok (.putfield 90, 3) := d_by (d_at odX12_next ofX12_next 137) rfl
theorem dX12_next_140 : decode cX12_next 140 = .ok (.goto 101, 3) := d_by (d_at odX12_next ofX12_next 140) rfl
theorem dX12_next_143 : decode cX12_next 143 = .ok (.iload_n 2, 1) := d_by (d_at odX12_next ofX12_next 143) rfl
theorem dX12_next_144 : decode cX12_next 144 = .ok (.invokestatic 97, 3) := d_by (d_at odX12_next ofX12_next 144) rfl
theorem dX12_next_147 : decode cX12_next 147 = .ok (.ifCond .eq 72, 3) := d_by (d_at odX12_next ofX12_next 147) rfl
theorem dX12_next_150 : decode cX12_next 150 = .ok (.iconst 0, 1) := d_by (d_at odX12_next ofX12_next 150) rfl
theorem dX12_next_151 : decode cX12_next 151 = .ok (.istore_n 3, 1) := d_by (d_at odX12_next ofX12_next 151) rfl
theorem dX12_next_152 : decode cX12_next 152 = .ok (.aload_n 0, 1) := d_by (d_at odX12_next ofX12_next 152) rfl
theorem dX12_next_153 : decode cX12_next 153 = .ok (.iload_n 1, 1) := d_by (d_at odX12_next ofX12_next 153) rfl
theorem dX12_next_154 : decode cX12_next 154 = .ok (.invokevirtual 77, 3) := d_by (d_at odX12_next ofX12_next 154) rfl
theorem dX12_next_157 : decode cX12_next 157 = .ok (.invokestatic 97, 3) := d_by (d_at odX12_next ofX12_next 157) rfl
theorem dX12_next_160 : decode cX12_next 160 = .ok (.ifCond .eq 37, 3) := d_by (d_at odX12_next ofX12_next 160) rfl
theorem dX12_next_163 : decode cX12_next 163 = .ok (.iload_n 3, 1) := d_by (d_at odX12_next ofX12_next 163) rfl
theorem dX12_next_164 : decode cX12_next 164 = .ok (.iconst 4, 1) := d_by (d_at odX12_next ofX12_next 164) rfl
theorem dX12_next_165 : decode cX12_next 165 = .ok (.if_icmp .ge 23, 3) := d_by (d_at odX12_next ofX12_next 165) rfl
theorem dX12_next_168 : decode cX12_next 168 = .ok (.aload_n 0, 1) := d_by (d_at odX12_next ofX12_next 168) rfl
theorem dX12_next_169 : decode cX12_next 169 = .ok (.bipush 10, 2) := d_by (d_at odX12_next ofX12_next 169) rfl
theorem dX12_next_171 : decode cX12_next 171 = .ok (.aload_n 0, 1) := d_by (d_at odX12_next ofX12_next 171) rfl
theorem dX12_next_172 : decode cX12_next 172 = .ok (.getfield 87, 3) := d_by (d_at odX12_next ofX12_next 172) rfl
theorem dX12_next_175 : decode cX12_next 175 = .ok (.imul, 1) := d_by (d_at odX12_next ofX12_next 175) rfl
theorem dX12_next_176 : decode cX12_next 176 = .ok (.aload_n 0, 1) := d_by (d_at odX12_next ofX12_next 176) rfl
theorem dX12_next_177 : decode cX12_next 177 = .ok (.iload_n 1, 1) := d_by (d_at odX12_next ofX12_next 177) rfl
theorem dX12_next_178 : decode cX12_next 178 = .ok (.invokevirtual 77, 3) := d_by (d_at odX12_next ofX12_next 178) rfl
theorem dX12_next_181 : decode cX12_next 181 = .ok (.iadd, 1) := d_by (d_at odX12_next ofX12_next 181) rfl
theorem dX12_next_182 : decode cX12_next 182 = .ok (.bipush 48, 2) := d_by (d_at odX12_next ofX12_next 182) rfl
theorem dX12_next_184 : decode cX12_next 184 = .ok (.isub, 1) := d_by (d_at odX12_next ofX12_next 184) rfl
theorem dX12_next_185 : decode cX12_next 185 = .ok (.putfield 87, 3) := d_by (d_at odX12_next ofX12_next 185) rfl
theorem dX12_next_188 : decode cX12_next 188 = .ok (.iinc 3 1, 3) := d_by (d_at odX12_next ofX12_next 188) rfl
theorem dX12_next_191 : decode cX12_next 191 = .ok (.iinc 1 1, 3) := d_by (d_at odX12_next ofX12_next 191) rfl
theorem dX12_next_194 : decode cX12_next 194 = .ok (.goto (-42), 3) := d_by (d_at odX12_next ofX12_next 194) rfl
theorem dX12_next_197 : decode cX12_next 197 = .ok (.aload_n 0, 1) := d_by (d_at odX12_next ofX12_next 197) rfl
theorem dX12_next_198 : decode cX12_next 198 = .ok (.iload_n 1, 1) := d_by (d_at odX12_next ofX12_next 198) rfl
theorem dX12_next_199 : decode cX12_next 199 = .ok (.putfield 74, 3) := d_by (d_at odX12_next ofX12_next 199) rfl
theorem dX12_next_202 : decode cX12_next 202 = .ok (.aload_n 0, 1) := d_by (d_at odX12_next ofX12_next 202) rfl
theorem dX12_next_203 : decode cX12_next 203 = .ok (.iload_n 3, 1) := d_by (d_at odX12_next ofX12_next 203) rfl
theorem dX12_next_204 : decode cX12_next 204 = .ok (.iconst 4, 1) := d_by (d_at odX12_next ofX12_next 204) rfl
theorem dX12_next_205 : decode cX12_next 205 = .ok (.if_icmp .le 7, 3) := d_by (d_at odX12_next ofX12_next 205) rfl
theorem dX12_next_208 : decode cX12_next 208 = .ok (.iconst 1, 1) := d_by (d_at odX12_next ofX12_next 208) rfl
theorem dX12_next_209 : decode cX12_next 209 = .ok (.goto 4, 3) := d_by (d_at odX12_next ofX12_next 209) rfl
theorem dX12_next_212 : decode cX12_next 212 = .ok (.iconst 3, 1) := d_by (d_at odX12_next ofX12_next 212) rfl
theorem dX12_next_213 : decode cX12_next 213 = .ok (.putfield 90, 3) := d_by (d_at odX12_next ofX12_next 213) rfl
theorem dX12_next_216 : decode cX12_next 216 = .ok (.goto 25, 3) := d_by (d_at odX12_next ofX12_next 216) rfl
theorem dX12_next_219 : decode cX12_next 219 = .ok (.aload_n 0, 1) := d_by (d_at odX12_next ofX12_next 219) rfl
theorem dX12_next_220 : decode cX12_next 220 = .ok (.iload_n 1, 1) := d_by (d_at odX12_next ofX12_next 220) rfl
theorem dX12_next_221 : decode cX12_next 221 = .ok (.iconst 1, 1) := d_by (d_at odX12_next ofX12_next 221) rfl
theorem dX12_next_222 : decode cX12_next 222 = .ok (.iadd, 1) := d_by (d_at odX12_next ofX12_next 222) rfl
theorem dX12_next_223 : decode cX12_next 223 = .ok (.putfield 74, 3) := d_by (d_at odX12_next ofX12_next 223) rfl
theorem dX12_next_226 : decode cX12_next 226 = .ok (.aload_n 0, 1) := d_by (d_at odX12_next ofX12_next 226) rfl
theorem dX12_next_227 : decode cX12_next 227 = .ok (.iload_n 2, 1) := d_by (d_at odX12_next ofX12_next 227) rfl
theorem dX12_next_228 : decode cX12_next 228 = .ok (.bipush 59, 2) := d_by (d_at odX12_next ofX12_next 228) rfl
theorem dX12_next_230 : decode cX12_next 230 = .ok (.if_icmp .ne 7, 3) := d_by (d_at odX12_next ofX12_next 230) rfl
theorem dX12_next_233 : decode cX12_next 233 = .ok (.iload_n 2, 1) := d_by (d_at odX12_next ofX12_next 233) rfl
theorem dX12_next_234 : decode cX12_next 234 = .ok (.goto 4, 3) := d_by (d_at odX12_next ofX12_next 234) rfl
theorem dX12_next_237 : decode cX12_next 237 = .ok (.iconst 1, 1) := d_by (d_at odX12_next ofX12_next 237) rfl
theorem dX12_next_238 : decode cX12_next 238 = .ok (.putfield 90, 3) := d_by (d_at odX12_next ofX12_next 238) rfl
theorem dX12_next_241 : decode cX12_next 241 = .ok (.return_, 1) := d_by (d_at odX12_next ofX12_next 241) rfl
set_option maxRecDepth 100000 in
def bX12_wrong : List Nat := [42, 180, 0, 100, 153, 0, 4, 177, 42, 4, 181, 0, 100, 42, 27, 181, 0, 104, 42, 28, 181, 0, 13, 177]
set_option maxRecDepth 100000 in
theorem bbX12_wrong : cX12_wrong.data.toList.map UInt8.toNat = bX12_wrong := by decide +kernel
set_option maxRecDepth 100000 in
def tX12_wrong : Lean.RArray dLf := .branch 13 (.branch 7 (.branch 1 (.leaf (0, .aload_n 0, 1)) (.branch 4 (.leaf (1, .getfield 100, 3)) (.leaf (4, .ifCond .eq 4, 3)))) (.branch 9 (.branch 8 (.leaf (7, .return_, 1)) (.leaf (8, .aload_n 0, 1))) (.branch 10 (.leaf (9, .iconst 1, 1)) (.leaf (10, .putfield 100, 3))))) (.branch 18 (.branch 14 (.leaf (13, .aload_n 0, 1)) (.branch 15 (.leaf (14, .iload_n 1, 1)) (.leaf (15, .putfield 104, 3)))) (.branch 20 (.branch 19 (.leaf (18, .aload_n 0, 1)) (.leaf (19, .iload_n 2, 1))) (.branch 23 (.leaf (20, .putfield 13, 3)) (.leaf (23, .return_, 1)))))
noncomputable def oX12_wrong : List dLf := dFl tX12_wrong
theorem ofX12_wrong : dFl tX12_wrong = oX12_wrong := rfl
set_option maxRecDepth 100000 in
theorem odX12_wrong : ∀ q ∈ oX12_wrong, decode cX12_wrong q.1 = .ok (q.2.1, q.2.2) := q_go qT_ok bbX12_wrong oX12_wrong 0 (by decide +kernel)
theorem dX12_wrong_0 : decode cX12_wrong 0 = .ok (.aload_n 0, 1) := d_by (d_at odX12_wrong ofX12_wrong 0) rfl
theorem dX12_wrong_1 : decode cX12_wrong 1 = .ok (.getfield 100, 3) := d_by (d_at odX12_wrong ofX12_wrong 1) rfl
theorem dX12_wrong_4 : decode cX12_wrong 4 = .ok (.ifCond .eq 4, 3) := d_by (d_at odX12_wrong ofX12_wrong 4) rfl
theorem dX12_wrong_7 : decode cX12_wrong 7 = .ok (.return_, 1) := d_by (d_at odX12_wrong ofX12_wrong 7) rfl
theorem dX12_wrong_8 : decode cX12_wrong 8 = .ok (.aload_n 0, 1) := d_by (d_at odX12_wrong ofX12_wrong 8) rfl
theorem dX12_wrong_9 : decode cX12_wrong 9 = .ok (.iconst 1, 1) := d_by (d_at odX12_wrong ofX12_wrong 9) rfl
theorem dX12_wrong_10 : decode cX12_wrong 10 = .ok (.putfield 100, 3) := d_by (d_at odX12_wrong ofX12_wrong 10) rfl
theorem dX12_wrong_13 : decode cX12_wrong 13 = .ok (.aload_n 0, 1) := d_by (d_at odX12_wrong ofX12_wrong 13) rfl
theorem dX12_wrong_14 : decode cX12_wrong 14 = .ok (.iload_n 1, 1) := d_by (d_at odX12_wrong ofX12_wrong 14) rfl
theorem dX12_wrong_15 : decode cX12_wrong 15 = .ok (.putfield 104, 3) := d_by (d_at odX12_wrong ofX12_wrong 15) rfl
theorem dX12_wrong_18 : decode cX12_wrong 18 = .ok (.aload_n 0, 1) := d_by (d_at odX12_wrong ofX12_wrong 18) rfl
theorem dX12_wrong_19 : decode cX12_wrong 19 = .ok (.iload_n 2, 1) := d_by (d_at odX12_wrong ofX12_wrong 19) rfl
theorem dX12_wrong_20 : decode cX12_wrong 20 = .ok (.putfield 13, 3) := d_by (d_at odX12_wrong ofX12_wrong 20) rfl
theorem dX12_wrong_23 : decode cX12_wrong 23 = .ok (.return_, 1) := d_by (d_at odX12_wrong ofX12_wrong 23) rfl
set_option maxRecDepth 100000 in
def bX12_isWord : List Nat := [42, 180, 0, 100, 154, 0, 22, 42, 180, 0, 90, 5, 160, 0, 14, 42, 180, 0, 84, 43, 182, 0, 107, 159, 0, 5, 3, 172, 4, 61, 3, 62, 29, 42, 180, 0, 84, 162, 0, 33, 28, 153, 0, 21, 42, 180, 0, 17, 29, 46, 43, 29, 182, 0, 113, 160, 0, 7, 4, 167, 0, 4, 3, 61, 132, 3, 1, 167, 255, 221, 28, 172]
set_option maxRecDepth 100000 in
theorem bbX12_isWord : cX12_isWord.data.toList.map UInt8.toNat = bX12_isWord := by decide +kernel
set_option maxRecDepth 100000 in
def tX12_isWord : Lean.RArray dLf := .branch 34 (.branch 20 (.branch 11 (.branch 4 (.branch 1 (.leaf (0, .aload_n 0, 1)) (.leaf (1, .getfield 100, 3))) (.branch 7 (.leaf (4, .ifCond .ne 22, 3)) (.branch 8 (.leaf (7, .aload_n 0, 1)) (.leaf (8, .getfield 90, 3))))) (.branch 15 (.branch 12 (.leaf (11, .iconst 2, 1)) (.leaf (12, .if_icmp .ne 14, 3))) (.branch 16 (.leaf (15, .aload_n 0, 1)) (.branch 19 (.leaf (16, .getfield 84, 3)) (.leaf (19, .aload_n 1, 1)))))) (.branch 29 (.branch 26 (.branch 23 (.leaf (20, .invokevirtual 107, 3)) (.leaf (23, .if_icmp .eq 5, 3))) (.branch 27 (.leaf (26, .iconst 0, 1)) (.branch 28 (.leaf (27, .ireturn, 1)) (.leaf (28, .iconst 1, 1))))) (.branch 31 (.branch 30 (.leaf (29, .istore_n 2, 1)) (.leaf (30, .iconst 0, 1))) (.branch 32 (.leaf (31, .istore_n 3, 1)) (.branch 33 (.leaf (32, .iload_n 3, 1)) (.leaf (33, .aload_n 0, 1))))))) (.branch 52 (.branch 45 (.branch 40 (.branch 37 (.leaf (34, .getfield 84, 3)) (.leaf (37, .if_icmp .ge 33, 3))) (.branch 41 (.leaf (40, .iload_n 2, 1)) (.branch 44 (.leaf (41, .ifCond .eq 21, 3)) (.leaf (44, .aload_n 0, 1))))) (.branch 49 (.branch 48 (.leaf (45, .getfield 17, 3)) (.leaf (48, .iload_n 3, 1))) (.branch 50 (.leaf (49, .iaload, 1)) (.branch 51 (.leaf (50, .aload_n 1, 1)) (.leaf (51, .iload_n 3, 1)))))) (.branch 63 (.branch 58 (.branch 55 (.leaf (52, .invokevirtual 113, 3)) (.leaf (55, .if_icmp .ne 7, 3))) (.branch 59 (.leaf (58, .iconst 1, 1)) (.branch 62 (.leaf (59, .goto 4, 3)) (.leaf (62, .iconst 0, 1))))) (.branch 67 (.branch 64 (.leaf (63, .istore_n 2, 1)) (.leaf (64, .iinc 3 1, 3))) (.branch 70 (.leaf (67, .goto (-35), 3)) (.branch 71 (.leaf (70, .iload_n 2, 1)) (.leaf (71, .ireturn, 1)))))))
noncomputable def oX12_isWord : List dLf := dFl tX12_isWord
theorem ofX12_isWord : dFl tX12_isWord = oX12_isWord := rfl
set_option maxRecDepth 100000 in
theorem odX12_isWord : ∀ q ∈ oX12_isWord, decode cX12_isWord q.1 = .ok (q.2.1, q.2.2) := q_go qT_ok bbX12_isWord oX12_isWord 0 (by decide +kernel)
theorem dX12_isWord_0 : decode cX12_isWord 0 = .ok (.aload_n 0, 1) := d_by (d_at odX12_isWord ofX12_isWord 0) rfl
theorem dX12_isWord_1 : decode cX12_isWord 1 = .ok (.getfield 100, 3) := d_by (d_at odX12_isWord ofX12_isWord 1) rfl
theorem dX12_isWord_4 : decode cX12_isWord 4 = .ok (.ifCond .ne 22, 3) := d_by (d_at odX12_isWord ofX12_isWord 4) rfl
theorem dX12_isWord_7 : decode cX12_isWord 7 = .ok (.aload_n 0, 1) := d_by (d_at odX12_isWord ofX12_isWord 7) rfl
theorem dX12_isWord_8 : decode cX12_isWord 8 = .ok (.getfield 90, 3) := d_by (d_at odX12_isWord ofX12_isWord 8) rfl
theorem dX12_isWord_11 : decode cX12_isWord 11 = .ok (.iconst 2, 1) := d_by (d_at odX12_isWord ofX12_isWord 11) rfl
theorem dX12_isWord_12 : decode cX12_isWord 12 = .ok (.if_icmp .ne 14, 3) := d_by (d_at odX12_isWord ofX12_isWord 12) rfl
theorem dX12_isWord_15 : decode cX12_isWord 15 = .ok (.aload_n 0, 1) := d_by (d_at odX12_isWord ofX12_isWord 15) rfl
theorem dX12_isWord_16 : decode cX12_isWord 16 = .ok (.getfield 84, 3) := d_by (d_at odX12_isWord ofX12_isWord 16) rfl
theorem dX12_isWord_19 : decode cX12_isWord 19 = .ok (.aload_n 1, 1) := d_by (d_at odX12_isWord ofX12_isWord 19) rfl
theorem dX12_isWord_20 : decode cX12_isWord 20 = .ok (.invokevirtual 107, 3) := d_by (d_at odX12_isWord ofX12_isWord 20) rfl
theorem dX12_isWord_23 : decode cX12_isWord 23 = .ok (.if_icmp .eq 5, 3) := d_by (d_at odX12_isWord ofX12_isWord 23) rfl
theorem dX12_isWord_26 : decode cX12_isWord 26 = .ok (.iconst 0, 1) := d_by (d_at odX12_isWord ofX12_isWord 26) rfl
theorem dX12_isWord_27 : decode cX12_isWord 27 = .ok (.ireturn, 1) := d_by (d_at odX12_isWord ofX12_isWord 27) rfl
theorem dX12_isWord_28 : decode cX12_isWord 28 = .ok (.iconst 1, 1) := d_by (d_at odX12_isWord ofX12_isWord 28) rfl
theorem dX12_isWord_29 : decode cX12_isWord 29 = .ok (.istore_n 2, 1) := d_by (d_at odX12_isWord ofX12_isWord 29) rfl
theorem dX12_isWord_30 : decode cX12_isWord 30 = .ok (.iconst 0, 1) := d_by (d_at odX12_isWord ofX12_isWord 30) rfl
theorem dX12_isWord_31 : decode cX12_isWord 31 = .ok (.istore_n 3, 1) := d_by (d_at odX12_isWord ofX12_isWord 31) rfl
theorem dX12_isWord_32 : decode cX12_isWord 32 = .ok (.iload_n 3, 1) := d_by (d_at odX12_isWord ofX12_isWord 32) rfl
theorem dX12_isWord_33 : decode cX12_isWord 33 = .ok (.aload_n 0, 1) := d_by (d_at odX12_isWord ofX12_isWord 33) rfl
theorem dX12_isWord_34 : decode cX12_isWord 34 = .ok (.getfield 84, 3) := d_by (d_at odX12_isWord ofX12_isWord 34) rfl
theorem dX12_isWord_37 : decode cX12_isWord 37 = .ok (.if_icmp .ge 33, 3) := d_by (d_at odX12_isWord ofX12_isWord 37) rfl
theorem dX12_isWord_40 : decode cX12_isWord 40 = .ok (.iload_n 2, 1) := d_by (d_at odX12_isWord ofX12_isWord 40) rfl
theorem dX12_isWord_41 : decode cX12_isWord 41 = .ok (.ifCond .eq 21, 3) := d_by (d_at odX12_isWord ofX12_isWord 41) rfl
theorem dX12_isWord_44 : decode cX12_isWord 44 = .ok (.aload_n 0, 1) := d_by (d_at odX12_isWord ofX12_isWord 44) rfl
theorem dX12_isWord_45 : decode cX12_isWord 45 = .ok (.getfield 17, 3) := d_by (d_at odX12_isWord ofX12_isWord 45) rfl
theorem dX12_isWord_48 : decode cX12_isWord 48 = .ok (.iload_n 3, 1) := d_by (d_at odX12_isWord ofX12_isWord 48) rfl
theorem dX12_isWord_49 : decode cX12_isWord 49 = .ok (.iaload, 1) := d_by (d_at odX12_isWord ofX12_isWord 49) rfl
theorem dX12_isWord_50 : decode cX12_isWord 50 = .ok (.aload_n 1, 1) := d_by (d_at odX12_isWord ofX12_isWord 50) rfl
theorem dX12_isWord_51 : decode cX12_isWord 51 = .ok (.iload_n 3, 1) := d_by (d_at odX12_isWord ofX12_isWord 51) rfl
theorem dX12_isWord_52 : decode cX12_isWord 52 = .ok (.invokevirtual 113, 3) := d_by (d_at odX12_isWord ofX12_isWord 52) rfl
theorem dX12_isWord_55 : decode cX12_isWord 55 = .ok (.if_icmp .ne 7, 3) := d_by (d_at odX12_isWord ofX12_isWord 55) rfl
theorem dX12_isWord_58 : decode cX12_isWord 58 = .ok (.iconst 1, 1) := d_by (d_at odX12_isWord ofX12_isWord 58) rfl
theorem dX12_isWord_59 : decode cX12_isWord 59 = .ok (.goto 4, 3) := d_by (d_at odX12_isWord ofX12_isWord 59) rfl
theorem dX12_isWord_62 : decode cX12_isWord 62 = .ok (.iconst 0, 1) := d_by (d_at odX12_isWord ofX12_isWord 62) rfl
theorem dX12_isWord_63 : decode cX12_isWord 63 = .ok (.istore_n 2, 1) := d_by (d_at odX12_isWord ofX12_isWord 63) rfl
theorem dX12_isWord_64 : decode cX12_isWord 64 = .ok (.iinc 3 1, 3) := d_by (d_at odX12_isWord ofX12_isWord 64) rfl
theorem dX12_isWord_67 : decode cX12_isWord 67 = .ok (.goto (-35), 3) := d_by (d_at odX12_isWord ofX12_isWord 67) rfl
theorem dX12_isWord_70 : decode cX12_isWord 70 = .ok (.iload_n 2, 1) := d_by (d_at odX12_isWord ofX12_isWord 70) rfl
theorem dX12_isWord_71 : decode cX12_isWord 71 = .ok (.ireturn, 1) := d_by (d_at odX12_isWord ofX12_isWord 71) rfl
set_option maxRecDepth 100000 in
def bX12_takesWord : List Nat := [42, 43, 182, 0, 117, 154, 0, 5, 3, 172, 42, 182, 0, 121, 4, 172]
set_option maxRecDepth 100000 in
theorem bbX12_takesWord : cX12_takesWord.data.toList.map UInt8.toNat = bX12_takesWord := by decide +kernel
set_option maxRecDepth 100000 in
def tX12_takesWord : Lean.RArray dLf := .branch 9 (.branch 2 (.branch 1 (.leaf (0, .aload_n 0, 1)) (.leaf (1, .aload_n 1, 1))) (.branch 5 (.leaf (2, .invokevirtual 117, 3)) (.branch 8 (.leaf (5, .ifCond .ne 5, 3)) (.leaf (8, .iconst 0, 1))))) (.branch 11 (.branch 10 (.leaf (9, .ireturn, 1)) (.leaf (10, .aload_n 0, 1))) (.branch 14 (.leaf (11, .invokevirtual 121, 3)) (.branch 15 (.leaf (14, .iconst 1, 1)) (.leaf (15, .ireturn, 1)))))
noncomputable def oX12_takesWord : List dLf := dFl tX12_takesWord
theorem ofX12_takesWord : dFl tX12_takesWord = oX12_takesWord := rfl
set_option maxRecDepth 100000 in
theorem odX12_takesWord : ∀ q ∈ oX12_takesWord, decode cX12_takesWord q.1 = .ok (q.2.1, q.2.2) := q_go qT_ok bbX12_takesWord oX12_takesWord 0 (by decide +kernel)
theorem dX12_takesWord_0 : decode cX12_takesWord 0 = .ok (.aload_n 0, 1) := d_by (d_at odX12_takesWord ofX12_takesWord 0) rfl
theorem dX12_takesWord_1 : decode cX12_takesWord 1 = .ok (.aload_n 1, 1) := d_by (d_at odX12_takesWord ofX12_takesWord 1) rfl
theorem dX12_takesWord_2 : decode cX12_takesWord 2 = .ok (.invokevirtual 117, 3) := d_by (d_at odX12_takesWord ofX12_takesWord 2) rfl
theorem dX12_takesWord_5 : decode cX12_takesWord 5 = .ok (.ifCond .ne 5, 3) := d_by (d_at odX12_takesWord ofX12_takesWord 5) rfl
theorem dX12_takesWord_8 : decode cX12_takesWord 8 = .ok (.iconst 0, 1) := d_by (d_at odX12_takesWord ofX12_takesWord 8) rfl
theorem dX12_takesWord_9 : decode cX12_takesWord 9 = .ok (.ireturn, 1) := d_by (d_at odX12_takesWord ofX12_takesWord 9) rfl
theorem dX12_takesWord_10 : decode cX12_takesWord 10 = .ok (.aload_n 0, 1) := d_by (d_at odX12_takesWord ofX12_takesWord 10) rfl
theorem dX12_takesWord_11 : decode cX12_takesWord 11 = .ok (.invokevirtual 121, 3) := d_by (d_at odX12_takesWord ofX12_takesWord 11) rfl
theorem dX12_takesWord_14 : decode cX12_takesWord 14 = .ok (.iconst 1, 1) := d_by (d_at odX12_takesWord ofX12_takesWord 14) rfl
theorem dX12_takesWord_15 : decode cX12_takesWord 15 = .ok (.ireturn, 1) := d_by (d_at odX12_takesWord ofX12_takesWord 15) rfl
set_option maxRecDepth 100000 in
def bX12_must : List Nat := [42, 180, 0, 100, 154, 0, 20, 42, 43, 182, 0, 124, 154, 0, 12, 42, 4, 42, 180, 0, 81, 182, 0, 127, 177]
set_option maxRecDepth 100000 in
theorem bbX12_must : cX12_must.data.toList.map UInt8.toNat = bX12_must := by decide +kernel
set_option maxRecDepth 100000 in
def tX12_must : Lean.RArray dLf := .branch 12 (.branch 7 (.branch 1 (.leaf (0, .aload_n 0, 1)) (.branch 4 (.leaf (1, .getfield 100, 3)) (.leaf (4, .ifCond .ne 20, 3)))) (.branch 8 (.leaf (7, .aload_n 0, 1)) (.branch 9 (.leaf (8, .aload_n 1, 1)) (.leaf (9, .invokevirtual 124, 3))))) (.branch 17 (.branch 15 (.leaf (12, .ifCond .ne 12, 3)) (.branch 16 (.leaf (15, .aload_n 0, 1)) (.leaf (16, .iconst 1, 1)))) (.branch 21 (.branch 18 (.leaf (17, .aload_n 0, 1)) (.leaf (18, .getfield 81, 3))) (.branch 24 (.leaf (21, .invokevirtual 127, 3)) (.leaf (24, .return_, 1)))))
noncomputable def oX12_must : List dLf := dFl tX12_must
theorem ofX12_must : dFl tX12_must = oX12_must := rfl
set_option maxRecDepth 100000 in
theorem odX12_must : ∀ q ∈ oX12_must, decode cX12_must q.1 = .ok (q.2.1, q.2.2) := q_go qT_ok bbX12_must oX12_must 0 (by decide +kernel)
theorem dX12_must_0 : decode cX12_must 0 = .ok (.aload_n 0, 1) := d_by (d_at odX12_must ofX12_must 0) rfl
theorem dX12_must_1 : decode cX12_must 1 = .ok (.getfield 100, 3) := d_by (d_at odX12_must ofX12_must 1) rfl
theorem dX12_must_4 : decode cX12_must 4 = .ok (.ifCond .ne 20, 3) := d_by (d_at odX12_must ofX12_must 4) rfl
theorem dX12_must_7 : decode cX12_must 7 = .ok (.aload_n 0, 1) := d_by (d_at odX12_must ofX12_must 7) rfl
theorem dX12_must_8 : decode cX12_must 8 = .ok (.aload_n 1, 1) := d_by (d_at odX12_must ofX12_must 8) rfl
theorem dX12_must_9 : decode cX12_must 9 = .ok (.invokevirtual 124, 3) := d_by (d_at odX12_must ofX12_must 9) rfl
theorem dX12_must_12 : decode cX12_must 12 = .ok (.ifCond .ne 12, 3) := d_by (d_at odX12_must ofX12_must 12) rfl
theorem dX12_must_15 : decode cX12_must 15 = .ok (.aload_n 0, 1) := d_by (d_at odX12_must ofX12_must 15) rfl
theorem dX12_must_16 : decode cX12_must 16 = .ok (.iconst 1, 1) := d_by (d_at odX12_must ofX12_must 16) rfl
theorem dX12_must_17 : decode cX12_must 17 = .ok (.aload_n 0, 1) := d_by (d_at odX12_must ofX12_must 17) rfl
theorem dX12_must_18 : decode cX12_must 18 = .ok (.getfield 81, 3) := d_by (d_at odX12_must ofX12_must 18) rfl
theorem dX12_must_21 : decode cX12_must 21 = .ok (.invokevirtual 127, 3) := d_by (d_at odX12_must ofX12_must 21) rfl
theorem dX12_must_24 : decode cX12_must 24 = .ok (.return_, 1) := d_by (d_at odX12_must ofX12_must 24) rfl
set_option maxRecDepth 100000 in
def bX12_mustName : List Nat := [42, 180, 0, 90, 5, 160, 0, 57, 42, 18, 131, 182, 0, 117, 154, 0, 48, 42, 18, 133, 182, 0, 117, 154, 0, 39, 42, 18, 135, 182, 0, 117, 154, 0, 30, 42, 18, 137, 182, 0, 117, 154, 0, 21, 42, 18, 139, 182, 0, 117, 154, 0, 12, 42, 18, 141, 182, 0, 117, 153, 0, 12, 42, 4, 42, 180, 0, 81, 182, 0, 127, 177]
set_option maxRecDepth 100000 in
theorem bbX12_mustName : cX12_mustName.data.toList.map UInt8.toNat = bX12_mustName := by decide +kernel
set_option maxRecDepth 100000 in
def tX12_mustName : Lean.RArray dLf := .branch 36 (.branch 17 (.branch 8 (.branch 4 (.branch 1 (.leaf (0, .aload_n 0, 1)) (.leaf (1, .getfield 90, 3))) (.branch 5 (.leaf (4, .iconst 2, 1)) (.leaf (5, .if_icmp .ne 57, 3)))) (.branch 11 (.branch 9 (.leaf (8, .aload_n 0, 1)) (.leaf (9, .ldc 131, 2))) (.branch 14 (.leaf (11, .invokevirtual 117, 3)) (.leaf (14, .ifCond .ne 48, 3))))) (.branch 26 (.branch 20 (.branch 18 (.leaf (17, .aload_n 0, 1)) (.leaf (18, .ldc 133, 2))) (.branch 23 (.leaf (20, .invokevirtual 117, 3)) (.leaf (23, .ifCond .ne 39, 3)))) (.branch 29 (.branch 27 (.leaf (26, .aload_n 0, 1)) (.leaf (27, .ldc 135, 2))) (.branch 32 (.leaf (29, .invokevirtual 117, 3)) (.branch 35 (.leaf (32, .ifCond .ne 30, 3)) (.leaf (35, .aload_n 0, 1))))))) (.branch 54 (.branch 45 (.branch 41 (.branch 38 (.leaf (36, .ldc 137, 2)) (.leaf (38, .invokevirtual 117, 3))) (.branch 44 (.leaf (41, .ifCond .ne 21, 3)) (.leaf (44, .aload_n 0, 1)))) (.branch 50 (.branch 47 (.leaf (45, .ldc 139, 2)) (.leaf (47, .invokevirtual 117, 3))) (.branch 53 (.leaf (50, .ifCond .ne 12, 3)) (.leaf (53, .aload_n 0, 1))))) (.branch 63 (.branch 59 (.branch 56 (.leaf (54, .ldc 141, 2)) (.leaf (56, .invokevirtual 117, 3))) (.branch 62 (.leaf (59, .ifCond .eq 12, 3)) (.leaf (62, .aload_n 0, 1)))) (.branch 65 (.branch 64 (.leaf (63, .iconst 1, 1)) (.leaf (64, .aload_n 0, 1))) (.branch 68 (.leaf (65, .getfield 81, 3)) (.branch 71 (.leaf (68, .invokevirtual 127, 3)) (.leaf (71, .return_, 1)))))))
noncomputable def oX12_mustName : List dLf := dFl tX12_mustName
theorem ofX12_mustName : dFl tX12_mustName = oX12_mustName := rfl
set_option maxRecDepth 100000 in
theorem odX12_mustName : ∀ q ∈ oX12_mustName, decode cX12_mustName q.1 = .ok (q.2.1, q.2.2) := q_go qT_ok bbX12_mustName oX12_mustName 0 (by decide +kernel)
theorem dX12_mustName_0 : decode cX12_mustName 0 = .ok (.aload_n 0, 1) := d_by (d_at odX12_mustName ofX12_mustName 0) rfl
theorem dX12_mustName_1 : decode cX12_mustName 1 = .ok (.getfield 90, 3) := d_by (d_at odX12_mustName ofX12_mustName 1) rfl
theorem dX12_mustName_4 : decode cX12_mustName 4 = .ok (.iconst 2, 1) := d_by (d_at odX12_mustName ofX12_mustName 4) rfl
theorem dX12_mustName_5 : decode cX12_mustName 5 = .ok (.if_icmp .ne 57, 3) := d_by (d_at odX12_mustName ofX12_mustName 5) rfl
theorem dX12_mustName_8 : decode cX12_mustName 8 = .ok (.aload_n 0, 1) := d_by (d_at odX12_mustName ofX12_mustName 8) rfl
theorem dX12_mustName_9 : decode cX12_mustName 9 = .ok (.ldc 131, 2) := d_by (d_at odX12_mustName ofX12_mustName 9) rfl
theorem dX12_mustName_11 : decode cX12_mustName 11 = .ok (.invokevirtual 117, 3) := d_by (d_at odX12_mustName ofX12_mustName 11) rfl
theorem dX12_mustName_14 : decode cX12_mustName 14 = .ok (.ifCond .ne 48, 3) := d_by (d_at odX12_mustName ofX12_mustName 14) rfl
theorem dX12_mustName_17 : decode cX12_mustName 17 = .ok (.aload_n 0, 1) := d_by (d_at odX12_mustName ofX12_mustName 17) rfl
theorem dX12_mustName_18 : decode cX12_mustName 18 = .ok (.ldc 133, 2) := d_by (d_at odX12_mustName ofX12_mustName 18) rfl
theorem dX12_mustName_20 : decode cX12_mustName 20 = .ok (.invokevirtual 117, 3) := d_by (d_at odX12_mustName ofX12_mustName 20) rfl
theorem dX12_mustName_23 : decode cX12_mustName 23 = .ok (.ifCond .ne 39, 3) := d_by (d_at odX12_mustName ofX12_mustName 23) rfl
theorem dX12_mustName_26 : decode cX12_mustName 26 = .ok (.aload_n 0, 1) := d_by (d_at odX12_mustName ofX12_mustName 26) rfl
theorem dX12_mustName_27 : decode cX12_mustName 27 = .ok (.ldc 135, 2) := d_by (d_at odX12_mustName ofX12_mustName 27) rfl
theorem dX12_mustName_29 : decode cX12_mustName 29 = .ok (.invokevirtual 117, 3) := d_by (d_at odX12_mustName ofX12_mustName 29) rfl
theorem dX12_mustName_32 : decode cX12_mustName 32 = .ok (.ifCond .ne 30, 3) := d_by (d_at odX12_mustName ofX12_mustName 32) rfl
theorem dX12_mustName_35 : decode cX12_mustName 35 = .ok (.aload_n 0, 1) := d_by (d_at odX12_mustName ofX12_mustName 35) rfl
theorem dX12_mustName_36 : decode cX12_mustName 36 = .ok (.ldc 137, 2) := d_by (d_at odX12_mustName ofX12_mustName 36) rfl
theorem dX12_mustName_38 : decode cX12_mustName 38 = .ok (.invokevirtual 117, 3) := d_by (d_at odX12_mustName ofX12_mustName 38) rfl
theorem dX12_mustName_41 : decode cX12_mustName 41 = .ok (.ifCond .ne 21, 3) := d_by (d_at odX12_mustName ofX12_mustName 41) rfl
theorem dX12_mustName_44 : decode cX12_mustName 44 = .ok (.aload_n 0, 1) := d_by (d_at odX12_mustName ofX12_mustName 44) rfl
theorem dX12_mustName_45 : decode cX12_mustName 45 = .ok (.ldc 139, 2) := d_by (d_at odX12_mustName ofX12_mustName 45) rfl
theorem dX12_mustName_47 : decode cX12_mustName 47 = .ok (.invokevirtual 117, 3) := d_by (d_at odX12_mustName ofX12_mustName 47) rfl
theorem dX12_mustName_50 : decode cX12_mustName 50 = .ok (.ifCond .ne 12, 3) := d_by (d_at odX12_mustName ofX12_mustName 50) rfl
theorem dX12_mustName_53 : decode cX12_mustName 53 = .ok (.aload_n 0, 1) := d_by (d_at odX12_mustName ofX12_mustName 53) rfl
theorem dX12_mustName_54 : decode cX12_mustName 54 = .ok (.ldc 141, 2) := d_by (d_at odX12_mustName ofX12_mustName 54) rfl
theorem dX12_mustName_56 : decode cX12_mustName 56 = .ok (.invokevirtual 117, 3) := d_by (d_at odX12_mustName ofX12_mustName 56) rfl
theorem dX12_mustName_59 : decode cX12_mustName 59 = .ok (.ifCond .eq 12, 3) := d_by (d_at odX12_mustName ofX12_mustName 59) rfl
theorem dX12_mustName_62 : decode cX12_mustName 62 = .ok (.aload_n 0, 1) := d_by (d_at odX12_mustName ofX12_mustName 62) rfl
theorem dX12_mustName_63 : decode cX12_mustName 63 = .ok (.iconst 1, 1) := d_by (d_at odX12_mustName ofX12_mustName 63) rfl
theorem dX12_mustName_64 : decode cX12_mustName 64 = .ok (.aload_n 0, 1) := d_by (d_at odX12_mustName ofX12_mustName 64) rfl
theorem dX12_mustName_65 : decode cX12_mustName 65 = .ok (.getfield 81, 3) := d_by (d_at odX12_mustName ofX12_mustName 65) rfl
theorem dX12_mustName_68 : decode cX12_mustName 68 = .ok (.invokevirtual 127, 3) := d_by (d_at odX12_mustName ofX12_mustName 68) rfl
theorem dX12_mustName_71 : decode cX12_mustName 71 = .ok (.return_, 1) := d_by (d_at odX12_mustName ofX12_mustName 71) rfl
set_option maxRecDepth 100000 in
def bX12_find : List Nat := [3, 60, 27, 16, 20, 162, 0, 101, 42, 180, 0, 23, 17, 0, 183, 27, 96, 46, 158, 0, 24, 42, 180, 0, 23, 17, 0, 183, 27, 96, 46, 42, 180, 0, 84, 160, 0, 7, 4, 167, 0, 4, 3, 61, 3, 62, 29, 42, 180, 0, 84, 162, 0, 43, 28, 153, 0, 39, 42, 180, 0, 23, 17, 0, 203, 16, 8, 27, 104, 96, 29, 96, 46, 42, 180, 0, 17, 29, 46, 160, 0, 7, 4, 167, 0, 4, 3, 61, 132, 3, 1, 167, 255, 211, 28, 153, 0, 5, 27, 172, 132, 1, 1, 167, 255, 155, 2, 172]
set_option maxRecDepth 100000 in
theorem bbX12_find : cX12_find.data.toList.map UInt8.toNat = bX12_find := by decide +kernel
set_option maxRecDepth 100000 in
def tX12_find : Lean.RArray dLf := .branch 54 (.branch 28 (.branch 12 (.branch 3 (.branch 1 (.leaf (0, .iconst 0, 1)) (.branch 2 (.leaf (1, .istore_n 1, 1)) (.leaf (2, .iload_n 1, 1)))) (.branch 8 (.branch 5 (.leaf (3, .bipush 20, 2)) (.leaf (5, .if_icmp .ge 101, 3))) (.branch 9 (.leaf (8, .aload_n 0, 1)) (.leaf (9, .getfield 23, 3))))) (.branch 18 (.branch 16 (.branch 15 (.leaf (12, .sipush 183, 3)) (.leaf (15, .iload_n 1, 1))) (.branch 17 (.leaf (16, .iadd, 1)) (.leaf (17, .iaload, 1)))) (.branch 22 (.branch 21 (.leaf (18, .ifCond .le 24, 3)) (.leaf (21, .aload_n 0, 1))) (.branch 25 (.leaf (22, .getfield 23, 3)) (.leaf (25, .sipush 183, 3)))))) (.branch 42 (.branch 32 (.branch 30 (.branch 29 (.leaf (28, .iload_n 1, 1)) (.leaf (29, .iadd, 1))) (.branch 31 (.leaf (30, .iaload, 1)) (.leaf (31, .aload_n 0, 1)))) (.branch 38 (.branch 35 (.leaf (32, .getfield 84, 3)) (.leaf (35, .if_icmp .ne 7, 3))) (.branch 39 (.leaf (38, .iconst 1, 1)) (.leaf (39, .goto 4, 3))))) (.branch 46 (.branch 44 (.branch 43 (.leaf (42, .iconst 0, 1)) (.leaf (43, .istore_n 2, 1))) (.branch 45 (.leaf (44, .iconst 0, 1)) (.leaf (45, .istore_n 3, 1)))) (.branch 48 (.branch 47 (.leaf (46, .iload_n 3, 1)) (.leaf (47, .aload_n 0, 1))) (.branch 51 (.leaf (48, .getfield 84, 3)) (.leaf (51, .if_icmp .ge 43, 3))))))) (.branch 78 (.branch 68 (.branch 59 (.branch 55 (.leaf (54, .iload_n 2, 1)) (.branch 58 (.leaf (55, .ifCond .eq 39, 3)) (.leaf (58, .aload_n 0, 1)))) (.branch 65 (.branch 62 (.leaf (59, .getfield 23, 3)) (.leaf (62, .sipush 203, 3))) (.branch 67 (.leaf (65, .bipush 8, 2)) (.leaf (67, .iload_n 1, 1))))) (.branch 72 (.branch 70 (.branch 69 (.leaf (68, .imul, 1)) (.leaf (69, .iadd, 1))) (.branch 71 (.leaf (70, .iload_n 3, 1)) (.leaf (71, .iadd, 1)))) (.branch 74 (.branch 73 (.leaf (72, .iaload, 1)) (.leaf (73, .aload_n 0, 1))) (.branch 77 (.leaf (74, .getfield 17, 3)) (.leaf (77, .iload_n 3, 1)))))) (.branch 94 (.branch 86 (.branch 82 (.branch 79 (.leaf (78, .iaload, 1)) (.leaf (79, .if_icmp .ne 7, 3))) (.branch 83 (.leaf (82, .iconst 1, 1)) (.leaf (83, .goto 4, 3)))) (.branch 88 (.branch 87 (.leaf (86, .iconst 0, 1)) (.leaf (87, .istore_n 2, 1))) (.branch 91 (.leaf (88, .iinc 3 1, 3)) (.leaf (91, .goto (-45), 3))))) (.branch 100 (.branch 98 (.branch 95 (.leaf (94, .iload_n 2, 1)) (.leaf (95, .ifCond .eq 5, 3))) (.branch 99 (.leaf (98, .iload_n 1, 1)) (.leaf (99, .ireturn, 1)))) (.branch 106 (.branch 103 (.leaf (100, .iinc 1 1, 3)) (.leaf (103, .goto (-101), 3))) (.branch 107 (.leaf (106, .iconst (-1), 1)) (.leaf (107, .ireturn, 1)))))))
noncomputable def oX12_find : List dLf := dFl tX12_find
theorem ofX12_find : dFl tX12_find = oX12_find := rfl
set_option maxRecDepth 100000 in
theorem odX12_find : ∀ q ∈ oX12_find, decode cX12_find q.1 = .ok (q.2.1, q.2.2) := q_go qT_ok bbX12_find oX12_find 0 (by decide +kernel)
theorem dX12_find_0 : decode cX12_find 0 = .ok (.iconst 0, 1) := d_by (d_at odX12_find ofX12_find 0) rfl
theorem dX12_find_1 : decode cX12_find 1 = .ok (.istore_n 1, 1) := d_by (d_at odX12_find ofX12_find 1) rfl
theorem dX12_find_2 : decode cX12_find 2 = .ok (.iload_n 1, 1) := d_by (d_at odX12_find ofX12_find 2) rfl
theorem dX12_find_3 : decode cX12_find 3 = .ok (.bipush 20, 2) := d_by (d_at odX12_find ofX12_find 3) rfl
theorem dX12_find_5 : decode cX12_find 5 = .ok (.if_icmp .ge 101, 3) := d_by (d_at odX12_find ofX12_find 5) rfl
theorem dX12_find_8 : decode cX12_find 8 = .ok (.aload_n 0, 1) := d_by (d_at odX12_find ofX12_find 8) rfl
theorem dX12_find_9 : decode cX12_find 9 = .ok (.getfield 23, 3) := d_by (d_at odX12_find ofX12_find 9) rfl
theorem dX12_find_12 : decode cX12_find 12 = .ok (.sipush 183, 3) := d_by (d_at odX12_find ofX12_find 12) rfl
theorem dX12_find_15 : decode cX12_find 15 = .ok (.iload_n 1, 1) := d_by (d_at odX12_find ofX12_find 15) rfl
theorem dX12_find_16 : decode cX12_find 16 = .ok (.iadd, 1) := d_by (d_at odX12_find ofX12_find 16) rfl
theorem dX12_find_17 : decode cX12_find 17 = .ok (.iaload, 1) := d_by (d_at odX12_find ofX12_find 17) rfl
theorem dX12_find_18 : decode cX12_find 18 = .ok (.ifCond .le 24, 3) := d_by (d_at odX12_find ofX12_find 18) rfl
theorem dX12_find_21 : decode cX12_find 21 = .ok (.aload_n 0, 1) := d_by (d_at odX12_find ofX12_find 21) rfl
theorem dX12_find_22 : decode cX12_find 22 = .ok (.getfield 23, 3) := d_by (d_at odX12_find ofX12_find 22) rfl
theorem dX12_find_25 : decode cX12_find 25 = .ok (.sipush 183, 3) := d_by (d_at odX12_find ofX12_find 25) rfl
theorem dX12_find_28 : decode cX12_find 28 = .ok (.iload_n 1, 1) := d_by (d_at odX12_find ofX12_find 28) rfl
theorem dX12_find_29 : decode cX12_find 29 = .ok (.iadd, 1) := d_by (d_at odX12_find ofX12_find 29) rfl
theorem dX12_find_30 : decode cX12_find 30 = .ok (.iaload, 1) := d_by (d_at odX12_find ofX12_find 30) rfl
theorem dX12_find_31 : decode cX12_find 31 = .ok (.aload_n 0, 1) := d_by (d_at odX12_find ofX12_find 31) rfl
theorem dX12_find_32 : decode cX12_find 32 = .ok (.getfield 84, 3) := d_by (d_at odX12_find ofX12_find 32) rfl
theorem dX12_find_35 : decode cX12_find 35 = .ok (.if_icmp .ne 7, 3) := d_by (d_at odX12_find ofX12_find 35) rfl
theorem dX12_find_38 : decode cX12_find 38 = .ok (.iconst 1, 1) := d_by (d_at odX12_find ofX12_find 38) rfl
theorem dX12_find_39 : decode cX12_find 39 = .ok (.goto 4, 3) := d_by (d_at odX12_find ofX12_find 39) rfl
theorem dX12_find_42 : decode cX12_find 42 = .ok (.iconst 0, 1) := d_by (d_at odX12_find ofX12_find 42) rfl
theorem dX12_find_43 : decode cX12_find 43 = .ok (.istore_n 2, 1) := d_by (d_at odX12_find ofX12_find 43) rfl
theorem dX12_find_44 : decode cX12_find 44 = .ok (.iconst 0, 1) := d_by (d_at odX12_find ofX12_find 44) rfl
theorem dX12_find_45 : decode cX12_find 45 = .ok (.istore_n 3, 1) := d_by (d_at odX12_find ofX12_find 45) rfl
theorem dX12_find_46 : decode cX12_find 46 = .ok (.iload_n 3, 1) := d_by (d_at odX12_find ofX12_find 46) rfl
theorem dX12_find_47 : decode cX12_find 47 = .ok (.aload_n 0, 1) := d_by (d_at odX12_find ofX12_find 47) rfl
theorem dX12_find_48 : decode cX12_find 48 = .ok (.getfield 84, 3) := d_by (d_at odX12_find ofX12_find 48) rfl
theorem dX12_find_51 : decode cX12_find 51 = .ok (.if_icmp .ge 43, 3) := d_by (d_at odX12_find ofX12_find 51) rfl
theorem dX12_find_54 : decode cX12_find 54 = .ok (.iload_n 2, 1) := d_by (d_at odX12_find ofX12_find 54) rfl
theorem dX12_find_55 : decode cX12_find 55 = .ok (.ifCond .eq 39, 3) := d_by (d_at odX12_find ofX12_find 55) rfl
theorem dX12_find_58 : decode cX12_find 58 = .ok (.aload_n 0, 1) := d_by (d_at odX12_find ofX12_find 58) rfl
theorem dX12_find_59 : decode cX12_find 59 = .ok (.getfield 23, 3) := d_by (d_at odX12_find ofX12_find 59) rfl
theorem dX12_find_62 : decode cX12_find 62 = .ok (.sipush 203, 3) := d_by (d_at odX12_find ofX12_find 62) rfl
theorem dX12_find_65 : decode cX12_find 65 = .ok (.bipush 8, 2) := d_by (d_at odX12_find ofX12_find 65) rfl
theorem dX12_find_67 : decode cX12_find 67 = .ok (.iload_n 1, 1) := d_by (d_at odX12_find ofX12_find 67) rfl
theorem dX12_find_68 : decode cX12_find 68 = .ok (.imul, 1) := d_by (d_at odX12_find ofX12_find 68) rfl
theorem dX12_find_69 : decode cX12_find 69 = .ok (.iadd, 1) := d_by (d_at odX12_find ofX12_find 69) rfl
theorem dX12_find_70 : decode cX12_find 70 = .ok (.iload_n 3, 1) := d_by (d_at odX12_find ofX12_find 70) rfl
theorem dX12_find_71 : decode cX12_find 71 = .ok (.iadd, 1) := d_by (d_at odX12_find ofX12_find 71) rfl
theorem dX12_find_72 : decode cX12_find 72 = .ok (.iaload, 1) := d_by (d_at odX12_find ofX12_find 72) rfl
theorem dX12_find_73 : decode cX12_find 73 = .ok (.aload_n 0, 1) := d_by (d_at odX12_find ofX12_find 73) rfl
theorem dX12_find_74 : decode cX12_find 74 = .ok (.getfield 17, 3) := d_by (d_at odX12_find ofX12_find 74) rfl
theorem dX12_find_77 : decode cX12_find 77 = .ok (.iload_n 3, 1) := d_by (d_at odX12_find ofX12_find 77) rfl
theorem dX12_find_78 : decode cX12_find 78 = .ok (.iaload, 1) := d_by (d_at odX12_find ofX12_find 78) rfl
theorem dX12_find_79 : decode cX12_find 79 = .ok (.if_icmp .ne 7, 3) := d_by (d_at odX12_find ofX12_find 79) rfl
theorem dX12_find_82 : decode cX12_find 82 = .ok (.iconst 1, 1) := d_by (d_at odX12_find ofX12_find 82) rfl
theorem dX12_find_83 : decode cX12_find 83 = .ok (.goto 4, 3) := d_by (d_at odX12_find ofX12_find 83) rfl
theorem dX12_find_86 : decode cX12_find 86 = .ok (.iconst 0, 1) := d_by (d_at odX12_find ofX12_find 86) rfl
theorem dX12_find_87 : decode cX12_find 87 = .ok (.istore_n 2, 1) := d_by (d_at odX12_find ofX12_find 87) rfl
theorem dX12_find_88 : decode cX12_find 88 = .ok (.iinc 3 1, 3) := d_by (d_at odX12_find ofX12_find 88) rfl
theorem dX12_find_91 : decode cX12_find 91 = .ok (.goto (-45), 3) := d_by (d_at odX12_find ofX12_find 91) rfl
theorem dX12_find_94 : decode cX12_find 94 = .ok (.iload_n 2, 1) := d_by (d_at odX12_find ofX12_find 94) rfl
theorem dX12_find_95 : decode cX12_find 95 = .ok (.ifCond .eq 5, 3) := d_by (d_at odX12_find ofX12_find 95) rfl
theorem dX12_find_98 : decode cX12_find 98 = .ok (.iload_n 1, 1) := d_by (d_at odX12_find ofX12_find 98) rfl
theorem dX12_find_99 : decode cX12_find 99 = .ok (.ireturn, 1) := d_by (d_at odX12_find ofX12_find 99) rfl
theorem dX12_find_100 : decode cX12_find 100 = .ok (.iinc 1 1, 3) := d_by (d_at odX12_find ofX12_find 100) rfl
theorem dX12_find_103 : decode cX12_find 103 = .ok (.goto (-101), 3) := d_by (d_at odX12_find ofX12_find 103) rfl
theorem dX12_find_106 : decode cX12_find 106 = .ok (.iconst (-1), 1) := d_by (d_at odX12_find ofX12_find 106) rfl
theorem dX12_find_107 : decode cX12_find 107 = .ok (.ireturn, 1) := d_by (d_at odX12_find ofX12_find 107) rfl
set_option maxRecDepth 100000 in
def bX12_newName : List Nat := [42, 180, 0, 100, 153, 0, 4, 177, 42, 182, 0, 143, 42, 180, 0, 100, 154, 0, 19, 42, 182, 0, 146, 155, 0, 12, 42, 6, 42, 180, 0, 81, 182, 0, 127, 42, 180, 0, 100, 153, 0, 4, 177, 3, 61, 28, 42, 180, 0, 84, 162, 0, 30, 42, 180, 0, 23, 17, 0, 203, 16, 8, 27, 104, 96, 28, 96, 42, 180, 0, 17, 28, 46, 79, 132, 2, 1, 167, 255, 224, 42, 180, 0, 23, 17, 0, 183, 27, 96, 42, 180, 0, 84, 79, 42, 182, 0, 121, 177]
set_option maxRecDepth 100000 in
theorem bbX12_newName : cX12_newName.data.toList.map UInt8.toNat = bX12_newName := by decide +kernel
set_option maxRecDepth 100000 in
def tX12_newName : Lean.RArray dLf := .branch 53 (.branch 27 (.branch 12 (.branch 7 (.branch 1 (.leaf (0, .aload_n 0, 1)) (.branch 4 (.leaf (1, .getfield 100, 3)) (.leaf (4, .ifCond .eq 4, 3)))) (.branch 8 (.leaf (7, .return_, 1)) (.branch 9 (.leaf (8, .aload_n 0, 1)) (.leaf (9, .invokevirtual 143, 3))))) (.branch 19 (.branch 13 (.leaf (12, .aload_n 0, 1)) (.branch 16 (.leaf (13, .getfield 100, 3)) (.leaf (16, .ifCond .ne 19, 3)))) (.branch 23 (.branch 20 (.leaf (19, .aload_n 0, 1)) (.leaf (20, .invokevirtual 146, 3))) (.branch 26 (.leaf (23, .ifCond .lt 12, 3)) (.leaf (26, .aload_n 0, 1)))))) (.branch 42 (.branch 32 (.branch 28 (.leaf (27, .iconst 3, 1)) (.branch 29 (.leaf (28, .aload_n 0, 1)) (.leaf (29, .getfield 81, 3)))) (.branch 36 (.branch 35 (.leaf (32, .invokevirtual 127, 3)) (.leaf (35, .aload_n 0, 1))) (.branch 39 (.leaf (36, .getfield 100, 3)) (.leaf (39, .ifCond .eq 4, 3))))) (.branch 45 (.branch 43 (.leaf (42, .return_, 1)) (.branch 44 (.leaf (43, .iconst 0, 1)) (.leaf (44, .istore_n 2, 1)))) (.branch 47 (.branch 46 (.leaf (45, .iload_n 2, 1)) (.leaf (46, .aload_n 0, 1))) (.branch 50 (.leaf (47, .getfield 84, 3)) (.leaf (50, .if_icmp .ge 30, 3))))))) (.branch 73 (.branch 64 (.branch 60 (.branch 54 (.leaf (53, .aload_n 0, 1)) (.branch 57 (.leaf (54, .getfield 23, 3)) (.leaf (57, .sipush 203, 3)))) (.branch 62 (.leaf (60, .bipush 8, 2)) (.branch 63 (.leaf (62, .iload_n 1, 1)) (.leaf (63, .imul, 1))))) (.branch 67 (.branch 65 (.leaf (64, .iadd, 1)) (.branch 66 (.leaf (65, .iload_n 2, 1)) (.leaf (66, .iadd, 1)))) (.branch 71 (.branch 68 (.leaf (67, .aload_n 0, 1)) (.leaf (68, .getfield 17, 3))) (.branch 72 (.leaf (71, .iload_n 2, 1)) (.leaf (72, .iaload, 1)))))) (.branch 88 (.branch 80 (.branch 74 (.leaf (73, .iastore, 1)) (.branch 77 (.leaf (74, .iinc 2 1, 3)) (.leaf (77, .goto (-32), 3)))) (.branch 84 (.branch 81 (.leaf (80, .aload_n 0, 1)) (.leaf (81, .getfield 23, 3))) (.branch 87 (.leaf (84, .sipush 183, 3)) (.leaf (87, .iload_n 1, 1))))) (.branch 93 (.branch 89 (.leaf (88, .iadd, 1)) (.branch 90 (.leaf (89, .aload_n 0, 1)) (.leaf (90, .getfield 84, 3)))) (.branch 95 (.branch 94 (.leaf (93, .iastore, 1)) (.leaf (94, .aload_n 0, 1))) (.branch 98 (.leaf (95, .invokevirtual 121, 3)) (.leaf (98, .return_, 1)))))))
noncomputable def oX12_newName : List dLf := dFl tX12_newName
theorem ofX12_newName : dFl tX12_newName = oX12_newName := rfl
set_option maxRecDepth 100000 in
theorem odX12_newName : ∀ q ∈ oX12_newName, decode cX12_newName q.1 = .ok (q.2.1, q.2.2) := q_go qT_ok bbX12_newName oX12_newName 0 (by decide +kernel)
theorem dX12_newName_0 : decode cX12_newName 0 = .ok (.aload_n 0, 1) := d_by (d_at odX12_newName ofX12_newName 0) rfl
theorem dX12_newName_1 : decode cX12_newName 1 = .ok (.getfield 100, 3) := d_by (d_at odX12_newName ofX12_newName 1) rfl
theorem dX12_newName_4 : decode cX12_newName 4 = .ok (.ifCond .eq 4, 3) := d_by (d_at odX12_newName ofX12_newName 4) rfl
theorem dX12_newName_7 : decode cX12_newName 7 = .ok (.return_, 1) := d_by (d_at odX12_newName ofX12_newName 7) rfl
theorem dX12_newName_8 : decode cX12_newName 8 = .ok (.aload_n 0, 1) := d_by (d_at odX12_newName ofX12_newName 8) rfl
theorem dX12_newName_9 : decode cX12_newName 9 = .ok (.invokevirtual 143, 3) := d_by (d_at odX12_newName ofX12_newName 9) rfl
theorem dX12_newName_12 : decode cX12_newName 12 = .ok (.aload_n 0, 1) := d_by (d_at odX12_newName ofX12_newName 12) rfl
theorem dX12_newName_13 : decode cX12_newName 13 = .ok (.getfield 100, 3) := d_by (d_at odX12_newName ofX12_newName 13) rfl
theorem dX12_newName_16 : decode cX12_newName 16 = .ok (.ifCond .ne 19, 3) := d_by (d_at odX12_newName ofX12_newName 16) rfl
theorem dX12_newName_19 : decode cX12_newName 19 = .ok (.aload_n 0, 1) := d_by (d_at odX12_newName ofX12_newName 19) rfl
theorem dX12_newName_20 : decode cX12_newName 20 = .ok (.invokevirtual 146, 3) := d_by (d_at odX12_newName ofX12_newName 20) rfl
theorem dX12_newName_23 : decode cX12_newName 23 = .ok (.ifCond .lt 12, 3) := d_by (d_at odX12_newName ofX12_newName 23) rfl
theorem dX12_newName_26 : decode cX12_newName 26 = .ok (.aload_n 0, 1) := d_by (d_at odX12_newName ofX12_newName 26) rfl
theorem dX12_newName_27 : decode cX12_newName 27 = .ok (.iconst 3, 1) := d_by (d_at odX12_newName ofX12_newName 27) rfl
theorem dX12_newName_28 : decode cX12_newName 28 = .ok (.aload_n 0, 1) := d_by (d_at odX12_newName ofX12_newName 28) rfl
theorem dX12_newName_29 : decode cX12_newName 29 = .ok (.getfield 81, 3) := d_by (d_at odX12_newName ofX12_newName 29) rfl
theorem dX12_newName_32 : decode cX12_newName 32 = .ok (.invokevirtual 127, 3) := d_by (d_at odX12_newName ofX12_newName 32) rfl
theorem dX12_newName_35 : decode cX12_newName 35 = .ok (.aload_n 0, 1) := d_by (d_at odX12_newName ofX12_newName 35) rfl
theorem dX12_newName_36 : decode cX12_newName 36 = .ok (.getfield 100, 3) := d_by (d_at odX12_newName ofX12_newName 36) rfl
theorem dX12_newName_39 : decode cX12_newName 39 = .ok (.ifCond .eq 4, 3) := d_by (d_at odX12_newName ofX12_newName 39) rfl
theorem dX12_newName_42 : decode cX12_newName 42 = .ok (.return_, 1) := d_by (d_at odX12_newName ofX12_newName 42) rfl
theorem dX12_newName_43 : decode cX12_newName 43 = .ok (.iconst 0, 1) := d_by (d_at odX12_newName ofX12_newName 43) rfl
theorem dX12_newName_44 : decode cX12_newName 44 = .ok (.istore_n 2, 1) := d_by (d_at odX12_newName ofX12_newName 44) rfl
theorem dX12_newName_45 : decode cX12_newName 45 = .ok (.iload_n 2, 1) := d_by (d_at odX12_newName ofX12_newName 45) rfl
theorem dX12_newName_46 : decode cX12_newName 46 = .ok (.aload_n 0, 1) := d_by (d_at odX12_newName ofX12_newName 46) rfl
theorem dX12_newName_47 : decode cX12_newName 47 = .ok (.getfield 84, 3) := d_by (d_at odX12_newName ofX12_newName 47) rfl
theorem dX12_newName_50 : decode cX12_newName 50 = .ok (.if_icmp .ge 30, 3) := d_by (d_at odX12_newName ofX12_newName 50) rfl
theorem dX12_newName_53 : decode cX12_newName 53 = .ok (.aload_n 0, 1) := d_by (d_at odX12_newName ofX12_newName 53) rfl
theorem dX12_newName_54 : decode cX12_newName 54 = .ok (.getfield 23, 3) := d_by (d_at odX12_newName ofX12_newName 54) rfl
theorem dX12_newName_57 : decode cX12_newName 57 = .ok (.sipush 203, 3) := d_by (d_at odX12_newName ofX12_newName 57) rfl
theorem dX12_newName_60 : decode cX12_newName 60 = .ok (.bipush 8, 2) := d_by (d_at odX12_newName ofX12_newName 60) rfl
theorem dX12_newName_62 : decode cX12_newName 62 = .ok (.iload_n 1, 1) := d_by (d_at odX12_newName ofX12_newName 62) rfl
theorem dX12_newName_63 : decode cX12_newName 63 = .ok (.imul, 1) := d_by (d_at odX12_newName ofX12_newName 63) rfl
theorem dX12_newName_64 : decode cX12_newName 64 = .ok (.iadd, 1) := d_by (d_at odX12_newName ofX12_newName 64) rfl
theorem dX12_newName_65 : decode cX12_newName 65 = .ok (.iload_n 2, 1) := d_by (d_at odX12_newName ofX12_newName 65) rfl
theorem dX12_newName_66 : decode cX12_newName 66 = .ok (.iadd, 1) := d_by (d_at odX12_newName ofX12_newName 66) rfl
theorem dX12_newName_67 : decode cX12_newName 67 = .ok (.aload_n 0, 1) := d_by (d_at odX12_newName ofX12_newName 67) rfl
theorem dX12_newName_68 : decode cX12_newName 68 = .ok (.getfield 17, 3) := d_by (d_at odX12_newName ofX12_newName 68) rfl
theorem dX12_newName_71 : decode cX12_newName 71 = .ok (.iload_n 2, 1) := d_by (d_at odX12_newName ofX12_newName 71) rfl
theorem dX12_newName_72 : decode cX12_newName 72 = .ok (.iaload, 1) := d_by (d_at odX12_newName ofX12_newName 72) rfl
theorem dX12_newName_73 : decode cX12_newName 73 = .ok (.iastore, 1) := d_by (d_at odX12_newName ofX12_newName 73) rfl
theorem dX12_newName_74 : decode cX12_newName 74 = .ok (.iinc 2 1, 3) := d_by (d_at odX12_newName ofX12_newName 74) rfl
theorem dX12_newName_77 : decode cX12_newName 77 = .ok (.goto (-32), 3) := d_by (d_at odX12_newName ofX12_newName 77) rfl
theorem dX12_newName_80 : decode cX12_newName 80 = .ok (.aload_n 0, 1) := d_by (d_at odX12_newName ofX12_newName 80) rfl
theorem dX12_newName_81 : decode cX12_newName 81 = .ok (.getfield 23, 3) := d_by (d_at odX12_newName ofX12_newName 81) rfl
theorem dX12_newName_84 : decode cX12_newName 84 = .ok (.sipush 183, 3) := d_by (d_at odX12_newName ofX12_newName 84) rfl
theorem dX12_newName_87 : decode cX12_newName 87 = .ok (.iload_n 1, 1) := d_by (d_at odX12_newName ofX12_newName 87) rfl
theorem dX12_newName_88 : decode cX12_newName 88 = .ok (.iadd, 1) := d_by (d_at odX12_newName ofX12_newName 88) rfl
theorem dX12_newName_89 : decode cX12_newName 89 = .ok (.aload_n 0, 1) := d_by (d_at odX12_newName ofX12_newName 89) rfl
theorem dX12_newName_90 : decode cX12_newName 90 = .ok (.getfield 84, 3) := d_by (d_at odX12_newName ofX12_newName 90) rfl
theorem dX12_newName_93 : decode cX12_newName 93 = .ok (.iastore, 1) := d_by (d_at odX12_newName ofX12_newName 93) rfl
theorem dX12_newName_94 : decode cX12_newName 94 = .ok (.aload_n 0, 1) := d_by (d_at odX12_newName ofX12_newName 94) rfl
theorem dX12_newName_95 : decode cX12_newName 95 = .ok (.invokevirtual 121, 3) := d_by (d_at odX12_newName ofX12_newName 95) rfl
theorem dX12_newName_98 : decode cX12_newName 98 = .ok (.return_, 1) := d_by (d_at odX12_newName ofX12_newName 98) rfl
set_option maxRecDepth 100000 in
def bX12_named : List Nat := [42, 180, 0, 100, 153, 0, 5, 3, 172, 42, 182, 0, 143, 42, 180, 0, 100, 153, 0, 5, 3, 172, 42, 182, 0, 146, 62, 29, 27, 28, 184, 0, 149, 154, 0, 12, 42, 5, 42, 180, 0, 81, 182, 0, 127, 42, 180, 0, 100, 153, 0, 7, 3, 167, 0, 6, 29, 27, 100, 172]
set_option maxRecDepth 100000 in
theorem bbX12_named : cX12_named.data.toList.map UInt8.toNat = bX12_named := by decide +kernel
set_option maxRecDepth 100000 in
def tX12_named : Lean.RArray dLf := .branch 29 (.branch 14 (.branch 8 (.branch 4 (.branch 1 (.leaf (0, .aload_n 0, 1)) (.leaf (1, .getfield 100, 3))) (.branch 7 (.leaf (4, .ifCond .eq 5, 3)) (.leaf (7, .iconst 0, 1)))) (.branch 10 (.branch 9 (.leaf (8, .ireturn, 1)) (.leaf (9, .aload_n 0, 1))) (.branch 13 (.leaf (10, .invokevirtual 143, 3)) (.leaf (13, .aload_n 0, 1))))) (.branch 22 (.branch 20 (.branch 17 (.leaf (14, .getfield 100, 3)) (.leaf (17, .ifCond .eq 5, 3))) (.branch 21 (.leaf (20, .iconst 0, 1)) (.leaf (21, .ireturn, 1)))) (.branch 26 (.branch 23 (.leaf (22, .aload_n 0, 1)) (.leaf (23, .invokevirtual 146, 3))) (.branch 27 (.leaf (26, .istore_n 3, 1)) (.branch 28 (.leaf (27, .iload_n 3, 1)) (.leaf (28, .iload_n 1, 1))))))) (.branch 45 (.branch 37 (.branch 33 (.branch 30 (.leaf (29, .iload_n 2, 1)) (.leaf (30, .invokestatic 149, 3))) (.branch 36 (.leaf (33, .ifCond .ne 12, 3)) (.leaf (36, .aload_n 0, 1)))) (.branch 39 (.branch 38 (.leaf (37, .iconst 2, 1)) (.leaf (38, .aload_n 0, 1))) (.branch 42 (.leaf (39, .getfield 81, 3)) (.leaf (42, .invokevirtual 127, 3))))) (.branch 53 (.branch 49 (.branch 46 (.leaf (45, .aload_n 0, 1)) (.leaf (46, .getfield 100, 3))) (.branch 52 (.leaf (49, .ifCond .eq 7, 3)) (.leaf (52, .iconst 0, 1)))) (.branch 57 (.branch 56 (.leaf (53, .goto 6, 3)) (.leaf (56, .iload_n 3, 1))) (.branch 58 (.leaf (57, .iload_n 1, 1)) (.branch 59 (.leaf (58, .isub, 1)) (.leaf (59, .ireturn, 1)))))))
noncomputable def oX12_named : List dLf := dFl tX12_named
theorem ofX12_named : dFl tX12_named = oX12_named := rfl
set_option maxRecDepth 100000 in
theorem odX12_named : ∀ q ∈ oX12_named, decode cX12_named q.1 = .ok (q.2.1, q.2.2) := q_go qT_ok bbX12_named oX12_named 0 (by decide +kernel)
theorem dX12_named_0 : decode cX12_named 0 = .ok (.aload_n 0, 1) := d_by (d_at odX12_named ofX12_named 0) rfl
theorem dX12_named_1 : decode cX12_named 1 = .ok (.getfield 100, 3) := d_by (d_at odX12_named ofX12_named 1) rfl
theorem dX12_named_4 : decode cX12_named 4 = .ok (.ifCond .eq 5, 3) := d_by (d_at odX12_named ofX12_named 4) rfl
theorem dX12_named_7 : decode cX12_named 7 = .ok (.iconst 0, 1) := d_by (d_at odX12_named ofX12_named 7) rfl
theorem dX12_named_8 : decode cX12_named 8 = .ok (.ireturn, 1) := d_by (d_at odX12_named ofX12_named 8) rfl
theorem dX12_named_9 : decode cX12_named 9 = .ok (.aload_n 0, 1) := d_by (d_at odX12_named ofX12_named 9) rfl
theorem dX12_named_10 : decode cX12_named 10 = .ok (.invokevirtual 143, 3) := d_by (d_at odX12_named ofX12_named 10) rfl
theorem dX12_named_13 : decode cX12_named 13 = .ok (.aload_n 0, 1) := d_by (d_at odX12_named ofX12_named 13) rfl
theorem dX12_named_14 : decode cX12_named 14 = .ok (.getfield 100, 3) := d_by (d_at odX12_named ofX12_named 14) rfl
theorem dX12_named_17 : decode cX12_named 17 = .ok (.ifCond .eq 5, 3) := d_by (d_at odX12_named ofX12_named 17) rfl
theorem dX12_named_20 : decode cX12_named 20 = .ok (.iconst 0, 1) := d_by (d_at odX12_named ofX12_named 20) rfl
theorem dX12_named_21 : decode cX12_named 21 = .ok (.ireturn, 1) := d_by (d_at odX12_named ofX12_named 21) rfl
theorem dX12_named_22 : decode cX12_named 22 = .ok (.aload_n 0, 1) := d_by (d_at odX12_named ofX12_named 22) rfl
theorem dX12_named_23 : decode cX12_named 23 = .ok (.invokevirtual 146, 3) := d_by (d_at odX12_named ofX12_named 23) rfl
theorem dX12_named_26 : decode cX12_named 26 = .ok (.istore_n 3, 1) := d_by (d_at odX12_named ofX12_named 26) rfl
theorem dX12_named_27 : decode cX12_named 27 = .ok (.iload_n 3, 1) := d_by (d_at odX12_named ofX12_named 27) rfl
theorem dX12_named_28 : decode cX12_named 28 = .ok (.iload_n 1, 1) := d_by (d_at odX12_named ofX12_named 28) rfl
theorem dX12_named_29 : decode cX12_named 29 = .ok (.iload_n 2, 1) := d_by (d_at odX12_named ofX12_named 29) rfl
theorem dX12_named_30 : decode cX12_named 30 = .ok (.invokestatic 149, 3) := d_by (d_at odX12_named ofX12_named 30) rfl
theorem dX12_named_33 : decode cX12_named 33 = .ok (.ifCond .ne 12, 3) := d_by (d_at odX12_named ofX12_named 33) rfl
theorem dX12_named_36 : decode cX12_named 36 = .ok (.aload_n 0, 1) := d_by (d_at odX12_named ofX12_named 36) rfl
theorem dX12_named_37 : decode cX12_named 37 = .ok (.iconst 2, 1) := d_by (d_at odX12_named ofX12_named 37) rfl
theorem dX12_named_38 : decode cX12_named 38 = .ok (.aload_n 0, 1) := d_by (d_at odX12_named ofX12_named 38) rfl
theorem dX12_named_39 : decode cX12_named 39 = .ok (.getfield 81, 3) := d_by (d_at odX12_named ofX12_named 39) rfl
theorem dX12_named_42 : decode cX12_named 42 = .ok (.invokevirtual 127, 3) := d_by (d_at odX12_named ofX12_named 42) rfl
theorem dX12_named_45 : decode cX12_named 45 = .ok (.aload_n 0, 1) := d_by (d_at odX12_named ofX12_named 45) rfl
theorem dX12_named_46 : decode cX12_named 46 = .ok (.getfield 100, 3) := d_by (d_at odX12_named ofX12_named 46) rfl
theorem dX12_named_49 : decode cX12_named 49 = .ok (.ifCond .eq 7, 3) := d_by (d_at odX12_named ofX12_named 49) rfl
theorem dX12_named_52 : decode cX12_named 52 = .ok (.iconst 0, 1) := d_by (d_at odX12_named ofX12_named 52) rfl
theorem dX12_named_53 : decode cX12_named 53 = .ok (.goto 6, 3) := d_by (d_at odX12_named ofX12_named 53) rfl
theorem dX12_named_56 : decode cX12_named 56 = .ok (.iload_n 3, 1) := d_by (d_at odX12_named ofX12_named 56) rfl
theorem dX12_named_57 : decode cX12_named 57 = .ok (.iload_n 1, 1) := d_by (d_at odX12_named ofX12_named 57) rfl
theorem dX12_named_58 : decode cX12_named 58 = .ok (.isub, 1) := d_by (d_at odX12_named ofX12_named 58) rfl
theorem dX12_named_59 : decode cX12_named 59 = .ok (.ireturn, 1) := d_by (d_at odX12_named ofX12_named 59) rfl
set_option maxRecDepth 100000 in
def bX12_islandPassed : List Nat := [42, 3, 16, 6, 182, 0, 153, 60, 42, 180, 0, 100, 154, 0, 7, 42, 182, 0, 121, 27, 172]
set_option maxRecDepth 100000 in
theorem bbX12_islandPassed : cX12_islandPassed.data.toList.map UInt8.toNat = bX12_islandPassed := by decide +kernel
set_option maxRecDepth 100000 in
def tX12_islandPassed : Lean.RArray dLf := .branch 9 (.branch 4 (.branch 1 (.leaf (0, .aload_n 0, 1)) (.branch 2 (.leaf (1, .iconst 0, 1)) (.leaf (2, .bipush 6, 2)))) (.branch 7 (.leaf (4, .invokevirtual 153, 3)) (.branch 8 (.leaf (7, .istore_n 1, 1)) (.leaf (8, .aload_n 0, 1))))) (.branch 16 (.branch 12 (.leaf (9, .getfield 100, 3)) (.branch 15 (.leaf (12, .ifCond .ne 7, 3)) (.leaf (15, .aload_n 0, 1)))) (.branch 19 (.leaf (16, .invokevirtual 121, 3)) (.branch 20 (.leaf (19, .iload_n 1, 1)) (.leaf (20, .ireturn, 1)))))
noncomputable def oX12_islandPassed : List dLf := dFl tX12_islandPassed
theorem ofX12_islandPassed : dFl tX12_islandPassed = oX12_islandPassed := rfl
set_option maxRecDepth 100000 in
theorem odX12_islandPassed : ∀ q ∈ oX12_islandPassed, decode cX12_islandPassed q.1 = .ok (q.2.1, q.2.2) := q_go qT_ok bbX12_islandPassed oX12_islandPassed 0 (by decide +kernel)
theorem dX12_islandPassed_0 : decode cX12_islandPassed 0 = .ok (.aload_n 0, 1) := d_by (d_at odX12_islandPassed ofX12_islandPassed 0) rfl
theorem dX12_islandPassed_1 : decode cX12_islandPassed 1 = .ok (.iconst 0, 1) := d_by (d_at odX12_islandPassed ofX12_islandPassed 1) rfl
theorem dX12_islandPassed_2 : decode cX12_islandPassed 2 = .ok (.bipush 6, 2) := d_by (d_at odX12_islandPassed ofX12_islandPassed 2) rfl
theorem dX12_islandPassed_4 : decode cX12_islandPassed 4 = .ok (.invokevirtual 153, 3) := d_by (d_at odX12_islandPassed ofX12_islandPassed 4) rfl
theorem dX12_islandPassed_7 : decode cX12_islandPassed 7 = .ok (.istore_n 1, 1) := d_by (d_at odX12_islandPassed ofX12_islandPassed 7) rfl
theorem dX12_islandPassed_8 : decode cX12_islandPassed 8 = .ok (.aload_n 0, 1) := d_by (d_at odX12_islandPassed ofX12_islandPassed 8) rfl
theorem dX12_islandPassed_9 : decode cX12_islandPassed 9 = .ok (.getfield 100, 3) := d_by (d_at odX12_islandPassed ofX12_islandPassed 9) rfl
theorem dX12_islandPassed_12 : decode cX12_islandPassed 12 = .ok (.ifCond .ne 7, 3) := d_by (d_at odX12_islandPassed ofX12_islandPassed 12) rfl
theorem dX12_islandPassed_15 : decode cX12_islandPassed 15 = .ok (.aload_n 0, 1) := d_by (d_at odX12_islandPassed ofX12_islandPassed 15) rfl
theorem dX12_islandPassed_16 : decode cX12_islandPassed 16 = .ok (.invokevirtual 121, 3) := d_by (d_at odX12_islandPassed ofX12_islandPassed 16) rfl
theorem dX12_islandPassed_19 : decode cX12_islandPassed 19 = .ok (.iload_n 1, 1) := d_by (d_at odX12_islandPassed ofX12_islandPassed 19) rfl
theorem dX12_islandPassed_20 : decode cX12_islandPassed 20 = .ok (.ireturn, 1) := d_by (d_at odX12_islandPassed ofX12_islandPassed 20) rfl
set_option maxRecDepth 100000 in
def bX12_islandBehind : List Nat := [42, 43, 182, 0, 157, 42, 182, 0, 161, 172]
set_option maxRecDepth 100000 in
theorem bbX12_islandBehind : cX12_islandBehind.data.toList.map UInt8.toNat = bX12_islandBehind := by decide +kernel
set_option maxRecDepth 100000 in
def tX12_islandBehind : Lean.RArray dLf := .branch 5 (.branch 1 (.leaf (0, .aload_n 0, 1)) (.branch 2 (.leaf (1, .aload_n 1, 1)) (.leaf (2, .invokevirtual 157, 3)))) (.branch 6 (.leaf (5, .aload_n 0, 1)) (.branch 9 (.leaf (6, .invokevirtual 161, 3)) (.leaf (9, .ireturn, 1))))
noncomputable def oX12_islandBehind : List dLf := dFl tX12_islandBehind
theorem ofX12_islandBehind : dFl tX12_islandBehind = oX12_islandBehind := rfl
set_option maxRecDepth 100000 in
theorem odX12_islandBehind : ∀ q ∈ oX12_islandBehind, decode cX12_islandBehind q.1 = .ok (q.2.1, q.2.2) := q_go qT_ok bbX12_islandBehind oX12_islandBehind 0 (by decide +kernel)
theorem dX12_islandBehind_0 : decode cX12_islandBehind 0 = .ok (.aload_n 0, 1) := d_by (d_at odX12_islandBehind ofX12_islandBehind 0) rfl
theorem dX12_islandBehind_1 : decode cX12_islandBehind 1 = .ok (.aload_n 1, 1) := d_by (d_at odX12_islandBehind ofX12_islandBehind 1) rfl
theorem dX12_islandBehind_2 : decode cX12_islandBehind 2 = .ok (.invokevirtual 157, 3) := d_by (d_at odX12_islandBehind ofX12_islandBehind 2) rfl
theorem dX12_islandBehind_5 : decode cX12_islandBehind 5 = .ok (.aload_n 0, 1) := d_by (d_at odX12_islandBehind ofX12_islandBehind 5) rfl
theorem dX12_islandBehind_6 : decode cX12_islandBehind 6 = .ok (.invokevirtual 161, 3) := d_by (d_at odX12_islandBehind ofX12_islandBehind 6) rfl
theorem dX12_islandBehind_9 : decode cX12_islandBehind 9 = .ok (.ireturn, 1) := d_by (d_at odX12_islandBehind ofX12_islandBehind 9) rfl
set_option maxRecDepth 100000 in
def bX12_number : List Nat := [42, 180, 0, 100, 153, 0, 5, 27, 172, 42, 180, 0, 90, 6, 159, 0, 15, 42, 4, 42, 180, 0, 81, 182, 0, 127, 167, 0, 24, 42, 180, 0, 87, 27, 28, 184, 0, 149, 154, 0, 12, 42, 7, 42, 180, 0, 81, 182, 0, 127, 42, 180, 0, 100, 153, 0, 5, 27, 172, 42, 180, 0, 87, 62, 42, 182, 0, 121, 29, 172]
set_option maxRecDepth 100000 in
theorem bbX12_number : cX12_number.data.toList.map UInt8.toNat = bX12_number := by decide +kernel
set_option maxRecDepth 100000 in
def tX12_number : Lean.RArray dLf := .branch 35 (.branch 17 (.branch 8 (.branch 4 (.branch 1 (.leaf (0, .aload_n 0, 1)) (.leaf (1, .getfield 100, 3))) (.branch 7 (.leaf (4, .ifCond .eq 5, 3)) (.leaf (7, .iload_n 1, 1)))) (.branch 10 (.branch 9 (.leaf (8, .ireturn, 1)) (.leaf (9, .aload_n 0, 1))) (.branch 13 (.leaf (10, .getfield 90, 3)) (.branch 14 (.leaf (13, .iconst 3, 1)) (.leaf (14, .if_icmp .eq 15, 3)))))) (.branch 26 (.branch 19 (.branch 18 (.leaf (17, .aload_n 0, 1)) (.leaf (18, .iconst 1, 1))) (.branch 20 (.leaf (19, .aload_n 0, 1)) (.branch 23 (.leaf (20, .getfield 81, 3)) (.leaf (23, .invokevirtual 127, 3))))) (.branch 30 (.branch 29 (.leaf (26, .goto 24, 3)) (.leaf (29, .aload_n 0, 1))) (.branch 33 (.leaf (30, .getfield 87, 3)) (.branch 34 (.leaf (33, .iload_n 1, 1)) (.leaf (34, .iload_n 2, 1))))))) (.branch 54 (.branch 43 (.branch 41 (.branch 38 (.leaf (35, .invokestatic 149, 3)) (.leaf (38, .ifCond .ne 12, 3))) (.branch 42 (.leaf (41, .aload_n 0, 1)) (.leaf (42, .iconst 4, 1)))) (.branch 47 (.branch 44 (.leaf (43, .aload_n 0, 1)) (.leaf (44, .getfield 81, 3))) (.branch 50 (.leaf (47, .invokevirtual 127, 3)) (.branch 51 (.leaf (50, .aload_n 0, 1)) (.leaf (51, .getfield 100, 3)))))) (.branch 63 (.branch 58 (.branch 57 (.leaf (54, .ifCond .eq 5, 3)) (.leaf (57, .iload_n 1, 1))) (.branch 59 (.leaf (58, .ireturn, 1)) (.branch 60 (.leaf (59, .aload_n 0, 1)) (.leaf (60, .getfield 87, 3))))) (.branch 65 (.branch 64 (.leaf (63, .istore_n 3, 1)) (.leaf (64, .aload_n 0, 1))) (.branch 68 (.leaf (65, .invokevirtual 121, 3)) (.branch 69 (.leaf (68, .iload_n 3, 1)) (.leaf (69, .ireturn, 1)))))))
noncomputable def oX12_number : List dLf := dFl tX12_number
theorem ofX12_number : dFl tX12_number = oX12_number := rfl
set_option maxRecDepth 100000 in
theorem odX12_number : ∀ q ∈ oX12_number, decode cX12_number q.1 = .ok (q.2.1, q.2.2) := q_go qT_ok bbX12_number oX12_number 0 (by decide +kernel)
theorem dX12_number_0 : decode cX12_number 0 = .ok (.aload_n 0, 1) := d_by (d_at odX12_number ofX12_number 0) rfl
theorem dX12_number_1 : decode cX12_number 1 = .ok (.getfield 100, 3) := d_by (d_at odX12_number ofX12_number 1) rfl
theorem dX12_number_4 : decode cX12_number 4 = .ok (.ifCond .eq 5, 3) := d_by (d_at odX12_number ofX12_number 4) rfl
theorem dX12_number_7 : decode cX12_number 7 = .ok (.iload_n 1, 1) := d_by (d_at odX12_number ofX12_number 7) rfl
theorem dX12_number_8 : decode cX12_number 8 = .ok (.ireturn, 1) := d_by (d_at odX12_number ofX12_number 8) rfl
theorem dX12_number_9 : decode cX12_number 9 = .ok (.aload_n 0, 1) := d_by (d_at odX12_number ofX12_number 9) rfl
theorem dX12_number_10 : decode cX12_number 10 = .ok (.getfield 90, 3) := d_by (d_at odX12_number ofX12_number 10) rfl
theorem dX12_number_13 : decode cX12_number 13 = .ok (.iconst 3, 1) := d_by (d_at odX12_number ofX12_number 13) rfl
theorem dX12_number_14 : decode cX12_number 14 = .ok (.if_icmp .eq 15, 3) := d_by (d_at odX12_number ofX12_number 14) rfl
theorem dX12_number_17 : decode cX12_number 17 = .ok (.aload_n 0, 1) := d_by (d_at odX12_number ofX12_number 17) rfl
theorem dX12_number_18 : decode cX12_number 18 = .ok (.iconst 1, 1) := d_by (d_at odX12_number ofX12_number 18) rfl
theorem dX12_number_19 : decode cX12_number 19 = .ok (.aload_n 0, 1) := d_by (d_at odX12_number ofX12_number 19) rfl
theorem dX12_number_20 : decode cX12_number 20 = .ok (.getfield 81, 3) := d_by (d_at odX12_number ofX12_number 20) rfl
theorem dX12_number_23 : decode cX12_number 23 = .ok (.invokevirtual 127, 3) := d_by (d_at odX12_number ofX12_number 23) rfl
theorem dX12_number_26 : decode cX12_number 26 = .ok (.goto 24, 3) := d_by (d_at odX12_number ofX12_number 26) rfl
theorem dX12_number_29 : decode cX12_number 29 = .ok (.aload_n 0, 1) := d_by (d_at odX12_number ofX12_number 29) rfl
theorem dX12_number_30 : decode cX12_number 30 = .ok (.getfield 87, 3) := d_by (d_at odX12_number ofX12_number 30) rfl
theorem dX12_number_33 : decode cX12_number 33 = .ok (.iload_n 1, 1) := d_by (d_at odX12_number ofX12_number 33) rfl
theorem dX12_number_34 : decode cX12_number 34 = .ok (.iload_n 2, 1) := d_by (d_at odX12_number ofX12_number 34) rfl
theorem dX12_number_35 : decode cX12_number 35 = .ok (.invokestatic 149, 3) := d_by (d_at odX12_number ofX12_number 35) rfl
theorem dX12_number_38 : decode cX12_number 38 = .ok (.ifCond .ne 12, 3) := d_by (d_at odX12_number ofX12_number 38) rfl
theorem dX12_number_41 : decode cX12_number 41 = .ok (.aload_n 0, 1) := d_by (d_at odX12_number ofX12_number 41) rfl
theorem dX12_number_42 : decode cX12_number 42 = .ok (.iconst 4, 1) := d_by (d_at odX12_number ofX12_number 42) rfl
theorem dX12_number_43 : decode cX12_number 43 = .ok (.aload_n 0, 1) := d_by (d_at odX12_number ofX12_number 43) rfl
theorem dX12_number_44 : decode cX12_number 44 = .ok (.getfield 81, 3) := d_by (d_at odX12_number ofX12_number 44) rfl
theorem dX12_number_47 : decode cX12_number 47 = .ok (.invokevirtual 127, 3) := d_by (d_at odX12_number ofX12_number 47) rfl
theorem dX12_number_50 : decode cX12_number 50 = .ok (.aload_n 0, 1) := d_by (d_at odX12_number ofX12_number 50) rfl
theorem dX12_number_51 : decode cX12_number 51 = .ok (.getfield 100, 3) := d_by (d_at odX12_number ofX12_number 51) rfl
theorem dX12_number_54 : decode cX12_number 54 = .ok (.ifCond .eq 5, 3) := d_by (d_at odX12_number ofX12_number 54) rfl
theorem dX12_number_57 : decode cX12_number 57 = .ok (.iload_n 1, 1) := d_by (d_at odX12_number ofX12_number 57) rfl
theorem dX12_number_58 : decode cX12_number 58 = .ok (.ireturn, 1) := d_by (d_at odX12_number ofX12_number 58) rfl
theorem dX12_number_59 : decode cX12_number 59 = .ok (.aload_n 0, 1) := d_by (d_at odX12_number ofX12_number 59) rfl
theorem dX12_number_60 : decode cX12_number 60 = .ok (.getfield 87, 3) := d_by (d_at odX12_number ofX12_number 60) rfl
theorem dX12_number_63 : decode cX12_number 63 = .ok (.istore_n 3, 1) := d_by (d_at odX12_number ofX12_number 63) rfl
theorem dX12_number_64 : decode cX12_number 64 = .ok (.aload_n 0, 1) := d_by (d_at odX12_number ofX12_number 64) rfl
theorem dX12_number_65 : decode cX12_number 65 = .ok (.invokevirtual 121, 3) := d_by (d_at odX12_number ofX12_number 65) rfl
theorem dX12_number_68 : decode cX12_number 68 = .ok (.iload_n 3, 1) := d_by (d_at odX12_number ofX12_number 68) rfl
theorem dX12_number_69 : decode cX12_number 69 = .ok (.ireturn, 1) := d_by (d_at odX12_number ofX12_number 69) rfl
set_option maxRecDepth 100000 in
def bX12_after : List Nat := [42, 43, 182, 0, 157, 42, 28, 29, 182, 0, 164, 172]
set_option maxRecDepth 100000 in
theorem bbX12_after : cX12_after.data.toList.map UInt8.toNat = bX12_after := by decide +kernel
set_option maxRecDepth 100000 in
def tX12_after : Lean.RArray dLf := .branch 6 (.branch 2 (.branch 1 (.leaf (0, .aload_n 0, 1)) (.leaf (1, .aload_n 1, 1))) (.branch 5 (.leaf (2, .invokevirtual 157, 3)) (.leaf (5, .aload_n 0, 1)))) (.branch 8 (.branch 7 (.leaf (6, .iload_n 2, 1)) (.leaf (7, .iload_n 3, 1))) (.branch 11 (.leaf (8, .invokevirtual 164, 3)) (.leaf (11, .ireturn, 1))))
noncomputable def oX12_after : List dLf := dFl tX12_after
theorem ofX12_after : dFl tX12_after = oX12_after := rfl
set_option maxRecDepth 100000 in
theorem odX12_after : ∀ q ∈ oX12_after, decode cX12_after q.1 = .ok (q.2.1, q.2.2) := q_go qT_ok bbX12_after oX12_after 0 (by decide +kernel)
theorem dX12_after_0 : decode cX12_after 0 = .ok (.aload_n 0, 1) := d_by (d_at odX12_after ofX12_after 0) rfl
theorem dX12_after_1 : decode cX12_after 1 = .ok (.aload_n 1, 1) := d_by (d_at odX12_after ofX12_after 1) rfl
theorem dX12_after_2 : decode cX12_after 2 = .ok (.invokevirtual 157, 3) := d_by (d_at odX12_after ofX12_after 2) rfl
theorem dX12_after_5 : decode cX12_after 5 = .ok (.aload_n 0, 1) := d_by (d_at odX12_after ofX12_after 5) rfl
theorem dX12_after_6 : decode cX12_after 6 = .ok (.iload_n 2, 1) := d_by (d_at odX12_after ofX12_after 6) rfl
theorem dX12_after_7 : decode cX12_after 7 = .ok (.iload_n 3, 1) := d_by (d_at odX12_after ofX12_after 7) rfl
theorem dX12_after_8 : decode cX12_after 8 = .ok (.invokevirtual 164, 3) := d_by (d_at odX12_after ofX12_after 8) rfl
theorem dX12_after_11 : decode cX12_after 11 = .ok (.ireturn, 1) := d_by (d_at odX12_after ofX12_after 11) rfl
set_option maxRecDepth 100000 in
def bX12_post : List Nat := [42, 182, 0, 167, 27, 3, 42, 180, 0, 68, 184, 0, 149, 154, 0, 9, 42, 5, 182, 0, 170, 172, 42, 3, 181, 0, 68, 42, 3, 181, 0, 104, 42, 3, 181, 0, 100, 3, 61, 28, 17, 1, 107, 162, 0, 16, 42, 180, 0, 23, 28, 3, 79, 132, 2, 1, 167, 255, 239, 42, 27, 181, 0, 71, 42, 3, 181, 0, 74, 42, 182, 0, 121, 42, 182, 0, 173, 42, 180, 0, 100, 154, 0, 23, 42, 180, 0, 90, 16, 59, 160, 0, 14, 42, 182, 0, 121, 42, 182, 0, 173, 167, 255, 232, 42, 180, 0, 100, 154, 0, 19, 42, 180, 0, 90, 153, 0, 12, 42, 4, 42, 180, 0, 81, 182, 0, 127, 42, 180, 0, 100, 154, 0, 32, 42, 180, 0, 23, 16, 9, 46, 153, 0, 12, 42, 180, 0, 23, 7, 46, 154, 0, 13, 42, 16, 6, 42, 180, 0, 81, 182, 0, 127, 42, 180, 0, 100, 153, 0, 9, 42, 7, 182, 0, 170, 172, 42, 180, 0, 23, 3, 42, 180, 0, 20, 3, 17, 1, 107, 184, 0, 176, 3, 61, 28, 16, 76, 162, 0, 16, 42, 180, 0, 26, 28, 3, 79, 132, 2, 1, 167, 255, 240, 3, 61, 28, 42, 180, 0, 20, 16, 6, 46, 162, 0, 30, 42, 180, 0, 26, 5, 28, 96, 42, 180, 0, 20, 16, 107, 7, 28, 104, 96, 4, 96, 46, 79, 132, 2, 1, 167, 255, 221, 3, 61, 28, 42, 180, 0, 20, 16, 7, 46, 162, 0, 50, 42, 180, 0, 20, 16, 10, 16, 7, 42, 180, 0, 20, 16, 127, 7, 28, 104, 96, 4, 96, 46, 104, 96, 4, 96, 42, 180, 0, 26, 16, 28, 16, 6, 28, 104, 96, 16, 6, 184, 0, 176, 132, 2, 1, 167, 255, 201, 42, 4, 181, 0, 180, 42, 3, 181, 0, 183, 42, 3, 181, 0, 186, 42, 180, 0, 20, 7, 46, 172]
set_option maxRecDepth 100000 in
theorem bbX12_post : cX12_post.data.toList.map UInt8.toNat = bX12_post := by decide +kernel
set_option maxRecDepth 100000 in
def tX12_post : Lean.RArray dLf := .branch 181 (.branch 85 (.branch 39 (.branch 21 (.branch 7 (.branch 4 (.branch 1 (.leaf (0, .aload_n 0, 1)) (.leaf (1, .invokevirtual 167, 3))) (.branch 5 (.leaf (4, .iload_n 1, 1)) (.branch 6 (.leaf (5, .iconst 0, 1)) (.leaf (6, .aload_n 0, 1))))) (.branch 16 (.branch 10 (.leaf (7, .getfield 68, 3)) (.branch 13 (.leaf (10, .invokestatic 149, 3)) (.leaf (13, .ifCond .ne 9, 3)))) (.branch 17 (.leaf (16, .aload_n 0, 1)) (.branch 18 (.leaf (17, .iconst 2, 1)) (.leaf (18, .invokevirtual 170, 3)))))) (.branch 29 (.branch 24 (.branch 22 (.leaf (21, .ireturn, 1)) (.branch 23 (.leaf (22, .aload_n 0, 1)) (.leaf (23, .iconst 0, 1)))) (.branch 27 (.leaf (24, .putfield 68, 3)) (.branch 28 (.leaf (27, .aload_n 0, 1)) (.leaf (28, .iconst 0, 1))))) (.branch 34 (.branch 32 (.leaf (29, .putfield 104, 3)) (.branch 33 (.leaf (32, .aload_n 0, 1)) (.leaf (33, .iconst 0, 1)))) (.branch 37 (.leaf (34, .putfield 100, 3)) (.branch 38 (.leaf (37, .iconst 0, 1)) (.leaf (38, .istore_n 2, 1))))))) (.branch 61 (.branch 51 (.branch 46 (.branch 40 (.leaf (39, .iload_n 2, 1)) (.branch 43 (.leaf (40, .sipush 363, 3)) (.leaf (43, .if_icmp .ge 16, 3)))) (.branch 47 (.leaf (46, .aload_n 0, 1)) (.branch 50 (.leaf (47, .getfield 23, 3)) (.leaf (50, .iload_n 2, 1))))) (.branch 56 (.branch 52 (.leaf (51, .iconst 0, 1)) (.branch 53 (.leaf (52, .iastore, 1)) (.leaf (53, .iinc 2 1, 3)))) (.branch 59 (.leaf (56, .goto (-17), 3)) (.branch 60 (.leaf (59, .aload_n 0, 1)) (.leaf (60, .iload_n 1, 1)))))) (.branch 73 (.branch 66 (.branch 64 (.leaf (61, .putfield 71, 3)) (.branch 65 (.leaf (64, .aload_n 0, 1)) (.leaf (65, .iconst 0, 1)))) (.branch 69 (.leaf (66, .putfield 74, 3)) (.branch 70 (.leaf (69, .aload_n 0, 1)) (.leaf (70, .invokevirtual 121, 3))))) (.branch 78 (.branch 74 (.leaf (73, .aload_n 0, 1)) (.branch 77 (.leaf (74, .invokevirtual 173, 3)) (.leaf (77, .aload_n 0, 1)))) (.branch 81 (.leaf (78, .getfield 100, 3)) (.branch 84 (.leaf (81, .ifCond .ne 23, 3)) (.leaf (84, .aload_n 0, 1)))))))) (.branch 135 (.branch 111 (.branch 97 (.branch 90 (.branch 88 (.leaf (85, .getfield 90, 3)) (.leaf (88, .bipush 59, 2))) (.branch 93 (.leaf (90, .if_icmp .ne 14, 3)) (.branch 94 (.leaf (93, .aload_n 0, 1)) (.leaf (94, .invokevirtual 121, 3))))) (.branch 104 (.branch 98 (.leaf (97, .aload_n 0, 1)) (.branch 101 (.leaf (98, .invokevirtual 173, 3)) (.leaf (101, .goto (-24), 3)))) (.branch 105 (.leaf (104, .aload_n 0, 1)) (.branch 108 (.leaf (105, .getfield 100, 3)) (.leaf (108, .ifCond .ne 19, 3)))))) (.branch 121 (.branch 118 (.branch 112 (.leaf (111, .aload_n 0, 1)) (.branch 115 (.leaf (112, .getfield 90, 3)) (.leaf (115, .ifCond .eq 12, 3)))) (.branch 119 (.leaf (118, .aload_n 0, 1)) (.branch 120 (.leaf (119, .iconst 1, 1)) (.leaf (120, .aload_n 0, 1))))) (.branch 128 (.branch 124 (.leaf (121, .getfield 81, 3)) (.branch 127 (.leaf (124, .invokevirtual 127, 3)) (.leaf (127, .aload_n 0, 1)))) (.branch 131 (.leaf (128, .getfield 100, 3)) (.branch 134 (.leaf (131, .ifCond .ne 32, 3)) (.leaf (134, .aload_n 0, 1))))))) (.branch 157 (.branch 148 (.branch 141 (.branch 138 (.leaf (135, .getfield 23, 3)) (.branch 140 (.leaf (138, .bipush 9, 2)) (.leaf (140, .iaload, 1)))) (.branch 144 (.leaf (141, .ifCond .eq 12, 3)) (.branch 145 (.leaf (144, .aload_n 0, 1)) (.leaf (145, .getfield 23, 3))))) (.branch 153 (.branch 149 (.leaf (148, .iconst 4, 1)) (.branch 150 (.leaf (149, .iaload, 1)) (.leaf (150, .ifCond .ne 13, 3)))) (.branch 154 (.leaf (153, .aload_n 0, 1)) (.branch 156 (.leaf (154, .bipush 6, 2)) (.leaf (156, .aload_n 0, 1)))))) (.branch 171 (.branch 164 (.branch 160 (.leaf (157, .getfield 81, 3)) (.branch 163 (.leaf (160, .invokevirtual 127, 3)) (.leaf (163, .aload_n 0, 1)))) (.branch 167 (.leaf (164, .getfield 100, 3)) (.branch 170 (.leaf (167, .ifCond .eq 9, 3)) (.leaf (170, .aload_n 0, 1))))) (.branch 176 (.branch 172 (.leaf (171, .iconst 4, 1)) (.branch 175 (.leaf (172, .invokevirtual 170, 3)) (.leaf (175, .ireturn, 1)))) (.branch 177 (.leaf (176, .aload_n 0, 1)) (.branch 180 (.leaf (177, .getfield 23, 3)) (.leaf (180, .iconst 0, 1))))))))) (.branch 257 (.branch 222 (.branch 201 (.branch 192 (.branch 185 (.branch 182 (.leaf (181, .aload_n 0, 1)) (.leaf (182, .getfield 20, 3))) (.branch 186 (.leaf (185, .iconst 0, 1)) (.branch 189 (.leaf (186, .sipush 363, 3)) (.leaf (189, .invokestatic 176, 3))))) (.branch 195 (.branch 193 (.leaf (192, .iconst 0, 1)) (.branch 194 (.leaf (193, .istore_n 2, 1)) (.leaf (194, .iload_n 2, 1)))) (.branch 197 (.leaf (195, .bipush 76, 2)) (.branch 200 (.leaf (197, .if_icmp .ge 16, 3)) (.leaf (200, .aload_n 0, 1)))))) (.branch 213 (.branch 206 (.branch 204 (.leaf (201, .getfield 26, 3)) (.branch 205 (.leaf (204, .iload_n 2, 1)) (.leaf (205, .iconst 0, 1)))) (.branch 207 (.leaf (206, .iastore, 1)) (.branch 210 (.leaf (207, .iinc 2 1, 3)) (.leaf (210, .goto (-16), 3))))) (.branch 216 (.branch 214 (.leaf (213, .iconst 0, 1)) (.branch 215 (.leaf (214, .istore_n 2, 1)) (.leaf (215, .iload_n 2, 1)))) (.branch 217 (.leaf (216, .aload_n 0, 1)) (.branch 220 (.leaf (217, .getfield 20, 3)) (.leaf (220, .bipush 6, 2))))))) (.branch 241 (.branch 232 (.branch 227 (.branch 223 (.leaf (222, .iaload, 1)) (.branch 226 (.leaf (223, .if_icmp .ge 30, 3)) (.leaf (226, .aload_n 0, 1)))) (.branch 230 (.leaf (227, .getfield 26, 3)) (.branch 231 (.leaf (230, .iconst 2, 1)) (.leaf (231, .iload_n 2, 1))))) (.branch 237 (.branch 233 (.leaf (232, .iadd, 1)) (.branch 234 (.leaf (233, .aload_n 0, 1)) (.leaf (234, .getfield 20, 3)))) (.branch 239 (.leaf (237, .bipush 107, 2)) (.branch 240 (.leaf (239, .iconst 4, 1)) (.leaf (240, .iload_n 2, 1)))))) (.branch 247 (.branch 244 (.branch 242 (.leaf (241, .imul, 1)) (.branch 243 (.leaf (242, .iadd, 1)) (.leaf (243, .iconst 1, 1)))) (.branch 245 (.leaf (244, .iadd, 1)) (.branch 246 (.leaf (245, .iaload, 1)) (.leaf (246, .iastore, 1))))) (.branch 254 (.branch 250 (.leaf (247, .iinc 2 1, 3)) (.branch 253 (.leaf (250, .goto (-35), 3)) (.leaf (253, .iconst 0, 1)))) (.branch 255 (.leaf (254, .istore_n 2, 1)) (.branch 256 (.leaf (255, .iload_n 2, 1)) (.leaf (256, .aload_n 0, 1)))))))) (.branch 292 (.branch 280 (.branch 267 (.branch 262 (.branch 260 (.leaf (257, .getfield 20, 3)) (.leaf (260, .bipush 7, 2))) (.branch 263 (.leaf (262, .iaload, 1)) (.branch 266 (.leaf (263, .if_icmp .ge 50, 3)) (.leaf (266, .aload_n 0, 1))))) (.branch 274 (.branch 270 (.leaf (267, .getfield 20, 3)) (.branch 272 (.leaf (270, .bipush 10, 2)) (.leaf (272, .bipush 7, 2)))) (.branch 275 (.leaf (274, .aload_n 0, 1)) (.branch 278 (.leaf (275, .getfield 20, 3)) (.leaf (278, .bipush 127, 2)))))) (.branch 286 (.branch 283 (.branch 281 (.leaf (280, .iconst 4, 1)) (.branch 282 (.leaf (281, .iload_n 2, 1)) (.leaf (282, .imul, 1)))) (.branch 284 (.leaf (283, .iadd, 1)) (.branch 285 (.leaf (284, .iconst 1, 1)) (.leaf (285, .iadd, 1))))) (.branch 289 (.branch 287 (.leaf (286, .iaload, 1)) (.branch 288 (.leaf (287, .imul, 1)) (.leaf (288, .iadd, 1)))) (.branch 290 (.leaf (289, .iconst 1, 1)) (.branch 291 (.leaf (290, .iadd, 1)) (.leaf (291, .aload_n 0, 1))))))) (.branch 315 (.branch 302 (.branch 299 (.branch 295 (.leaf (292, .getfield 26, 3)) (.branch 297 (.leaf (295, .bipush 28, 2)) (.leaf (297, .bipush 6, 2)))) (.branch 300 (.leaf (299, .iload_n 2, 1)) (.branch 301 (.leaf (300, .imul, 1)) (.leaf (301, .iadd, 1))))) (.branch 310 (.branch 304 (.leaf (302, .bipush 6, 2)) (.branch 307 (.leaf (304, .invokestatic 176, 3)) (.leaf (307, .iinc 2 1, 3)))) (.branch 313 (.leaf (310, .goto (-55), 3)) (.branch 314 (.leaf (313, .aload_n 0, 1)) (.leaf (314, .iconst 1, 1)))))) (.branch 325 (.branch 320 (.branch 318 (.leaf (315, .putfield 180, 3)) (.branch 319 (.leaf (318, .aload_n 0, 1)) (.leaf (319, .iconst 0, 1)))) (.branch 323 (.leaf (320, .putfield 183, 3)) (.branch 324 (.leaf (323, .aload_n 0, 1)) (.leaf (324, .iconst 0, 1))))) (.branch 332 (.branch 328 (.leaf (325, .putfield 186, 3)) (.branch 329 (.leaf (328, .aload_n 0, 1)) (.leaf (329, .getfield 20, 3)))) (.branch 333 (.leaf (332, .iconst 4, 1)) (.branch 334 (.leaf (333, .iaload, 1)) (.leaf (334, .ireturn, 1)))))))))
noncomputable def oX12_post : List dLf := dFl tX12_post
theorem ofX12_post : dFl tX12_post = oX12_post := rfl
set_option maxRecDepth 100000 in
theorem odX12_post : ∀ q ∈ oX12_post, decode cX12_post q.1 = .ok (q.2.1, q.2.2) := q_go qT_ok bbX12_post oX12_post 0 (by decide +kernel)
theorem dX12_post_0 : decode cX12_post 0 = .ok (.aload_n 0, 1) := d_by (d_at odX12_post ofX12_post 0) rfl
theorem dX12_post_1 : decode cX12_post 1 = .ok (.invokevirtual 167, 3) := d_by (d_at odX12_post ofX12_post 1) rfl
theorem dX12_post_4 : decode cX12_post 4 = .ok (.iload_n 1, 1) := d_by (d_at odX12_post ofX12_post 4) rfl
theorem dX12_post_5 : decode cX12_post 5 = .ok (.iconst 0, 1) := d_by (d_at odX12_post ofX12_post 5) rfl
theorem dX12_post_6 : decode cX12_post 6 = .ok (.aload_n 0, 1) := d_by (d_at odX12_post ofX12_post 6) rfl
theorem dX12_post_7 : decode cX12_post 7 = .ok (.getfield 68, 3) := d_by (d_at odX12_post ofX12_post 7) rfl
theorem dX12_post_10 : decode cX12_post 10 = .ok (.invokestatic 149, 3) := d_by (d_at odX12_post ofX12_post 10) rfl
theorem dX12_post_13 : decode cX12_post 13 = .ok (.ifCond .ne 9, 3) := d_by (d_at odX12_post ofX12_post 13) rfl
theorem dX12_post_16 : decode cX12_post 16 = .ok (.aload_n 0, 1) := d_by (d_at odX12_post ofX12_post 16) rfl
theorem dX12_post_17 : decode cX12_post 17 = .ok (.iconst 2, 1) := d_by (d_at odX12_post ofX12_post 17) rfl
theorem dX12_post_18 : decode cX12_post 18 = .ok (.invokevirtual 170, 3) := d_by (d_at odX12_post ofX12_post 18) rfl
theorem dX12_post_21 : decode cX12_post 21 = .ok (.ireturn, 1) := d_by (d_at odX12_post ofX12_post 21) rfl
theorem dX12_post_22 : decode cX12_post 22 = .ok (.aload_n 0, 1) := d_by (d_at odX12_post ofX12_post 22) rfl
theorem dX12_post_23 : decode cX12_post 23 = .ok (.iconst 0, 1) := d_by (d_at odX12_post ofX12_post 23) rfl
theorem dX12_post_24 : decode cX12_post 24 = .ok (.putfield 68, 3) := d_by (d_at odX12_post ofX12_post 24) rfl
theorem dX12_post_27 : decode cX12_post 27 = .ok (.aload_n 0, 1) := d_by (d_at odX12_post ofX12_post 27) rfl
theorem dX12_post_28 : decode cX12_post 28 = .ok (.iconst 0, 1) := d_by (d_at odX12_post ofX12_post 28) rfl
theorem dX12_post_29 : decode cX12_post 29 = .ok (.putfield 104, 3) := d_by (d_at odX12_post ofX12_post 29) rfl
theorem dX12_post_32 : decode cX12_post 32 = .ok (.aload_n 0, 1) := d_by (d_at odX12_post ofX12_post 32) rfl
theorem dX12_post_33 : decode cX12_post 33 = .ok (.iconst 0, 1) := d_by (d_at odX12_post ofX12_post 33) rfl
theorem dX12_post_34 : decode cX12_post 34 = .ok (.putfield 100, 3) := d_by (d_at odX12_post ofX12_post 34) rfl
theorem dX12_post_37 : decode cX12_post 37 = .ok (.iconst 0, 1) := d_by (d_at odX12_post ofX12_post 37) rfl
theorem dX12_post_38 : decode cX12_post 38 = .ok (.istore_n 2, 1) := d_by (d_at odX12_post ofX12_post 38) rfl
theorem dX12_post_39 : decode cX12_post 39 = .ok (.iload_n 2, 1) := d_by (d_at odX12_post ofX12_post 39) rfl
theorem dX12_post_40 : decode cX12_post 40 = .ok (.sipush 363, 3) := d_by (d_at odX12_post ofX12_post 40) rfl
theorem dX12_post_43 : decode cX12_post 43 = .ok (.if_icmp .ge 16, 3) := d_by (d_at odX12_post ofX12_post 43) rfl
theorem dX12_post_46 : decode cX12_post 46 = .ok (.aload_n 0, 1) := d_by (d_at odX12_post ofX12_post 46) rfl
theorem dX12_post_47 : decode cX12_post 47 = .ok (.getfield 23, 3) := d_by (d_at odX12_post ofX12_post 47) rfl
theorem dX12_post_50 : decode cX12_post 50 = .ok (.iload_n 2, 1) := d_by (d_at odX12_post ofX12_post 50) rfl
theorem dX12_post_51 : decode cX12_post 51 = .ok (.iconst 0, 1) := d_by (d_at odX12_post ofX12_post 51) rfl
theorem dX12_post_52 : decode cX12_post 52 = .ok (.iastore, 1) := d_by (d_at odX12_post ofX12_post 52) rfl
theorem dX12_post_53 : decode cX12_post 53 = .ok (.iinc 2 1, 3) := d_by (d_at odX12_post ofX12_post 53) rfl
theorem dX12_post_56 : decode cX12_post 56 = .ok (.goto (-17), 3) := d_by (d_at odX12_post ofX12_post 56) rfl
theorem dX12_post_59 : decode cX12_post 59 = .ok (.aload_n 0, 1) := d_by (d_at odX12_post ofX12_post 59) rfl
theorem dX12_post_60 : decode cX12_post 60 = .ok (.iload_n 1, 1) := d_by (d_at odX12_post ofX12_post 60) rfl
theorem dX12_post_61 : decode cX12_post 61 = .ok (.putfield 71, 3) := d_by (d_at odX12_post ofX12_post 61) rfl
theorem dX12_post_64 : decode cX12_post 64 = .ok (.aload_n 0, 1) := d_by (d_at odX12_post ofX12_post 64) rfl
theorem dX12_post_65 : decode cX12_post 65 = .ok (.iconst 0, 1) := d_by (d_at odX12_post ofX12_post 65) rfl
theorem dX12_post_66 : decode cX12_post 66 = .ok (.putfield 74, 3) := d_by (d_at odX12_post ofX12_post 66) rfl
theorem dX12_post_69 : decode cX12_post 69 = .ok (.aload_n 0, 1) := d_by (d_at odX12_post ofX12_post 69) rfl
theorem dX12_post_70 : decode cX12_post 70 = .ok (.invokevirtual 121, 3) := d_by (d_at odX12_post ofX12_post 70) rfl
theorem dX12_post_73 : decode cX12_post 73 = .ok (.aload_n 0, 1) := d_by (d_at odX12_post ofX12_post 73) rfl
theorem dX12_post_74 : decode cX12_post 74 = .ok (.invokevirtual 173, 3) := d_by (d_at odX12_post ofX12_post 74) rfl
theorem dX12_post_77 : decode cX12_post 77 = .ok (.aload_n 0, 1) := d_by (d_at odX12_post ofX12_post 77) rfl
theorem dX12_post_78 : decode cX12_post 78 = .ok (.getfield 100, 3) := d_by (d_at odX12_post ofX12_post 78) rfl
theorem dX12_post_81 : decode cX12_post 81 = .ok (.ifCond .ne 23, 3) := d_by (d_at odX12_post ofX12_post 81) rfl
theorem dX12_post_84 : decode cX12_post 84 = .ok (.aload_n 0, 1) := d_by (d_at odX12_post ofX12_post 84) rfl
theorem dX12_post_85 : decode cX12_post 85 = .ok (.getfield 90, 3) := d_by (d_at odX12_post ofX12_post 85) rfl
theorem dX12_post_88 : decode cX12_post 88 = .ok (.bipush 59, 2) := d_by (d_at odX12_post ofX12_post 88) rfl
theorem dX12_post_90 : decode cX12_post 90 = .ok (.if_icmp .ne 14, 3) := d_by (d_at odX12_post ofX12_post 90) rfl
theorem dX12_post_93 : decode cX12_post 93 = .ok (.aload_n 0, 1) := d_by (d_at odX12_post ofX12_post 93) rfl
theorem dX12_post_94 : decode cX12_post 94 = .ok (.invokevirtual 121, 3) := d_by (d_at odX12_post ofX12_post 94) rfl
theorem dX12_post_97 : decode cX12_post 97 = .ok (.aload_n 0, 1) := d_by (d_at odX12_post ofX12_post 97) rfl
theorem dX12_post_98 : decode cX12_post 98 = .ok (.invokevirtual 173, 3) := d_by (d_at odX12_post ofX12_post 98) rfl
theorem dX12_post_101 : decode cX12_post 101 = .ok (.goto (-24), 3) := d_by (d_at odX12_post ofX12_post 101) rfl
theorem dX12_post_104 : decode cX12_post 104 = .ok (.aload_n 0, 1) := d_by (d_at odX12_post ofX12_post 104) rfl
theorem dX12_post_105 : decode cX12_post 105 = .ok (.getfield 100, 3) := d_by (d_at odX12_post ofX12_post 105) rfl
theorem dX12_post_108 : decode cX12_post 108 = .ok (.ifCond .ne 19, 3) := d_by (d_at odX12_post ofX12_post 108) rfl
theorem dX12_post_111 : decode cX12_post 111 = .ok (.aload_n 0, 1) := d_by (d_at odX12_post ofX12_post 111) rfl
theorem dX12_post_112 : decode cX12_post 112 = .ok (.getfield 90, 3) := d_by (d_at odX12_post ofX12_post 112) rfl
theorem dX12_post_115 : decode cX12_post 115 = .ok (.ifCond .eq 12, 3) := d_by (d_at odX12_post ofX12_post 115) rfl
theorem dX12_post_118 : decode cX12_post 118 = .ok (.aload_n 0, 1) := d_by (d_at odX12_post ofX12_post 118) rfl
theorem dX12_post_119 : decode cX12_post 119 = .ok (.iconst 1, 1) := d_by (d_at odX12_post ofX12_post 119) rfl
theorem dX12_post_120 : decode cX12_post 120 = .ok (.aload_n 0, 1) := d_by (d_at odX12_post ofX12_post 120) rfl
theorem dX12_post_121 : decode cX12_post 121 = .ok (.getfield 81, 3) := d_by (d_at odX12_post ofX12_post 121) rfl
theorem dX12_post_124 : decode cX12_post 124 = .ok (.invokevirtual 127, 3) := d_by (d_at odX12_post ofX12_post 124) rfl
theorem dX12_post_127 : decode cX12_post 127 = .ok (.aload_n 0, 1) := d_by (d_at odX12_post ofX12_post 127) rfl
theorem dX12_post_128 : decode cX12_post 128 = .ok (.getfield 100, 3) := d_by (d_at odX12_post ofX12_post 128) rfl
theorem dX12_post_131 : decode cX12_post 131 = .ok (.ifCond .ne 32, 3) := d_by (d_at odX12_post ofX12_post 131) rfl
theorem dX12_post_134 : decode cX12_post 134 = .ok (.aload_n 0, 1) := d_by (d_at odX12_post ofX12_post 134) rfl
theorem dX12_post_135 : decode cX12_post 135 = .ok (.getfield 23, 3) := d_by (d_at odX12_post ofX12_post 135) rfl
theorem dX12_post_138 : decode cX12_post 138 = .ok (.bipush 9, 2) := d_by (d_at odX12_post ofX12_post 138) rfl
theorem dX12_post_140 : decode cX12_post 140 = .ok (.iaload, 1) := d_by (d_at odX12_post ofX12_post 140) rfl
theorem dX12_post_141 : decode cX12_post 141 = .ok (.ifCond .eq 12, 3) := d_by (d_at odX12_post ofX12_post 141) rfl
theorem dX12_post_144 : decode cX12_post 144 = .ok (.aload_n 0, 1) := d_by (d_at odX12_post ofX12_post 144) rfl
theorem dX12_post_145 : decode cX12_post 145 = .ok (.getfield 23, 3) := d_by (d_at odX12_post ofX12_post 145) rfl
theorem dX12_post_148 : decode cX12_post 148 = .ok (.iconst 4, 1) := d_by (d_at odX12_post ofX12_post 148) rfl
theorem dX12_post_149 : decode cX12_post 149 = .ok (.iaload, 1) := d_by (d_at odX12_post ofX12_post 149) rfl
theorem dX12_post_150 : decode cX12_post 150 = .ok (.ifCond .ne 13, 3) := d_by (d_at odX12_post ofX12_post 150) rfl
theorem dX12_post_153 : decode cX12_post 153 = .ok (.aload_n 0, 1) := d_by (d_at odX12_post ofX12_post 153) rfl
theorem dX12_post_154 : decode cX12_post 154 = .ok (.bipush 6, 2) := d_by (d_at odX12_post ofX12_post 154) rfl
theorem dX12_post_156 : decode cX12_post 156 = .ok (.aload_n 0, 1) := d_by (d_at odX12_post ofX12_post 156) rfl
theorem dX12_post_157 : decode cX12_post 157 = .ok (.getfield 81, 3) := d_by (d_at odX12_post ofX12_post 157) rfl
theorem dX12_post_160 : decode cX12_post 160 = .ok (.invokevirtual 127, 3) := d_by (d_at odX12_post ofX12_post 160) rfl
theorem dX12_post_163 : decode cX12_post 163 = .ok (.aload_n 0, 1) := d_by (d_at odX12_post ofX12_post 163) rfl
theorem dX12_post_164 : decode cX12_post 164 = .ok (.getfield 100, 3) := d_by (d_at odX12_post ofX12_post 164) rfl
theorem dX12_post_167 : decode cX12_post 167 = .ok (.ifCond .eq 9, 3) := d_by (d_at odX12_post ofX12_post 167) rfl
theorem dX12_post_170 : decode cX12_post 170 = .ok (.aload_n 0, 1) := d_by (d_at odX12_post ofX12_post 170) rfl
theorem dX12_post_171 : decode cX12_post 171 = .ok (.iconst 4, 1) := d_by (d_at odX12_post ofX12_post 171) rfl
theorem dX12_post_172 : decode cX12_post 172 = .ok (.invokevirtual 170, 3) := d_by (d_at odX12_post ofX12_post 172) rfl
theorem dX12_post_175 : decode cX12_post 175 = .ok (.ireturn, 1) := d_by (d_at odX12_post ofX12_post 175) rfl
theorem dX12_post_176 : decode cX12_post 176 = .ok (.aload_n 0, 1) := d_by (d_at odX12_post ofX12_post 176) rfl
theorem dX12_post_177 : decode cX12_post 177 = .ok (.getfield 23, 3) := d_by (d_at odX12_post ofX12_post 177) rfl
theorem dX12_post_180 : decode cX12_post 180 = .ok (.iconst 0, 1) := d_by (d_at odX12_post ofX12_post 180) rfl
theorem dX12_post_181 : decode cX12_post 181 = .ok (.aload_n 0, 1) := d_by (d_at odX12_post ofX12_post 181) rfl
theorem dX12_post_182 : decode cX12_post 182 = .ok (.getfield 20, 3) := d_by (d_at odX12_post ofX12_post 182) rfl
theorem dX12_post_185 : decode cX12_post 185 = .ok (.iconst 0, 1) := d_by (d_at odX12_post ofX12_post 185) rfl
theorem dX12_post_186 : decode cX12_post 186 = .ok (.sipush 363, 3) := d_by (d_at odX12_post ofX12_post 186) rfl
theorem dX12_post_189 : decode cX12_post 189 = .ok (.invokestatic 176, 3) := d_by (d_at odX12_post ofX12_post 189) rfl
theorem dX12_post_192 : decode cX12_post 192 = .ok (.iconst 0, 1) := d_by (d_at odX12_post ofX12_post 192) rfl
theorem dX12_post_193 : decode cX12_post 193 = .ok (.istore_n 2, 1) := d_by (d_at odX12_post ofX12_post 193) rfl
theorem dX12_post_194 : decode cX12_post 194 = .ok (.iload_n 2, 1) := d_by (d_at odX12_post ofX12_post 194) rfl
theorem dX12_post_195 : decode cX12_post 195 = .ok (.bipush 76, 2) := d_by (d_at odX12_post ofX12_post 195) rfl
theorem dX12_post_197 : decode cX12_post 197 = .ok (.if_icmp .ge 16, 3) := d_by (d_at odX12_post ofX12_post 197) rfl
theorem dX12_post_200 : decode cX12_post 200 = .ok (.aload_n 0, 1) := d_by (d_at odX12_post ofX12_post 200) rfl
theorem dX12_post_201 : decode cX12_post 201 = .ok (.getfield 26, 3) := d_by (d_at odX12_post ofX12_post 201) rfl
theorem dX12_post_204 : decode cX12_post 204 = .ok (.iload_n 2, 1) := d_by (d_at odX12_post ofX12_post 204) rfl
theorem dX12_post_205 : decode cX12_post 205 = .ok (.iconst 0, 1) := d_by (d_at odX12_post ofX12_post 205) rfl
theorem dX12_post_206 : decode cX12_post 206 = .ok (.iastore, 1) := d_by (d_at odX12_post ofX12_post 206) rfl
theorem dX12_post_207 : decode cX12_post 207 = .ok (.iinc 2 1, 3) := d_by (d_at odX12_post ofX12_post 207) rfl
theorem dX12_post_210 : decode cX12_post 210 = .ok (.goto (-16), 3) := d_by (d_at odX12_post ofX12_post 210) rfl
theorem dX12_post_213 : decode cX12_post 213 = .ok (.iconst 0, 1) := d_by (d_at odX12_post ofX12_post 213) rfl
theorem dX12_post_214 : decode cX12_post 214 = .ok (.istore_n 2, 1) := d_by (d_at odX12_post ofX12_post 214) rfl
theorem dX12_post_215 : decode cX12_post 215 = .ok (.iload_n 2, 1) := d_by (d_at odX12_post ofX12_post 215) rfl
theorem dX12_post_216 : decode cX12_post 216 = .ok (.aload_n 0, 1) := d_by (d_at odX12_post ofX12_post 216) rfl
theorem dX12_post_217 : decode cX12_post 217 = .ok (.getfield 20, 3) := d_by (d_at odX12_post ofX12_post 217) rfl
theorem dX12_post_220 : decode cX12_post 220 = .ok (.bipush 6, 2) := d_by (d_at odX12_post ofX12_post 220) rfl
theorem dX12_post_222 : decode cX12_post 222 = .ok (.iaload, 1) := d_by (d_at odX12_post ofX12_post 222) rfl
theorem dX12_post_223 : decode cX12_post 223 = .ok (.if_icmp .ge 30, 3) := d_by (d_at odX12_post ofX12_post 223) rfl
theorem dX12_post_226 : decode cX12_post 226 = .ok (.aload_n 0, 1) := d_by (d_at odX12_post ofX12_post 226) rfl
theorem dX12_post_227 : decode cX12_post 227 = .ok (.getfield 26, 3) := d_by (d_at odX12_post ofX12_post 227) rfl
theorem dX12_post_230 : decode cX12_post 230 = .ok (.iconst 2, 1) := d_by (d_at odX12_post ofX12_post 230) rfl
theorem dX12_post_231 : decode cX12_post 231 = .ok (.iload_n 2, 1) := d_by (d_at odX12_post ofX12_post 231) rfl
theorem dX12_post_232 : decode cX12_post 232 = .ok (.iadd, 1) := d_by (d_at odX12_post ofX12_post 232) rfl
theorem dX12_post_233 : decode cX12_post 233 = .ok (.aload_n 0, 1) := d_by (d_at odX12_post ofX12_post 233) rfl
theorem dX12_post_234 : decode cX12_post 234 = .ok (.getfield 20, 3) := d_by (d_at odX12_post ofX12_post 234) rfl
theorem dX12_post_237 : decode cX12_post 237 = .ok (.bipush 107, 2) := d_by (d_at odX12_post ofX12_post 237) rfl
theorem dX12_post_239 : decode cX12_post 239 = .ok (.iconst 4, 1) := d_by (d_at odX12_post ofX12_post 239) rfl
theorem dX12_post_240 : decode cX12_post 240 = .ok (.iload_n 2, 1) := d_by (d_at odX12_post ofX12_post 240) rfl
theorem dX12_post_241 : decode cX12_post 241 = .ok (.imul, 1) := d_by (d_at odX12_post ofX12_post 241) rfl
theorem dX12_post_242 : decode cX12_post 242 = .ok (.iadd, 1) := d_by (d_at odX12_post ofX12_post 242) rfl
theorem dX12_post_243 : decode cX12_post 243 = .ok (.iconst 1, 1) := d_by (d_at odX12_post ofX12_post 243) rfl
theorem dX12_post_244 : decode cX12_post 244 = .ok (.iadd, 1) := d_by (d_at odX12_post ofX12_post 244) rfl
theorem dX12_post_245 : decode cX12_post 245 = .ok (.iaload, 1) := d_by (d_at odX12_post ofX12_post 245) rfl
theorem dX12_post_246 : decode cX12_post 246 = .ok (.iastore, 1) := d_by (d_at odX12_post ofX12_post 246) rfl
theorem dX12_post_247 : decode cX12_post 247 = .ok (.iinc 2 1, 3) := d_by (d_at odX12_post ofX12_post 247) rfl
theorem dX12_post_250 : decode cX12_post 250 = .ok (.goto (-35), 3) := d_by (d_at odX12_post ofX12_post 250) rfl
theorem dX12_post_253 : decode cX12_post 253 = .ok (.iconst 0, 1) := d_by (d_at odX12_post ofX12_post 253) rfl
theorem dX12_post_254 : decode cX12_post 254 = .ok (.istore_n 2, 1) := d_by (d_at odX12_post ofX12_post 254) rfl
theorem dX12_post_255 : decode cX12_post 255 = .ok (.iload_n 2, 1) := d_by (d_at odX12_post ofX12_post 255) rfl
theorem dX12_post_256 : decode cX12_post 256 = .ok (.aload_n 0, 1) := d_by (d_at odX12_post ofX12_post 256) rfl
theorem dX12_post_257 : decode cX12_post 257 = .ok (.getfield 20, 3) := d_by (d_at odX12_post ofX12_post 257) rfl
theorem dX12_post_260 : decode cX12_post 260 = .ok (.bipush 7, 2) := d_by (d_at odX12_post ofX12_post 260) rfl
theorem dX12_post_262 : decode cX12_post 262 = .ok (.iaload, 1) := d_by (d_at odX12_post ofX12_post 262) rfl
theorem dX12_post_263 : decode cX12_post 263 = .ok (.if_icmp .ge 50, 3) := d_by (d_at odX12_post ofX12_post 263) rfl
theorem dX12_post_266 : decode cX12_post 266 = .ok (.aload_n 0, 1) := d_by (d_at odX12_post ofX12_post 266) rfl
theorem dX12_post_267 : decode cX12_post 267 = .ok (.getfield 20, 3) := d_by (d_at odX12_post ofX12_post 267) rfl
theorem dX12_post_270 : decode cX12_post 270 = .ok (.bipush 10, 2) := d_by (d_at odX12_post ofX12_post 270) rfl
theorem dX12_post_272 : decode cX12_post 272 = .ok (.bipush 7, 2) := d_by (d_at odX12_post ofX12_post 272) rfl
theorem dX12_post_274 : decode cX12_post 274 = .ok (.aload_n 0, 1) := d_by (d_at odX12_post ofX12_post 274) rfl
theorem dX12_post_275 : decode cX12_post 275 = .ok (.getfield 20, 3) := d_by (d_at odX12_post ofX12_post 275) rfl
theorem dX12_post_278 : decode cX12_post 278 = .ok (.bipush 127, 2) := d_by (d_at odX12_post ofX12_post 278) rfl
theorem dX12_post_280 : decode cX12_post 280 = .ok (.iconst 4, 1) := d_by (d_at odX12_post ofX12_post 280) rfl
theorem dX12_post_281 : decode cX12_post 281 = .ok (.iload_n 2, 1) := d_by (d_at odX12_post ofX12_post 281) rfl
theorem dX12_post_282 : decode cX12_post 282 = .ok (.imul, 1) := d_by (d_at odX12_post ofX12_post 282) rfl
theorem dX12_post_283 : decode cX12_post 283 = .ok (.iadd, 1) := d_by (d_at odX12_post ofX12_post 283) rfl
theorem dX12_post_284 : decode cX12_post 284 = .ok (.iconst 1, 1) := d_by (d_at odX12_post ofX12_post 284) rfl
theorem dX12_post_285 : decode cX12_post 285 = .ok (.iadd, 1) := d_by (d_at odX12_post ofX12_post 285) rfl
theorem dX12_post_286 : decode cX12_post 286 = .ok (.iaload, 1) := d_by (d_at odX12_post ofX12_post 286) rfl
theorem dX12_post_287 : decode cX12_post 287 = .ok (.imul, 1) := d_by (d_at odX12_post ofX12_post 287) rfl
theorem dX12_post_288 : decode cX12_post 288 = .ok (.iadd, 1) := d_by (d_at odX12_post ofX12_post 288) rfl
theorem dX12_post_289 : decode cX12_post 289 = .ok (.iconst 1, 1) := d_by (d_at odX12_post ofX12_post 289) rfl
theorem dX12_post_290 : decode cX12_post 290 = .ok (.iadd, 1) := d_by (d_at odX12_post ofX12_post 290) rfl
theorem dX12_post_291 : decode cX12_post 291 = .ok (.aload_n 0, 1) := d_by (d_at odX12_post ofX12_post 291) rfl
theorem dX12_post_292 : decode cX12_post 292 = .ok (.getfield 26, 3) := d_by (d_at odX12_post ofX12_post 292) rfl
theorem dX12_post_295 : decode cX12_post 295 = .ok (.bipush 28, 2) := d_by (d_at odX12_post ofX12_post 295) rfl
theorem dX12_post_297 : decode cX12_post 297 = .ok (.bipush 6, 2) := d_by (d_at odX12_post ofX12_post 297) rfl
theorem dX12_post_299 : decode cX12_post 299 = .ok (.iload_n 2, 1) := d_by (d_at odX12_post ofX12_post 299) rfl
theorem dX12_post_300 : decode cX12_post 300 = .ok (.imul, 1) := d_by (d_at odX12_post ofX12_post 300) rfl
theorem dX12_post_301 : decode cX12_post 301 = .ok (.iadd, 1) := d_by (d_at odX12_post ofX12_post 301) rfl
theorem dX12_post_302 : decode cX12_post 302 = .ok (.bipush 6, 2) := d_by (d_at odX12_post ofX12_post 302) rfl
theorem dX12_post_304 : decode cX12_post 304 = .ok (.invokestatic 176, 3) := d_by (d_at odX12_post ofX12_post 304) rfl
theorem dX12_post_307 : decode cX12_post 307 = .ok (.iinc 2 1, 3) := d_by (d_at odX12_post ofX12_post 307) rfl
theorem dX12_post_310 : decode cX12_post 310 = .ok (.goto (-55), 3) := d_by (d_at odX12_post ofX12_post 310) rfl
theorem dX12_post_313 : decode cX12_post 313 = .ok (.aload_n 0, 1) := d_by (d_at odX12_post ofX12_post 313) rfl
theorem dX12_post_314 : decode cX12_post 314 = .ok (.iconst 1, 1) := d_by (d_at odX12_post ofX12_post 314) rfl
theorem dX12_post_315 : decode cX12_post 315 = .ok (.putfield 180, 3) := d_by (d_at odX12_post ofX12_post 315) rfl
theorem dX12_post_318 : decode cX12_post 318 = .ok (.aload_n 0, 1) := d_by (d_at odX12_post ofX12_post 318) rfl
theorem dX12_post_319 : decode cX12_post 319 = .ok (.iconst 0, 1) := d_by (d_at odX12_post ofX12_post 319) rfl
theorem dX12_post_320 : decode cX12_post 320 = .ok (.putfield 183, 3) := d_by (d_at odX12_post ofX12_post 320) rfl
theorem dX12_post_323 : decode cX12_post 323 = .ok (.aload_n 0, 1) := d_by (d_at odX12_post ofX12_post 323) rfl
theorem dX12_post_324 : decode cX12_post 324 = .ok (.iconst 0, 1) := d_by (d_at odX12_post ofX12_post 324) rfl
theorem dX12_post_325 : decode cX12_post 325 = .ok (.putfield 186, 3) := d_by (d_at odX12_post ofX12_post 325) rfl
theorem dX12_post_328 : decode cX12_post 328 = .ok (.aload_n 0, 1) := d_by (d_at odX12_post ofX12_post 328) rfl
theorem dX12_post_329 : decode cX12_post 329 = .ok (.getfield 20, 3) := d_by (d_at odX12_post ofX12_post 329) rfl
theorem dX12_post_332 : decode cX12_post 332 = .ok (.iconst 4, 1) := d_by (d_at odX12_post ofX12_post 332) rfl
theorem dX12_post_333 : decode cX12_post 333 = .ok (.iaload, 1) := d_by (d_at odX12_post ofX12_post 333) rfl
theorem dX12_post_334 : decode cX12_post 334 = .ok (.ireturn, 1) := d_by (d_at odX12_post ofX12_post 334) rfl
set_option maxRecDepth 100000 in
def bX12_begins : List Nat := [42, 43, 182, 0, 117, 154, 0, 5, 3, 172, 28, 154, 0, 12, 42, 8, 42, 180, 0, 81, 182, 0, 127, 42, 180, 0, 23, 16, 9, 46, 154, 0, 13, 42, 16, 6, 42, 180, 0, 81, 182, 0, 127, 42, 180, 0, 100, 154, 0, 7, 42, 182, 0, 121, 4, 172]
set_option maxRecDepth 100000 in
theorem bbX12_begins : cX12_begins.data.toList.map UInt8.toNat = bX12_begins := by decide +kernel
set_option maxRecDepth 100000 in
def tX12_begins : Lean.RArray dLf := .branch 27 (.branch 11 (.branch 5 (.branch 1 (.leaf (0, .aload_n 0, 1)) (.branch 2 (.leaf (1, .aload_n 1, 1)) (.leaf (2, .invokevirtual 117, 3)))) (.branch 9 (.branch 8 (.leaf (5, .ifCond .ne 5, 3)) (.leaf (8, .iconst 0, 1))) (.branch 10 (.leaf (9, .ireturn, 1)) (.leaf (10, .iload_n 2, 1))))) (.branch 17 (.branch 15 (.branch 14 (.leaf (11, .ifCond .ne 12, 3)) (.leaf (14, .aload_n 0, 1))) (.branch 16 (.leaf (15, .iconst 5, 1)) (.leaf (16, .aload_n 0, 1)))) (.branch 23 (.branch 20 (.leaf (17, .getfield 81, 3)) (.leaf (20, .invokevirtual 127, 3))) (.branch 24 (.leaf (23, .aload_n 0, 1)) (.leaf (24, .getfield 23, 3)))))) (.branch 40 (.branch 33 (.branch 29 (.leaf (27, .bipush 9, 2)) (.branch 30 (.leaf (29, .iaload, 1)) (.leaf (30, .ifCond .ne 13, 3)))) (.branch 36 (.branch 34 (.leaf (33, .aload_n 0, 1)) (.leaf (34, .bipush 6, 2))) (.branch 37 (.leaf (36, .aload_n 0, 1)) (.leaf (37, .getfield 81, 3))))) (.branch 50 (.branch 44 (.branch 43 (.leaf (40, .invokevirtual 127, 3)) (.leaf (43, .aload_n 0, 1))) (.branch 47 (.leaf (44, .getfield 100, 3)) (.leaf (47, .ifCond .ne 7, 3)))) (.branch 54 (.branch 51 (.leaf (50, .aload_n 0, 1)) (.leaf (51, .invokevirtual 121, 3))) (.branch 55 (.leaf (54, .iconst 1, 1)) (.leaf (55, .ireturn, 1))))))
noncomputable def oX12_begins : List dLf := dFl tX12_begins
theorem ofX12_begins : dFl tX12_begins = oX12_begins := rfl
set_option maxRecDepth 100000 in
theorem odX12_begins : ∀ q ∈ oX12_begins, decode cX12_begins q.1 = .ok (q.2.1, q.2.2) := q_go qT_ok bbX12_begins oX12_begins 0 (by decide +kernel)
theorem dX12_begins_0 : decode cX12_begins 0 = .ok (.aload_n 0, 1) := d_by (d_at odX12_begins ofX12_begins 0) rfl
theorem dX12_begins_1 : decode cX12_begins 1 = .ok (.aload_n 1, 1) := d_by (d_at odX12_begins ofX12_begins 1) rfl
theorem dX12_begins_2 : decode cX12_begins 2 = .ok (.invokevirtual 117, 3) := d_by (d_at odX12_begins ofX12_begins 2) rfl
theorem dX12_begins_5 : decode cX12_begins 5 = .ok (.ifCond .ne 5, 3) := d_by (d_at odX12_begins ofX12_begins 5) rfl
theorem dX12_begins_8 : decode cX12_begins 8 = .ok (.iconst 0, 1) := d_by (d_at odX12_begins ofX12_begins 8) rfl
theorem dX12_begins_9 : decode cX12_begins 9 = .ok (.ireturn, 1) := d_by (d_at odX12_begins ofX12_begins 9) rfl
theorem dX12_begins_10 : decode cX12_begins 10 = .ok (.iload_n 2, 1) := d_by (d_at odX12_begins ofX12_begins 10) rfl
theorem dX12_begins_11 : decode cX12_begins 11 = .ok (.ifCond .ne 12, 3) := d_by (d_at odX12_begins ofX12_begins 11) rfl
theorem dX12_begins_14 : decode cX12_begins 14 = .ok (.aload_n 0, 1) := d_by (d_at odX12_begins ofX12_begins 14) rfl
theorem dX12_begins_15 : decode cX12_begins 15 = .ok (.iconst 5, 1) := d_by (d_at odX12_begins ofX12_begins 15) rfl
theorem dX12_begins_16 : decode cX12_begins 16 = .ok (.aload_n 0, 1) := d_by (d_at odX12_begins ofX12_begins 16) rfl
theorem dX12_begins_17 : decode cX12_begins 17 = .ok (.getfield 81, 3) := d_by (d_at odX12_begins ofX12_begins 17) rfl
theorem dX12_begins_20 : decode cX12_begins 20 = .ok (.invokevirtual 127, 3) := d_by (d_at odX12_begins ofX12_begins 20) rfl
theorem dX12_begins_23 : decode cX12_begins 23 = .ok (.aload_n 0, 1) := d_by (d_at odX12_begins ofX12_begins 23) rfl
theorem dX12_begins_24 : decode cX12_begins 24 = .ok (.getfield 23, 3) := d_by (d_at odX12_begins ofX12_begins 24) rfl
theorem dX12_begins_27 : decode cX12_begins 27 = .ok (.bipush 9, 2) := d_by (d_at odX12_begins ofX12_begins 27) rfl
theorem dX12_begins_29 : decode cX12_begins 29 = .ok (.iaload, 1) := d_by (d_at odX12_begins ofX12_begins 29) rfl
theorem dX12_begins_30 : decode cX12_begins 30 = .ok (.ifCond .ne 13, 3) := d_by (d_at odX12_begins ofX12_begins 30) rfl
theorem dX12_begins_33 : decode cX12_begins 33 = .ok (.aload_n 0, 1) := d_by (d_at odX12_begins ofX12_begins 33) rfl
theorem dX12_begins_34 : decode cX12_begins 34 = .ok (.bipush 6, 2) := d_by (d_at odX12_begins ofX12_begins 34) rfl
theorem dX12_begins_36 : decode cX12_begins 36 = .ok (.aload_n 0, 1) := d_by (d_at odX12_begins ofX12_begins 36) rfl
theorem dX12_begins_37 : decode cX12_begins 37 = .ok (.getfield 81, 3) := d_by (d_at odX12_begins ofX12_begins 37) rfl
theorem dX12_begins_40 : decode cX12_begins 40 = .ok (.invokevirtual 127, 3) := d_by (d_at odX12_begins ofX12_begins 40) rfl
theorem dX12_begins_43 : decode cX12_begins 43 = .ok (.aload_n 0, 1) := d_by (d_at odX12_begins ofX12_begins 43) rfl
theorem dX12_begins_44 : decode cX12_begins 44 = .ok (.getfield 100, 3) := d_by (d_at odX12_begins ofX12_begins 44) rfl
theorem dX12_begins_47 : decode cX12_begins 47 = .ok (.ifCond .ne 7, 3) := d_by (d_at odX12_begins ofX12_begins 47) rfl
theorem dX12_begins_50 : decode cX12_begins 50 = .ok (.aload_n 0, 1) := d_by (d_at odX12_begins ofX12_begins 50) rfl
theorem dX12_begins_51 : decode cX12_begins 51 = .ok (.invokevirtual 121, 3) := d_by (d_at odX12_begins ofX12_begins 51) rfl
theorem dX12_begins_54 : decode cX12_begins 54 = .ok (.iconst 1, 1) := d_by (d_at odX12_begins ofX12_begins 54) rfl
theorem dX12_begins_55 : decode cX12_begins 55 = .ok (.ireturn, 1) := d_by (d_at odX12_begins ofX12_begins 55) rfl
set_option maxRecDepth 100000 in
def bX12_readLine : List Nat := [42, 18, 131, 182, 0, 117, 153, 0, 10, 42, 182, 0, 189, 167, 0, 174, 42, 18, 133, 42, 180, 0, 23, 7, 46, 16, 7, 162, 0, 7, 4, 167, 0, 4, 3, 182, 0, 192, 153, 0, 10, 42, 182, 0, 196, 167, 0, 142, 42, 18, 135, 42, 180, 0, 23, 8, 46, 16, 12, 162, 0, 7, 4, 167, 0, 4, 3, 182, 0, 192, 153, 0, 10, 42, 182, 0, 199, 167, 0, 110, 42, 18, 137, 42, 180, 0, 23, 16, 6, 46, 8, 162, 0, 7, 4, 167, 0, 4, 3, 182, 0, 192, 153, 0, 10, 42, 182, 0, 202, 167, 0, 78, 42, 18, 139, 42, 180, 0, 23, 16, 7, 46, 16, 8, 162, 0, 7, 4, 167, 0, 4, 3, 182, 0, 192, 153, 0, 10, 42, 182, 0, 205, 167, 0, 45, 42, 18, 141, 42, 180, 0, 23, 16, 8, 46, 16, 8, 162, 0, 7, 4, 167, 0, 4, 3, 182, 0, 192, 153, 0, 10, 42, 182, 0, 208, 167, 0, 12, 42, 4, 42, 180, 0, 81, 182, 0, 127, 177]
set_option maxRecDepth 100000 in
theorem bbX12_readLine : cX12_readLine.data.toList.map UInt8.toNat = bX12_readLine := by decide +kernel
set_option maxRecDepth 100000 in
def tX12_readLine : Lean.RArray dLf := .branch 91 (.branch 48 (.branch 23 (.branch 10 (.branch 3 (.branch 1 (.leaf (0, .aload_n 0, 1)) (.leaf (1, .ldc 131, 2))) (.branch 6 (.leaf (3, .invokevirtual 117, 3)) (.branch 9 (.leaf (6, .ifCond .eq 10, 3)) (.leaf (9, .aload_n 0, 1))))) (.branch 17 (.branch 13 (.leaf (10, .invokevirtual 189, 3)) (.branch 16 (.leaf (13, .goto 174, 3)) (.leaf (16, .aload_n 0, 1)))) (.branch 19 (.leaf (17, .ldc 133, 2)) (.branch 20 (.leaf (19, .aload_n 0, 1)) (.leaf (20, .getfield 23, 3)))))) (.branch 34 (.branch 27 (.branch 24 (.leaf (23, .iconst 4, 1)) (.branch 25 (.leaf (24, .iaload, 1)) (.leaf (25, .bipush 7, 2)))) (.branch 30 (.leaf (27, .if_icmp .ge 7, 3)) (.branch 31 (.leaf (30, .iconst 1, 1)) (.leaf (31, .goto 4, 3))))) (.branch 41 (.branch 35 (.leaf (34, .iconst 0, 1)) (.branch 38 (.leaf (35, .invokevirtual 192, 3)) (.leaf (38, .ifCond .eq 10, 3)))) (.branch 42 (.leaf (41, .aload_n 0, 1)) (.branch 45 (.leaf (42, .invokevirtual 196, 3)) (.leaf (45, .goto 142, 3))))))) (.branch 67 (.branch 56 (.branch 51 (.branch 49 (.leaf (48, .aload_n 0, 1)) (.leaf (49, .ldc 135, 2))) (.branch 52 (.leaf (51, .aload_n 0, 1)) (.branch 55 (.leaf (52, .getfield 23, 3)) (.leaf (55, .iconst 5, 1))))) (.branch 62 (.branch 57 (.leaf (56, .iaload, 1)) (.branch 59 (.leaf (57, .bipush 12, 2)) (.leaf (59, .if_icmp .ge 7, 3)))) (.branch 63 (.leaf (62, .iconst 1, 1)) (.branch 66 (.leaf (63, .goto 4, 3)) (.leaf (66, .iconst 0, 1)))))) (.branch 81 (.branch 74 (.branch 70 (.leaf (67, .invokevirtual 192, 3)) (.branch 73 (.leaf (70, .ifCond .eq 10, 3)) (.leaf (73, .aload_n 0, 1)))) (.branch 77 (.leaf (74, .invokevirtual 199, 3)) (.branch 80 (.leaf (77, .goto 110, 3)) (.leaf (80, .aload_n 0, 1))))) (.branch 87 (.branch 83 (.leaf (81, .ldc 137, 2)) (.branch 84 (.leaf (83, .aload_n 0, 1)) (.leaf (84, .getfield 23, 3)))) (.branch 89 (.leaf (87, .bipush 6, 2)) (.branch 90 (.leaf (89, .iaload, 1)) (.leaf (90, .iconst 5, 1)))))))) (.branch 139 (.branch 115 (.branch 102 (.branch 95 (.branch 94 (.leaf (91, .if_icmp .ge 7, 3)) (.leaf (94, .iconst 1, 1))) (.branch 98 (.leaf (95, .goto 4, 3)) (.branch 99 (.leaf (98, .iconst 0, 1)) (.leaf (99, .invokevirtual 192, 3))))) (.branch 109 (.branch 105 (.leaf (102, .ifCond .eq 10, 3)) (.branch 106 (.leaf (105, .aload_n 0, 1)) (.leaf (106, .invokevirtual 202, 3)))) (.branch 112 (.leaf (109, .goto 78, 3)) (.branch 113 (.leaf (112, .aload_n 0, 1)) (.leaf (113, .ldc 139, 2)))))) (.branch 127 (.branch 121 (.branch 116 (.leaf (115, .aload_n 0, 1)) (.branch 119 (.leaf (116, .getfield 23, 3)) (.leaf (119, .bipush 7, 2)))) (.branch 122 (.leaf (121, .iaload, 1)) (.branch 124 (.leaf (122, .bipush 8, 2)) (.leaf (124, .if_icmp .ge 7, 3))))) (.branch 132 (.branch 128 (.leaf (127, .iconst 1, 1)) (.branch 131 (.leaf (128, .goto 4, 3)) (.leaf (131, .iconst 0, 1)))) (.branch 135 (.leaf (132, .invokevirtual 192, 3)) (.branch 138 (.leaf (135, .ifCond .eq 10, 3)) (.leaf (138, .aload_n 0, 1))))))) (.branch 164 (.branch 152 (.branch 146 (.branch 142 (.leaf (139, .invokevirtual 205, 3)) (.branch 145 (.leaf (142, .goto 45, 3)) (.leaf (145, .aload_n 0, 1)))) (.branch 148 (.leaf (146, .ldc 141, 2)) (.branch 149 (.leaf (148, .aload_n 0, 1)) (.leaf (149, .getfield 23, 3))))) (.branch 157 (.branch 154 (.leaf (152, .bipush 8, 2)) (.branch 155 (.leaf (154, .iaload, 1)) (.leaf (155, .bipush 8, 2)))) (.branch 160 (.leaf (157, .if_icmp .ge 7, 3)) (.branch 161 (.leaf (160, .iconst 1, 1)) (.leaf (161, .goto 4, 3)))))) (.branch 178 (.branch 171 (.branch 165 (.leaf (164, .iconst 0, 1)) (.branch 168 (.leaf (165, .invokevirtual 192, 3)) (.leaf (168, .ifCond .eq 10, 3)))) (.branch 172 (.leaf (171, .aload_n 0, 1)) (.branch 175 (.leaf (172, .invokevirtual 208, 3)) (.leaf (175, .goto 12, 3))))) (.branch 181 (.branch 179 (.leaf (178, .aload_n 0, 1)) (.branch 180 (.leaf (179, .iconst 1, 1)) (.leaf (180, .aload_n 0, 1)))) (.branch 184 (.leaf (181, .getfield 81, 3)) (.branch 187 (.leaf (184, .invokevirtual 127, 3)) (.leaf (187, .return_, 1))))))))
noncomputable def oX12_readLine : List dLf := dFl tX12_readLine
theorem ofX12_readLine : dFl tX12_readLine = oX12_readLine := rfl
set_option maxRecDepth 100000 in
theorem odX12_readLine : ∀ q ∈ oX12_readLine, decode cX12_readLine q.1 = .ok (q.2.1, q.2.2) := q_go qT_ok bbX12_readLine oX12_readLine 0 (by decide +kernel)
theorem dX12_readLine_0 : decode cX12_readLine 0 = .ok (.aload_n 0, 1) := d_by (d_at odX12_readLine ofX12_readLine 0) rfl
theorem dX12_readLine_1 : decode cX12_readLine 1 = .ok (.ldc 131, 2) := d_by (d_at odX12_readLine ofX12_readLine 1) rfl
theorem dX12_readLine_3 : decode cX12_readLine 3 = .ok (.invokevirtual 117, 3) := d_by (d_at odX12_readLine ofX12_readLine 3) rfl
theorem dX12_readLine_6 : decode cX12_readLine 6 = .ok (.ifCond .eq 10, 3) := d_by (d_at odX12_readLine ofX12_readLine 6) rfl
theorem dX12_readLine_9 : decode cX12_readLine 9 = .ok (.aload_n 0, 1) := d_by (d_at odX12_readLine ofX12_readLine 9) rfl
theorem dX12_readLine_10 : decode cX12_readLine 10 = .ok (.invokevirtual 189, 3) := d_by (d_at odX12_readLine ofX12_readLine 10) rfl
theorem dX12_readLine_13 : decode cX12_readLine 13 = .ok (.goto 174, 3) := d_by (d_at odX12_readLine ofX12_readLine 13) rfl
theorem dX12_readLine_16 : decode cX12_readLine 16 = .ok (.aload_n 0, 1) := d_by (d_at odX12_readLine ofX12_readLine 16) rfl
theorem dX12_readLine_17 : decode cX12_readLine 17 = .ok (.ldc 133, 2) := d_by (d_at odX12_readLine ofX12_readLine 17) rfl
theorem dX12_readLine_19 : decode cX12_readLine 19 = .ok (.aload_n 0, 1) := d_by (d_at odX12_readLine ofX12_readLine 19) rfl
theorem dX12_readLine_20 : decode cX12_readLine 20 = .ok (.getfield 23, 3) := d_by (d_at odX12_readLine ofX12_readLine 20) rfl
theorem dX12_readLine_23 : decode cX12_readLine 23 = .ok (.iconst 4, 1) := d_by (d_at odX12_readLine ofX12_readLine 23) rfl
theorem dX12_readLine_24 : decode cX12_readLine 24 = .ok (.iaload, 1) := d_by (d_at odX12_readLine ofX12_readLine 24) rfl
theorem dX12_readLine_25 : decode cX12_readLine 25 = .ok (.bipush 7, 2) := d_by (d_at odX12_readLine ofX12_readLine 25) rfl
theorem dX12_readLine_27 : decode cX12_readLine 27 = .ok (.if_icmp .ge 7, 3) := d_by (d_at odX12_readLine ofX12_readLine 27) rfl
theorem dX12_readLine_30 : decode cX12_readLine 30 = .ok (.iconst 1, 1) := d_by (d_at odX12_readLine ofX12_readLine 30) rfl
theorem dX12_readLine_31 : decode cX12_readLine 31 = .ok (.goto 4, 3) := d_by (d_at odX12_readLine ofX12_readLine 31) rfl
theorem dX12_readLine_34 : decode cX12_readLine 34 = .ok (.iconst 0, 1) := d_by (d_at odX12_readLine ofX12_readLine 34) rfl
theorem dX12_readLine_35 : decode cX12_readLine 35 = .ok (.invokevirtual 192, 3) := d_by (d_at odX12_readLine ofX12_readLine 35) rfl
theorem dX12_readLine_38 : decode cX12_readLine 38 = .ok (.ifCond .eq 10, 3) := d_by (d_at odX12_readLine ofX12_readLine 38) rfl
theorem dX12_readLine_41 : decode cX12_readLine 41 = .ok (.aload_n 0, 1) := d_by (d_at odX12_readLine ofX12_readLine 41) rfl
theorem dX12_readLine_42 : decode cX12_readLine 42 = .ok (.invokevirtual 196, 3) := d_by (d_at odX12_readLine ofX12_readLine 42) rfl
theorem dX12_readLine_45 : decode cX12_readLine 45 = .ok (.goto 142, 3) := d_by (d_at odX12_readLine ofX12_readLine 45) rfl
theorem dX12_readLine_48 : decode cX12_readLine 48 = .ok (.aload_n 0, 1) := d_by (d_at odX12_readLine ofX12_readLine 48) rfl
theorem dX12_readLine_49 : decode cX12_readLine 49 = .ok (.ldc 135, 2) := d_by (d_at odX12_readLine ofX12_readLine 49) rfl
theorem dX12_readLine_51 : decode cX12_readLine 51 = .ok (.aload_n 0, 1) := d_by (d_at odX12_readLine ofX12_readLine 51) rfl
theorem dX12_readLine_52 : decode cX12_readLine 52 = .ok (.getfield 23, 3) := d_by (d_at odX12_readLine ofX12_readLine 52) rfl
theorem dX12_readLine_55 : decode cX12_readLine 55 = .ok (.iconst 5, 1) := d_by (d_at odX12_readLine ofX12_readLine 55) rfl
theorem dX12_readLine_56 : decode cX12_readLine 56 = .ok (.iaload, 1) := d_by (d_at odX12_readLine ofX12_readLine 56) rfl
theorem dX12_readLine_57 : decode cX12_readLine 57 = .ok (.bipush 12, 2) := d_by (d_at odX12_readLine ofX12_readLine 57) rfl
theorem dX12_readLine_59 : decode cX12_readLine 59 = .ok (.if_icmp .ge 7, 3) := d_by (d_at odX12_readLine ofX12_readLine 59) rfl
theorem dX12_readLine_62 : decode cX12_readLine 62 = .ok (.iconst 1, 1) := d_by (d_at odX12_readLine ofX12_readLine 62) rfl
theorem dX12_readLine_63 : decode cX12_readLine 63 = .ok (.goto 4, 3) := d_by (d_at odX12_readLine ofX12_readLine 63) rfl
theorem dX12_readLine_66 : decode cX12_readLine 66 = .ok (.iconst 0, 1) := d_by (d_at odX12_readLine ofX12_readLine 66) rfl
theorem dX12_readLine_67 : decode cX12_readLine 67 = .ok (.invokevirtual 192, 3) := d_by (d_at odX12_readLine ofX12_readLine 67) rfl
theorem dX12_readLine_70 : decode cX12_readLine 70 = .ok (.ifCond .eq 10, 3) := d_by (d_at odX12_readLine ofX12_readLine 70) rfl
theorem dX12_readLine_73 : decode cX12_readLine 73 = .ok (.aload_n 0, 1) := d_by (d_at odX12_readLine ofX12_readLine 73) rfl
theorem dX12_readLine_74 : decode cX12_readLine 74 = .ok (.invokevirtual 199, 3) := d_by (d_at odX12_readLine ofX12_readLine 74) rfl
theorem dX12_readLine_77 : decode cX12_readLine 77 = .ok (.goto 110, 3) := d_by (d_at odX12_readLine ofX12_readLine 77) rfl
theorem dX12_readLine_80 : decode cX12_readLine 80 = .ok (.aload_n 0, 1) := d_by (d_at odX12_readLine ofX12_readLine 80) rfl
theorem dX12_readLine_81 : decode cX12_readLine 81 = .ok (.ldc 137, 2) := d_by (d_at odX12_readLine ofX12_readLine 81) rfl
theorem dX12_readLine_83 : decode cX12_readLine 83 = .ok (.aload_n 0, 1) := d_by (d_at odX12_readLine ofX12_readLine 83) rfl
theorem dX12_readLine_84 : decode cX12_readLine 84 = .ok (.getfield 23, 3) := d_by (d_at odX12_readLine ofX12_readLine 84) rfl
theorem dX12_readLine_87 : decode cX12_readLine 87 = .ok (.bipush 6, 2) := d_by (d_at odX12_readLine ofX12_readLine 87) rfl
theorem dX12_readLine_89 : decode cX12_readLine 89 = .ok (.iaload, 1) := d_by (d_at odX12_readLine ofX12_readLine 89) rfl
theorem dX12_readLine_90 : decode cX12_readLine 90 = .ok (.iconst 5, 1) := d_by (d_at odX12_readLine ofX12_readLine 90) rfl
theorem dX12_readLine_91 : decode cX12_readLine 91 = .ok (.if_icmp .ge 7, 3) := d_by (d_at odX12_readLine ofX12_readLine 91) rfl
theorem dX12_readLine_94 : decode cX12_readLine 94 = .ok (.iconst 1, 1) := d_by (d_at odX12_readLine ofX12_readLine 94) rfl
theorem dX12_readLine_95 : decode cX12_readLine 95 = .ok (.goto 4, 3) := d_by (d_at odX12_readLine ofX12_readLine 95) rfl
theorem dX12_readLine_98 : decode cX12_readLine 98 = .ok (.iconst 0, 1) := d_by (d_at odX12_readLine ofX12_readLine 98) rfl
theorem dX12_readLine_99 : decode cX12_readLine 99 = .ok (.invokevirtual 192, 3) := d_by (d_at odX12_readLine ofX12_readLine 99) rfl
theorem dX12_readLine_102 : decode cX12_readLine 102 = .ok (.ifCond .eq 10, 3) := d_by (d_at odX12_readLine ofX12_readLine 102) rfl
theorem dX12_readLine_105 : decode cX12_readLine 105 = .ok (.aload_n 0, 1) := d_by (d_at odX12_readLine ofX12_readLine 105) rfl
theorem dX12_readLine_106 : decode cX12_readLine 106 = .ok (.invokevirtual 202, 3) := d_by (d_at odX12_readLine ofX12_readLine 106) rfl
theorem dX12_readLine_109 : decode cX12_readLine 109 = .ok (.goto 78, 3) := d_by (d_at odX12_readLine ofX12_readLine 109) rfl
theorem dX12_readLine_112 : decode cX12_readLine 112 = .ok (.aload_n 0, 1) := d_by (d_at odX12_readLine ofX12_readLine 112) rfl
theorem dX12_readLine_113 : decode cX12_readLine 113 = .ok (.ldc 139, 2) := d_by (d_at odX12_readLine ofX12_readLine 113) rfl
theorem dX12_readLine_115 : decode cX12_readLine 115 = .ok (.aload_n 0, 1) := d_by (d_at odX12_readLine ofX12_readLine 115) rfl
theorem dX12_readLine_116 : decode cX12_readLine 116 = .ok (.getfield 23, 3) := d_by (d_at odX12_readLine ofX12_readLine 116) rfl
theorem dX12_readLine_119 : decode cX12_readLine 119 = .ok (.bipush 7, 2) := d_by (d_at odX12_readLine ofX12_readLine 119) rfl
theorem dX12_readLine_121 : decode cX12_readLine 121 = .ok (.iaload, 1) := d_by (d_at odX12_readLine ofX12_readLine 121) rfl
theorem dX12_readLine_122 : decode cX12_readLine 122 = .ok (.bipush 8, 2) := d_by (d_at odX12_readLine ofX12_readLine 122) rfl
theorem dX12_readLine_124 : decode cX12_readLine 124 = .ok (.if_icmp .ge 7, 3) := d_by (d_at odX12_readLine ofX12_readLine 124) rfl
theorem dX12_readLine_127 : decode cX12_readLine 127 = .ok (.iconst 1, 1) := d_by (d_at odX12_readLine ofX12_readLine 127) rfl
theorem dX12_readLine_128 : decode cX12_readLine 128 = .ok (.goto 4, 3) := d_by (d_at odX12_readLine ofX12_readLine 128) rfl
theorem dX12_readLine_131 : decode cX12_readLine 131 = .ok (.iconst 0, 1) := d_by (d_at odX12_readLine ofX12_readLine 131) rfl
theorem dX12_readLine_132 : decode cX12_readLine 132 = .ok (.invokevirtual 192, 3) := d_by (d_at odX12_readLine ofX12_readLine 132) rfl
theorem dX12_readLine_135 : decode cX12_readLine 135 = .ok (.ifCond .eq 10, 3) := d_by (d_at odX12_readLine ofX12_readLine 135) rfl
theorem dX12_readLine_138 : decode cX12_readLine 138 = .ok (.aload_n 0, 1) := d_by (d_at odX12_readLine ofX12_readLine 138) rfl
theorem dX12_readLine_139 : decode cX12_readLine 139 = .ok (.invokevirtual 205, 3) := d_by (d_at odX12_readLine ofX12_readLine 139) rfl
theorem dX12_readLine_142 : decode cX12_readLine 142 = .ok (.goto 45, 3) := d_by (d_at odX12_readLine ofX12_readLine 142) rfl
theorem dX12_readLine_145 : decode cX12_readLine 145 = .ok (.aload_n 0, 1) := d_by (d_at odX12_readLine ofX12_readLine 145) rfl
theorem dX12_readLine_146 : decode cX12_readLine 146 = .ok (.ldc 141, 2) := d_by (d_at odX12_readLine ofX12_readLine 146) rfl
theorem dX12_readLine_148 : decode cX12_readLine 148 = .ok (.aload_n 0, 1) := d_by (d_at odX12_readLine ofX12_readLine 148) rfl
theorem dX12_readLine_149 : decode cX12_readLine 149 = .ok (.getfield 23, 3) := d_by (d_at odX12_readLine ofX12_readLine 149) rfl
theorem dX12_readLine_152 : decode cX12_readLine 152 = .ok (.bipush 8, 2) := d_by (d_at odX12_readLine ofX12_readLine 152) rfl
theorem dX12_readLine_154 : decode cX12_readLine 154 = .ok (.iaload, 1) := d_by (d_at odX12_readLine ofX12_readLine 154) rfl
theorem dX12_readLine_155 : decode cX12_readLine 155 = .ok (.bipush 8, 2) := d_by (d_at odX12_readLine ofX12_readLine 155) rfl
theorem dX12_readLine_157 : decode cX12_readLine 157 = .ok (.if_icmp .ge 7, 3) := d_by (d_at odX12_readLine ofX12_readLine 157) rfl
theorem dX12_readLine_160 : decode cX12_readLine 160 = .ok (.iconst 1, 1) := d_by (d_at odX12_readLine ofX12_readLine 160) rfl
theorem dX12_readLine_161 : decode cX12_readLine 161 = .ok (.goto 4, 3) := d_by (d_at odX12_readLine ofX12_readLine 161) rfl
theorem dX12_readLine_164 : decode cX12_readLine 164 = .ok (.iconst 0, 1) := d_by (d_at odX12_readLine ofX12_readLine 164) rfl
theorem dX12_readLine_165 : decode cX12_readLine 165 = .ok (.invokevirtual 192, 3) := d_by (d_at odX12_readLine ofX12_readLine 165) rfl
theorem dX12_readLine_168 : decode cX12_readLine 168 = .ok (.ifCond .eq 10, 3) := d_by (d_at odX12_readLine ofX12_readLine 168) rfl
theorem dX12_readLine_171 : decode cX12_readLine 171 = .ok (.aload_n 0, 1) := d_by (d_at odX12_readLine ofX12_readLine 171) rfl
theorem dX12_readLine_172 : decode cX12_readLine 172 = .ok (.invokevirtual 208, 3) := d_by (d_at odX12_readLine ofX12_readLine 172) rfl
theorem dX12_readLine_175 : decode cX12_readLine 175 = .ok (.goto 12, 3) := d_by (d_at odX12_readLine ofX12_readLine 175) rfl
theorem dX12_readLine_178 : decode cX12_readLine 178 = .ok (.aload_n 0, 1) := d_by (d_at odX12_readLine ofX12_readLine 178) rfl
theorem dX12_readLine_179 : decode cX12_readLine 179 = .ok (.iconst 1, 1) := d_by (d_at odX12_readLine ofX12_readLine 179) rfl
theorem dX12_readLine_180 : decode cX12_readLine 180 = .ok (.aload_n 0, 1) := d_by (d_at odX12_readLine ofX12_readLine 180) rfl
theorem dX12_readLine_181 : decode cX12_readLine 181 = .ok (.getfield 81, 3) := d_by (d_at odX12_readLine ofX12_readLine 181) rfl
theorem dX12_readLine_184 : decode cX12_readLine 184 = .ok (.invokevirtual 127, 3) := d_by (d_at odX12_readLine ofX12_readLine 184) rfl
theorem dX12_readLine_187 : decode cX12_readLine 187 = .ok (.return_, 1) := d_by (d_at odX12_readLine ofX12_readLine 187) rfl
set_option maxRecDepth 100000 in
def bX12_postLine : List Nat := [42, 180, 0, 23, 16, 9, 46, 4, 160, 0, 12, 42, 6, 42, 180, 0, 81, 182, 0, 127, 42, 180, 0, 100, 153, 0, 4, 177, 42, 182, 0, 121, 42, 180, 0, 23, 3, 42, 18, 211, 5, 7, 182, 0, 213, 79, 42, 180, 0, 23, 4, 42, 18, 217, 3, 6, 182, 0, 213, 79, 42, 180, 0, 23, 5, 42, 18, 219, 3, 16, 50, 182, 0, 213, 79, 42, 180, 0, 23, 6, 42, 18, 221, 3, 16, 100, 182, 0, 213, 79, 42, 180, 0, 100, 154, 0, 11, 42, 180, 0, 23, 16, 9, 4, 79, 177]
set_option maxRecDepth 100000 in
theorem bbX12_postLine : cX12_postLine.data.toList.map UInt8.toNat = bX12_postLine := by decide +kernel
set_option maxRecDepth 100000 in
def tX12_postLine : Lean.RArray dLf := .branch 54 (.branch 28 (.branch 12 (.branch 6 (.branch 1 (.leaf (0, .aload_n 0, 1)) (.branch 4 (.leaf (1, .getfield 23, 3)) (.leaf (4, .bipush 9, 2)))) (.branch 8 (.branch 7 (.leaf (6, .iaload, 1)) (.leaf (7, .iconst 1, 1))) (.branch 11 (.leaf (8, .if_icmp .ne 12, 3)) (.leaf (11, .aload_n 0, 1))))) (.branch 20 (.branch 14 (.branch 13 (.leaf (12, .iconst 3, 1)) (.leaf (13, .aload_n 0, 1))) (.branch 17 (.leaf (14, .getfield 81, 3)) (.leaf (17, .invokevirtual 127, 3)))) (.branch 24 (.branch 21 (.leaf (20, .aload_n 0, 1)) (.leaf (21, .getfield 100, 3))) (.branch 27 (.leaf (24, .ifCond .eq 4, 3)) (.leaf (27, .return_, 1)))))) (.branch 41 (.branch 36 (.branch 32 (.branch 29 (.leaf (28, .aload_n 0, 1)) (.leaf (29, .invokevirtual 121, 3))) (.branch 33 (.leaf (32, .aload_n 0, 1)) (.leaf (33, .getfield 23, 3)))) (.branch 38 (.branch 37 (.leaf (36, .iconst 0, 1)) (.leaf (37, .aload_n 0, 1))) (.branch 40 (.leaf (38, .ldc 211, 2)) (.leaf (40, .iconst 2, 1))))) (.branch 47 (.branch 45 (.branch 42 (.leaf (41, .iconst 4, 1)) (.leaf (42, .invokevirtual 213, 3))) (.branch 46 (.leaf (45, .iastore, 1)) (.leaf (46, .aload_n 0, 1)))) (.branch 51 (.branch 50 (.leaf (47, .getfield 23, 3)) (.leaf (50, .iconst 1, 1))) (.branch 52 (.leaf (51, .aload_n 0, 1)) (.leaf (52, .ldc 217, 2))))))) (.branch 79 (.branch 65 (.branch 59 (.branch 55 (.leaf (54, .iconst 0, 1)) (.branch 56 (.leaf (55, .iconst 3, 1)) (.leaf (56, .invokevirtual 213, 3)))) (.branch 61 (.branch 60 (.leaf (59, .iastore, 1)) (.leaf (60, .aload_n 0, 1))) (.branch 64 (.leaf (61, .getfield 23, 3)) (.leaf (64, .iconst 2, 1))))) (.branch 71 (.branch 68 (.branch 66 (.leaf (65, .aload_n 0, 1)) (.leaf (66, .ldc 219, 2))) (.branch 69 (.leaf (68, .iconst 0, 1)) (.leaf (69, .bipush 50, 2)))) (.branch 75 (.branch 74 (.leaf (71, .invokevirtual 213, 3)) (.leaf (74, .iastore, 1))) (.branch 76 (.leaf (75, .aload_n 0, 1)) (.leaf (76, .getfield 23, 3)))))) (.branch 91 (.branch 84 (.branch 81 (.branch 80 (.leaf (79, .iconst 3, 1)) (.leaf (80, .aload_n 0, 1))) (.branch 83 (.leaf (81, .ldc 221, 2)) (.leaf (83, .iconst 0, 1)))) (.branch 89 (.branch 86 (.leaf (84, .bipush 100, 2)) (.leaf (86, .invokevirtual 213, 3))) (.branch 90 (.leaf (89, .iastore, 1)) (.leaf (90, .aload_n 0, 1))))) (.branch 101 (.branch 97 (.branch 94 (.leaf (91, .getfield 100, 3)) (.leaf (94, .ifCond .ne 11, 3))) (.branch 98 (.leaf (97, .aload_n 0, 1)) (.leaf (98, .getfield 23, 3)))) (.branch 104 (.branch 103 (.leaf (101, .bipush 9, 2)) (.leaf (103, .iconst 1, 1))) (.branch 105 (.leaf (104, .iastore, 1)) (.leaf (105, .return_, 1)))))))
noncomputable def oX12_postLine : List dLf := dFl tX12_postLine
theorem ofX12_postLine : dFl tX12_postLine = oX12_postLine := rfl
set_option maxRecDepth 100000 in
theorem odX12_postLine : ∀ q ∈ oX12_postLine, decode cX12_postLine q.1 = .ok (q.2.1, q.2.2) := q_go qT_ok bbX12_postLine oX12_postLine 0 (by decide +kernel)
theorem dX12_postLine_0 : decode cX12_postLine 0 = .ok (.aload_n 0, 1) := d_by (d_at odX12_postLine ofX12_postLine 0) rfl
theorem dX12_postLine_1 : decode cX12_postLine 1 = .ok (.getfield 23, 3) := d_by (d_at odX12_postLine ofX12_postLine 1) rfl
theorem dX12_postLine_4 : decode cX12_postLine 4 = .ok (.bipush 9, 2) := d_by (d_at odX12_postLine ofX12_postLine 4) rfl
theorem dX12_postLine_6 : decode cX12_postLine 6 = .ok (.iaload, 1) := d_by (d_at odX12_postLine ofX12_postLine 6) rfl
theorem dX12_postLine_7 : decode cX12_postLine 7 = .ok (.iconst 1, 1) := d_by (d_at odX12_postLine ofX12_postLine 7) rfl
theorem dX12_postLine_8 : decode cX12_postLine 8 = .ok (.if_icmp .ne 12, 3) := d_by (d_at odX12_postLine ofX12_postLine 8) rfl
theorem dX12_postLine_11 : decode cX12_postLine 11 = .ok (.aload_n 0, 1) := d_by (d_at odX12_postLine ofX12_postLine 11) rfl
theorem dX12_postLine_12 : decode cX12_postLine 12 = .ok (.iconst 3, 1) := d_by (d_at odX12_postLine ofX12_postLine 12) rfl
theorem dX12_postLine_13 : decode cX12_postLine 13 = .ok (.aload_n 0, 1) := d_by (d_at odX12_postLine ofX12_postLine 13) rfl
theorem dX12_postLine_14 : decode cX12_postLine 14 = .ok (.getfield 81, 3) := d_by (d_at odX12_postLine ofX12_postLine 14) rfl
theorem dX12_postLine_17 : decode cX12_postLine 17 = .ok (.invokevirtual 127, 3) := d_by (d_at odX12_postLine ofX12_postLine 17) rfl
theorem dX12_postLine_20 : decode cX12_postLine 20 = .ok (.aload_n 0, 1) := d_by (d_at odX12_postLine ofX12_postLine 20) rfl
theorem dX12_postLine_21 : decode cX12_postLine 21 = .ok (.getfield 100, 3) := d_by (d_at odX12_postLine ofX12_postLine 21) rfl
theorem dX12_postLine_24 : decode cX12_postLine 24 = .ok (.ifCond .eq 4, 3) := d_by (d_at odX12_postLine ofX12_postLine 24) rfl
theorem dX12_postLine_27 : decode cX12_postLine 27 = .ok (.return_, 1) := d_by (d_at odX12_postLine ofX12_postLine 27) rfl
theorem dX12_postLine_28 : decode cX12_postLine 28 = .ok (.aload_n 0, 1) := d_by (d_at odX12_postLine ofX12_postLine 28) rfl
theorem dX12_postLine_29 : decode cX12_postLine 29 = .ok (.invokevirtual 121, 3) := d_by (d_at odX12_postLine ofX12_postLine 29) rfl
theorem dX12_postLine_32 : decode cX12_postLine 32 = .ok (.aload_n 0, 1) := d_by (d_at odX12_postLine ofX12_postLine 32) rfl
theorem dX12_postLine_33 : decode cX12_postLine 33 = .ok (.getfield 23, 3) := d_by (d_at odX12_postLine ofX12_postLine 33) rfl
theorem dX12_postLine_36 : decode cX12_postLine 36 = .ok (.iconst 0, 1) := d_by (d_at odX12_postLine ofX12_postLine 36) rfl
theorem dX12_postLine_37 : decode cX12_postLine 37 = .ok (.aload_n 0, 1) := d_by (d_at odX12_postLine ofX12_postLine 37) rfl
theorem dX12_postLine_38 : decode cX12_postLine 38 = .ok (.ldc 211, 2) := d_by (d_at odX12_postLine ofX12_postLine 38) rfl
theorem dX12_postLine_40 : decode cX12_postLine 40 = .ok (.iconst 2, 1) := d_by (d_at odX12_postLine ofX12_postLine 40) rfl
theorem dX12_postLine_41 : decode cX12_postLine 41 = .ok (.iconst 4, 1) := d_by (d_at odX12_postLine ofX12_postLine 41) rfl
theorem dX12_postLine_42 : decode cX12_postLine 42 = .ok (.invokevirtual 213, 3) := d_by (d_at odX12_postLine ofX12_postLine 42) rfl
theorem dX12_postLine_45 : decode cX12_postLine 45 = .ok (.iastore, 1) := d_by (d_at odX12_postLine ofX12_postLine 45) rfl
theorem dX12_postLine_46 : decode cX12_postLine 46 = .ok (.aload_n 0, 1) := d_by (d_at odX12_postLine ofX12_postLine 46) rfl
theorem dX12_postLine_47 : decode cX12_postLine 47 = .ok (.getfield 23, 3) := d_by (d_at odX12_postLine ofX12_postLine 47) rfl
theorem dX12_postLine_50 : decode cX12_postLine 50 = .ok (.iconst 1, 1) := d_by (d_at odX12_postLine ofX12_postLine 50) rfl
theorem dX12_postLine_51 : decode cX12_postLine 51 = .ok (.aload_n 0, 1) := d_by (d_at odX12_postLine ofX12_postLine 51) rfl
theorem dX12_postLine_52 : decode cX12_postLine 52 = .ok (.ldc 217, 2) := d_by (d_at odX12_postLine ofX12_postLine 52) rfl
theorem dX12_postLine_54 : decode cX12_postLine 54 = .ok (.iconst 0, 1) := d_by (d_at odX12_postLine ofX12_postLine 54) rfl
theorem dX12_postLine_55 : decode cX12_postLine 55 = .ok (.iconst 3, 1) := d_by (d_at odX12_postLine ofX12_postLine 55) rfl
theorem dX12_postLine_56 : decode cX12_postLine 56 = .ok (.invokevirtual 213, 3) := d_by (d_at odX12_postLine ofX12_postLine 56) rfl
theorem dX12_postLine_59 : decode cX12_postLine 59 = .ok (.iastore, 1) := d_by (d_at odX12_postLine ofX12_postLine 59) rfl
theorem dX12_postLine_60 : decode cX12_postLine 60 = .ok (.aload_n 0, 1) := d_by (d_at odX12_postLine ofX12_postLine 60) rfl
theorem dX12_postLine_61 : decode cX12_postLine 61 = .ok (.getfield 23, 3) := d_by (d_at odX12_postLine ofX12_postLine 61) rfl
theorem dX12_postLine_64 : decode cX12_postLine 64 = .ok (.iconst 2, 1) := d_by (d_at odX12_postLine ofX12_postLine 64) rfl
theorem dX12_postLine_65 : decode cX12_postLine 65 = .ok (.aload_n 0, 1) := d_by (d_at odX12_postLine ofX12_postLine 65) rfl
theorem dX12_postLine_66 : decode cX12_postLine 66 = .ok (.ldc 219, 2) := d_by (d_at odX12_postLine ofX12_postLine 66) rfl
theorem dX12_postLine_68 : decode cX12_postLine 68 = .ok (.iconst 0, 1) := d_by (d_at odX12_postLine ofX12_postLine 68) rfl
theorem dX12_postLine_69 : decode cX12_postLine 69 = .ok (.bipush 50, 2) := d_by (d_at odX12_postLine ofX12_postLine 69) rfl
theorem dX12_postLine_71 : decode cX12_postLine 71 = .ok (.invokevirtual 213, 3) := d_by (d_at odX12_postLine ofX12_postLine 71) rfl
theorem dX12_postLine_74 : decode cX12_postLine 74 = .ok (.iastore, 1) := d_by (d_at odX12_postLine ofX12_postLine 74) rfl
theorem dX12_postLine_75 : decode cX12_postLine 75 = .ok (.aload_n 0, 1) := d_by (d_at odX12_postLine ofX12_postLine 75) rfl
theorem dX12_postLine_76 : decode cX12_postLine 76 = .ok (.getfield 23, 3) := d_by (d_at odX12_postLine ofX12_postLine 76) rfl
theorem dX12_postLine_79 : decode cX12_postLine 79 = .ok (.iconst 3, 1) := d_by (d_at odX12_postLine ofX12_postLine 79) rfl
theorem dX12_postLine_80 : decode cX12_postLine 80 = .ok (.aload_n 0, 1) := d_by (d_at odX12_postLine ofX12_postLine 80) rfl
theorem dX12_postLine_81 : decode cX12_postLine 81 = .ok (.ldc 221, 2) := d_by (d_at odX12_postLine ofX12_postLine 81) rfl
theorem dX12_postLine_83 : decode cX12_postLine 83 = .ok (.iconst 0, 1) := d_by (d_at odX12_postLine ofX12_postLine 83) rfl
theorem dX12_postLine_84 : decode cX12_postLine 84 = .ok (.bipush 100, 2) := d_by (d_at odX12_postLine ofX12_postLine 84) rfl
theorem dX12_postLine_86 : decode cX12_postLine 86 = .ok (.invokevirtual 213, 3) := d_by (d_at odX12_postLine ofX12_postLine 86) rfl
theorem dX12_postLine_89 : decode cX12_postLine 89 = .ok (.iastore, 1) := d_by (d_at odX12_postLine ofX12_postLine 89) rfl
theorem dX12_postLine_90 : decode cX12_postLine 90 = .ok (.aload_n 0, 1) := d_by (d_at odX12_postLine ofX12_postLine 90) rfl
theorem dX12_postLine_91 : decode cX12_postLine 91 = .ok (.getfield 100, 3) := d_by (d_at odX12_postLine ofX12_postLine 91) rfl
theorem dX12_postLine_94 : decode cX12_postLine 94 = .ok (.ifCond .ne 11, 3) := d_by (d_at odX12_postLine ofX12_postLine 94) rfl
theorem dX12_postLine_97 : decode cX12_postLine 97 = .ok (.aload_n 0, 1) := d_by (d_at odX12_postLine ofX12_postLine 97) rfl
theorem dX12_postLine_98 : decode cX12_postLine 98 = .ok (.getfield 23, 3) := d_by (d_at odX12_postLine ofX12_postLine 98) rfl
theorem dX12_postLine_101 : decode cX12_postLine 101 = .ok (.bipush 9, 2) := d_by (d_at odX12_postLine ofX12_postLine 101) rfl
theorem dX12_postLine_103 : decode cX12_postLine 103 = .ok (.iconst 1, 1) := d_by (d_at odX12_postLine ofX12_postLine 103) rfl
theorem dX12_postLine_104 : decode cX12_postLine 104 = .ok (.iastore, 1) := d_by (d_at odX12_postLine ofX12_postLine 104) rfl
theorem dX12_postLine_105 : decode cX12_postLine 105 = .ok (.return_, 1) := d_by (d_at odX12_postLine ofX12_postLine 105) rfl
set_option maxRecDepth 100000 in
def bX12_islandLine : List Nat := [42, 180, 0, 100, 153, 0, 4, 177, 42, 180, 0, 23, 7, 46, 60, 42, 27, 182, 0, 223, 42, 180, 0, 100, 154, 0, 20, 42, 180, 0, 90, 5, 159, 0, 12, 42, 4, 42, 180, 0, 81, 182, 0, 127, 42, 180, 0, 100, 153, 0, 4, 177, 42, 180, 0, 84, 5, 16, 6, 184, 0, 149, 61, 3, 62, 29, 42, 180, 0, 84, 162, 0, 37, 28, 153, 0, 25, 42, 180, 0, 17, 29, 46, 16, 97, 100, 42, 180, 0, 23, 3, 46, 162, 0, 7, 4, 167, 0, 4, 3, 61, 132, 3, 1, 167, 255, 217, 3, 62, 3, 54, 4, 21, 4, 27, 162, 0, 28, 29, 154, 0, 12, 42, 21, 4, 182, 0, 227, 153, 0, 7, 4, 167, 0, 4, 3, 62, 132, 4, 1, 167, 255, 228, 29, 153, 0, 15, 42, 6, 42, 180, 0, 81, 182, 0, 127, 167, 0, 17, 28, 154, 0, 13, 42, 16, 7, 42, 180, 0, 81, 182, 0, 127, 42, 180, 0, 100, 153, 0, 4, 177, 16, 10, 16, 7, 27, 104, 96, 54, 4, 42, 180, 0, 23, 21, 4, 42, 180, 0, 84, 79, 3, 54, 5, 21, 5, 42, 180, 0, 84, 162, 0, 31, 42, 180, 0, 23, 21, 4, 4, 96, 21, 5, 96, 42, 180, 0, 17, 21, 5, 46, 16, 97, 100, 79, 132, 5, 1, 167, 255, 222, 42, 182, 0, 121, 42, 180, 0, 23, 7, 92, 46, 4, 96, 79, 177]
set_option maxRecDepth 100000 in
theorem bbX12_islandLine : cX12_islandLine.data.toList.map UInt8.toNat = bX12_islandLine := by decide +kernel
set_option maxRecDepth 100000 in
def tX12_islandLine : Lean.RArray dLf := .branch 128 (.branch 64 (.branch 31 (.branch 14 (.branch 8 (.branch 4 (.branch 1 (.leaf (0, .aload_n 0, 1)) (.leaf (1, .getfield 100, 3))) (.branch 7 (.leaf (4, .ifCond .eq 4, 3)) (.leaf (7, .return_, 1)))) (.branch 12 (.branch 9 (.leaf (8, .aload_n 0, 1)) (.leaf (9, .getfield 23, 3))) (.branch 13 (.leaf (12, .iconst 4, 1)) (.leaf (13, .iaload, 1))))) (.branch 20 (.branch 16 (.branch 15 (.leaf (14, .istore_n 1, 1)) (.leaf (15, .aload_n 0, 1))) (.branch 17 (.leaf (16, .iload_n 1, 1)) (.leaf (17, .invokevirtual 223, 3)))) (.branch 24 (.branch 21 (.leaf (20, .aload_n 0, 1)) (.leaf (21, .getfield 100, 3))) (.branch 27 (.leaf (24, .ifCond .ne 20, 3)) (.branch 28 (.leaf (27, .aload_n 0, 1)) (.leaf (28, .getfield 90, 3))))))) (.branch 48 (.branch 37 (.branch 35 (.branch 32 (.leaf (31, .iconst 2, 1)) (.leaf (32, .if_icmp .eq 12, 3))) (.branch 36 (.leaf (35, .aload_n 0, 1)) (.leaf (36, .iconst 1, 1)))) (.branch 41 (.branch 38 (.leaf (37, .aload_n 0, 1)) (.leaf (38, .getfield 81, 3))) (.branch 44 (.leaf (41, .invokevirtual 127, 3)) (.branch 45 (.leaf (44, .aload_n 0, 1)) (.leaf (45, .getfield 100, 3)))))) (.branch 56 (.branch 52 (.branch 51 (.leaf (48, .ifCond .eq 4, 3)) (.leaf (51, .return_, 1))) (.branch 53 (.leaf (52, .aload_n 0, 1)) (.leaf (53, .getfield 84, 3)))) (.branch 59 (.branch 57 (.leaf (56, .iconst 2, 1)) (.leaf (57, .bipush 6, 2))) (.branch 62 (.leaf (59, .invokestatic 149, 3)) (.branch 63 (.leaf (62, .istore_n 2, 1)) (.leaf (63, .iconst 0, 1)))))))) (.branch 95 (.branch 81 (.branch 70 (.branch 66 (.branch 65 (.leaf (64, .istore_n 3, 1)) (.leaf (65, .iload_n 3, 1))) (.branch 67 (.leaf (66, .aload_n 0, 1)) (.leaf (67, .getfield 84, 3)))) (.branch 74 (.branch 73 (.leaf (70, .if_icmp .ge 37, 3)) (.leaf (73, .iload_n 2, 1))) (.branch 77 (.leaf (74, .ifCond .eq 25, 3)) (.branch 78 (.leaf (77, .aload_n 0, 1)) (.leaf (78, .getfield 17, 3)))))) (.branch 86 (.branch 83 (.branch 82 (.leaf (81, .iload_n 3, 1)) (.leaf (82, .iaload, 1))) (.branch 85 (.leaf (83, .bipush 97, 2)) (.leaf (85, .isub, 1)))) (.branch 90 (.branch 87 (.leaf (86, .aload_n 0, 1)) (.leaf (87, .getfield 23, 3))) (.branch 91 (.leaf (90, .iconst 0, 1)) (.branch 92 (.leaf (91, .iaload, 1)) (.leaf (92, .if_icmp .ge 7, 3))))))) (.branch 110 (.branch 101 (.branch 99 (.branch 96 (.leaf (95, .iconst 1, 1)) (.leaf (96, .goto 4, 3))) (.branch 100 (.leaf (99, .iconst 0, 1)) (.leaf (100, .istore_n 2, 1)))) (.branch 107 (.branch 104 (.leaf (101, .iinc 3 1, 3)) (.leaf (104, .goto (-39), 3))) (.branch 108 (.leaf (107, .iconst 0, 1)) (.branch 109 (.leaf (108, .istore_n 3, 1)) (.leaf (109, .iconst 0, 1)))))) (.branch 118 (.branch 114 (.branch 112 (.leaf (110, .istore 4, 2)) (.leaf (112, .iload 4, 2))) (.branch 115 (.leaf (114, .iload_n 1, 1)) (.leaf (115, .if_icmp .ge 28, 3)))) (.branch 122 (.branch 119 (.leaf (118, .iload_n 3, 1)) (.leaf (119, .ifCond .ne 12, 3))) (.branch 123 (.leaf (122, .aload_n 0, 1)) (.branch 125 (.leaf (123, .iload 4, 2)) (.leaf (125, .invokevirtual 227, 3))))))))) (.branch 196 (.branch 163 (.branch 144 (.branch 136 (.branch 132 (.branch 131 (.leaf (128, .ifCond .eq 7, 3)) (.leaf (131, .iconst 1, 1))) (.branch 135 (.leaf (132, .goto 4, 3)) (.leaf (135, .iconst 0, 1)))) (.branch 140 (.branch 137 (.leaf (136, .istore_n 3, 1)) (.leaf (137, .iinc 4 1, 3))) (.branch 143 (.leaf (140, .goto (-28), 3)) (.leaf (143, .iload_n 3, 1))))) (.branch 150 (.branch 148 (.branch 147 (.leaf (144, .ifCond .eq 15, 3)) (.leaf (147, .aload_n 0, 1))) (.branch 149 (.leaf (148, .iconst 3, 1)) (.leaf (149, .aload_n 0, 1)))) (.branch 156 (.branch 153 (.leaf (150, .getfield 81, 3)) (.leaf (153, .invokevirtual 127, 3))) (.branch 159 (.leaf (156, .goto 17, 3)) (.branch 160 (.leaf (159, .iload_n 2, 1)) (.leaf (160, .ifCond .ne 13, 3))))))) (.branch 181 (.branch 170 (.branch 166 (.branch 164 (.leaf (163, .aload_n 0, 1)) (.leaf (164, .bipush 7, 2))) (.branch 167 (.leaf (166, .aload_n 0, 1)) (.leaf (167, .getfield 81, 3)))) (.branch 174 (.branch 173 (.leaf (170, .invokevirtual 127, 3)) (.leaf (173, .aload_n 0, 1))) (.branch 177 (.leaf (174, .getfield 100, 3)) (.branch 180 (.leaf (177, .ifCond .eq 4, 3)) (.leaf (180, .return_, 1)))))) (.branch 187 (.branch 185 (.branch 183 (.leaf (181, .bipush 10, 2)) (.leaf (183, .bipush 7, 2))) (.branch 186 (.leaf (185, .iload_n 1, 1)) (.leaf (186, .imul, 1)))) (.branch 190 (.branch 188 (.leaf (187, .iadd, 1)) (.leaf (188, .istore 4, 2))) (.branch 191 (.leaf (190, .aload_n 0, 1)) (.branch 194 (.leaf (191, .getfield 23, 3)) (.leaf (194, .iload 4, 2)))))))) (.branch 228 (.branch 213 (.branch 202 (.branch 200 (.branch 197 (.leaf (196, .aload_n 0, 1)) (.leaf (197, .getfield 84, 3))) (.branch 201 (.leaf (200, .iastore, 1)) (.leaf (201, .iconst 0, 1)))) (.branch 206 (.branch 204 (.leaf (202, .istore 5, 2)) (.leaf (204, .iload 5, 2))) (.branch 207 (.leaf (206, .aload_n 0, 1)) (.branch 210 (.leaf (207, .getfield 84, 3)) (.leaf (210, .if_icmp .ge 31, 3)))))) (.branch 220 (.branch 217 (.branch 214 (.leaf (213, .aload_n 0, 1)) (.leaf (214, .getfield 23, 3))) (.branch 219 (.leaf (217, .iload 4, 2)) (.leaf (219, .iconst 1, 1)))) (.branch 223 (.branch 221 (.leaf (220, .iadd, 1)) (.leaf (221, .iload 5, 2))) (.branch 224 (.leaf (223, .iadd, 1)) (.branch 225 (.leaf (224, .aload_n 0, 1)) (.leaf (225, .getfield 17, 3))))))) (.branch 245 (.branch 234 (.branch 231 (.branch 230 (.leaf (228, .iload 5, 2)) (.leaf (230, .iaload, 1))) (.branch 233 (.leaf (231, .bipush 97, 2)) (.leaf (233, .isub, 1)))) (.branch 238 (.branch 235 (.leaf (234, .iastore, 1)) (.leaf (235, .iinc 5 1, 3))) (.branch 241 (.leaf (238, .goto (-34), 3)) (.branch 242 (.leaf (241, .aload_n 0, 1)) (.leaf (242, .invokevirtual 121, 3)))))) (.branch 251 (.branch 249 (.branch 246 (.leaf (245, .aload_n 0, 1)) (.leaf (246, .getfield 23, 3))) (.branch 250 (.leaf (249, .iconst 4, 1)) (.leaf (250, .dup2, 1)))) (.branch 253 (.branch 252 (.leaf (251, .iaload, 1)) (.leaf (252, .iconst 1, 1))) (.branch 254 (.leaf (253, .iadd, 1)) (.branch 255 (.leaf (254, .iastore, 1)) (.leaf (255, .return_, 1)))))))))
noncomputable def oX12_islandLine : List dLf := dFl tX12_islandLine
theorem ofX12_islandLine : dFl tX12_islandLine = oX12_islandLine := rfl
set_option maxRecDepth 100000 in
theorem odX12_islandLine : ∀ q ∈ oX12_islandLine, decode cX12_islandLine q.1 = .ok (q.2.1, q.2.2) := q_go qT_ok bbX12_islandLine oX12_islandLine 0 (by decide +kernel)
theorem dX12_islandLine_0 : decode cX12_islandLine 0 = .ok (.aload_n 0, 1) := d_by (d_at odX12_islandLine ofX12_islandLine 0) rfl
theorem dX12_islandLine_1 : decode cX12_islandLine 1 = .ok (.getfield 100, 3) := d_by (d_at odX12_islandLine ofX12_islandLine 1) rfl
theorem dX12_islandLine_4 : decode cX12_islandLine 4 = .ok (.ifCond .eq 4, 3) := d_by (d_at odX12_islandLine ofX12_islandLine 4) rfl
theorem dX12_islandLine_7 : decode cX12_islandLine 7 = .ok (.return_, 1) := d_by (d_at odX12_islandLine ofX12_islandLine 7) rfl
theorem dX12_islandLine_8 : decode cX12_islandLine 8 = .ok (.aload_n 0, 1) := d_by (d_at odX12_islandLine ofX12_islandLine 8) rfl
theorem dX12_islandLine_9 : decode cX12_islandLine 9 = .ok (.getfield 23, 3) := d_by (d_at odX12_islandLine ofX12_islandLine 9) rfl
theorem dX12_islandLine_12 : decode cX12_islandLine 12 = .ok (.iconst 4, 1) := d_by (d_at odX12_islandLine ofX12_islandLine 12) rfl
theorem dX12_islandLine_13 : decode cX12_islandLine 13 = .ok (.iaload, 1) := d_by (d_at odX12_islandLine ofX12_islandLine 13) rfl
theorem dX12_islandLine_14 : decode cX12_islandLine 14 = .ok (.istore_n 1, 1) := d_by (d_at odX12_islandLine ofX12_islandLine 14) rfl
theorem dX12_islandLine_15 : decode cX12_islandLine 15 = .ok (.aload_n 0, 1) := d_by (d_at odX12_islandLine ofX12_islandLine 15) rfl
theorem dX12_islandLine_16 : decode cX12_islandLine 16 = .ok (.iload_n 1, 1) := d_by (d_at odX12_islandLine ofX12_islandLine 16) rfl
theorem dX12_islandLine_17 : decode cX12_islandLine 17 = .ok (.invokevirtual 223, 3) := d_by (d_at odX12_islandLine ofX12_islandLine 17) rfl
theorem dX12_islandLine_20 : decode cX12_islandLine 20 = .ok (.aload_n 0, 1) := d_by (d_at odX12_islandLine ofX12_islandLine 20) rfl
theorem dX12_islandLine_21 : decode cX12_islandLine 21 = .ok (.getfield 100, 3) := d_by (d_at odX12_islandLine ofX12_islandLine 21) rfl
theorem dX12_islandLine_24 : decode cX12_islandLine 24 = .ok (.ifCond .ne 20, 3) := d_by (d_at odX12_islandLine ofX12_islandLine 24) rfl
theorem dX12_islandLine_27 : decode cX12_islandLine 27 = .ok (.aload_n 0, 1) := d_by (d_at odX12_islandLine ofX12_islandLine 27) rfl
theorem dX12_islandLine_28 : decode cX12_islandLine 28 = .ok (.getfield 90, 3) := d_by (d_at odX12_islandLine ofX12_islandLine 28) rfl
theorem dX12_islandLine_31 : decode cX12_islandLine 31 = .ok (.iconst 2, 1) := d_by (d_at odX12_islandLine ofX12_islandLine 31) rfl
theorem dX12_islandLine_32 : decode cX12_islandLine 32 = .ok (.if_icmp .eq 12, 3) := d_by (d_at odX12_islandLine ofX12_islandLine 32) rfl
theorem dX12_islandLine_35 : decode cX12_islandLine 35 = .ok (.aload_n 0, 1) := d_by (d_at odX12_islandLine ofX12_islandLine 35) rfl
theorem dX12_islandLine_36 : decode cX12_islandLine 36 = .ok (.iconst 1, 1) := d_by (d_at odX12_islandLine ofX12_islandLine 36) rfl
theorem dX12_islandLine_37 : decode cX12_islandLine 37 = .ok (.aload_n 0, 1) := d_by (d_at odX12_islandLine ofX12_islandLine 37) rfl
theorem dX12_islandLine_38 : decode cX12_islandLine 38 = .ok (.getfield 81, 3) := d_by (d_at odX12_islandLine ofX12_islandLine 38) rfl
theorem dX12_islandLine_41 : decode cX12_islandLine 41 = .ok (.invokevirtual 127, 3) := d_by (d_at odX12_islandLine ofX12_islandLine 41) rfl
theorem dX12_islandLine_44 : decode cX12_islandLine 44 = .ok (.aload_n 0, 1) := d_by (d_at odX12_islandLine ofX12_islandLine 44) rfl
theorem dX12_islandLine_45 : decode cX12_islandLine 45 = .ok (.getfield 100, 3) := d_by (d_at odX12_islandLine ofX12_islandLine 45) rfl
theorem dX12_islandLine_48 : decode cX12_islandLine 48 = .ok (.ifCond .eq 4, 3) := d_by (d_at odX12_islandLine ofX12_islandLine 48) rfl
theorem dX12_islandLine_51 : decode cX12_islandLine 51 = .ok (.return_, 1) := d_by (d_at odX12_islandLine ofX12_islandLine 51) rfl
theorem dX12_islandLine_52 : decode cX12_islandLine 52 = .ok (.aload_n 0, 1) := d_by (d_at odX12_islandLine ofX12_islandLine 52) rfl
theorem dX12_islandLine_53 : decode cX12_islandLine 53 = .ok (.getfield 84, 3) := d_by (d_at odX12_islandLine ofX12_islandLine 53) rfl
theorem dX12_islandLine_56 : decode cX12_islandLine 56 = .ok (.iconst 2, 1) := d_by (d_at odX12_islandLine ofX12_islandLine 56) rfl
theorem dX12_islandLine_57 : decode cX12_islandLine 57 = .ok (.bipush 6, 2) := d_by (d_at odX12_islandLine ofX12_islandLine 57) rfl
theorem dX12_islandLine_59 : decode cX12_islandLine 59 = .ok (.invokestatic 149, 3) := d_by (d_at odX12_islandLine ofX12_islandLine 59) rfl
theorem dX12_islandLine_62 : decode cX12_islandLine 62 = .ok (.istore_n 2, 1) := d_by (d_at odX12_islandLine ofX12_islandLine 62) rfl
theorem dX12_islandLine_63 : decode cX12_islandLine 63 = .ok (.iconst 0, 1) := d_by (d_at odX12_islandLine ofX12_islandLine 63) rfl
theorem dX12_islandLine_64 : decode cX12_islandLine 64 = .ok (.istore_n 3, 1) := d_by (d_at odX12_islandLine ofX12_islandLine 64) rfl
theorem dX12_islandLine_65 : decode cX12_islandLine 65 = .ok (.iload_n 3, 1) := d_by (d_at odX12_islandLine ofX12_islandLine 65) rfl
theorem dX12_islandLine_66 : decode cX12_islandLine 66 = .ok (.aload_n 0, 1) := d_by (d_at odX12_islandLine ofX12_islandLine 66) rfl
theorem dX12_islandLine_67 : decode cX12_islandLine 67 = .ok (.getfield 84, 3) := d_by (d_at odX12_islandLine ofX12_islandLine 67) rfl
theorem dX12_islandLine_70 : decode cX12_islandLine 70 = .ok (.if_icmp .ge 37, 3) := d_by (d_at odX12_islandLine ofX12_islandLine 70) rfl
theorem dX12_islandLine_73 : decode cX12_islandLine 73 = .ok (.iload_n 2, 1) := d_by (d_at odX12_islandLine ofX12_islandLine 73) rfl
theorem dX12_islandLine_74 : decode cX12_islandLine 74 = .ok (.ifCond .eq 25, 3) := d_by (d_at odX12_islandLine ofX12_islandLine 74) rfl
theorem dX12_islandLine_77 : decode cX12_islandLine 77 = .ok (.aload_n 0, 1) := d_by (d_at odX12_islandLine ofX12_islandLine 77) rfl
theorem dX12_islandLine_78 : decode cX12_islandLine 78 = .ok (.getfield 17, 3) := d_by (d_at odX12_islandLine ofX12_islandLine 78) rfl
theorem dX12_islandLine_81 : decode cX12_islandLine 81 = .ok (.iload_n 3, 1) := d_by (d_at odX12_islandLine ofX12_islandLine 81) rfl
theorem dX12_islandLine_82 : decode cX12_islandLine 82 = .ok (.iaload, 1) := d_by (d_at odX12_islandLine ofX12_islandLine 82) rfl
theorem dX12_islandLine_83 : decode cX12_islandLine 83 = .ok (.bipush 97, 2) := d_by (d_at odX12_islandLine ofX12_islandLine 83) rfl
theorem dX12_islandLine_85 : decode cX12_islandLine 85 = .ok (.isub, 1) := d_by (d_at odX12_islandLine ofX12_islandLine 85) rfl
theorem dX12_islandLine_86 : decode cX12_islandLine 86 = .ok (.aload_n 0, 1) := d_by (d_at odX12_islandLine ofX12_islandLine 86) rfl
theorem dX12_islandLine_87 : decode cX12_islandLine 87 = .ok (.getfield 23, 3) := d_by (d_at odX12_islandLine ofX12_islandLine 87) rfl
theorem dX12_islandLine_90 : decode cX12_islandLine 90 = .ok (.iconst 0, 1) := d_by (d_at odX12_islandLine ofX12_islandLine 90) rfl
theorem dX12_islandLine_91 : decode cX12_islandLine 91 = .ok (.iaload, 1) := d_by (d_at odX12_islandLine ofX12_islandLine 91) rfl
theorem dX12_islandLine_92 : decode cX12_islandLine 92 = .ok (.if_icmp .ge 7, 3) := d_by (d_at odX12_islandLine ofX12_islandLine 92) rfl
theorem dX12_islandLine_95 : decode cX12_islandLine 95 = .ok (.iconst 1, 1) := d_by (d_at odX12_islandLine ofX12_islandLine 95) rfl
theorem dX12_islandLine_96 : decode cX12_islandLine 96 = .ok (.goto 4, 3) := d_by (d_at odX12_islandLine ofX12_islandLine 96) rfl
theorem dX12_islandLine_99 : decode cX12_islandLine 99 = .ok (.iconst 0, 1) := d_by (d_at odX12_islandLine ofX12_islandLine 99) rfl
theorem dX12_islandLine_100 : decode cX12_islandLine 100 = .ok (.istore_n 2, 1) := d_by (d_at odX12_islandLine ofX12_islandLine 100) rfl
theorem dX12_islandLine_101 : decode cX12_islandLine 101 = .ok (.iinc 3 1, 3) := d_by (d_at odX12_islandLine ofX12_islandLine 101) rfl
theorem dX12_islandLine_104 : decode cX12_islandLine 104 = .ok (.goto (-39), 3) := d_by (d_at odX12_islandLine ofX12_islandLine 104) rfl
theorem dX12_islandLine_107 : decode cX12_islandLine 107 = .ok (.iconst 0, 1) := d_by (d_at odX12_islandLine ofX12_islandLine 107) rfl
theorem dX12_islandLine_108 : decode cX12_islandLine 108 = .ok (.istore_n 3, 1) := d_by (d_at odX12_islandLine ofX12_islandLine 108) rfl
theorem dX12_islandLine_109 : decode cX12_islandLine 109 = .ok (.iconst 0, 1) := d_by (d_at odX12_islandLine ofX12_islandLine 109) rfl
theorem dX12_islandLine_110 : decode cX12_islandLine 110 = .ok (.istore 4, 2) := d_by (d_at odX12_islandLine ofX12_islandLine 110) rfl
theorem dX12_islandLine_112 : decode cX12_islandLine 112 = .ok (.iload 4, 2) := d_by (d_at odX12_islandLine ofX12_islandLine 112) rfl
theorem dX12_islandLine_114 : decode cX12_islandLine 114 = .ok (.iload_n 1, 1) := d_by (d_at odX12_islandLine ofX12_islandLine 114) rfl
theorem dX12_islandLine_115 : decode cX12_islandLine 115 = .ok (.if_icmp .ge 28, 3) := d_by (d_at odX12_islandLine ofX12_islandLine 115) rfl
theorem dX12_islandLine_118 : decode cX12_islandLine 118 = .ok (.iload_n 3, 1) := d_by (d_at odX12_islandLine ofX12_islandLine 118) rfl
theorem dX12_islandLine_119 : decode cX12_islandLine 119 = .ok (.ifCond .ne 12, 3) := d_by (d_at odX12_islandLine ofX12_islandLine 119) rfl
theorem dX12_islandLine_122 : decode cX12_islandLine 122 = .ok (.aload_n 0, 1) := d_by (d_at odX12_islandLine ofX12_islandLine 122) rfl
theorem dX12_islandLine_123 : decode cX12_islandLine 123 = .ok (.iload 4, 2) := d_by (d_at odX12_islandLine ofX12_islandLine 123) rfl
theorem dX12_islandLine_125 : decode cX12_islandLine 125 = .ok (.invokevirtual 227, 3) := d_by (d_at odX12_islandLine ofX12_islandLine 125) rfl
theorem dX12_islandLine_128 : decode cX12_islandLine 128 = .ok (.ifCond .eq 7, 3) := d_by (d_at odX12_islandLine ofX12_islandLine 128) rfl
theorem dX12_islandLine_131 : decode cX12_islandLine 131 = .ok (.iconst 1, 1) := d_by (d_at odX12_islandLine ofX12_islandLine 131) rfl
theorem dX12_islandLine_132 : decode cX12_islandLine 132 = .ok (.goto 4, 3) := d_by (d_at odX12_islandLine ofX12_islandLine 132) rfl
theorem dX12_islandLine_135 : decode cX12_islandLine 135 = .ok (.iconst 0, 1) := d_by (d_at odX12_islandLine ofX12_islandLine 135) rfl
theorem dX12_islandLine_136 : decode cX12_islandLine 136 = .ok (.istore_n 3, 1) := d_by (d_at odX12_islandLine ofX12_islandLine 136) rfl
theorem dX12_islandLine_137 : decode cX12_islandLine 137 = .ok (.iinc 4 1, 3) := d_by (d_at odX12_islandLine ofX12_islandLine 137) rfl
theorem dX12_islandLine_140 : decode cX12_islandLine 140 = .ok (.goto (-28), 3) := d_by (d_at odX12_islandLine ofX12_islandLine 140) rfl
theorem dX12_islandLine_143 : decode cX12_islandLine 143 = .ok (.iload_n 3, 1) := d_by (d_at odX12_islandLine ofX12_islandLine 143) rfl
theorem dX12_islandLine_144 : decode cX12_islandLine 144 = .ok (.ifCond .eq 15, 3) := d_by (d_at odX12_islandLine ofX12_islandLine 144) rfl
theorem dX12_islandLine_147 : decode cX12_islandLine 147 = .ok (.aload_n 0, 1) := d_by (d_at odX12_islandLine ofX12_islandLine 147) rfl
theorem dX12_islandLine_148 : decode cX12_islandLine 148 = .ok (.iconst 3, 1) := d_by (d_at odX12_islandLine ofX12_islandLine 148) rfl
theorem dX12_islandLine_149 : decode cX12_islandLine 149 = .ok (.aload_n 0, 1) := d_by (d_at odX12_islandLine ofX12_islandLine 149) rfl
theorem dX12_islandLine_150 : decode cX12_islandLine 150 = .ok (.getfield 81, 3) := d_by (d_at odX12_islandLine ofX12_islandLine 150) rfl
theorem dX12_islandLine_153 : decode cX12_islandLine 153 = .ok (.invokevirtual 127, 3) := d_by (d_at odX12_islandLine ofX12_islandLine 153) rfl
theorem dX12_islandLine_156 : decode cX12_islandLine 156 = .ok (.goto 17, 3) := d_by (d_at odX12_islandLine ofX12_islandLine 156) rfl
theorem dX12_islandLine_159 : decode cX12_islandLine 159 = .ok (.iload_n 2, 1) := d_by (d_at odX12_islandLine ofX12_islandLine 159) rfl
theorem dX12_islandLine_160 : decode cX12_islandLine 160 = .ok (.ifCond .ne 13, 3) := d_by (d_at odX12_islandLine ofX12_islandLine 160) rfl
theorem dX12_islandLine_163 : decode cX12_islandLine 163 = .ok (.aload_n 0, 1) := d_by (d_at odX12_islandLine ofX12_islandLine 163) rfl
theorem dX12_islandLine_164 : decode cX12_islandLine 164 = .ok (.bipush 7, 2) := d_by (d_at odX12_islandLine ofX12_islandLine 164) rfl
theorem dX12_islandLine_166 : decode cX12_islandLine 166 = .ok (.aload_n 0, 1) := d_by (d_at odX12_islandLine ofX12_islandLine 166) rfl
theorem dX12_islandLine_167 : decode cX12_islandLine 167 = .ok (.getfield 81, 3) := d_by (d_at odX12_islandLine ofX12_islandLine 167) rfl
theorem dX12_islandLine_170 : decode cX12_islandLine 170 = .ok (.invokevirtual 127, 3) := d_by (d_at odX12_islandLine ofX12_islandLine 170) rfl
theorem dX12_islandLine_173 : decode cX12_islandLine 173 = .ok (.aload_n 0, 1) := d_by (d_at odX12_islandLine ofX12_islandLine 173) rfl
theorem dX12_islandLine_174 : decode cX12_islandLine 174 = .ok (.getfield 100, 3) := d_by (d_at odX12_islandLine ofX12_islandLine 174) rfl
theorem dX12_islandLine_177 : decode cX12_islandLine 177 = .ok (.ifCond .eq 4, 3) := d_by (d_at odX12_islandLine ofX12_islandLine 177) rfl
theorem dX12_islandLine_180 : decode cX12_islandLine 180 = .ok (.return_, 1) := d_by (d_at odX12_islandLine ofX12_islandLine 180) rfl
theorem dX12_islandLine_181 : decode cX12_islandLine 181 = .ok (.bipush 10, 2) := d_by (d_at odX12_islandLine ofX12_islandLine 181) rfl
theorem dX12_islandLine_183 : decode cX12_islandLine 183 = .ok (.bipush 7, 2) := d_by (d_at odX12_islandLine ofX12_islandLine 183) rfl
theorem dX12_islandLine_185 : decode cX12_islandLine 185 = .ok (.iload_n 1, 1) := d_by (d_at odX12_islandLine ofX12_islandLine 185) rfl
theorem dX12_islandLine_186 : decode cX12_islandLine 186 = .ok (.imul, 1) := d_by (d_at odX12_islandLine ofX12_islandLine 186) rfl
theorem dX12_islandLine_187 : decode cX12_islandLine 187 = .ok (.iadd, 1) := d_by (d_at odX12_islandLine ofX12_islandLine 187) rfl
theorem dX12_islandLine_188 : decode cX12_islandLine 188 = .ok (.istore 4, 2) := d_by (d_at odX12_islandLine ofX12_islandLine 188) rfl
theorem dX12_islandLine_190 : decode cX12_islandLine 190 = .ok (.aload_n 0, 1) := d_by (d_at odX12_islandLine ofX12_islandLine 190) rfl
theorem dX12_islandLine_191 : decode cX12_islandLine 191 = .ok (.getfield 23, 3) := d_by (d_at odX12_islandLine ofX12_islandLine 191) rfl
theorem dX12_islandLine_194 : decode cX12_islandLine 194 = .ok (.iload 4, 2) := d_by (d_at odX12_islandLine ofX12_islandLine 194) rfl
theorem dX12_islandLine_196 : decode cX12_islandLine 196 = .ok (.aload_n 0, 1) := d_by (d_at odX12_islandLine ofX12_islandLine 196) rfl
theorem dX12_islandLine_197 : decode cX12_islandLine 197 = .ok (.getfield 84, 3) := d_by (d_at odX12_islandLine ofX12_islandLine 197) rfl
theorem dX12_islandLine_200 : decode cX12_islandLine 200 = .ok (.iastore, 1) := d_by (d_at odX12_islandLine ofX12_islandLine 200) rfl
theorem dX12_islandLine_201 : decode cX12_islandLine 201 = .ok (.iconst 0, 1) := d_by (d_at odX12_islandLine ofX12_islandLine 201) rfl
theorem dX12_islandLine_202 : decode cX12_islandLine 202 = .ok (.istore 5, 2) := d_by (d_at odX12_islandLine ofX12_islandLine 202) rfl
theorem dX12_islandLine_204 : decode cX12_islandLine 204 = .ok (.iload 5, 2) := d_by (d_at odX12_islandLine ofX12_islandLine 204) rfl
theorem dX12_islandLine_206 : decode cX12_islandLine 206 = .ok (.aload_n 0, 1) := d_by (d_at odX12_islandLine ofX12_islandLine 206) rfl
theorem dX12_islandLine_207 : decode cX12_islandLine 207 = .ok (.getfield 84, 3) := d_by (d_at odX12_islandLine ofX12_islandLine 207) rfl
theorem dX12_islandLine_210 : decode cX12_islandLine 210 = .ok (.if_icmp .ge 31, 3) := d_by (d_at odX12_islandLine ofX12_islandLine 210) rfl
theorem dX12_islandLine_213 : decode cX12_islandLine 213 = .ok (.aload_n 0, 1) := d_by (d_at odX12_islandLine ofX12_islandLine 213) rfl
theorem dX12_islandLine_214 : decode cX12_islandLine 214 = .ok (.getfield 23, 3) := d_by (d_at odX12_islandLine ofX12_islandLine 214) rfl
theorem dX12_islandLine_217 : decode cX12_islandLine 217 = .ok (.iload 4, 2) := d_by (d_at odX12_islandLine ofX12_islandLine 217) rfl
theorem dX12_islandLine_219 : decode cX12_islandLine 219 = .ok (.iconst 1, 1) := d_by (d_at odX12_islandLine ofX12_islandLine 219) rfl
theorem dX12_islandLine_220 : decode cX12_islandLine 220 = .ok (.iadd, 1) := d_by (d_at odX12_islandLine ofX12_islandLine 220) rfl
theorem dX12_islandLine_221 : decode cX12_islandLine 221 = .ok (.iload 5, 2) := d_by (d_at odX12_islandLine ofX12_islandLine 221) rfl
theorem dX12_islandLine_223 : decode cX12_islandLine 223 = .ok (.iadd, 1) := d_by (d_at odX12_islandLine ofX12_islandLine 223) rfl
theorem dX12_islandLine_224 : decode cX12_islandLine 224 = .ok (.aload_n 0, 1) := d_by (d_at odX12_islandLine ofX12_islandLine 224) rfl
theorem dX12_islandLine_225 : decode cX12_islandLine 225 = .ok (.getfield 17, 3) := d_by (d_at odX12_islandLine ofX12_islandLine 225) rfl
theorem dX12_islandLine_228 : decode cX12_islandLine 228 = .ok (.iload 5, 2) := d_by (d_at odX12_islandLine ofX12_islandLine 228) rfl
theorem dX12_islandLine_230 : decode cX12_islandLine 230 = .ok (.iaload, 1) := d_by (d_at odX12_islandLine ofX12_islandLine 230) rfl
theorem dX12_islandLine_231 : decode cX12_islandLine 231 = .ok (.bipush 97, 2) := d_by (d_at odX12_islandLine ofX12_islandLine 231) rfl
theorem dX12_islandLine_233 : decode cX12_islandLine 233 = .ok (.isub, 1) := d_by (d_at odX12_islandLine ofX12_islandLine 233) rfl
theorem dX12_islandLine_234 : decode cX12_islandLine 234 = .ok (.iastore, 1) := d_by (d_at odX12_islandLine ofX12_islandLine 234) rfl
theorem dX12_islandLine_235 : decode cX12_islandLine 235 = .ok (.iinc 5 1, 3) := d_by (d_at odX12_islandLine ofX12_islandLine 235) rfl
theorem dX12_islandLine_238 : decode cX12_islandLine 238 = .ok (.goto (-34), 3) := d_by (d_at odX12_islandLine ofX12_islandLine 238) rfl
theorem dX12_islandLine_241 : decode cX12_islandLine 241 = .ok (.aload_n 0, 1) := d_by (d_at odX12_islandLine ofX12_islandLine 241) rfl
theorem dX12_islandLine_242 : decode cX12_islandLine 242 = .ok (.invokevirtual 121, 3) := d_by (d_at odX12_islandLine ofX12_islandLine 242) rfl
theorem dX12_islandLine_245 : decode cX12_islandLine 245 = .ok (.aload_n 0, 1) := d_by (d_at odX12_islandLine ofX12_islandLine 245) rfl
theorem dX12_islandLine_246 : decode cX12_islandLine 246 = .ok (.getfield 23, 3) := d_by (d_at odX12_islandLine ofX12_islandLine 246) rfl
theorem dX12_islandLine_249 : decode cX12_islandLine 249 = .ok (.iconst 4, 1) := d_by (d_at odX12_islandLine ofX12_islandLine 249) rfl
theorem dX12_islandLine_250 : decode cX12_islandLine 250 = .ok (.dup2, 1) := d_by (d_at odX12_islandLine ofX12_islandLine 250) rfl
theorem dX12_islandLine_251 : decode cX12_islandLine 251 = .ok (.iaload, 1) := d_by (d_at odX12_islandLine ofX12_islandLine 251) rfl
theorem dX12_islandLine_252 : decode cX12_islandLine 252 = .ok (.iconst 1, 1) := d_by (d_at odX12_islandLine ofX12_islandLine 252) rfl
theorem dX12_islandLine_253 : decode cX12_islandLine 253 = .ok (.iadd, 1) := d_by (d_at odX12_islandLine ofX12_islandLine 253) rfl
theorem dX12_islandLine_254 : decode cX12_islandLine 254 = .ok (.iastore, 1) := d_by (d_at odX12_islandLine ofX12_islandLine 254) rfl
theorem dX12_islandLine_255 : decode cX12_islandLine 255 = .ok (.return_, 1) := d_by (d_at odX12_islandLine ofX12_islandLine 255) rfl
set_option maxRecDepth 100000 in
def bX12_isSong : List Nat := [16, 10, 16, 7, 27, 104, 96, 61, 42, 180, 0, 23, 28, 46, 42, 180, 0, 84, 160, 0, 7, 4, 167, 0, 4, 3, 62, 3, 54, 4, 21, 4, 42, 180, 0, 84, 162, 0, 43, 29, 153, 0, 39, 42, 180, 0, 23, 28, 4, 96, 21, 4, 96, 46, 42, 180, 0, 17, 21, 4, 46, 16, 97, 100, 160, 0, 7, 4, 167, 0, 4, 3, 62, 132, 4, 1, 167, 255, 210, 29, 172]
set_option maxRecDepth 100000 in
theorem bbX12_isSong : cX12_isSong.data.toList.map UInt8.toNat = bX12_isSong := by decide +kernel
set_option maxRecDepth 100000 in
def tX12_isSong : Lean.RArray dLf := .branch 40 (.branch 18 (.branch 8 (.branch 5 (.branch 2 (.leaf (0, .bipush 10, 2)) (.branch 4 (.leaf (2, .bipush 7, 2)) (.leaf (4, .iload_n 1, 1)))) (.branch 6 (.leaf (5, .imul, 1)) (.branch 7 (.leaf (6, .iadd, 1)) (.leaf (7, .istore_n 2, 1))))) (.branch 13 (.branch 9 (.leaf (8, .aload_n 0, 1)) (.branch 12 (.leaf (9, .getfield 23, 3)) (.leaf (12, .iload_n 2, 1)))) (.branch 14 (.leaf (13, .iaload, 1)) (.branch 15 (.leaf (14, .aload_n 0, 1)) (.leaf (15, .getfield 84, 3)))))) (.branch 28 (.branch 25 (.branch 21 (.leaf (18, .if_icmp .ne 7, 3)) (.branch 22 (.leaf (21, .iconst 1, 1)) (.leaf (22, .goto 4, 3)))) (.branch 26 (.leaf (25, .iconst 0, 1)) (.branch 27 (.leaf (26, .istore_n 3, 1)) (.leaf (27, .iconst 0, 1))))) (.branch 33 (.branch 30 (.leaf (28, .istore 4, 2)) (.branch 32 (.leaf (30, .iload 4, 2)) (.leaf (32, .aload_n 0, 1)))) (.branch 36 (.leaf (33, .getfield 84, 3)) (.branch 39 (.leaf (36, .if_icmp .ge 43, 3)) (.leaf (39, .iload_n 3, 1))))))) (.branch 60 (.branch 50 (.branch 47 (.branch 43 (.leaf (40, .ifCond .eq 39, 3)) (.branch 44 (.leaf (43, .aload_n 0, 1)) (.leaf (44, .getfield 23, 3)))) (.branch 48 (.leaf (47, .iload_n 2, 1)) (.branch 49 (.leaf (48, .iconst 1, 1)) (.leaf (49, .iadd, 1))))) (.branch 54 (.branch 52 (.leaf (50, .iload 4, 2)) (.branch 53 (.leaf (52, .iadd, 1)) (.leaf (53, .iaload, 1)))) (.branch 55 (.leaf (54, .aload_n 0, 1)) (.branch 58 (.leaf (55, .getfield 17, 3)) (.leaf (58, .iload 4, 2)))))) (.branch 71 (.branch 64 (.branch 61 (.leaf (60, .iaload, 1)) (.branch 63 (.leaf (61, .bipush 97, 2)) (.leaf (63, .isub, 1)))) (.branch 67 (.leaf (64, .if_icmp .ne 7, 3)) (.branch 68 (.leaf (67, .iconst 1, 1)) (.leaf (68, .goto 4, 3))))) (.branch 76 (.branch 72 (.leaf (71, .iconst 0, 1)) (.branch 73 (.leaf (72, .istore_n 3, 1)) (.leaf (73, .iinc 4 1, 3)))) (.branch 79 (.leaf (76, .goto (-46), 3)) (.branch 80 (.leaf (79, .iload_n 3, 1)) (.leaf (80, .ireturn, 1)))))))
noncomputable def oX12_isSong : List dLf := dFl tX12_isSong
theorem ofX12_isSong : dFl tX12_isSong = oX12_isSong := rfl
set_option maxRecDepth 100000 in
theorem odX12_isSong : ∀ q ∈ oX12_isSong, decode cX12_isSong q.1 = .ok (q.2.1, q.2.2) := q_go qT_ok bbX12_isSong oX12_isSong 0 (by decide +kernel)
theorem dX12_isSong_0 : decode cX12_isSong 0 = .ok (.bipush 10, 2) := d_by (d_at odX12_isSong ofX12_isSong 0) rfl
theorem dX12_isSong_2 : decode cX12_isSong 2 = .ok (.bipush 7, 2) := d_by (d_at odX12_isSong ofX12_isSong 2) rfl
theorem dX12_isSong_4 : decode cX12_isSong 4 = .ok (.iload_n 1, 1) := d_by (d_at odX12_isSong ofX12_isSong 4) rfl
theorem dX12_isSong_5 : decode cX12_isSong 5 = .ok (.imul, 1) := d_by (d_at odX12_isSong ofX12_isSong 5) rfl
theorem dX12_isSong_6 : decode cX12_isSong 6 = .ok (.iadd, 1) := d_by (d_at odX12_isSong ofX12_isSong 6) rfl
theorem dX12_isSong_7 : decode cX12_isSong 7 = .ok (.istore_n 2, 1) := d_by (d_at odX12_isSong ofX12_isSong 7) rfl
theorem dX12_isSong_8 : decode cX12_isSong 8 = .ok (.aload_n 0, 1) := d_by (d_at odX12_isSong ofX12_isSong 8) rfl
theorem dX12_isSong_9 : decode cX12_isSong 9 = .ok (.getfield 23, 3) := d_by (d_at odX12_isSong ofX12_isSong 9) rfl
theorem dX12_isSong_12 : decode cX12_isSong 12 = .ok (.iload_n 2, 1) := d_by (d_at odX12_isSong ofX12_isSong 12) rfl
theorem dX12_isSong_13 : decode cX12_isSong 13 = .ok (.iaload, 1) := d_by (d_at odX12_isSong ofX12_isSong 13) rfl
theorem dX12_isSong_14 : decode cX12_isSong 14 = .ok (.aload_n 0, 1) := d_by (d_at odX12_isSong ofX12_isSong 14) rfl
theorem dX12_isSong_15 : decode cX12_isSong 15 = .ok (.getfield 84, 3) := d_by (d_at odX12_isSong ofX12_isSong 15) rfl
theorem dX12_isSong_18 : decode cX12_isSong 18 = .ok (.if_icmp .ne 7, 3) := d_by (d_at odX12_isSong ofX12_isSong 18) rfl
theorem dX12_isSong_21 : decode cX12_isSong 21 = .ok (.iconst 1, 1) := d_by (d_at odX12_isSong ofX12_isSong 21) rfl
theorem dX12_isSong_22 : decode cX12_isSong 22 = .ok (.goto 4, 3) := d_by (d_at odX12_isSong ofX12_isSong 22) rfl
theorem dX12_isSong_25 : decode cX12_isSong 25 = .ok (.iconst 0, 1) := d_by (d_at odX12_isSong ofX12_isSong 25) rfl
theorem dX12_isSong_26 : decode cX12_isSong 26 = .ok (.istore_n 3, 1) := d_by (d_at odX12_isSong ofX12_isSong 26) rfl
theorem dX12_isSong_27 : decode cX12_isSong 27 = .ok (.iconst 0, 1) := d_by (d_at odX12_isSong ofX12_isSong 27) rfl
theorem dX12_isSong_28 : decode cX12_isSong 28 = .ok (.istore 4, 2) := d_by (d_at odX12_isSong ofX12_isSong 28) rfl
theorem dX12_isSong_30 : decode cX12_isSong 30 = .ok (.iload 4, 2) := d_by (d_at odX12_isSong ofX12_isSong 30) rfl
theorem dX12_isSong_32 : decode cX12_isSong 32 = .ok (.aload_n 0, 1) := d_by (d_at odX12_isSong ofX12_isSong 32) rfl
theorem dX12_isSong_33 : decode cX12_isSong 33 = .ok (.getfield 84, 3) := d_by (d_at odX12_isSong ofX12_isSong 33) rfl
theorem dX12_isSong_36 : decode cX12_isSong 36 = .ok (.if_icmp .ge 43, 3) := d_by (d_at odX12_isSong ofX12_isSong 36) rfl
theorem dX12_isSong_39 : decode cX12_isSong 39 = .ok (.iload_n 3, 1) := d_by (d_at odX12_isSong ofX12_isSong 39) rfl
theorem dX12_isSong_40 : decode cX12_isSong 40 = .ok (.ifCond .eq 39, 3) := d_by (d_at odX12_isSong ofX12_isSong 40) rfl
theorem dX12_isSong_43 : decode cX12_isSong 43 = .ok (.aload_n 0, 1) := d_by (d_at odX12_isSong ofX12_isSong 43) rfl
theorem dX12_isSong_44 : decode cX12_isSong 44 = .ok (.getfield 23, 3) := d_by (d_at odX12_isSong ofX12_isSong 44) rfl
theorem dX12_isSong_47 : decode cX12_isSong 47 = .ok (.iload_n 2, 1) := d_by (d_at odX12_isSong ofX12_isSong 47) rfl
theorem dX12_isSong_48 : decode cX12_isSong 48 = .ok (.iconst 1, 1) := d_by (d_at odX12_isSong ofX12_isSong 48) rfl
theorem dX12_isSong_49 : decode cX12_isSong 49 = .ok (.iadd, 1) := d_by (d_at odX12_isSong ofX12_isSong 49) rfl
theorem dX12_isSong_50 : decode cX12_isSong 50 = .ok (.iload 4, 2) := d_by (d_at odX12_isSong ofX12_isSong 50) rfl
theorem dX12_isSong_52 : decode cX12_isSong 52 = .ok (.iadd, 1) := d_by (d_at odX12_isSong ofX12_isSong 52) rfl
theorem dX12_isSong_53 : decode cX12_isSong 53 = .ok (.iaload, 1) := d_by (d_at odX12_isSong ofX12_isSong 53) rfl
theorem dX12_isSong_54 : decode cX12_isSong 54 = .ok (.aload_n 0, 1) := d_by (d_at odX12_isSong ofX12_isSong 54) rfl
theorem dX12_isSong_55 : decode cX12_isSong 55 = .ok (.getfield 17, 3) := d_by (d_at odX12_isSong ofX12_isSong 55) rfl
theorem dX12_isSong_58 : decode cX12_isSong 58 = .ok (.iload 4, 2) := d_by (d_at odX12_isSong ofX12_isSong 58) rfl
theorem dX12_isSong_60 : decode cX12_isSong 60 = .ok (.iaload, 1) := d_by (d_at odX12_isSong ofX12_isSong 60) rfl
theorem dX12_isSong_61 : decode cX12_isSong 61 = .ok (.bipush 97, 2) := d_by (d_at odX12_isSong ofX12_isSong 61) rfl
theorem dX12_isSong_63 : decode cX12_isSong 63 = .ok (.isub, 1) := d_by (d_at odX12_isSong ofX12_isSong 63) rfl
theorem dX12_isSong_64 : decode cX12_isSong 64 = .ok (.if_icmp .ne 7, 3) := d_by (d_at odX12_isSong ofX12_isSong 64) rfl
theorem dX12_isSong_67 : decode cX12_isSong 67 = .ok (.iconst 1, 1) := d_by (d_at odX12_isSong ofX12_isSong 67) rfl
theorem dX12_isSong_68 : decode cX12_isSong 68 = .ok (.goto 4, 3) := d_by (d_at odX12_isSong ofX12_isSong 68) rfl
theorem dX12_isSong_71 : decode cX12_isSong 71 = .ok (.iconst 0, 1) := d_by (d_at odX12_isSong ofX12_isSong 71) rfl
theorem dX12_isSong_72 : decode cX12_isSong 72 = .ok (.istore_n 3, 1) := d_by (d_at odX12_isSong ofX12_isSong 72) rfl
theorem dX12_isSong_73 : decode cX12_isSong 73 = .ok (.iinc 4 1, 3) := d_by (d_at odX12_isSong ofX12_isSong 73) rfl
theorem dX12_isSong_76 : decode cX12_isSong 76 = .ok (.goto (-46), 3) := d_by (d_at odX12_isSong ofX12_isSong 76) rfl
theorem dX12_isSong_79 : decode cX12_isSong 79 = .ok (.iload_n 3, 1) := d_by (d_at odX12_isSong ofX12_isSong 79) rfl
theorem dX12_isSong_80 : decode cX12_isSong 80 = .ok (.ireturn, 1) := d_by (d_at odX12_isSong ofX12_isSong 80) rfl
set_option maxRecDepth 100000 in
def bX12_wayLine : List Nat := [42, 180, 0, 100, 153, 0, 4, 177, 16, 59, 7, 42, 180, 0, 23, 8, 46, 104, 96, 60, 42, 182, 0, 161, 61, 42, 3, 16, 6, 182, 0, 153, 62, 28, 29, 160, 0, 7, 4, 167, 0, 4, 3, 54, 4, 3, 54, 5, 21, 5, 42, 180, 0, 23, 8, 46, 162, 0, 35, 21, 4, 154, 0, 17, 42, 180, 0, 23, 21, 5, 28, 29, 184, 0, 230, 153, 0, 7, 4, 167, 0, 4, 3, 54, 4, 132, 5, 1, 167, 255, 216, 42, 180, 0, 100, 154, 0, 17, 21, 4, 153, 0, 12, 42, 6, 42, 180, 0, 81, 182, 0, 127, 42, 180, 0, 100, 153, 0, 4, 177, 42, 182, 0, 121, 42, 180, 0, 23, 27, 28, 79, 42, 180, 0, 23, 27, 4, 96, 29, 79, 42, 180, 0, 23, 27, 5, 96, 42, 18, 234, 4, 16, 99, 182, 0, 213, 79, 42, 180, 0, 23, 27, 6, 96, 42, 18, 235, 4, 16, 15, 182, 0, 213, 79, 42, 180, 0, 100, 154, 0, 13, 42, 180, 0, 23, 8, 92, 46, 4, 96, 79, 177]
set_option maxRecDepth 100000 in
theorem bbX12_wayLine : cX12_wayLine.data.toList.map UInt8.toNat = bX12_wayLine := by decide +kernel
set_option maxRecDepth 100000 in
def tX12_wayLine : Lean.RArray dLf := .branch 103 (.branch 45 (.branch 21 (.branch 12 (.branch 7 (.branch 1 (.leaf (0, .aload_n 0, 1)) (.branch 4 (.leaf (1, .getfield 100, 3)) (.leaf (4, .ifCond .eq 4, 3)))) (.branch 10 (.branch 8 (.leaf (7, .return_, 1)) (.leaf (8, .bipush 59, 2))) (.branch 11 (.leaf (10, .iconst 4, 1)) (.leaf (11, .aload_n 0, 1))))) (.branch 17 (.branch 15 (.leaf (12, .getfield 23, 3)) (.branch 16 (.leaf (15, .iconst 5, 1)) (.leaf (16, .iaload, 1)))) (.branch 19 (.branch 18 (.leaf (17, .imul, 1)) (.leaf (18, .iadd, 1))) (.branch 20 (.leaf (19, .istore_n 1, 1)) (.leaf (20, .aload_n 0, 1)))))) (.branch 33 (.branch 26 (.branch 24 (.leaf (21, .invokevirtual 161, 3)) (.branch 25 (.leaf (24, .istore_n 2, 1)) (.leaf (25, .aload_n 0, 1)))) (.branch 29 (.branch 27 (.leaf (26, .iconst 0, 1)) (.leaf (27, .bipush 6, 2))) (.branch 32 (.leaf (29, .invokevirtual 153, 3)) (.leaf (32, .istore_n 3, 1))))) (.branch 38 (.branch 34 (.leaf (33, .iload_n 2, 1)) (.branch 35 (.leaf (34, .iload_n 3, 1)) (.leaf (35, .if_icmp .ne 7, 3)))) (.branch 42 (.branch 39 (.leaf (38, .iconst 1, 1)) (.leaf (39, .goto 4, 3))) (.branch 43 (.leaf (42, .iconst 0, 1)) (.leaf (43, .istore 4, 2))))))) (.branch 71 (.branch 56 (.branch 50 (.branch 46 (.leaf (45, .iconst 0, 1)) (.branch 48 (.leaf (46, .istore 5, 2)) (.leaf (48, .iload 5, 2)))) (.branch 54 (.branch 51 (.leaf (50, .aload_n 0, 1)) (.leaf (51, .getfield 23, 3))) (.branch 55 (.leaf (54, .iconst 5, 1)) (.leaf (55, .iaload, 1))))) (.branch 64 (.branch 59 (.leaf (56, .if_icmp .ge 35, 3)) (.branch 61 (.leaf (59, .iload 4, 2)) (.leaf (61, .ifCond .ne 17, 3)))) (.branch 68 (.branch 65 (.leaf (64, .aload_n 0, 1)) (.leaf (65, .getfield 23, 3))) (.branch 70 (.leaf (68, .iload 5, 2)) (.leaf (70, .iload_n 2, 1)))))) (.branch 85 (.branch 78 (.branch 72 (.leaf (71, .iload_n 3, 1)) (.branch 75 (.leaf (72, .invokestatic 230, 3)) (.leaf (75, .ifCond .eq 7, 3)))) (.branch 82 (.branch 79 (.leaf (78, .iconst 1, 1)) (.leaf (79, .goto 4, 3))) (.branch 83 (.leaf (82, .iconst 0, 1)) (.leaf (83, .istore 4, 2))))) (.branch 92 (.branch 88 (.leaf (85, .iinc 5 1, 3)) (.branch 91 (.leaf (88, .goto (-40), 3)) (.leaf (91, .aload_n 0, 1)))) (.branch 98 (.branch 95 (.leaf (92, .getfield 100, 3)) (.leaf (95, .ifCond .ne 17, 3))) (.branch 100 (.leaf (98, .iload 4, 2)) (.leaf (100, .ifCond .eq 12, 3)))))))) (.branch 147 (.branch 129 (.branch 116 (.branch 106 (.branch 104 (.leaf (103, .aload_n 0, 1)) (.branch 105 (.leaf (104, .iconst 3, 1)) (.leaf (105, .aload_n 0, 1)))) (.branch 112 (.branch 109 (.leaf (106, .getfield 81, 3)) (.leaf (109, .invokevirtual 127, 3))) (.branch 113 (.leaf (112, .aload_n 0, 1)) (.leaf (113, .getfield 100, 3))))) (.branch 121 (.branch 119 (.leaf (116, .ifCond .eq 4, 3)) (.branch 120 (.leaf (119, .return_, 1)) (.leaf (120, .aload_n 0, 1)))) (.branch 125 (.branch 124 (.leaf (121, .invokevirtual 121, 3)) (.leaf (124, .aload_n 0, 1))) (.branch 128 (.leaf (125, .getfield 23, 3)) (.leaf (128, .iload_n 1, 1)))))) (.branch 138 (.branch 132 (.branch 130 (.leaf (129, .iload_n 2, 1)) (.branch 131 (.leaf (130, .iastore, 1)) (.leaf (131, .aload_n 0, 1)))) (.branch 136 (.branch 135 (.leaf (132, .getfield 23, 3)) (.leaf (135, .iload_n 1, 1))) (.branch 137 (.leaf (136, .iconst 1, 1)) (.leaf (137, .iadd, 1))))) (.branch 141 (.branch 139 (.leaf (138, .iload_n 3, 1)) (.branch 140 (.leaf (139, .iastore, 1)) (.leaf (140, .aload_n 0, 1)))) (.branch 145 (.branch 144 (.leaf (141, .getfield 23, 3)) (.leaf (144, .iload_n 1, 1))) (.branch 146 (.leaf (145, .iconst 2, 1)) (.leaf (146, .iadd, 1))))))) (.branch 168 (.branch 158 (.branch 151 (.branch 148 (.leaf (147, .aload_n 0, 1)) (.branch 150 (.leaf (148, .ldc 234, 2)) (.leaf (150, .iconst 1, 1)))) (.branch 156 (.branch 153 (.leaf (151, .bipush 99, 2)) (.leaf (153, .invokevirtual 213, 3))) (.branch 157 (.leaf (156, .iastore, 1)) (.leaf (157, .aload_n 0, 1))))) (.branch 163 (.branch 161 (.leaf (158, .getfield 23, 3)) (.branch 162 (.leaf (161, .iload_n 1, 1)) (.leaf (162, .iconst 3, 1)))) (.branch 165 (.branch 164 (.leaf (163, .iadd, 1)) (.leaf (164, .aload_n 0, 1))) (.branch 167 (.leaf (165, .ldc 235, 2)) (.leaf (167, .iconst 1, 1)))))) (.branch 182 (.branch 174 (.branch 170 (.leaf (168, .bipush 15, 2)) (.branch 173 (.leaf (170, .invokevirtual 213, 3)) (.leaf (173, .iastore, 1)))) (.branch 178 (.branch 175 (.leaf (174, .aload_n 0, 1)) (.leaf (175, .getfield 100, 3))) (.branch 181 (.leaf (178, .ifCond .ne 13, 3)) (.leaf (181, .aload_n 0, 1))))) (.branch 188 (.branch 186 (.branch 185 (.leaf (182, .getfield 23, 3)) (.leaf (185, .iconst 5, 1))) (.branch 187 (.leaf (186, .dup2, 1)) (.leaf (187, .iaload, 1)))) (.branch 190 (.branch 189 (.leaf (188, .iconst 1, 1)) (.leaf (189, .iadd, 1))) (.branch 191 (.leaf (190, .iastore, 1)) (.leaf (191, .return_, 1))))))))
noncomputable def oX12_wayLine : List dLf := dFl tX12_wayLine
theorem ofX12_wayLine : dFl tX12_wayLine = oX12_wayLine := rfl
set_option maxRecDepth 100000 in
theorem odX12_wayLine : ∀ q ∈ oX12_wayLine, decode cX12_wayLine q.1 = .ok (q.2.1, q.2.2) := q_go qT_ok bbX12_wayLine oX12_wayLine 0 (by decide +kernel)
theorem dX12_wayLine_0 : decode cX12_wayLine 0 = .ok (.aload_n 0, 1) := d_by (d_at odX12_wayLine ofX12_wayLine 0) rfl
theorem dX12_wayLine_1 : decode cX12_wayLine 1 = .ok (.getfield 100, 3) := d_by (d_at odX12_wayLine ofX12_wayLine 1) rfl
theorem dX12_wayLine_4 : decode cX12_wayLine 4 = .ok (.ifCond .eq 4, 3) := d_by (d_at odX12_wayLine ofX12_wayLine 4) rfl
theorem dX12_wayLine_7 : decode cX12_wayLine 7 = .ok (.return_, 1) := d_by (d_at odX12_wayLine ofX12_wayLine 7) rfl
theorem dX12_wayLine_8 : decode cX12_wayLine 8 = .ok (.bipush 59, 2) := d_by (d_at odX12_wayLine ofX12_wayLine 8) rfl
theorem dX12_wayLine_10 : decode cX12_wayLine 10 = .ok (.iconst 4, 1) := d_by (d_at odX12_wayLine ofX12_wayLine 10) rfl
theorem dX12_wayLine_11 : decode cX12_wayLine 11 = .ok (.aload_n 0, 1) := d_by (d_at odX12_wayLine ofX12_wayLine 11) rfl
theorem dX12_wayLine_12 : decode cX12_wayLine 12 = .ok (.getfield 23, 3) := d_by (d_at odX12_wayLine ofX12_wayLine 12) rfl
theorem dX12_wayLine_15 : decode cX12_wayLine 15 = .ok (.iconst 5, 1) := d_by (d_at odX12_wayLine ofX12_wayLine 15) rfl
theorem dX12_wayLine_16 : decode cX12_wayLine 16 = .ok (.iaload, 1) := d_by (d_at odX12_wayLine ofX12_wayLine 16) rfl
theorem dX12_wayLine_17 : decode cX12_wayLine 17 = .ok (.imul, 1) := d_by (d_at odX12_wayLine ofX12_wayLine 17) rfl
theorem dX12_wayLine_18 : decode cX12_wayLine 18 = .ok (.iadd, 1) := d_by (d_at odX12_wayLine ofX12_wayLine 18) rfl
theorem dX12_wayLine_19 : decode cX12_wayLine 19 = .ok (.istore_n 1, 1) := d_by (d_at odX12_wayLine ofX12_wayLine 19) rfl
theorem dX12_wayLine_20 : decode cX12_wayLine 20 = .ok (.aload_n 0, 1) := d_by (d_at odX12_wayLine ofX12_wayLine 20) rfl
theorem dX12_wayLine_21 : decode cX12_wayLine 21 = .ok (.invokevirtual 161, 3) := d_by (d_at odX12_wayLine ofX12_wayLine 21) rfl
theorem dX12_wayLine_24 : decode cX12_wayLine 24 = .ok (.istore_n 2, 1) := d_by (d_at odX12_wayLine ofX12_wayLine 24) rfl
theorem dX12_wayLine_25 : decode cX12_wayLine 25 = .ok (.aload_n 0, 1) := d_by (d_at odX12_wayLine ofX12_wayLine 25) rfl
theorem dX12_wayLine_26 : decode cX12_wayLine 26 = .ok (.iconst 0, 1) := d_by (d_at odX12_wayLine ofX12_wayLine 26) rfl
theorem dX12_wayLine_27 : decode cX12_wayLine 27 = .ok (.bipush 6, 2) := d_by (d_at odX12_wayLine ofX12_wayLine 27) rfl
theorem dX12_wayLine_29 : decode cX12_wayLine 29 = .ok (.invokevirtual 153, 3) := d_by (d_at odX12_wayLine ofX12_wayLine 29) rfl
theorem dX12_wayLine_32 : decode cX12_wayLine 32 = .ok (.istore_n 3, 1) := d_by (d_at odX12_wayLine ofX12_wayLine 32) rfl
theorem dX12_wayLine_33 : decode cX12_wayLine 33 = .ok (.iload_n 2, 1) := d_by (d_at odX12_wayLine ofX12_wayLine 33) rfl
theorem dX12_wayLine_34 : decode cX12_wayLine 34 = .ok (.iload_n 3, 1) := d_by (d_at odX12_wayLine ofX12_wayLine 34) rfl
theorem dX12_wayLine_35 : decode cX12_wayLine 35 = .ok (.if_icmp .ne 7, 3) := d_by (d_at odX12_wayLine ofX12_wayLine 35) rfl
theorem dX12_wayLine_38 : decode cX12_wayLine 38 = .ok (.iconst 1, 1) := d_by (d_at odX12_wayLine ofX12_wayLine 38) rfl
theorem dX12_wayLine_39 : decode cX12_wayLine 39 = .ok (.goto 4, 3) := d_by (d_at odX12_wayLine ofX12_wayLine 39) rfl
theorem dX12_wayLine_42 : decode cX12_wayLine 42 = .ok (.iconst 0, 1) := d_by (d_at odX12_wayLine ofX12_wayLine 42) rfl
theorem dX12_wayLine_43 : decode cX12_wayLine 43 = .ok (.istore 4, 2) := d_by (d_at odX12_wayLine ofX12_wayLine 43) rfl
theorem dX12_wayLine_45 : decode cX12_wayLine 45 = .ok (.iconst 0, 1) := d_by (d_at odX12_wayLine ofX12_wayLine 45) rfl
theorem dX12_wayLine_46 : decode cX12_wayLine 46 = .ok (.istore 5, 2) := d_by (d_at odX12_wayLine ofX12_wayLine 46) rfl
theorem dX12_wayLine_48 : decode cX12_wayLine 48 = .ok (.iload 5, 2) := d_by (d_at odX12_wayLine ofX12_wayLine 48) rfl
theorem dX12_wayLine_50 : decode cX12_wayLine 50 = .ok (.aload_n 0, 1) := d_by (d_at odX12_wayLine ofX12_wayLine 50) rfl
theorem dX12_wayLine_51 : decode cX12_wayLine 51 = .ok (.getfield 23, 3) := d_by (d_at odX12_wayLine ofX12_wayLine 51) rfl
theorem dX12_wayLine_54 : decode cX12_wayLine 54 = .ok (.iconst 5, 1) := d_by (d_at odX12_wayLine ofX12_wayLine 54) rfl
theorem dX12_wayLine_55 : decode cX12_wayLine 55 = .ok (.iaload, 1) := d_by (d_at odX12_wayLine ofX12_wayLine 55) rfl
theorem dX12_wayLine_56 : decode cX12_wayLine 56 = .ok (.if_icmp .ge 35, 3) := d_by (d_at odX12_wayLine ofX12_wayLine 56) rfl
theorem dX12_wayLine_59 : decode cX12_wayLine 59 = .ok (.iload 4, 2) := d_by (d_at odX12_wayLine ofX12_wayLine 59) rfl
theorem dX12_wayLine_61 : decode cX12_wayLine 61 = .ok (.ifCond .ne 17, 3) := d_by (d_at odX12_wayLine ofX12_wayLine 61) rfl
theorem dX12_wayLine_64 : decode cX12_wayLine 64 = .ok (.aload_n 0, 1) := d_by (d_at odX12_wayLine ofX12_wayLine 64) rfl
theorem dX12_wayLine_65 : decode cX12_wayLine 65 = .ok (.getfield 23, 3) := d_by (d_at odX12_wayLine ofX12_wayLine 65) rfl
theorem dX12_wayLine_68 : decode cX12_wayLine 68 = .ok (.iload 5, 2) := d_by (d_at odX12_wayLine ofX12_wayLine 68) rfl
theorem dX12_wayLine_70 : decode cX12_wayLine 70 = .ok (.iload_n 2, 1) := d_by (d_at odX12_wayLine ofX12_wayLine 70) rfl
theorem dX12_wayLine_71 : decode cX12_wayLine 71 = .ok (.iload_n 3, 1) := d_by (d_at odX12_wayLine ofX12_wayLine 71) rfl
theorem dX12_wayLine_72 : decode cX12_wayLine 72 = .ok (.invokestatic 230, 3) := d_by (d_at odX12_wayLine ofX12_wayLine 72) rfl
theorem dX12_wayLine_75 : decode cX12_wayLine 75 = .ok (.ifCond .eq 7, 3) := d_by (d_at odX12_wayLine ofX12_wayLine 75) rfl
theorem dX12_wayLine_78 : decode cX12_wayLine 78 = .ok (.iconst 1, 1) := d_by (d_at odX12_wayLine ofX12_wayLine 78) rfl
theorem dX12_wayLine_79 : decode cX12_wayLine 79 = .ok (.goto 4, 3) := d_by (d_at odX12_wayLine ofX12_wayLine 79) rfl
theorem dX12_wayLine_82 : decode cX12_wayLine 82 = .ok (.iconst 0, 1) := d_by (d_at odX12_wayLine ofX12_wayLine 82) rfl
theorem dX12_wayLine_83 : decode cX12_wayLine 83 = .ok (.istore 4, 2) := d_by (d_at odX12_wayLine ofX12_wayLine 83) rfl
theorem dX12_wayLine_85 : decode cX12_wayLine 85 = .ok (.iinc 5 1, 3) := d_by (d_at odX12_wayLine ofX12_wayLine 85) rfl
theorem dX12_wayLine_88 : decode cX12_wayLine 88 = .ok (.goto (-40), 3) := d_by (d_at odX12_wayLine ofX12_wayLine 88) rfl
theorem dX12_wayLine_91 : decode cX12_wayLine 91 = .ok (.aload_n 0, 1) := d_by (d_at odX12_wayLine ofX12_wayLine 91) rfl
theorem dX12_wayLine_92 : decode cX12_wayLine 92 = .ok (.getfield 100, 3) := d_by (d_at odX12_wayLine ofX12_wayLine 92) rfl
theorem dX12_wayLine_95 : decode cX12_wayLine 95 = .ok (.ifCond .ne 17, 3) := d_by (d_at odX12_wayLine ofX12_wayLine 95) rfl
theorem dX12_wayLine_98 : decode cX12_wayLine 98 = .ok (.iload 4, 2) := d_by (d_at odX12_wayLine ofX12_wayLine 98) rfl
theorem dX12_wayLine_100 : decode cX12_wayLine 100 = .ok (.ifCond .eq 12, 3) := d_by (d_at odX12_wayLine ofX12_wayLine 100) rfl
theorem dX12_wayLine_103 : decode cX12_wayLine 103 = .ok (.aload_n 0, 1) := d_by (d_at odX12_wayLine ofX12_wayLine 103) rfl
theorem dX12_wayLine_104 : decode cX12_wayLine 104 = .ok (.iconst 3, 1) := d_by (d_at odX12_wayLine ofX12_wayLine 104) rfl
theorem dX12_wayLine_105 : decode cX12_wayLine 105 = .ok (.aload_n 0, 1) := d_by (d_at odX12_wayLine ofX12_wayLine 105) rfl
theorem dX12_wayLine_106 : decode cX12_wayLine 106 = .ok (.getfield 81, 3) := d_by (d_at odX12_wayLine ofX12_wayLine 106) rfl
theorem dX12_wayLine_109 : decode cX12_wayLine 109 = .ok (.invokevirtual 127, 3) := d_by (d_at odX12_wayLine ofX12_wayLine 109) rfl
theorem dX12_wayLine_112 : decode cX12_wayLine 112 = .ok (.aload_n 0, 1) := d_by (d_at odX12_wayLine ofX12_wayLine 112) rfl
theorem dX12_wayLine_113 : decode cX12_wayLine 113 = .ok (.getfield 100, 3) := d_by (d_at odX12_wayLine ofX12_wayLine 113) rfl
theorem dX12_wayLine_116 : decode cX12_wayLine 116 = .ok (.ifCond .eq 4, 3) := d_by (d_at odX12_wayLine ofX12_wayLine 116) rfl
theorem dX12_wayLine_119 : decode cX12_wayLine 119 = .ok (.return_, 1) := d_by (d_at odX12_wayLine ofX12_wayLine 119) rfl
theorem dX12_wayLine_120 : decode cX12_wayLine 120 = .ok (.aload_n 0, 1) := d_by (d_at odX12_wayLine ofX12_wayLine 120) rfl
theorem dX12_wayLine_121 : decode cX12_wayLine 121 = .ok (.invokevirtual 121, 3) := d_by (d_at odX12_wayLine ofX12_wayLine 121) rfl
theorem dX12_wayLine_124 : decode cX12_wayLine 124 = .ok (.aload_n 0, 1) := d_by (d_at odX12_wayLine ofX12_wayLine 124) rfl
theorem dX12_wayLine_125 : decode cX12_wayLine 125 = .ok (.getfield 23, 3) := d_by (d_at odX12_wayLine ofX12_wayLine 125) rfl
theorem dX12_wayLine_128 : decode cX12_wayLine 128 = .ok (.iload_n 1, 1) := d_by (d_at odX12_wayLine ofX12_wayLine 128) rfl
theorem dX12_wayLine_129 : decode cX12_wayLine 129 = .ok (.iload_n 2, 1) := d_by (d_at odX12_wayLine ofX12_wayLine 129) rfl
theorem dX12_wayLine_130 : decode cX12_wayLine 130 = .ok (.iastore, 1) := d_by (d_at odX12_wayLine ofX12_wayLine 130) rfl
theorem dX12_wayLine_131 : decode cX12_wayLine 131 = .ok (.aload_n 0, 1) := d_by (d_at odX12_wayLine ofX12_wayLine 131) rfl
theorem dX12_wayLine_132 : decode cX12_wayLine 132 = .ok (.getfield 23, 3) := d_by (d_at odX12_wayLine ofX12_wayLine 132) rfl
theorem dX12_wayLine_135 : decode cX12_wayLine 135 = .ok (.iload_n 1, 1) := d_by (d_at odX12_wayLine ofX12_wayLine 135) rfl
theorem dX12_wayLine_136 : decode cX12_wayLine 136 = .ok (.iconst 1, 1) := d_by (d_at odX12_wayLine ofX12_wayLine 136) rfl
theorem dX12_wayLine_137 : decode cX12_wayLine 137 = .ok (.iadd, 1) := d_by (d_at odX12_wayLine ofX12_wayLine 137) rfl
theorem dX12_wayLine_138 : decode cX12_wayLine 138 = .ok (.iload_n 3, 1) := d_by (d_at odX12_wayLine ofX12_wayLine 138) rfl
theorem dX12_wayLine_139 : decode cX12_wayLine 139 = .ok (.iastore, 1) := d_by (d_at odX12_wayLine ofX12_wayLine 139) rfl
theorem dX12_wayLine_140 : decode cX12_wayLine 140 = .ok (.aload_n 0, 1) := d_by (d_at odX12_wayLine ofX12_wayLine 140) rfl
theorem dX12_wayLine_141 : decode cX12_wayLine 141 = .ok (.getfield 23, 3) := d_by (d_at odX12_wayLine ofX12_wayLine 141) rfl
theorem dX12_wayLine_144 : decode cX12_wayLine 144 = .ok (.iload_n 1, 1) := d_by (d_at odX12_wayLine ofX12_wayLine 144) rfl
theorem dX12_wayLine_145 : decode cX12_wayLine 145 = .ok (.iconst 2, 1) := d_by (d_at odX12_wayLine ofX12_wayLine 145) rfl
theorem dX12_wayLine_146 : decode cX12_wayLine 146 = .ok (.iadd, 1) := d_by (d_at odX12_wayLine ofX12_wayLine 146) rfl
theorem dX12_wayLine_147 : decode cX12_wayLine 147 = .ok (.aload_n 0, 1) := d_by (d_at odX12_wayLine ofX12_wayLine 147) rfl
theorem dX12_wayLine_148 : decode cX12_wayLine 148 = .ok (.ldc 234, 2) := d_by (d_at odX12_wayLine ofX12_wayLine 148) rfl
theorem dX12_wayLine_150 : decode cX12_wayLine 150 = .ok (.iconst 1, 1) := d_by (d_at odX12_wayLine ofX12_wayLine 150) rfl
theorem dX12_wayLine_151 : decode cX12_wayLine 151 = .ok (.bipush 99, 2) := d_by (d_at odX12_wayLine ofX12_wayLine 151) rfl
theorem dX12_wayLine_153 : decode cX12_wayLine 153 = .ok (.invokevirtual 213, 3) := d_by (d_at odX12_wayLine ofX12_wayLine 153) rfl
theorem dX12_wayLine_156 : decode cX12_wayLine 156 = .ok (.iastore, 1) := d_by (d_at odX12_wayLine ofX12_wayLine 156) rfl
theorem dX12_wayLine_157 : decode cX12_wayLine 157 = .ok (.aload_n 0, 1) := d_by (d_at odX12_wayLine ofX12_wayLine 157) rfl
theorem dX12_wayLine_158 : decode cX12_wayLine 158 = .ok (.getfield 23, 3) := d_by (d_at odX12_wayLine ofX12_wayLine 158) rfl
theorem dX12_wayLine_161 : decode cX12_wayLine 161 = .ok (.iload_n 1, 1) := d_by (d_at odX12_wayLine ofX12_wayLine 161) rfl
theorem dX12_wayLine_162 : decode cX12_wayLine 162 = .ok (.iconst 3, 1) := d_by (d_at odX12_wayLine ofX12_wayLine 162) rfl
theorem dX12_wayLine_163 : decode cX12_wayLine 163 = .ok (.iadd, 1) := d_by (d_at odX12_wayLine ofX12_wayLine 163) rfl
theorem dX12_wayLine_164 : decode cX12_wayLine 164 = .ok (.aload_n 0, 1) := d_by (d_at odX12_wayLine ofX12_wayLine 164) rfl
theorem dX12_wayLine_165 : decode cX12_wayLine 165 = .ok (.ldc 235, 2) := d_by (d_at odX12_wayLine ofX12_wayLine 165) rfl
theorem dX12_wayLine_167 : decode cX12_wayLine 167 = .ok (.iconst 1, 1) := d_by (d_at odX12_wayLine ofX12_wayLine 167) rfl
theorem dX12_wayLine_168 : decode cX12_wayLine 168 = .ok (.bipush 15, 2) := d_by (d_at odX12_wayLine ofX12_wayLine 168) rfl
theorem dX12_wayLine_170 : decode cX12_wayLine 170 = .ok (.invokevirtual 213, 3) := d_by (d_at odX12_wayLine ofX12_wayLine 170) rfl
theorem dX12_wayLine_173 : decode cX12_wayLine 173 = .ok (.iastore, 1) := d_by (d_at odX12_wayLine ofX12_wayLine 173) rfl
theorem dX12_wayLine_174 : decode cX12_wayLine 174 = .ok (.aload_n 0, 1) := d_by (d_at odX12_wayLine ofX12_wayLine 174) rfl
theorem dX12_wayLine_175 : decode cX12_wayLine 175 = .ok (.getfield 100, 3) := d_by (d_at odX12_wayLine ofX12_wayLine 175) rfl
theorem dX12_wayLine_178 : decode cX12_wayLine 178 = .ok (.ifCond .ne 13, 3) := d_by (d_at odX12_wayLine ofX12_wayLine 178) rfl
theorem dX12_wayLine_181 : decode cX12_wayLine 181 = .ok (.aload_n 0, 1) := d_by (d_at odX12_wayLine ofX12_wayLine 181) rfl
theorem dX12_wayLine_182 : decode cX12_wayLine 182 = .ok (.getfield 23, 3) := d_by (d_at odX12_wayLine ofX12_wayLine 182) rfl
theorem dX12_wayLine_185 : decode cX12_wayLine 185 = .ok (.iconst 5, 1) := d_by (d_at odX12_wayLine ofX12_wayLine 185) rfl
theorem dX12_wayLine_186 : decode cX12_wayLine 186 = .ok (.dup2, 1) := d_by (d_at odX12_wayLine ofX12_wayLine 186) rfl
theorem dX12_wayLine_187 : decode cX12_wayLine 187 = .ok (.iaload, 1) := d_by (d_at odX12_wayLine ofX12_wayLine 187) rfl
theorem dX12_wayLine_188 : decode cX12_wayLine 188 = .ok (.iconst 1, 1) := d_by (d_at odX12_wayLine ofX12_wayLine 188) rfl
theorem dX12_wayLine_189 : decode cX12_wayLine 189 = .ok (.iadd, 1) := d_by (d_at odX12_wayLine ofX12_wayLine 189) rfl
theorem dX12_wayLine_190 : decode cX12_wayLine 190 = .ok (.iastore, 1) := d_by (d_at odX12_wayLine ofX12_wayLine 190) rfl
theorem dX12_wayLine_191 : decode cX12_wayLine 191 = .ok (.return_, 1) := d_by (d_at odX12_wayLine ofX12_wayLine 191) rfl
set_option maxRecDepth 100000 in
def bX12_joins : List Nat := [42, 16, 59, 7, 27, 104, 96, 46, 54, 4, 42, 16, 59, 7, 27, 104, 96, 4, 96, 46, 54, 5, 21, 4, 28, 160, 0, 9, 21, 5, 29, 159, 0, 15, 21, 4, 29, 160, 0, 13, 21, 5, 28, 160, 0, 7, 4, 167, 0, 4, 3, 172]
set_option maxRecDepth 100000 in
theorem bbX12_joins : cX12_joins.data.toList.map UInt8.toNat = bX12_joins := by decide +kernel
set_option maxRecDepth 100000 in
def tX12_joins : Lean.RArray dLf := .branch 20 (.branch 10 (.branch 5 (.branch 3 (.branch 1 (.leaf (0, .aload_n 0, 1)) (.leaf (1, .bipush 59, 2))) (.branch 4 (.leaf (3, .iconst 4, 1)) (.leaf (4, .iload_n 1, 1)))) (.branch 7 (.branch 6 (.leaf (5, .imul, 1)) (.leaf (6, .iadd, 1))) (.branch 8 (.leaf (7, .iaload, 1)) (.leaf (8, .istore 4, 2))))) (.branch 15 (.branch 13 (.branch 11 (.leaf (10, .aload_n 0, 1)) (.leaf (11, .bipush 59, 2))) (.branch 14 (.leaf (13, .iconst 4, 1)) (.leaf (14, .iload_n 1, 1)))) (.branch 17 (.branch 16 (.leaf (15, .imul, 1)) (.leaf (16, .iadd, 1))) (.branch 18 (.leaf (17, .iconst 1, 1)) (.branch 19 (.leaf (18, .iadd, 1)) (.leaf (19, .iaload, 1))))))) (.branch 36 (.branch 28 (.branch 24 (.branch 22 (.leaf (20, .istore 5, 2)) (.leaf (22, .iload 4, 2))) (.branch 25 (.leaf (24, .iload_n 2, 1)) (.leaf (25, .if_icmp .ne 9, 3)))) (.branch 31 (.branch 30 (.leaf (28, .iload 5, 2)) (.leaf (30, .iload_n 3, 1))) (.branch 34 (.leaf (31, .if_icmp .eq 15, 3)) (.leaf (34, .iload 4, 2))))) (.branch 43 (.branch 40 (.branch 37 (.leaf (36, .iload_n 3, 1)) (.leaf (37, .if_icmp .ne 13, 3))) (.branch 42 (.leaf (40, .iload 5, 2)) (.leaf (42, .iload_n 2, 1)))) (.branch 47 (.branch 46 (.leaf (43, .if_icmp .ne 7, 3)) (.leaf (46, .iconst 1, 1))) (.branch 50 (.leaf (47, .goto 4, 3)) (.branch 51 (.leaf (50, .iconst 0, 1)) (.leaf (51, .ireturn, 1)))))))
noncomputable def oX12_joins : List dLf := dFl tX12_joins
theorem ofX12_joins : dFl tX12_joins = oX12_joins := rfl
set_option maxRecDepth 100000 in
theorem odX12_joins : ∀ q ∈ oX12_joins, decode cX12_joins q.1 = .ok (q.2.1, q.2.2) := q_go qT_ok bbX12_joins oX12_joins 0 (by decide +kernel)
theorem dX12_joins_0 : decode cX12_joins 0 = .ok (.aload_n 0, 1) := d_by (d_at odX12_joins ofX12_joins 0) rfl
theorem dX12_joins_1 : decode cX12_joins 1 = .ok (.bipush 59, 2) := d_by (d_at odX12_joins ofX12_joins 1) rfl
theorem dX12_joins_3 : decode cX12_joins 3 = .ok (.iconst 4, 1) := d_by (d_at odX12_joins ofX12_joins 3) rfl
theorem dX12_joins_4 : decode cX12_joins 4 = .ok (.iload_n 1, 1) := d_by (d_at odX12_joins ofX12_joins 4) rfl
theorem dX12_joins_5 : decode cX12_joins 5 = .ok (.imul, 1) := d_by (d_at odX12_joins ofX12_joins 5) rfl
theorem dX12_joins_6 : decode cX12_joins 6 = .ok (.iadd, 1) := d_by (d_at odX12_joins ofX12_joins 6) rfl
theorem dX12_joins_7 : decode cX12_joins 7 = .ok (.iaload, 1) := d_by (d_at odX12_joins ofX12_joins 7) rfl
theorem dX12_joins_8 : decode cX12_joins 8 = .ok (.istore 4, 2) := d_by (d_at odX12_joins ofX12_joins 8) rfl
theorem dX12_joins_10 : decode cX12_joins 10 = .ok (.aload_n 0, 1) := d_by (d_at odX12_joins ofX12_joins 10) rfl
theorem dX12_joins_11 : decode cX12_joins 11 = .ok (.bipush 59, 2) := d_by (d_at odX12_joins ofX12_joins 11) rfl
theorem dX12_joins_13 : decode cX12_joins 13 = .ok (.iconst 4, 1) := d_by (d_at odX12_joins ofX12_joins 13) rfl
theorem dX12_joins_14 : decode cX12_joins 14 = .ok (.iload_n 1, 1) := d_by (d_at odX12_joins ofX12_joins 14) rfl
theorem dX12_joins_15 : decode cX12_joins 15 = .ok (.imul, 1) := d_by (d_at odX12_joins ofX12_joins 15) rfl
theorem dX12_joins_16 : decode cX12_joins 16 = .ok (.iadd, 1) := d_by (d_at odX12_joins ofX12_joins 16) rfl
theorem dX12_joins_17 : decode cX12_joins 17 = .ok (.iconst 1, 1) := d_by (d_at odX12_joins ofX12_joins 17) rfl
theorem dX12_joins_18 : decode cX12_joins 18 = .ok (.iadd, 1) := d_by (d_at odX12_joins ofX12_joins 18) rfl
theorem dX12_joins_19 : decode cX12_joins 19 = .ok (.iaload, 1) := d_by (d_at odX12_joins ofX12_joins 19) rfl
theorem dX12_joins_20 : decode cX12_joins 20 = .ok (.istore 5, 2) := d_by (d_at odX12_joins ofX12_joins 20) rfl
theorem dX12_joins_22 : decode cX12_joins 22 = .ok (.iload 4, 2) := d_by (d_at odX12_joins ofX12_joins 22) rfl
theorem dX12_joins_24 : decode cX12_joins 24 = .ok (.iload_n 2, 1) := d_by (d_at odX12_joins ofX12_joins 24) rfl
theorem dX12_joins_25 : decode cX12_joins 25 = .ok (.if_icmp .ne 9, 3) := d_by (d_at odX12_joins ofX12_joins 25) rfl
theorem dX12_joins_28 : decode cX12_joins 28 = .ok (.iload 5, 2) := d_by (d_at odX12_joins ofX12_joins 28) rfl
theorem dX12_joins_30 : decode cX12_joins 30 = .ok (.iload_n 3, 1) := d_by (d_at odX12_joins ofX12_joins 30) rfl
theorem dX12_joins_31 : decode cX12_joins 31 = .ok (.if_icmp .eq 15, 3) := d_by (d_at odX12_joins ofX12_joins 31) rfl
theorem dX12_joins_34 : decode cX12_joins 34 = .ok (.iload 4, 2) := d_by (d_at odX12_joins ofX12_joins 34) rfl
theorem dX12_joins_36 : decode cX12_joins 36 = .ok (.iload_n 3, 1) := d_by (d_at odX12_joins ofX12_joins 36) rfl
theorem dX12_joins_37 : decode cX12_joins 37 = .ok (.if_icmp .ne 13, 3) := d_by (d_at odX12_joins ofX12_joins 37) rfl
theorem dX12_joins_40 : decode cX12_joins 40 = .ok (.iload 5, 2) := d_by (d_at odX12_joins ofX12_joins 40) rfl
theorem dX12_joins_42 : decode cX12_joins 42 = .ok (.iload_n 2, 1) := d_by (d_at odX12_joins ofX12_joins 42) rfl
theorem dX12_joins_43 : decode cX12_joins 43 = .ok (.if_icmp .ne 7, 3) := d_by (d_at odX12_joins ofX12_joins 43) rfl
theorem dX12_joins_46 : decode cX12_joins 46 = .ok (.iconst 1, 1) := d_by (d_at odX12_joins ofX12_joins 46) rfl
theorem dX12_joins_47 : decode cX12_joins 47 = .ok (.goto 4, 3) := d_by (d_at odX12_joins ofX12_joins 47) rfl
theorem dX12_joins_50 : decode cX12_joins 50 = .ok (.iconst 0, 1) := d_by (d_at odX12_joins ofX12_joins 50) rfl
theorem dX12_joins_51 : decode cX12_joins 51 = .ok (.ireturn, 1) := d_by (d_at odX12_joins ofX12_joins 51) rfl
set_option maxRecDepth 100000 in
def bX12_whaleLine : List Nat := [42, 180, 0, 100, 153, 0, 4, 177, 16, 107, 7, 42, 180, 0, 23, 16, 6, 46, 104, 96, 60, 42, 16, 7, 42, 180, 0, 23, 16, 6, 46, 96, 182, 0, 223, 42, 18, 237, 182, 0, 117, 153, 0, 7, 3, 167, 0, 43, 42, 18, 239, 182, 0, 117, 153, 0, 7, 4, 167, 0, 30, 42, 18, 241, 182, 0, 117, 153, 0, 7, 5, 167, 0, 17, 42, 18, 243, 182, 0, 117, 153, 0, 7, 6, 167, 0, 4, 2, 61, 28, 156, 0, 12, 42, 4, 42, 180, 0, 81, 182, 0, 127, 42, 180, 0, 100, 153, 0, 4, 177, 42, 182, 0, 121, 42, 180, 0, 23, 27, 28, 79, 42, 180, 0, 23, 27, 4, 96, 42, 18, 245, 182, 0, 246, 79, 42, 180, 0, 23, 27, 5, 96, 42, 18, 250, 3, 16, 99, 182, 0, 213, 79, 42, 180, 0, 23, 27, 6, 96, 42, 18, 252, 3, 16, 99, 182, 0, 213, 79, 42, 180, 0, 100, 154, 0, 14, 42, 180, 0, 23, 16, 6, 92, 46, 4, 96, 79, 177]
set_option maxRecDepth 100000 in
theorem bbX12_whaleLine : cX12_whaleLine.data.toList.map UInt8.toNat = bX12_whaleLine := by decide +kernel
set_option maxRecDepth 100000 in
def tX12_whaleLine : Lean.RArray dLf := .branch 102 (.branch 48 (.branch 21 (.branch 11 (.branch 7 (.branch 1 (.leaf (0, .aload_n 0, 1)) (.branch 4 (.leaf (1, .getfield 100, 3)) (.leaf (4, .ifCond .eq 4, 3)))) (.branch 8 (.leaf (7, .return_, 1)) (.branch 10 (.leaf (8, .bipush 107, 2)) (.leaf (10, .iconst 4, 1))))) (.branch 17 (.branch 12 (.leaf (11, .aload_n 0, 1)) (.branch 15 (.leaf (12, .getfield 23, 3)) (.leaf (15, .bipush 6, 2)))) (.branch 19 (.branch 18 (.leaf (17, .iaload, 1)) (.leaf (18, .imul, 1))) (.branch 20 (.leaf (19, .iadd, 1)) (.leaf (20, .istore_n 1, 1)))))) (.branch 32 (.branch 25 (.branch 22 (.leaf (21, .aload_n 0, 1)) (.branch 24 (.leaf (22, .bipush 7, 2)) (.leaf (24, .aload_n 0, 1)))) (.branch 30 (.branch 28 (.leaf (25, .getfield 23, 3)) (.leaf (28, .bipush 6, 2))) (.branch 31 (.leaf (30, .iaload, 1)) (.leaf (31, .iadd, 1))))) (.branch 38 (.branch 35 (.leaf (32, .invokevirtual 223, 3)) (.branch 36 (.leaf (35, .aload_n 0, 1)) (.leaf (36, .ldc 237, 2)))) (.branch 44 (.branch 41 (.leaf (38, .invokevirtual 117, 3)) (.leaf (41, .ifCond .eq 7, 3))) (.branch 45 (.leaf (44, .iconst 0, 1)) (.leaf (45, .goto 43, 3))))))) (.branch 75 (.branch 61 (.branch 54 (.branch 49 (.leaf (48, .aload_n 0, 1)) (.branch 51 (.leaf (49, .ldc 239, 2)) (.leaf (51, .invokevirtual 117, 3)))) (.branch 57 (.leaf (54, .ifCond .eq 7, 3)) (.branch 58 (.leaf (57, .iconst 1, 1)) (.leaf (58, .goto 30, 3))))) (.branch 67 (.branch 62 (.leaf (61, .aload_n 0, 1)) (.branch 64 (.leaf (62, .ldc 241, 2)) (.leaf (64, .invokevirtual 117, 3)))) (.branch 71 (.branch 70 (.leaf (67, .ifCond .eq 7, 3)) (.leaf (70, .iconst 2, 1))) (.branch 74 (.leaf (71, .goto 17, 3)) (.leaf (74, .aload_n 0, 1)))))) (.branch 89 (.branch 83 (.branch 77 (.leaf (75, .ldc 243, 2)) (.branch 80 (.leaf (77, .invokevirtual 117, 3)) (.leaf (80, .ifCond .eq 7, 3)))) (.branch 87 (.branch 84 (.leaf (83, .iconst 3, 1)) (.leaf (84, .goto 4, 3))) (.branch 88 (.leaf (87, .iconst (-1), 1)) (.leaf (88, .istore_n 2, 1))))) (.branch 94 (.branch 90 (.leaf (89, .iload_n 2, 1)) (.branch 93 (.leaf (90, .ifCond .ge 12, 3)) (.leaf (93, .aload_n 0, 1)))) (.branch 96 (.branch 95 (.leaf (94, .iconst 1, 1)) (.leaf (95, .aload_n 0, 1))) (.branch 99 (.leaf (96, .getfield 81, 3)) (.leaf (99, .invokevirtual 127, 3)))))))) (.branch 145 (.branch 125 (.branch 114 (.branch 109 (.branch 103 (.leaf (102, .aload_n 0, 1)) (.branch 106 (.leaf (103, .getfield 100, 3)) (.leaf (106, .ifCond .eq 4, 3)))) (.branch 110 (.leaf (109, .return_, 1)) (.branch 111 (.leaf (110, .aload_n 0, 1)) (.leaf (111, .invokevirtual 121, 3))))) (.branch 119 (.branch 115 (.leaf (114, .aload_n 0, 1)) (.branch 118 (.leaf (115, .getfield 23, 3)) (.leaf (118, .iload_n 1, 1)))) (.branch 121 (.branch 120 (.leaf (119, .iload_n 2, 1)) (.leaf (120, .iastore, 1))) (.branch 122 (.leaf (121, .aload_n 0, 1)) (.leaf (122, .getfield 23, 3)))))) (.branch 135 (.branch 128 (.branch 126 (.leaf (125, .iload_n 1, 1)) (.branch 127 (.leaf (126, .iconst 1, 1)) (.leaf (127, .iadd, 1)))) (.branch 131 (.branch 129 (.leaf (128, .aload_n 0, 1)) (.leaf (129, .ldc 245, 2))) (.branch 134 (.leaf (131, .invokevirtual 246, 3)) (.leaf (134, .iastore, 1))))) (.branch 140 (.branch 136 (.leaf (135, .aload_n 0, 1)) (.branch 139 (.leaf (136, .getfield 23, 3)) (.leaf (139, .iload_n 1, 1)))) (.branch 142 (.branch 141 (.leaf (140, .iconst 2, 1)) (.leaf (141, .iadd, 1))) (.branch 143 (.leaf (142, .aload_n 0, 1)) (.leaf (143, .ldc 250, 2))))))) (.branch 165 (.branch 156 (.branch 151 (.branch 146 (.leaf (145, .iconst 0, 1)) (.branch 148 (.leaf (146, .bipush 99, 2)) (.leaf (148, .invokevirtual 213, 3)))) (.branch 152 (.leaf (151, .iastore, 1)) (.branch 153 (.leaf (152, .aload_n 0, 1)) (.leaf (153, .getfield 23, 3))))) (.branch 159 (.branch 157 (.leaf (156, .iload_n 1, 1)) (.branch 158 (.leaf (157, .iconst 3, 1)) (.leaf (158, .iadd, 1)))) (.branch 162 (.branch 160 (.leaf (159, .aload_n 0, 1)) (.leaf (160, .ldc 252, 2))) (.branch 163 (.leaf (162, .iconst 0, 1)) (.leaf (163, .bipush 99, 2)))))) (.branch 180 (.branch 170 (.branch 168 (.leaf (165, .invokevirtual 213, 3)) (.branch 169 (.leaf (168, .iastore, 1)) (.leaf (169, .aload_n 0, 1)))) (.branch 176 (.branch 173 (.leaf (170, .getfield 100, 3)) (.leaf (173, .ifCond .ne 14, 3))) (.branch 177 (.leaf (176, .aload_n 0, 1)) (.leaf (177, .getfield 23, 3))))) (.branch 184 (.branch 182 (.leaf (180, .bipush 6, 2)) (.branch 183 (.leaf (182, .dup2, 1)) (.leaf (183, .iaload, 1)))) (.branch 186 (.branch 185 (.leaf (184, .iconst 1, 1)) (.leaf (185, .iadd, 1))) (.branch 187 (.leaf (186, .iastore, 1)) (.leaf (187, .return_, 1))))))))
noncomputable def oX12_whaleLine : List dLf := dFl tX12_whaleLine
theorem ofX12_whaleLine : dFl tX12_whaleLine = oX12_whaleLine := rfl
set_option maxRecDepth 100000 in
theorem odX12_whaleLine : ∀ q ∈ oX12_whaleLine, decode cX12_whaleLine q.1 = .ok (q.2.1, q.2.2) := q_go qT_ok bbX12_whaleLine oX12_whaleLine 0 (by decide +kernel)
theorem dX12_whaleLine_0 : decode cX12_whaleLine 0 = .ok (.aload_n 0, 1) := d_by (d_at odX12_whaleLine ofX12_whaleLine 0) rfl
theorem dX12_whaleLine_1 : decode cX12_whaleLine 1 = .ok (.getfield 100, 3) := d_by (d_at odX12_whaleLine ofX12_whaleLine 1) rfl
theorem dX12_whaleLine_4 : decode cX12_whaleLine 4 = .ok (.ifCond .eq 4, 3) := d_by (d_at odX12_whaleLine ofX12_whaleLine 4) rfl
theorem dX12_whaleLine_7 : decode cX12_whaleLine 7 = .ok (.return_, 1) := d_by (d_at odX12_whaleLine ofX12_whaleLine 7) rfl
theorem dX12_whaleLine_8 : decode cX12_whaleLine 8 = .ok (.bipush 107, 2) := d_by (d_at odX12_whaleLine ofX12_whaleLine 8) rfl
theorem dX12_whaleLine_10 : decode cX12_whaleLine 10 = .ok (.iconst 4, 1) := d_by (d_at odX12_whaleLine ofX12_whaleLine 10) rfl
theorem dX12_whaleLine_11 : decode cX12_whaleLine 11 = .ok (.aload_n 0, 1) := d_by (d_at odX12_whaleLine ofX12_whaleLine 11) rfl
theorem dX12_whaleLine_12 : decode cX12_whaleLine 12 = .ok (.getfield 23, 3) := d_by (d_at odX12_whaleLine ofX12_whaleLine 12) rfl
theorem dX12_whaleLine_15 : decode cX12_whaleLine 15 = .ok (.bipush 6, 2) := d_by (d_at odX12_whaleLine ofX12_whaleLine 15) rfl
theorem dX12_whaleLine_17 : decode cX12_whaleLine 17 = .ok (.iaload, 1) := d_by (d_at odX12_whaleLine ofX12_whaleLine 17) rfl
theorem dX12_whaleLine_18 : decode cX12_whaleLine 18 = .ok (.imul, 1) := d_by (d_at odX12_whaleLine ofX12_whaleLine 18) rfl
theorem dX12_whaleLine_19 : decode cX12_whaleLine 19 = .ok (.iadd, 1) := d_by (d_at odX12_whaleLine ofX12_whaleLine 19) rfl
theorem dX12_whaleLine_20 : decode cX12_whaleLine 20 = .ok (.istore_n 1, 1) := d_by (d_at odX12_whaleLine ofX12_whaleLine 20) rfl
theorem dX12_whaleLine_21 : decode cX12_whaleLine 21 = .ok (.aload_n 0, 1) := d_by (d_at odX12_whaleLine ofX12_whaleLine 21) rfl
theorem dX12_whaleLine_22 : decode cX12_whaleLine 22 = .ok (.bipush 7, 2) := d_by (d_at odX12_whaleLine ofX12_whaleLine 22) rfl
theorem dX12_whaleLine_24 : decode cX12_whaleLine 24 = .ok (.aload_n 0, 1) := d_by (d_at odX12_whaleLine ofX12_whaleLine 24) rfl
theorem dX12_whaleLine_25 : decode cX12_whaleLine 25 = .ok (.getfield 23, 3) := d_by (d_at odX12_whaleLine ofX12_whaleLine 25) rfl
theorem dX12_whaleLine_28 : decode cX12_whaleLine 28 = .ok (.bipush 6, 2) := d_by (d_at odX12_whaleLine ofX12_whaleLine 28) rfl
theorem dX12_whaleLine_30 : decode cX12_whaleLine 30 = .ok (.iaload, 1) := d_by (d_at odX12_whaleLine ofX12_whaleLine 30) rfl
theorem dX12_whaleLine_31 : decode cX12_whaleLine 31 = .ok (.iadd, 1) := d_by (d_at odX12_whaleLine ofX12_whaleLine 31) rfl
theorem dX12_whaleLine_32 : decode cX12_whaleLine 32 = .ok (.invokevirtual 223, 3) := d_by (d_at odX12_whaleLine ofX12_whaleLine 32) rfl
theorem dX12_whaleLine_35 : decode cX12_whaleLine 35 = .ok (.aload_n 0, 1) := d_by (d_at odX12_whaleLine ofX12_whaleLine 35) rfl
theorem dX12_whaleLine_36 : decode cX12_whaleLine 36 = .ok (.ldc 237, 2) := d_by (d_at odX12_whaleLine ofX12_whaleLine 36) rfl
theorem dX12_whaleLine_38 : decode cX12_whaleLine 38 = .ok (.invokevirtual 117, 3) := d_by (d_at odX12_whaleLine ofX12_whaleLine 38) rfl
theorem dX12_whaleLine_41 : decode cX12_whaleLine 41 = .ok (.ifCond .eq 7, 3) := d_by (d_at odX12_whaleLine ofX12_whaleLine 41) rfl
theorem dX12_whaleLine_44 : decode cX12_whaleLine 44 = .ok (.iconst 0, 1) := d_by (d_at odX12_whaleLine ofX12_whaleLine 44) rfl
theorem dX12_whaleLine_45 : decode cX12_whaleLine 45 = .ok (.goto 43, 3) := d_by (d_at odX12_whaleLine ofX12_whaleLine 45) rfl
theorem dX12_whaleLine_48 : decode cX12_whaleLine 48 = .ok (.aload_n 0, 1) := d_by (d_at odX12_whaleLine ofX12_whaleLine 48) rfl
theorem dX12_whaleLine_49 : decode cX12_whaleLine 49 = .ok (.ldc 239, 2) := d_by (d_at odX12_whaleLine ofX12_whaleLine 49) rfl
theorem dX12_whaleLine_51 : decode cX12_whaleLine 51 = .ok (.invokevirtual 117, 3) := d_by (d_at odX12_whaleLine ofX12_whaleLine 51) rfl
theorem dX12_whaleLine_54 : decode cX12_whaleLine 54 = .ok (.ifCond .eq 7, 3) := d_by (d_at odX12_whaleLine ofX12_whaleLine 54) rfl
theorem dX12_whaleLine_57 : decode cX12_whaleLine 57 = .ok (.iconst 1, 1) := d_by (d_at odX12_whaleLine ofX12_whaleLine 57) rfl
theorem dX12_whaleLine_58 : decode cX12_whaleLine 58 = .ok (.goto 30, 3) := d_by (d_at odX12_whaleLine ofX12_whaleLine 58) rfl
theorem dX12_whaleLine_61 : decode cX12_whaleLine 61 = .ok (.aload_n 0, 1) := d_by (d_at odX12_whaleLine ofX12_whaleLine 61) rfl
theorem dX12_whaleLine_62 : decode cX12_whaleLine 62 = .ok (.ldc 241, 2) := d_by (d_at odX12_whaleLine ofX12_whaleLine 62) rfl
theorem dX12_whaleLine_64 : decode cX12_whaleLine 64 = .ok (.invokevirtual 117, 3) := d_by (d_at odX12_whaleLine ofX12_whaleLine 64) rfl
theorem dX12_whaleLine_67 : decode cX12_whaleLine 67 = .ok (.ifCond .eq 7, 3) := d_by (d_at odX12_whaleLine ofX12_whaleLine 67) rfl
theorem dX12_whaleLine_70 : decode cX12_whaleLine 70 = .ok (.iconst 2, 1) := d_by (d_at odX12_whaleLine ofX12_whaleLine 70) rfl
theorem dX12_whaleLine_71 : decode cX12_whaleLine 71 = .ok (.goto 17, 3) := d_by (d_at odX12_whaleLine ofX12_whaleLine 71) rfl
theorem dX12_whaleLine_74 : decode cX12_whaleLine 74 = .ok (.aload_n 0, 1) := d_by (d_at odX12_whaleLine ofX12_whaleLine 74) rfl
theorem dX12_whaleLine_75 : decode cX12_whaleLine 75 = .ok (.ldc 243, 2) := d_by (d_at odX12_whaleLine ofX12_whaleLine 75) rfl
theorem dX12_whaleLine_77 : decode cX12_whaleLine 77 = .ok (.invokevirtual 117, 3) := d_by (d_at odX12_whaleLine ofX12_whaleLine 77) rfl
theorem dX12_whaleLine_80 : decode cX12_whaleLine 80 = .ok (.ifCond .eq 7, 3) := d_by (d_at odX12_whaleLine ofX12_whaleLine 80) rfl
theorem dX12_whaleLine_83 : decode cX12_whaleLine 83 = .ok (.iconst 3, 1) := d_by (d_at odX12_whaleLine ofX12_whaleLine 83) rfl
theorem dX12_whaleLine_84 : decode cX12_whaleLine 84 = .ok (.goto 4, 3) := d_by (d_at odX12_whaleLine ofX12_whaleLine 84) rfl
theorem dX12_whaleLine_87 : decode cX12_whaleLine 87 = .ok (.iconst (-1), 1) := d_by (d_at odX12_whaleLine ofX12_whaleLine 87) rfl
theorem dX12_whaleLine_88 : decode cX12_whaleLine 88 = .ok (.istore_n 2, 1) := d_by (d_at odX12_whaleLine ofX12_whaleLine 88) rfl
theorem dX12_whaleLine_89 : decode cX12_whaleLine 89 = .ok (.iload_n 2, 1) := d_by (d_at odX12_whaleLine ofX12_whaleLine 89) rfl
theorem dX12_whaleLine_90 : decode cX12_whaleLine 90 = .ok (.ifCond .ge 12, 3) := d_by (d_at odX12_whaleLine ofX12_whaleLine 90) rfl
theorem dX12_whaleLine_93 : decode cX12_whaleLine 93 = .ok (.aload_n 0, 1) := d_by (d_at odX12_whaleLine ofX12_whaleLine 93) rfl
theorem dX12_whaleLine_94 : decode cX12_whaleLine 94 = .ok (.iconst 1, 1) := d_by (d_at odX12_whaleLine ofX12_whaleLine 94) rfl
theorem dX12_whaleLine_95 : decode cX12_whaleLine 95 = .ok (.aload_n 0, 1) := d_by (d_at odX12_whaleLine ofX12_whaleLine 95) rfl
theorem dX12_whaleLine_96 : decode cX12_whaleLine 96 = .ok (.getfield 81, 3) := d_by (d_at odX12_whaleLine ofX12_whaleLine 96) rfl
theorem dX12_whaleLine_99 : decode cX12_whaleLine 99 = .ok (.invokevirtual 127, 3) := d_by (d_at odX12_whaleLine ofX12_whaleLine 99) rfl
theorem dX12_whaleLine_102 : decode cX12_whaleLine 102 = .ok (.aload_n 0, 1) := d_by (d_at odX12_whaleLine ofX12_whaleLine 102) rfl
theorem dX12_whaleLine_103 : decode cX12_whaleLine 103 = .ok (.getfield 100, 3) := d_by (d_at odX12_whaleLine ofX12_whaleLine 103) rfl
theorem dX12_whaleLine_106 : decode cX12_whaleLine 106 = .ok (.ifCond .eq 4, 3) := d_by (d_at odX12_whaleLine ofX12_whaleLine 106) rfl
theorem dX12_whaleLine_109 : decode cX12_whaleLine 109 = .ok (.return_, 1) := d_by (d_at odX12_whaleLine ofX12_whaleLine 109) rfl
theorem dX12_whaleLine_110 : decode cX12_whaleLine 110 = .ok (.aload_n 0, 1) := d_by (d_at odX12_whaleLine ofX12_whaleLine 110) rfl
theorem dX12_whaleLine_111 : decode cX12_whaleLine 111 = .ok (.invokevirtual 121, 3) := d_by (d_at odX12_whaleLine ofX12_whaleLine 111) rfl
theorem dX12_whaleLine_114 : decode cX12_whaleLine 114 = .ok (.aload_n 0, 1) := d_by (d_at odX12_whaleLine ofX12_whaleLine 114) rfl
theorem dX12_whaleLine_115 : decode cX12_whaleLine 115 = .ok (.getfield 23, 3) := d_by (d_at odX12_whaleLine ofX12_whaleLine 115) rfl
theorem dX12_whaleLine_118 : decode cX12_whaleLine 118 = .ok (.iload_n 1, 1) := d_by (d_at odX12_whaleLine ofX12_whaleLine 118) rfl
theorem dX12_whaleLine_119 : decode cX12_whaleLine 119 = .ok (.iload_n 2, 1) := d_by (d_at odX12_whaleLine ofX12_whaleLine 119) rfl
theorem dX12_whaleLine_120 : decode cX12_whaleLine 120 = .ok (.iastore, 1) := d_by (d_at odX12_whaleLine ofX12_whaleLine 120) rfl
theorem dX12_whaleLine_121 : decode cX12_whaleLine 121 = .ok (.aload_n 0, 1) := d_by (d_at odX12_whaleLine ofX12_whaleLine 121) rfl
theorem dX12_whaleLine_122 : decode cX12_whaleLine 122 = .ok (.getfield 23, 3) := d_by (d_at odX12_whaleLine ofX12_whaleLine 122) rfl
theorem dX12_whaleLine_125 : decode cX12_whaleLine 125 = .ok (.iload_n 1, 1) := d_by (d_at odX12_whaleLine ofX12_whaleLine 125) rfl
theorem dX12_whaleLine_126 : decode cX12_whaleLine 126 = .ok (.iconst 1, 1) := d_by (d_at odX12_whaleLine ofX12_whaleLine 126) rfl
theorem dX12_whaleLine_127 : decode cX12_whaleLine 127 = .ok (.iadd, 1) := d_by (d_at odX12_whaleLine ofX12_whaleLine 127) rfl
theorem dX12_whaleLine_128 : decode cX12_whaleLine 128 = .ok (.aload_n 0, 1) := d_by (d_at odX12_whaleLine ofX12_whaleLine 128) rfl
theorem dX12_whaleLine_129 : decode cX12_whaleLine 129 = .ok (.ldc 245, 2) := d_by (d_at odX12_whaleLine ofX12_whaleLine 129) rfl
theorem dX12_whaleLine_131 : decode cX12_whaleLine 131 = .ok (.invokevirtual 246, 3) := d_by (d_at odX12_whaleLine ofX12_whaleLine 131) rfl
theorem dX12_whaleLine_134 : decode cX12_whaleLine 134 = .ok (.iastore, 1) := d_by (d_at odX12_whaleLine ofX12_whaleLine 134) rfl
theorem dX12_whaleLine_135 : decode cX12_whaleLine 135 = .ok (.aload_n 0, 1) := d_by (d_at odX12_whaleLine ofX12_whaleLine 135) rfl
theorem dX12_whaleLine_136 : decode cX12_whaleLine 136 = .ok (.getfield 23, 3) := d_by (d_at odX12_whaleLine ofX12_whaleLine 136) rfl
theorem dX12_whaleLine_139 : decode cX12_whaleLine 139 = .ok (.iload_n 1, 1) := d_by (d_at odX12_whaleLine ofX12_whaleLine 139) rfl
theorem dX12_whaleLine_140 : decode cX12_whaleLine 140 = .ok (.iconst 2, 1) := d_by (d_at odX12_whaleLine ofX12_whaleLine 140) rfl
theorem dX12_whaleLine_141 : decode cX12_whaleLine 141 = .ok (.iadd, 1) := d_by (d_at odX12_whaleLine ofX12_whaleLine 141) rfl
theorem dX12_whaleLine_142 : decode cX12_whaleLine 142 = .ok (.aload_n 0, 1) := d_by (d_at odX12_whaleLine ofX12_whaleLine 142) rfl
theorem dX12_whaleLine_143 : decode cX12_whaleLine 143 = .ok (.ldc 250, 2) := d_by (d_at odX12_whaleLine ofX12_whaleLine 143) rfl
theorem dX12_whaleLine_145 : decode cX12_whaleLine 145 = .ok (.iconst 0, 1) := d_by (d_at odX12_whaleLine ofX12_whaleLine 145) rfl
theorem dX12_whaleLine_146 : decode cX12_whaleLine 146 = .ok (.bipush 99, 2) := d_by (d_at odX12_whaleLine ofX12_whaleLine 146) rfl
theorem dX12_whaleLine_148 : decode cX12_whaleLine 148 = .ok (.invokevirtual 213, 3) := d_by (d_at odX12_whaleLine ofX12_whaleLine 148) rfl
theorem dX12_whaleLine_151 : decode cX12_whaleLine 151 = .ok (.iastore, 1) := d_by (d_at odX12_whaleLine ofX12_whaleLine 151) rfl
theorem dX12_whaleLine_152 : decode cX12_whaleLine 152 = .ok (.aload_n 0, 1) := d_by (d_at odX12_whaleLine ofX12_whaleLine 152) rfl
theorem dX12_whaleLine_153 : decode cX12_whaleLine 153 = .ok (.getfield 23, 3) := d_by (d_at odX12_whaleLine ofX12_whaleLine 153) rfl
theorem dX12_whaleLine_156 : decode cX12_whaleLine 156 = .ok (.iload_n 1, 1) := d_by (d_at odX12_whaleLine ofX12_whaleLine 156) rfl
theorem dX12_whaleLine_157 : decode cX12_whaleLine 157 = .ok (.iconst 3, 1) := d_by (d_at odX12_whaleLine ofX12_whaleLine 157) rfl
theorem dX12_whaleLine_158 : decode cX12_whaleLine 158 = .ok (.iadd, 1) := d_by (d_at odX12_whaleLine ofX12_whaleLine 158) rfl
theorem dX12_whaleLine_159 : decode cX12_whaleLine 159 = .ok (.aload_n 0, 1) := d_by (d_at odX12_whaleLine ofX12_whaleLine 159) rfl
theorem dX12_whaleLine_160 : decode cX12_whaleLine 160 = .ok (.ldc 252, 2) := d_by (d_at odX12_whaleLine ofX12_whaleLine 160) rfl
theorem dX12_whaleLine_162 : decode cX12_whaleLine 162 = .ok (.iconst 0, 1) := d_by (d_at odX12_whaleLine ofX12_whaleLine 162) rfl
theorem dX12_whaleLine_163 : decode cX12_whaleLine 163 = .ok (.bipush 99, 2) := d_by (d_at odX12_whaleLine ofX12_whaleLine 163) rfl
theorem dX12_whaleLine_165 : decode cX12_whaleLine 165 = .ok (.invokevirtual 213, 3) := d_by (d_at odX12_whaleLine ofX12_whaleLine 165) rfl
theorem dX12_whaleLine_168 : decode cX12_whaleLine 168 = .ok (.iastore, 1) := d_by (d_at odX12_whaleLine ofX12_whaleLine 168) rfl
theorem dX12_whaleLine_169 : decode cX12_whaleLine 169 = .ok (.aload_n 0, 1) := d_by (d_at odX12_whaleLine ofX12_whaleLine 169) rfl
theorem dX12_whaleLine_170 : decode cX12_whaleLine 170 = .ok (.getfield 100, 3) := d_by (d_at odX12_whaleLine ofX12_whaleLine 170) rfl
theorem dX12_whaleLine_173 : decode cX12_whaleLine 173 = .ok (.ifCond .ne 14, 3) := d_by (d_at odX12_whaleLine ofX12_whaleLine 173) rfl
theorem dX12_whaleLine_176 : decode cX12_whaleLine 176 = .ok (.aload_n 0, 1) := d_by (d_at odX12_whaleLine ofX12_whaleLine 176) rfl
theorem dX12_whaleLine_177 : decode cX12_whaleLine 177 = .ok (.getfield 23, 3) := d_by (d_at odX12_whaleLine ofX12_whaleLine 177) rfl
theorem dX12_whaleLine_180 : decode cX12_whaleLine 180 = .ok (.bipush 6, 2) := d_by (d_at odX12_whaleLine ofX12_whaleLine 180) rfl
theorem dX12_whaleLine_182 : decode cX12_whaleLine 182 = .ok (.dup2, 1) := d_by (d_at odX12_whaleLine ofX12_whaleLine 182) rfl
theorem dX12_whaleLine_183 : decode cX12_whaleLine 183 = .ok (.iaload, 1) := d_by (d_at odX12_whaleLine ofX12_whaleLine 183) rfl
theorem dX12_whaleLine_184 : decode cX12_whaleLine 184 = .ok (.iconst 1, 1) := d_by (d_at odX12_whaleLine ofX12_whaleLine 184) rfl
theorem dX12_whaleLine_185 : decode cX12_whaleLine 185 = .ok (.iadd, 1) := d_by (d_at odX12_whaleLine ofX12_whaleLine 185) rfl
theorem dX12_whaleLine_186 : decode cX12_whaleLine 186 = .ok (.iastore, 1) := d_by (d_at odX12_whaleLine ofX12_whaleLine 186) rfl
theorem dX12_whaleLine_187 : decode cX12_whaleLine 187 = .ok (.return_, 1) := d_by (d_at odX12_whaleLine ofX12_whaleLine 187) rfl
set_option maxRecDepth 100000 in
def bX12_boxLine : List Nat := [42, 180, 0, 100, 153, 0, 4, 177, 16, 127, 7, 42, 180, 0, 23, 16, 7, 46, 104, 96, 60, 42, 16, 12, 42, 180, 0, 23, 16, 7, 46, 96, 182, 0, 223, 42, 180, 0, 23, 27, 42, 18, 254, 182, 0, 246, 79, 42, 180, 0, 23, 27, 4, 96, 42, 19, 1, 0, 182, 0, 246, 79, 42, 180, 0, 23, 27, 5, 96, 42, 19, 1, 2, 4, 16, 99, 182, 0, 213, 79, 42, 180, 0, 23, 27, 6, 96, 42, 19, 1, 4, 3, 17, 39, 15, 182, 0, 213, 79, 42, 180, 0, 100, 154, 0, 14, 42, 180, 0, 23, 16, 7, 92, 46, 4, 96, 79, 177]
set_option maxRecDepth 100000 in
theorem bbX12_boxLine : cX12_boxLine.data.toList.map UInt8.toNat = bX12_boxLine := by decide +kernel
set_option maxRecDepth 100000 in
def tX12_boxLine : Lean.RArray dLf := .branch 58 (.branch 28 (.branch 15 (.branch 8 (.branch 4 (.branch 1 (.leaf (0, .aload_n 0, 1)) (.leaf (1, .getfield 100, 3))) (.branch 7 (.leaf (4, .ifCond .eq 4, 3)) (.leaf (7, .return_, 1)))) (.branch 11 (.branch 10 (.leaf (8, .bipush 127, 2)) (.leaf (10, .iconst 4, 1))) (.branch 12 (.leaf (11, .aload_n 0, 1)) (.leaf (12, .getfield 23, 3))))) (.branch 20 (.branch 18 (.branch 17 (.leaf (15, .bipush 7, 2)) (.leaf (17, .iaload, 1))) (.branch 19 (.leaf (18, .imul, 1)) (.leaf (19, .iadd, 1)))) (.branch 22 (.branch 21 (.leaf (20, .istore_n 1, 1)) (.leaf (21, .aload_n 0, 1))) (.branch 24 (.leaf (22, .bipush 12, 2)) (.branch 25 (.leaf (24, .aload_n 0, 1)) (.leaf (25, .getfield 23, 3))))))) (.branch 43 (.branch 35 (.branch 31 (.branch 30 (.leaf (28, .bipush 7, 2)) (.leaf (30, .iaload, 1))) (.branch 32 (.leaf (31, .iadd, 1)) (.leaf (32, .invokevirtual 223, 3)))) (.branch 39 (.branch 36 (.leaf (35, .aload_n 0, 1)) (.leaf (36, .getfield 23, 3))) (.branch 40 (.leaf (39, .iload_n 1, 1)) (.branch 41 (.leaf (40, .aload_n 0, 1)) (.leaf (41, .ldc 254, 2)))))) (.branch 51 (.branch 47 (.branch 46 (.leaf (43, .invokevirtual 246, 3)) (.leaf (46, .iastore, 1))) (.branch 48 (.leaf (47, .aload_n 0, 1)) (.leaf (48, .getfield 23, 3)))) (.branch 53 (.branch 52 (.leaf (51, .iload_n 1, 1)) (.leaf (52, .iconst 1, 1))) (.branch 54 (.leaf (53, .iadd, 1)) (.branch 55 (.leaf (54, .aload_n 0, 1)) (.leaf (55, .ldc_w 256, 3)))))))) (.branch 87 (.branch 73 (.branch 66 (.branch 62 (.branch 61 (.leaf (58, .invokevirtual 246, 3)) (.leaf (61, .iastore, 1))) (.branch 63 (.leaf (62, .aload_n 0, 1)) (.leaf (63, .getfield 23, 3)))) (.branch 68 (.branch 67 (.leaf (66, .iload_n 1, 1)) (.leaf (67, .iconst 2, 1))) (.branch 69 (.leaf (68, .iadd, 1)) (.branch 70 (.leaf (69, .aload_n 0, 1)) (.leaf (70, .ldc_w 258, 3)))))) (.branch 80 (.branch 76 (.branch 74 (.leaf (73, .iconst 1, 1)) (.leaf (74, .bipush 99, 2))) (.branch 79 (.leaf (76, .invokevirtual 213, 3)) (.leaf (79, .iastore, 1)))) (.branch 84 (.branch 81 (.leaf (80, .aload_n 0, 1)) (.leaf (81, .getfield 23, 3))) (.branch 85 (.leaf (84, .iload_n 1, 1)) (.branch 86 (.leaf (85, .iconst 3, 1)) (.leaf (86, .iadd, 1))))))) (.branch 106 (.branch 95 (.branch 91 (.branch 88 (.leaf (87, .aload_n 0, 1)) (.leaf (88, .ldc_w 260, 3))) (.branch 92 (.leaf (91, .iconst 0, 1)) (.leaf (92, .sipush 9999, 3)))) (.branch 99 (.branch 98 (.leaf (95, .invokevirtual 213, 3)) (.leaf (98, .iastore, 1))) (.branch 100 (.leaf (99, .aload_n 0, 1)) (.branch 103 (.leaf (100, .getfield 100, 3)) (.leaf (103, .ifCond .ne 14, 3)))))) (.branch 113 (.branch 110 (.branch 107 (.leaf (106, .aload_n 0, 1)) (.leaf (107, .getfield 23, 3))) (.branch 112 (.leaf (110, .bipush 7, 2)) (.leaf (112, .dup2, 1)))) (.branch 115 (.branch 114 (.leaf (113, .iaload, 1)) (.leaf (114, .iconst 1, 1))) (.branch 116 (.leaf (115, .iadd, 1)) (.branch 117 (.leaf (116, .iastore, 1)) (.leaf (117, .return_, 1))))))))
noncomputable def oX12_boxLine : List dLf := dFl tX12_boxLine
theorem ofX12_boxLine : dFl tX12_boxLine = oX12_boxLine := rfl
set_option maxRecDepth 100000 in
theorem odX12_boxLine : ∀ q ∈ oX12_boxLine, decode cX12_boxLine q.1 = .ok (q.2.1, q.2.2) := q_go qT_ok bbX12_boxLine oX12_boxLine 0 (by decide +kernel)
theorem dX12_boxLine_0 : decode cX12_boxLine 0 = .ok (.aload_n 0, 1) := d_by (d_at odX12_boxLine ofX12_boxLine 0) rfl
theorem dX12_boxLine_1 : decode cX12_boxLine 1 = .ok (.getfield 100, 3) := d_by (d_at odX12_boxLine ofX12_boxLine 1) rfl
theorem dX12_boxLine_4 : decode cX12_boxLine 4 = .ok (.ifCond .eq 4, 3) := d_by (d_at odX12_boxLine ofX12_boxLine 4) rfl
theorem dX12_boxLine_7 : decode cX12_boxLine 7 = .ok (.return_, 1) := d_by (d_at odX12_boxLine ofX12_boxLine 7) rfl
theorem dX12_boxLine_8 : decode cX12_boxLine 8 = .ok (.bipush 127, 2) := d_by (d_at odX12_boxLine ofX12_boxLine 8) rfl
theorem dX12_boxLine_10 : decode cX12_boxLine 10 = .ok (.iconst 4, 1) := d_by (d_at odX12_boxLine ofX12_boxLine 10) rfl
theorem dX12_boxLine_11 : decode cX12_boxLine 11 = .ok (.aload_n 0, 1) := d_by (d_at odX12_boxLine ofX12_boxLine 11) rfl
theorem dX12_boxLine_12 : decode cX12_boxLine 12 = .ok (.getfield 23, 3) := d_by (d_at odX12_boxLine ofX12_boxLine 12) rfl
theorem dX12_boxLine_15 : decode cX12_boxLine 15 = .ok (.bipush 7, 2) := d_by (d_at odX12_boxLine ofX12_boxLine 15) rfl
theorem dX12_boxLine_17 : decode cX12_boxLine 17 = .ok (.iaload, 1) := d_by (d_at odX12_boxLine ofX12_boxLine 17) rfl
theorem dX12_boxLine_18 : decode cX12_boxLine 18 = .ok (.imul, 1) := d_by (d_at odX12_boxLine ofX12_boxLine 18) rfl
theorem dX12_boxLine_19 : decode cX12_boxLine 19 = .ok (.iadd, 1) := d_by (d_at odX12_boxLine ofX12_boxLine 19) rfl
theorem dX12_boxLine_20 : decode cX12_boxLine 20 = .ok (.istore_n 1, 1) := d_by (d_at odX12_boxLine ofX12_boxLine 20) rfl
theorem dX12_boxLine_21 : decode cX12_boxLine 21 = .ok (.aload_n 0, 1) := d_by (d_at odX12_boxLine ofX12_boxLine 21) rfl
theorem dX12_boxLine_22 : decode cX12_boxLine 22 = .ok (.bipush 12, 2) := d_by (d_at odX12_boxLine ofX12_boxLine 22) rfl
theorem dX12_boxLine_24 : decode cX12_boxLine 24 = .ok (.aload_n 0, 1) := d_by (d_at odX12_boxLine ofX12_boxLine 24) rfl
theorem dX12_boxLine_25 : decode cX12_boxLine 25 = .ok (.getfield 23, 3) := d_by (d_at odX12_boxLine ofX12_boxLine 25) rfl
theorem dX12_boxLine_28 : decode cX12_boxLine 28 = .ok (.bipush 7, 2) := d_by (d_at odX12_boxLine ofX12_boxLine 28) rfl
theorem dX12_boxLine_30 : decode cX12_boxLine 30 = .ok (.iaload, 1) := d_by (d_at odX12_boxLine ofX12_boxLine 30) rfl
theorem dX12_boxLine_31 : decode cX12_boxLine 31 = .ok (.iadd, 1) := d_by (d_at odX12_boxLine ofX12_boxLine 31) rfl
theorem dX12_boxLine_32 : decode cX12_boxLine 32 = .ok (.invokevirtual 223, 3) := d_by (d_at odX12_boxLine ofX12_boxLine 32) rfl
theorem dX12_boxLine_35 : decode cX12_boxLine 35 = .ok (.aload_n 0, 1) := d_by (d_at odX12_boxLine ofX12_boxLine 35) rfl
theorem dX12_boxLine_36 : decode cX12_boxLine 36 = .ok (.getfield 23, 3) := d_by (d_at odX12_boxLine ofX12_boxLine 36) rfl
theorem dX12_boxLine_39 : decode cX12_boxLine 39 = .ok (.iload_n 1, 1) := d_by (d_at odX12_boxLine ofX12_boxLine 39) rfl
theorem dX12_boxLine_40 : decode cX12_boxLine 40 = .ok (.aload_n 0, 1) := d_by (d_at odX12_boxLine ofX12_boxLine 40) rfl
theorem dX12_boxLine_41 : decode cX12_boxLine 41 = .ok (.ldc 254, 2) := d_by (d_at odX12_boxLine ofX12_boxLine 41) rfl
theorem dX12_boxLine_43 : decode cX12_boxLine 43 = .ok (.invokevirtual 246, 3) := d_by (d_at odX12_boxLine ofX12_boxLine 43) rfl
theorem dX12_boxLine_46 : decode cX12_boxLine 46 = .ok (.iastore, 1) := d_by (d_at odX12_boxLine ofX12_boxLine 46) rfl
theorem dX12_boxLine_47 : decode cX12_boxLine 47 = .ok (.aload_n 0, 1) := d_by (d_at odX12_boxLine ofX12_boxLine 47) rfl
theorem dX12_boxLine_48 : decode cX12_boxLine 48 = .ok (.getfield 23, 3) := d_by (d_at odX12_boxLine ofX12_boxLine 48) rfl
theorem dX12_boxLine_51 : decode cX12_boxLine 51 = .ok (.iload_n 1, 1) := d_by (d_at odX12_boxLine ofX12_boxLine 51) rfl
theorem dX12_boxLine_52 : decode cX12_boxLine 52 = .ok (.iconst 1, 1) := d_by (d_at odX12_boxLine ofX12_boxLine 52) rfl
theorem dX12_boxLine_53 : decode cX12_boxLine 53 = .ok (.iadd, 1) := d_by (d_at odX12_boxLine ofX12_boxLine 53) rfl
theorem dX12_boxLine_54 : decode cX12_boxLine 54 = .ok (.aload_n 0, 1) := d_by (d_at odX12_boxLine ofX12_boxLine 54) rfl
theorem dX12_boxLine_55 : decode cX12_boxLine 55 = .ok (.ldc_w 256, 3) := d_by (d_at odX12_boxLine ofX12_boxLine 55) rfl
theorem dX12_boxLine_58 : decode cX12_boxLine 58 = .ok (.invokevirtual 246, 3) := d_by (d_at odX12_boxLine ofX12_boxLine 58) rfl
theorem dX12_boxLine_61 : decode cX12_boxLine 61 = .ok (.iastore, 1) := d_by (d_at odX12_boxLine ofX12_boxLine 61) rfl
theorem dX12_boxLine_62 : decode cX12_boxLine 62 = .ok (.aload_n 0, 1) := d_by (d_at odX12_boxLine ofX12_boxLine 62) rfl
theorem dX12_boxLine_63 : decode cX12_boxLine 63 = .ok (.getfield 23, 3) := d_by (d_at odX12_boxLine ofX12_boxLine 63) rfl
theorem dX12_boxLine_66 : decode cX12_boxLine 66 = .ok (.iload_n 1, 1) := d_by (d_at odX12_boxLine ofX12_boxLine 66) rfl
theorem dX12_boxLine_67 : decode cX12_boxLine 67 = .ok (.iconst 2, 1) := d_by (d_at odX12_boxLine ofX12_boxLine 67) rfl
theorem dX12_boxLine_68 : decode cX12_boxLine 68 = .ok (.iadd, 1) := d_by (d_at odX12_boxLine ofX12_boxLine 68) rfl
theorem dX12_boxLine_69 : decode cX12_boxLine 69 = .ok (.aload_n 0, 1) := d_by (d_at odX12_boxLine ofX12_boxLine 69) rfl
theorem dX12_boxLine_70 : decode cX12_boxLine 70 = .ok (.ldc_w 258, 3) := d_by (d_at odX12_boxLine ofX12_boxLine 70) rfl
theorem dX12_boxLine_73 : decode cX12_boxLine 73 = .ok (.iconst 1, 1) := d_by (d_at odX12_boxLine ofX12_boxLine 73) rfl
theorem dX12_boxLine_74 : decode cX12_boxLine 74 = .ok (.bipush 99, 2) := d_by (d_at odX12_boxLine ofX12_boxLine 74) rfl
theorem dX12_boxLine_76 : decode cX12_boxLine 76 = .ok (.invokevirtual 213, 3) := d_by (d_at odX12_boxLine ofX12_boxLine 76) rfl
theorem dX12_boxLine_79 : decode cX12_boxLine 79 = .ok (.iastore, 1) := d_by (d_at odX12_boxLine ofX12_boxLine 79) rfl
theorem dX12_boxLine_80 : decode cX12_boxLine 80 = .ok (.aload_n 0, 1) := d_by (d_at odX12_boxLine ofX12_boxLine 80) rfl
theorem dX12_boxLine_81 : decode cX12_boxLine 81 = .ok (.getfield 23, 3) := d_by (d_at odX12_boxLine ofX12_boxLine 81) rfl
theorem dX12_boxLine_84 : decode cX12_boxLine 84 = .ok (.iload_n 1, 1) := d_by (d_at odX12_boxLine ofX12_boxLine 84) rfl
theorem dX12_boxLine_85 : decode cX12_boxLine 85 = .ok (.iconst 3, 1) := d_by (d_at odX12_boxLine ofX12_boxLine 85) rfl
theorem dX12_boxLine_86 : decode cX12_boxLine 86 = .ok (.iadd, 1) := d_by (d_at odX12_boxLine ofX12_boxLine 86) rfl
theorem dX12_boxLine_87 : decode cX12_boxLine 87 = .ok (.aload_n 0, 1) := d_by (d_at odX12_boxLine ofX12_boxLine 87) rfl
theorem dX12_boxLine_88 : decode cX12_boxLine 88 = .ok (.ldc_w 260, 3) := d_by (d_at odX12_boxLine ofX12_boxLine 88) rfl
theorem dX12_boxLine_91 : decode cX12_boxLine 91 = .ok (.iconst 0, 1) := d_by (d_at odX12_boxLine ofX12_boxLine 91) rfl
theorem dX12_boxLine_92 : decode cX12_boxLine 92 = .ok (.sipush 9999, 3) := d_by (d_at odX12_boxLine ofX12_boxLine 92) rfl
theorem dX12_boxLine_95 : decode cX12_boxLine 95 = .ok (.invokevirtual 213, 3) := d_by (d_at odX12_boxLine ofX12_boxLine 95) rfl
theorem dX12_boxLine_98 : decode cX12_boxLine 98 = .ok (.iastore, 1) := d_by (d_at odX12_boxLine ofX12_boxLine 98) rfl
theorem dX12_boxLine_99 : decode cX12_boxLine 99 = .ok (.aload_n 0, 1) := d_by (d_at odX12_boxLine ofX12_boxLine 99) rfl
theorem dX12_boxLine_100 : decode cX12_boxLine 100 = .ok (.getfield 100, 3) := d_by (d_at odX12_boxLine ofX12_boxLine 100) rfl
theorem dX12_boxLine_103 : decode cX12_boxLine 103 = .ok (.ifCond .ne 14, 3) := d_by (d_at odX12_boxLine ofX12_boxLine 103) rfl
theorem dX12_boxLine_106 : decode cX12_boxLine 106 = .ok (.aload_n 0, 1) := d_by (d_at odX12_boxLine ofX12_boxLine 106) rfl
theorem dX12_boxLine_107 : decode cX12_boxLine 107 = .ok (.getfield 23, 3) := d_by (d_at odX12_boxLine ofX12_boxLine 107) rfl
theorem dX12_boxLine_110 : decode cX12_boxLine 110 = .ok (.bipush 7, 2) := d_by (d_at odX12_boxLine ofX12_boxLine 110) rfl
theorem dX12_boxLine_112 : decode cX12_boxLine 112 = .ok (.dup2, 1) := d_by (d_at odX12_boxLine ofX12_boxLine 112) rfl
theorem dX12_boxLine_113 : decode cX12_boxLine 113 = .ok (.iaload, 1) := d_by (d_at odX12_boxLine ofX12_boxLine 113) rfl
theorem dX12_boxLine_114 : decode cX12_boxLine 114 = .ok (.iconst 1, 1) := d_by (d_at odX12_boxLine ofX12_boxLine 114) rfl
theorem dX12_boxLine_115 : decode cX12_boxLine 115 = .ok (.iadd, 1) := d_by (d_at odX12_boxLine ofX12_boxLine 115) rfl
theorem dX12_boxLine_116 : decode cX12_boxLine 116 = .ok (.iastore, 1) := d_by (d_at odX12_boxLine ofX12_boxLine 116) rfl
theorem dX12_boxLine_117 : decode cX12_boxLine 117 = .ok (.return_, 1) := d_by (d_at odX12_boxLine ofX12_boxLine 117) rfl
set_option maxRecDepth 100000 in
def bX12_spoutLine : List Nat := [42, 180, 0, 100, 153, 0, 4, 177, 17, 0, 159, 6, 42, 180, 0, 23, 16, 8, 46, 104, 96, 60, 42, 16, 7, 16, 11, 182, 0, 153, 61, 42, 180, 0, 100, 154, 0, 7, 42, 182, 0, 121, 42, 182, 0, 161, 62, 3, 54, 4, 3, 54, 5, 21, 5, 42, 180, 0, 23, 16, 8, 46, 162, 0, 45, 42, 180, 0, 23, 17, 0, 159, 6, 21, 5, 104, 96, 46, 28, 160, 0, 22, 42, 180, 0, 23, 17, 0, 159, 6, 21, 5, 104, 96, 5, 96, 46, 4, 96, 54, 4, 132, 5, 1, 167, 255, 205, 42, 19, 1, 4, 21, 4, 17, 39, 15, 182, 0, 213, 54, 5, 42, 180, 0, 100, 153, 0, 4, 177, 42, 180, 0, 23, 27, 28, 79, 42, 180, 0, 23, 27, 4, 96, 29, 79, 42, 180, 0, 23, 27, 5, 96, 21, 5, 79, 42, 180, 0, 23, 16, 8, 92, 46, 4, 96, 79, 177]
set_option maxRecDepth 100000 in
theorem bbX12_spoutLine : cX12_spoutLine.data.toList.map UInt8.toNat = bX12_spoutLine := by decide +kernel
set_option maxRecDepth 100000 in
def tX12_spoutLine : Lean.RArray dLf := .branch 89 (.branch 43 (.branch 21 (.branch 12 (.branch 7 (.branch 1 (.leaf (0, .aload_n 0, 1)) (.branch 4 (.leaf (1, .getfield 100, 3)) (.leaf (4, .ifCond .eq 4, 3)))) (.branch 8 (.leaf (7, .return_, 1)) (.branch 11 (.leaf (8, .sipush 159, 3)) (.leaf (11, .iconst 3, 1))))) (.branch 18 (.branch 13 (.leaf (12, .aload_n 0, 1)) (.branch 16 (.leaf (13, .getfield 23, 3)) (.leaf (16, .bipush 8, 2)))) (.branch 19 (.leaf (18, .iaload, 1)) (.branch 20 (.leaf (19, .imul, 1)) (.leaf (20, .iadd, 1)))))) (.branch 31 (.branch 25 (.branch 22 (.leaf (21, .istore_n 1, 1)) (.branch 23 (.leaf (22, .aload_n 0, 1)) (.leaf (23, .bipush 7, 2)))) (.branch 27 (.leaf (25, .bipush 11, 2)) (.branch 30 (.leaf (27, .invokevirtual 153, 3)) (.leaf (30, .istore_n 2, 1))))) (.branch 38 (.branch 32 (.leaf (31, .aload_n 0, 1)) (.branch 35 (.leaf (32, .getfield 100, 3)) (.leaf (35, .ifCond .ne 7, 3)))) (.branch 39 (.leaf (38, .aload_n 0, 1)) (.branch 42 (.leaf (39, .invokevirtual 121, 3)) (.leaf (42, .aload_n 0, 1))))))) (.branch 65 (.branch 53 (.branch 48 (.branch 46 (.leaf (43, .invokevirtual 161, 3)) (.branch 47 (.leaf (46, .istore_n 3, 1)) (.leaf (47, .iconst 0, 1)))) (.branch 50 (.leaf (48, .istore 4, 2)) (.branch 51 (.leaf (50, .iconst 0, 1)) (.leaf (51, .istore 5, 2))))) (.branch 59 (.branch 55 (.leaf (53, .iload 5, 2)) (.branch 56 (.leaf (55, .aload_n 0, 1)) (.leaf (56, .getfield 23, 3)))) (.branch 61 (.leaf (59, .bipush 8, 2)) (.branch 62 (.leaf (61, .iaload, 1)) (.leaf (62, .if_icmp .ge 45, 3)))))) (.branch 76 (.branch 72 (.branch 66 (.leaf (65, .aload_n 0, 1)) (.branch 69 (.leaf (66, .getfield 23, 3)) (.leaf (69, .sipush 159, 3)))) (.branch 73 (.leaf (72, .iconst 3, 1)) (.branch 75 (.leaf (73, .iload 5, 2)) (.leaf (75, .imul, 1))))) (.branch 79 (.branch 77 (.leaf (76, .iadd, 1)) (.branch 78 (.leaf (77, .iaload, 1)) (.leaf (78, .iload_n 2, 1)))) (.branch 83 (.branch 82 (.leaf (79, .if_icmp .ne 22, 3)) (.leaf (82, .aload_n 0, 1))) (.branch 86 (.leaf (83, .getfield 23, 3)) (.leaf (86, .sipush 159, 3)))))))) (.branch 134 (.branch 107 (.branch 96 (.branch 93 (.branch 90 (.leaf (89, .iconst 3, 1)) (.branch 92 (.leaf (90, .iload 5, 2)) (.leaf (92, .imul, 1)))) (.branch 94 (.leaf (93, .iadd, 1)) (.branch 95 (.leaf (94, .iconst 2, 1)) (.leaf (95, .iadd, 1))))) (.branch 99 (.branch 97 (.leaf (96, .iaload, 1)) (.branch 98 (.leaf (97, .iconst 1, 1)) (.leaf (98, .iadd, 1)))) (.branch 101 (.leaf (99, .istore 4, 2)) (.branch 104 (.leaf (101, .iinc 5 1, 3)) (.leaf (104, .goto (-51), 3)))))) (.branch 121 (.branch 113 (.branch 108 (.leaf (107, .aload_n 0, 1)) (.branch 111 (.leaf (108, .ldc_w 260, 3)) (.leaf (111, .iload 4, 2)))) (.branch 116 (.leaf (113, .sipush 9999, 3)) (.branch 119 (.leaf (116, .invokevirtual 213, 3)) (.leaf (119, .istore 5, 2))))) (.branch 128 (.branch 122 (.leaf (121, .aload_n 0, 1)) (.branch 125 (.leaf (122, .getfield 100, 3)) (.leaf (125, .ifCond .eq 4, 3)))) (.branch 130 (.branch 129 (.leaf (128, .return_, 1)) (.leaf (129, .aload_n 0, 1))) (.branch 133 (.leaf (130, .getfield 23, 3)) (.leaf (133, .iload_n 1, 1))))))) (.branch 150 (.branch 142 (.branch 137 (.branch 135 (.leaf (134, .iload_n 2, 1)) (.branch 136 (.leaf (135, .iastore, 1)) (.leaf (136, .aload_n 0, 1)))) (.branch 140 (.leaf (137, .getfield 23, 3)) (.branch 141 (.leaf (140, .iload_n 1, 1)) (.leaf (141, .iconst 1, 1))))) (.branch 145 (.branch 143 (.leaf (142, .iadd, 1)) (.branch 144 (.leaf (143, .iload_n 3, 1)) (.leaf (144, .iastore, 1)))) (.branch 146 (.leaf (145, .aload_n 0, 1)) (.branch 149 (.leaf (146, .getfield 23, 3)) (.leaf (149, .iload_n 1, 1)))))) (.branch 159 (.branch 154 (.branch 151 (.leaf (150, .iconst 2, 1)) (.branch 152 (.leaf (151, .iadd, 1)) (.leaf (152, .iload 5, 2)))) (.branch 155 (.leaf (154, .iastore, 1)) (.branch 156 (.leaf (155, .aload_n 0, 1)) (.leaf (156, .getfield 23, 3))))) (.branch 163 (.branch 161 (.leaf (159, .bipush 8, 2)) (.branch 162 (.leaf (161, .dup2, 1)) (.leaf (162, .iaload, 1)))) (.branch 165 (.branch 164 (.leaf (163, .iconst 1, 1)) (.leaf (164, .iadd, 1))) (.branch 166 (.leaf (165, .iastore, 1)) (.leaf (166, .return_, 1))))))))
noncomputable def oX12_spoutLine : List dLf := dFl tX12_spoutLine
theorem ofX12_spoutLine : dFl tX12_spoutLine = oX12_spoutLine := rfl
set_option maxRecDepth 100000 in
theorem odX12_spoutLine : ∀ q ∈ oX12_spoutLine, decode cX12_spoutLine q.1 = .ok (q.2.1, q.2.2) := q_go qT_ok bbX12_spoutLine oX12_spoutLine 0 (by decide +kernel)
theorem dX12_spoutLine_0 : decode cX12_spoutLine 0 = .ok (.aload_n 0, 1) := d_by (d_at odX12_spoutLine ofX12_spoutLine 0) rfl
theorem dX12_spoutLine_1 : decode cX12_spoutLine 1 = .ok (.getfield 100, 3) := d_by (d_at odX12_spoutLine ofX12_spoutLine 1) rfl
theorem dX12_spoutLine_4 : decode cX12_spoutLine 4 = .ok (.ifCond .eq 4, 3) := d_by (d_at odX12_spoutLine ofX12_spoutLine 4) rfl
theorem dX12_spoutLine_7 : decode cX12_spoutLine 7 = .ok (.return_, 1) := d_by (d_at odX12_spoutLine ofX12_spoutLine 7) rfl
theorem dX12_spoutLine_8 : decode cX12_spoutLine 8 = .ok (.sipush 159, 3) := d_by (d_at odX12_spoutLine ofX12_spoutLine 8) rfl
theorem dX12_spoutLine_11 : decode cX12_spoutLine 11 = .ok (.iconst 3, 1) := d_by (d_at odX12_spoutLine ofX12_spoutLine 11) rfl
theorem dX12_spoutLine_12 : decode cX12_spoutLine 12 = .ok (.aload_n 0, 1) := d_by (d_at odX12_spoutLine ofX12_spoutLine 12) rfl
theorem dX12_spoutLine_13 : decode cX12_spoutLine 13 = .ok (.getfield 23, 3) := d_by (d_at odX12_spoutLine ofX12_spoutLine 13) rfl
theorem dX12_spoutLine_16 : decode cX12_spoutLine 16 = .ok (.bipush 8, 2) := d_by (d_at odX12_spoutLine ofX12_spoutLine 16) rfl
theorem dX12_spoutLine_18 : decode cX12_spoutLine 18 = .ok (.iaload, 1) := d_by (d_at odX12_spoutLine ofX12_spoutLine 18) rfl
theorem dX12_spoutLine_19 : decode cX12_spoutLine 19 = .ok (.imul, 1) := d_by (d_at odX12_spoutLine ofX12_spoutLine 19) rfl
theorem dX12_spoutLine_20 : decode cX12_spoutLine 20 = .ok (.iadd, 1) := d_by (d_at odX12_spoutLine ofX12_spoutLine 20) rfl
theorem dX12_spoutLine_21 : decode cX12_spoutLine 21 = .ok (.istore_n 1, 1) := d_by (d_at odX12_spoutLine ofX12_spoutLine 21) rfl
theorem dX12_spoutLine_22 : decode cX12_spoutLine 22 = .ok (.aload_n 0, 1) := d_by (d_at odX12_spoutLine ofX12_spoutLine 22) rfl
theorem dX12_spoutLine_23 : decode cX12_spoutLine 23 = .ok (.bipush 7, 2) := d_by (d_at odX12_spoutLine ofX12_spoutLine 23) rfl
theorem dX12_spoutLine_25 : decode cX12_spoutLine 25 = .ok (.bipush 11, 2) := d_by (d_at odX12_spoutLine ofX12_spoutLine 25) rfl
theorem dX12_spoutLine_27 : decode cX12_spoutLine 27 = .ok (.invokevirtual 153, 3) := d_by (d_at odX12_spoutLine ofX12_spoutLine 27) rfl
theorem dX12_spoutLine_30 : decode cX12_spoutLine 30 = .ok (.istore_n 2, 1) := d_by (d_at odX12_spoutLine ofX12_spoutLine 30) rfl
theorem dX12_spoutLine_31 : decode cX12_spoutLine 31 = .ok (.aload_n 0, 1) := d_by (d_at odX12_spoutLine ofX12_spoutLine 31) rfl
theorem dX12_spoutLine_32 : decode cX12_spoutLine 32 = .ok (.getfield 100, 3) := d_by (d_at odX12_spoutLine ofX12_spoutLine 32) rfl
theorem dX12_spoutLine_35 : decode cX12_spoutLine 35 = .ok (.ifCond .ne 7, 3) := d_by (d_at odX12_spoutLine ofX12_spoutLine 35) rfl
theorem dX12_spoutLine_38 : decode cX12_spoutLine 38 = .ok (.aload_n 0, 1) := d_by (d_at odX12_spoutLine ofX12_spoutLine 38) rfl
theorem dX12_spoutLine_39 : decode cX12_spoutLine 39 = .ok (.invokevirtual 121, 3) := d_by (d_at odX12_spoutLine ofX12_spoutLine 39) rfl
theorem dX12_spoutLine_42 : decode cX12_spoutLine 42 = .ok (.aload_n 0, 1) := d_by (d_at odX12_spoutLine ofX12_spoutLine 42) rfl
theorem dX12_spoutLine_43 : decode cX12_spoutLine 43 = .ok (.invokevirtual 161, 3) := d_by (d_at odX12_spoutLine ofX12_spoutLine 43) rfl
theorem dX12_spoutLine_46 : decode cX12_spoutLine 46 = .ok (.istore_n 3, 1) := d_by (d_at odX12_spoutLine ofX12_spoutLine 46) rfl
theorem dX12_spoutLine_47 : decode cX12_spoutLine 47 = .ok (.iconst 0, 1) := d_by (d_at odX12_spoutLine ofX12_spoutLine 47) rfl
theorem dX12_spoutLine_48 : decode cX12_spoutLine 48 = .ok (.istore 4, 2) := d_by (d_at odX12_spoutLine ofX12_spoutLine 48) rfl
theorem dX12_spoutLine_50 : decode cX12_spoutLine 50 = .ok (.iconst 0, 1) := d_by (d_at odX12_spoutLine ofX12_spoutLine 50) rfl
theorem dX12_spoutLine_51 : decode cX12_spoutLine 51 = .ok (.istore 5, 2) := d_by (d_at odX12_spoutLine ofX12_spoutLine 51) rfl
theorem dX12_spoutLine_53 : decode cX12_spoutLine 53 = .ok (.iload 5, 2) := d_by (d_at odX12_spoutLine ofX12_spoutLine 53) rfl
theorem dX12_spoutLine_55 : decode cX12_spoutLine 55 = .ok (.aload_n 0, 1) := d_by (d_at odX12_spoutLine ofX12_spoutLine 55) rfl
theorem dX12_spoutLine_56 : decode cX12_spoutLine 56 = .ok (.getfield 23, 3) := d_by (d_at odX12_spoutLine ofX12_spoutLine 56) rfl
theorem dX12_spoutLine_59 : decode cX12_spoutLine 59 = .ok (.bipush 8, 2) := d_by (d_at odX12_spoutLine ofX12_spoutLine 59) rfl
theorem dX12_spoutLine_61 : decode cX12_spoutLine 61 = .ok (.iaload, 1) := d_by (d_at odX12_spoutLine ofX12_spoutLine 61) rfl
theorem dX12_spoutLine_62 : decode cX12_spoutLine 62 = .ok (.if_icmp .ge 45, 3) := d_by (d_at odX12_spoutLine ofX12_spoutLine 62) rfl
theorem dX12_spoutLine_65 : decode cX12_spoutLine 65 = .ok (.aload_n 0, 1) := d_by (d_at odX12_spoutLine ofX12_spoutLine 65) rfl
theorem dX12_spoutLine_66 : decode cX12_spoutLine 66 = .ok (.getfield 23, 3) := d_by (d_at odX12_spoutLine ofX12_spoutLine 66) rfl
theorem dX12_spoutLine_69 : decode cX12_spoutLine 69 = .ok (.sipush 159, 3) := d_by (d_at odX12_spoutLine ofX12_spoutLine 69) rfl
theorem dX12_spoutLine_72 : decode cX12_spoutLine 72 = .ok (.iconst 3, 1) := d_by (d_at odX12_spoutLine ofX12_spoutLine 72) rfl
theorem dX12_spoutLine_73 : decode cX12_spoutLine 73 = .ok (.iload 5, 2) := d_by (d_at odX12_spoutLine ofX12_spoutLine 73) rfl
theorem dX12_spoutLine_75 : decode cX12_spoutLine 75 = .ok (.imul, 1) := d_by (d_at odX12_spoutLine ofX12_spoutLine 75) rfl
theorem dX12_spoutLine_76 : decode cX12_spoutLine 76 = .ok (.iadd, 1) := d_by (d_at odX12_spoutLine ofX12_spoutLine 76) rfl
theorem dX12_spoutLine_77 : decode cX12_spoutLine 77 = .ok (.iaload, 1) := d_by (d_at odX12_spoutLine ofX12_spoutLine 77) rfl
theorem dX12_spoutLine_78 : decode cX12_spoutLine 78 = .ok (.iload_n 2, 1) := d_by (d_at odX12_spoutLine ofX12_spoutLine 78) rfl
theorem dX12_spoutLine_79 : decode cX12_spoutLine 79 = .ok (.if_icmp .ne 22, 3) := d_by (d_at odX12_spoutLine ofX12_spoutLine 79) rfl
theorem dX12_spoutLine_82 : decode cX12_spoutLine 82 = .ok (.aload_n 0, 1) := d_by (d_at odX12_spoutLine ofX12_spoutLine 82) rfl
theorem dX12_spoutLine_83 : decode cX12_spoutLine 83 = .ok (.getfield 23, 3) := d_by (d_at odX12_spoutLine ofX12_spoutLine 83) rfl
theorem dX12_spoutLine_86 : decode cX12_spoutLine 86 = .ok (.sipush 159, 3) := d_by (d_at odX12_spoutLine ofX12_spoutLine 86) rfl
theorem dX12_spoutLine_89 : decode cX12_spoutLine 89 = .ok (.iconst 3, 1) := d_by (d_at odX12_spoutLine ofX12_spoutLine 89) rfl
theorem dX12_spoutLine_90 : decode cX12_spoutLine 90 = .ok (.iload 5, 2) := d_by (d_at odX12_spoutLine ofX12_spoutLine 90) rfl
theorem dX12_spoutLine_92 : decode cX12_spoutLine 92 = .ok (.imul, 1) := d_by (d_at odX12_spoutLine ofX12_spoutLine 92) rfl
theorem dX12_spoutLine_93 : decode cX12_spoutLine 93 = .ok (.iadd, 1) := d_by (d_at odX12_spoutLine ofX12_spoutLine 93) rfl
theorem dX12_spoutLine_94 : decode cX12_spoutLine 94 = .ok (.iconst 2, 1) := d_by (d_at odX12_spoutLine ofX12_spoutLine 94) rfl
theorem dX12_spoutLine_95 : decode cX12_spoutLine 95 = .ok (.iadd, 1) := d_by (d_at odX12_spoutLine ofX12_spoutLine 95) rfl
theorem dX12_spoutLine_96 : decode cX12_spoutLine 96 = .ok (.iaload, 1) := d_by (d_at odX12_spoutLine ofX12_spoutLine 96) rfl
theorem dX12_spoutLine_97 : decode cX12_spoutLine 97 = .ok (.iconst 1, 1) := d_by (d_at odX12_spoutLine ofX12_spoutLine 97) rfl
theorem dX12_spoutLine_98 : decode cX12_spoutLine 98 = .ok (.iadd, 1) := d_by (d_at odX12_spoutLine ofX12_spoutLine 98) rfl
theorem dX12_spoutLine_99 : decode cX12_spoutLine 99 = .ok (.istore 4, 2) := d_by (d_at odX12_spoutLine ofX12_spoutLine 99) rfl
theorem dX12_spoutLine_101 : decode cX12_spoutLine 101 = .ok (.iinc 5 1, 3) := d_by (d_at odX12_spoutLine ofX12_spoutLine 101) rfl
theorem dX12_spoutLine_104 : decode cX12_spoutLine 104 = .ok (.goto (-51), 3) := d_by (d_at odX12_spoutLine ofX12_spoutLine 104) rfl
theorem dX12_spoutLine_107 : decode cX12_spoutLine 107 = .ok (.aload_n 0, 1) := d_by (d_at odX12_spoutLine ofX12_spoutLine 107) rfl
theorem dX12_spoutLine_108 : decode cX12_spoutLine 108 = .ok (.ldc_w 260, 3) := d_by (d_at odX12_spoutLine ofX12_spoutLine 108) rfl
theorem dX12_spoutLine_111 : decode cX12_spoutLine 111 = .ok (.iload 4, 2) := d_by (d_at odX12_spoutLine ofX12_spoutLine 111) rfl
theorem dX12_spoutLine_113 : decode cX12_spoutLine 113 = .ok (.sipush 9999, 3) := d_by (d_at odX12_spoutLine ofX12_spoutLine 113) rfl
theorem dX12_spoutLine_116 : decode cX12_spoutLine 116 = .ok (.invokevirtual 213, 3) := d_by (d_at odX12_spoutLine ofX12_spoutLine 116) rfl
theorem dX12_spoutLine_119 : decode cX12_spoutLine 119 = .ok (.istore 5, 2) := d_by (d_at odX12_spoutLine ofX12_spoutLine 119) rfl
theorem dX12_spoutLine_121 : decode cX12_spoutLine 121 = .ok (.aload_n 0, 1) := d_by (d_at odX12_spoutLine ofX12_spoutLine 121) rfl
theorem dX12_spoutLine_122 : decode cX12_spoutLine 122 = .ok (.getfield 100, 3) := d_by (d_at odX12_spoutLine ofX12_spoutLine 122) rfl
theorem dX12_spoutLine_125 : decode cX12_spoutLine 125 = .ok (.ifCond .eq 4, 3) := d_by (d_at odX12_spoutLine ofX12_spoutLine 125) rfl
theorem dX12_spoutLine_128 : decode cX12_spoutLine 128 = .ok (.return_, 1) := d_by (d_at odX12_spoutLine ofX12_spoutLine 128) rfl
theorem dX12_spoutLine_129 : decode cX12_spoutLine 129 = .ok (.aload_n 0, 1) := d_by (d_at odX12_spoutLine ofX12_spoutLine 129) rfl
theorem dX12_spoutLine_130 : decode cX12_spoutLine 130 = .ok (.getfield 23, 3) := d_by (d_at odX12_spoutLine ofX12_spoutLine 130) rfl
theorem dX12_spoutLine_133 : decode cX12_spoutLine 133 = .ok (.iload_n 1, 1) := d_by (d_at odX12_spoutLine ofX12_spoutLine 133) rfl
theorem dX12_spoutLine_134 : decode cX12_spoutLine 134 = .ok (.iload_n 2, 1) := d_by (d_at odX12_spoutLine ofX12_spoutLine 134) rfl
theorem dX12_spoutLine_135 : decode cX12_spoutLine 135 = .ok (.iastore, 1) := d_by (d_at odX12_spoutLine ofX12_spoutLine 135) rfl
theorem dX12_spoutLine_136 : decode cX12_spoutLine 136 = .ok (.aload_n 0, 1) := d_by (d_at odX12_spoutLine ofX12_spoutLine 136) rfl
theorem dX12_spoutLine_137 : decode cX12_spoutLine 137 = .ok (.getfield 23, 3) := d_by (d_at odX12_spoutLine ofX12_spoutLine 137) rfl
theorem dX12_spoutLine_140 : decode cX12_spoutLine 140 = .ok (.iload_n 1, 1) := d_by (d_at odX12_spoutLine ofX12_spoutLine 140) rfl
theorem dX12_spoutLine_141 : decode cX12_spoutLine 141 = .ok (.iconst 1, 1) := d_by (d_at odX12_spoutLine ofX12_spoutLine 141) rfl
theorem dX12_spoutLine_142 : decode cX12_spoutLine 142 = .ok (.iadd, 1) := d_by (d_at odX12_spoutLine ofX12_spoutLine 142) rfl
theorem dX12_spoutLine_143 : decode cX12_spoutLine 143 = .ok (.iload_n 3, 1) := d_by (d_at odX12_spoutLine ofX12_spoutLine 143) rfl
theorem dX12_spoutLine_144 : decode cX12_spoutLine 144 = .ok (.iastore, 1) := d_by (d_at odX12_spoutLine ofX12_spoutLine 144) rfl
theorem dX12_spoutLine_145 : decode cX12_spoutLine 145 = .ok (.aload_n 0, 1) := d_by (d_at odX12_spoutLine ofX12_spoutLine 145) rfl
theorem dX12_spoutLine_146 : decode cX12_spoutLine 146 = .ok (.getfield 23, 3) := d_by (d_at odX12_spoutLine ofX12_spoutLine 146) rfl
theorem dX12_spoutLine_149 : decode cX12_spoutLine 149 = .ok (.iload_n 1, 1) := d_by (d_at odX12_spoutLine ofX12_spoutLine 149) rfl
theorem dX12_spoutLine_150 : decode cX12_spoutLine 150 = .ok (.iconst 2, 1) := d_by (d_at odX12_spoutLine ofX12_spoutLine 150) rfl
theorem dX12_spoutLine_151 : decode cX12_spoutLine 151 = .ok (.iadd, 1) := d_by (d_at odX12_spoutLine ofX12_spoutLine 151) rfl
theorem dX12_spoutLine_152 : decode cX12_spoutLine 152 = .ok (.iload 5, 2) := d_by (d_at odX12_spoutLine ofX12_spoutLine 152) rfl
theorem dX12_spoutLine_154 : decode cX12_spoutLine 154 = .ok (.iastore, 1) := d_by (d_at odX12_spoutLine ofX12_spoutLine 154) rfl
theorem dX12_spoutLine_155 : decode cX12_spoutLine 155 = .ok (.aload_n 0, 1) := d_by (d_at odX12_spoutLine ofX12_spoutLine 155) rfl
theorem dX12_spoutLine_156 : decode cX12_spoutLine 156 = .ok (.getfield 23, 3) := d_by (d_at odX12_spoutLine ofX12_spoutLine 156) rfl
theorem dX12_spoutLine_159 : decode cX12_spoutLine 159 = .ok (.bipush 8, 2) := d_by (d_at odX12_spoutLine ofX12_spoutLine 159) rfl
theorem dX12_spoutLine_161 : decode cX12_spoutLine 161 = .ok (.dup2, 1) := d_by (d_at odX12_spoutLine ofX12_spoutLine 161) rfl
theorem dX12_spoutLine_162 : decode cX12_spoutLine 162 = .ok (.iaload, 1) := d_by (d_at odX12_spoutLine ofX12_spoutLine 162) rfl
theorem dX12_spoutLine_163 : decode cX12_spoutLine 163 = .ok (.iconst 1, 1) := d_by (d_at odX12_spoutLine ofX12_spoutLine 163) rfl
theorem dX12_spoutLine_164 : decode cX12_spoutLine 164 = .ok (.iadd, 1) := d_by (d_at odX12_spoutLine ofX12_spoutLine 164) rfl
theorem dX12_spoutLine_165 : decode cX12_spoutLine 165 = .ok (.iastore, 1) := d_by (d_at odX12_spoutLine ofX12_spoutLine 165) rfl
theorem dX12_spoutLine_166 : decode cX12_spoutLine 166 = .ok (.return_, 1) := d_by (d_at odX12_spoutLine ofX12_spoutLine 166) rfl
set_option maxRecDepth 100000 in
def bX12_fault : List Nat := [42, 3, 181, 0, 62, 42, 180, 0, 104, 172]
set_option maxRecDepth 100000 in
theorem bbX12_fault : cX12_fault.data.toList.map UInt8.toNat = bX12_fault := by decide +kernel
set_option maxRecDepth 100000 in
def tX12_fault : Lean.RArray dLf := .branch 5 (.branch 1 (.leaf (0, .aload_n 0, 1)) (.branch 2 (.leaf (1, .iconst 0, 1)) (.leaf (2, .putfield 62, 3)))) (.branch 6 (.leaf (5, .aload_n 0, 1)) (.branch 9 (.leaf (6, .getfield 104, 3)) (.leaf (9, .ireturn, 1))))
noncomputable def oX12_fault : List dLf := dFl tX12_fault
theorem ofX12_fault : dFl tX12_fault = oX12_fault := rfl
set_option maxRecDepth 100000 in
theorem odX12_fault : ∀ q ∈ oX12_fault, decode cX12_fault q.1 = .ok (q.2.1, q.2.2) := q_go qT_ok bbX12_fault oX12_fault 0 (by decide +kernel)
theorem dX12_fault_0 : decode cX12_fault 0 = .ok (.aload_n 0, 1) := d_by (d_at odX12_fault ofX12_fault 0) rfl
theorem dX12_fault_1 : decode cX12_fault 1 = .ok (.iconst 0, 1) := d_by (d_at odX12_fault ofX12_fault 1) rfl
theorem dX12_fault_2 : decode cX12_fault 2 = .ok (.putfield 62, 3) := d_by (d_at odX12_fault ofX12_fault 2) rfl
theorem dX12_fault_5 : decode cX12_fault 5 = .ok (.aload_n 0, 1) := d_by (d_at odX12_fault ofX12_fault 5) rfl
theorem dX12_fault_6 : decode cX12_fault 6 = .ok (.getfield 104, 3) := d_by (d_at odX12_fault ofX12_fault 6) rfl
theorem dX12_fault_9 : decode cX12_fault 9 = .ok (.ireturn, 1) := d_by (d_at odX12_fault ofX12_fault 9) rfl
set_option maxRecDepth 100000 in
def bX12_where : List Nat := [42, 3, 181, 0, 62, 42, 180, 0, 65, 7, 160, 0, 10, 42, 180, 0, 13, 167, 0, 4, 2, 172]
set_option maxRecDepth 100000 in
theorem bbX12_where : cX12_where.data.toList.map UInt8.toNat = bX12_where := by decide +kernel
set_option maxRecDepth 100000 in
def tX12_where : Lean.RArray dLf := .branch 10 (.branch 5 (.branch 1 (.leaf (0, .aload_n 0, 1)) (.branch 2 (.leaf (1, .iconst 0, 1)) (.leaf (2, .putfield 62, 3)))) (.branch 6 (.leaf (5, .aload_n 0, 1)) (.branch 9 (.leaf (6, .getfield 65, 3)) (.leaf (9, .iconst 4, 1))))) (.branch 17 (.branch 13 (.leaf (10, .if_icmp .ne 10, 3)) (.branch 14 (.leaf (13, .aload_n 0, 1)) (.leaf (14, .getfield 13, 3)))) (.branch 20 (.leaf (17, .goto 4, 3)) (.branch 21 (.leaf (20, .iconst (-1), 1)) (.leaf (21, .ireturn, 1)))))
noncomputable def oX12_where : List dLf := dFl tX12_where
theorem ofX12_where : dFl tX12_where = oX12_where := rfl
set_option maxRecDepth 100000 in
theorem odX12_where : ∀ q ∈ oX12_where, decode cX12_where q.1 = .ok (q.2.1, q.2.2) := q_go qT_ok bbX12_where oX12_where 0 (by decide +kernel)
theorem dX12_where_0 : decode cX12_where 0 = .ok (.aload_n 0, 1) := d_by (d_at odX12_where ofX12_where 0) rfl
theorem dX12_where_1 : decode cX12_where 1 = .ok (.iconst 0, 1) := d_by (d_at odX12_where ofX12_where 1) rfl
theorem dX12_where_2 : decode cX12_where 2 = .ok (.putfield 62, 3) := d_by (d_at odX12_where ofX12_where 2) rfl
theorem dX12_where_5 : decode cX12_where 5 = .ok (.aload_n 0, 1) := d_by (d_at odX12_where ofX12_where 5) rfl
theorem dX12_where_6 : decode cX12_where 6 = .ok (.getfield 65, 3) := d_by (d_at odX12_where ofX12_where 6) rfl
theorem dX12_where_9 : decode cX12_where 9 = .ok (.iconst 4, 1) := d_by (d_at odX12_where ofX12_where 9) rfl
theorem dX12_where_10 : decode cX12_where 10 = .ok (.if_icmp .ne 10, 3) := d_by (d_at odX12_where ofX12_where 10) rfl
theorem dX12_where_13 : decode cX12_where 13 = .ok (.aload_n 0, 1) := d_by (d_at odX12_where ofX12_where 13) rfl
theorem dX12_where_14 : decode cX12_where 14 = .ok (.getfield 13, 3) := d_by (d_at odX12_where ofX12_where 14) rfl
theorem dX12_where_17 : decode cX12_where 17 = .ok (.goto 4, 3) := d_by (d_at odX12_where ofX12_where 17) rfl
theorem dX12_where_20 : decode cX12_where 20 = .ok (.iconst (-1), 1) := d_by (d_at odX12_where ofX12_where 20) rfl
theorem dX12_where_21 : decode cX12_where 21 = .ok (.ireturn, 1) := d_by (d_at odX12_where ofX12_where 21) rfl
set_option maxRecDepth 100000 in
def bX12_isIsland : List Nat := [42, 180, 0, 180, 153, 0, 23, 27, 3, 42, 180, 0, 20, 7, 46, 4, 100, 184, 0, 149, 153, 0, 7, 4, 167, 0, 4, 3, 172]
set_option maxRecDepth 100000 in
theorem bbX12_isIsland : cX12_isIsland.data.toList.map UInt8.toNat = bX12_isIsland := by decide +kernel
set_option maxRecDepth 100000 in
def tX12_isIsland : Lean.RArray dLf := .branch 14 (.branch 8 (.branch 4 (.branch 1 (.leaf (0, .aload_n 0, 1)) (.leaf (1, .getfield 180, 3))) (.branch 7 (.leaf (4, .ifCond .eq 23, 3)) (.leaf (7, .iload_n 1, 1)))) (.branch 10 (.branch 9 (.leaf (8, .iconst 0, 1)) (.leaf (9, .aload_n 0, 1))) (.branch 13 (.leaf (10, .getfield 20, 3)) (.leaf (13, .iconst 4, 1))))) (.branch 20 (.branch 16 (.branch 15 (.leaf (14, .iaload, 1)) (.leaf (15, .iconst 1, 1))) (.branch 17 (.leaf (16, .isub, 1)) (.leaf (17, .invokestatic 149, 3)))) (.branch 24 (.branch 23 (.leaf (20, .ifCond .eq 7, 3)) (.leaf (23, .iconst 1, 1))) (.branch 27 (.leaf (24, .goto 4, 3)) (.branch 28 (.leaf (27, .iconst 0, 1)) (.leaf (28, .ireturn, 1))))))
noncomputable def oX12_isIsland : List dLf := dFl tX12_isIsland
theorem ofX12_isIsland : dFl tX12_isIsland = oX12_isIsland := rfl
set_option maxRecDepth 100000 in
theorem odX12_isIsland : ∀ q ∈ oX12_isIsland, decode cX12_isIsland q.1 = .ok (q.2.1, q.2.2) := q_go qT_ok bbX12_isIsland oX12_isIsland 0 (by decide +kernel)
theorem dX12_isIsland_0 : decode cX12_isIsland 0 = .ok (.aload_n 0, 1) := d_by (d_at odX12_isIsland ofX12_isIsland 0) rfl
theorem dX12_isIsland_1 : decode cX12_isIsland 1 = .ok (.getfield 180, 3) := d_by (d_at odX12_isIsland ofX12_isIsland 1) rfl
theorem dX12_isIsland_4 : decode cX12_isIsland 4 = .ok (.ifCond .eq 23, 3) := d_by (d_at odX12_isIsland ofX12_isIsland 4) rfl
theorem dX12_isIsland_7 : decode cX12_isIsland 7 = .ok (.iload_n 1, 1) := d_by (d_at odX12_isIsland ofX12_isIsland 7) rfl
theorem dX12_isIsland_8 : decode cX12_isIsland 8 = .ok (.iconst 0, 1) := d_by (d_at odX12_isIsland ofX12_isIsland 8) rfl
theorem dX12_isIsland_9 : decode cX12_isIsland 9 = .ok (.aload_n 0, 1) := d_by (d_at odX12_isIsland ofX12_isIsland 9) rfl
theorem dX12_isIsland_10 : decode cX12_isIsland 10 = .ok (.getfield 20, 3) := d_by (d_at odX12_isIsland ofX12_isIsland 10) rfl
theorem dX12_isIsland_13 : decode cX12_isIsland 13 = .ok (.iconst 4, 1) := d_by (d_at odX12_isIsland ofX12_isIsland 13) rfl
theorem dX12_isIsland_14 : decode cX12_isIsland 14 = .ok (.iaload, 1) := d_by (d_at odX12_isIsland ofX12_isIsland 14) rfl
theorem dX12_isIsland_15 : decode cX12_isIsland 15 = .ok (.iconst 1, 1) := d_by (d_at odX12_isIsland ofX12_isIsland 15) rfl
theorem dX12_isIsland_16 : decode cX12_isIsland 16 = .ok (.isub, 1) := d_by (d_at odX12_isIsland ofX12_isIsland 16) rfl
theorem dX12_isIsland_17 : decode cX12_isIsland 17 = .ok (.invokestatic 149, 3) := d_by (d_at odX12_isIsland ofX12_isIsland 17) rfl
theorem dX12_isIsland_20 : decode cX12_isIsland 20 = .ok (.ifCond .eq 7, 3) := d_by (d_at odX12_isIsland ofX12_isIsland 20) rfl
theorem dX12_isIsland_23 : decode cX12_isIsland 23 = .ok (.iconst 1, 1) := d_by (d_at odX12_isIsland ofX12_isIsland 23) rfl
theorem dX12_isIsland_24 : decode cX12_isIsland 24 = .ok (.goto 4, 3) := d_by (d_at odX12_isIsland ofX12_isIsland 24) rfl
theorem dX12_isIsland_27 : decode cX12_isIsland 27 = .ok (.iconst 0, 1) := d_by (d_at odX12_isIsland ofX12_isIsland 27) rfl
theorem dX12_isIsland_28 : decode cX12_isIsland 28 = .ok (.ireturn, 1) := d_by (d_at odX12_isIsland ofX12_isIsland 28) rfl
set_option maxRecDepth 100000 in
def bX12_isWhale : List Nat := [42, 180, 0, 180, 153, 0, 24, 27, 3, 42, 180, 0, 20, 16, 6, 46, 4, 100, 184, 0, 149, 153, 0, 7, 4, 167, 0, 4, 3, 172]
set_option maxRecDepth 100000 in
theorem bbX12_isWhale : cX12_isWhale.data.toList.map UInt8.toNat = bX12_isWhale := by decide +kernel
set_option maxRecDepth 100000 in
def tX12_isWhale : Lean.RArray dLf := .branch 15 (.branch 8 (.branch 4 (.branch 1 (.leaf (0, .aload_n 0, 1)) (.leaf (1, .getfield 180, 3))) (.branch 7 (.leaf (4, .ifCond .eq 24, 3)) (.leaf (7, .iload_n 1, 1)))) (.branch 10 (.branch 9 (.leaf (8, .iconst 0, 1)) (.leaf (9, .aload_n 0, 1))) (.branch 13 (.leaf (10, .getfield 20, 3)) (.leaf (13, .bipush 6, 2))))) (.branch 21 (.branch 17 (.branch 16 (.leaf (15, .iaload, 1)) (.leaf (16, .iconst 1, 1))) (.branch 18 (.leaf (17, .isub, 1)) (.leaf (18, .invokestatic 149, 3)))) (.branch 25 (.branch 24 (.leaf (21, .ifCond .eq 7, 3)) (.leaf (24, .iconst 1, 1))) (.branch 28 (.leaf (25, .goto 4, 3)) (.branch 29 (.leaf (28, .iconst 0, 1)) (.leaf (29, .ireturn, 1))))))
noncomputable def oX12_isWhale : List dLf := dFl tX12_isWhale
theorem ofX12_isWhale : dFl tX12_isWhale = oX12_isWhale := rfl
set_option maxRecDepth 100000 in
theorem odX12_isWhale : ∀ q ∈ oX12_isWhale, decode cX12_isWhale q.1 = .ok (q.2.1, q.2.2) := q_go qT_ok bbX12_isWhale oX12_isWhale 0 (by decide +kernel)
theorem dX12_isWhale_0 : decode cX12_isWhale 0 = .ok (.aload_n 0, 1) := d_by (d_at odX12_isWhale ofX12_isWhale 0) rfl
theorem dX12_isWhale_1 : decode cX12_isWhale 1 = .ok (.getfield 180, 3) := d_by (d_at odX12_isWhale ofX12_isWhale 1) rfl
theorem dX12_isWhale_4 : decode cX12_isWhale 4 = .ok (.ifCond .eq 24, 3) := d_by (d_at odX12_isWhale ofX12_isWhale 4) rfl
theorem dX12_isWhale_7 : decode cX12_isWhale 7 = .ok (.iload_n 1, 1) := d_by (d_at odX12_isWhale ofX12_isWhale 7) rfl
theorem dX12_isWhale_8 : decode cX12_isWhale 8 = .ok (.iconst 0, 1) := d_by (d_at odX12_isWhale ofX12_isWhale 8) rfl
theorem dX12_isWhale_9 : decode cX12_isWhale 9 = .ok (.aload_n 0, 1) := d_by (d_at odX12_isWhale ofX12_isWhale 9) rfl
theorem dX12_isWhale_10 : decode cX12_isWhale 10 = .ok (.getfield 20, 3) := d_by (d_at odX12_isWhale ofX12_isWhale 10) rfl
theorem dX12_isWhale_13 : decode cX12_isWhale 13 = .ok (.bipush 6, 2) := d_by (d_at odX12_isWhale ofX12_isWhale 13) rfl
theorem dX12_isWhale_15 : decode cX12_isWhale 15 = .ok (.iaload, 1) := d_by (d_at odX12_isWhale ofX12_isWhale 15) rfl
theorem dX12_isWhale_16 : decode cX12_isWhale 16 = .ok (.iconst 1, 1) := d_by (d_at odX12_isWhale ofX12_isWhale 16) rfl
theorem dX12_isWhale_17 : decode cX12_isWhale 17 = .ok (.isub, 1) := d_by (d_at odX12_isWhale ofX12_isWhale 17) rfl
theorem dX12_isWhale_18 : decode cX12_isWhale 18 = .ok (.invokestatic 149, 3) := d_by (d_at odX12_isWhale ofX12_isWhale 18) rfl
theorem dX12_isWhale_21 : decode cX12_isWhale 21 = .ok (.ifCond .eq 7, 3) := d_by (d_at odX12_isWhale ofX12_isWhale 21) rfl
theorem dX12_isWhale_24 : decode cX12_isWhale 24 = .ok (.iconst 1, 1) := d_by (d_at odX12_isWhale ofX12_isWhale 24) rfl
theorem dX12_isWhale_25 : decode cX12_isWhale 25 = .ok (.goto 4, 3) := d_by (d_at odX12_isWhale ofX12_isWhale 25) rfl
theorem dX12_isWhale_28 : decode cX12_isWhale 28 = .ok (.iconst 0, 1) := d_by (d_at odX12_isWhale ofX12_isWhale 28) rfl
theorem dX12_isWhale_29 : decode cX12_isWhale 29 = .ok (.ireturn, 1) := d_by (d_at odX12_isWhale ofX12_isWhale 29) rfl
set_option maxRecDepth 100000 in
def bX12_isBox : List Nat := [42, 180, 0, 180, 153, 0, 24, 27, 3, 42, 180, 0, 20, 16, 7, 46, 4, 100, 184, 0, 149, 153, 0, 7, 4, 167, 0, 4, 3, 172]
set_option maxRecDepth 100000 in
theorem bbX12_isBox : cX12_isBox.data.toList.map UInt8.toNat = bX12_isBox := by decide +kernel
set_option maxRecDepth 100000 in
def tX12_isBox : Lean.RArray dLf := .branch 15 (.branch 8 (.branch 4 (.branch 1 (.leaf (0, .aload_n 0, 1)) (.leaf (1, .getfield 180, 3))) (.branch 7 (.leaf (4, .ifCond .eq 24, 3)) (.leaf (7, .iload_n 1, 1)))) (.branch 10 (.branch 9 (.leaf (8, .iconst 0, 1)) (.leaf (9, .aload_n 0, 1))) (.branch 13 (.leaf (10, .getfield 20, 3)) (.leaf (13, .bipush 7, 2))))) (.branch 21 (.branch 17 (.branch 16 (.leaf (15, .iaload, 1)) (.leaf (16, .iconst 1, 1))) (.branch 18 (.leaf (17, .isub, 1)) (.leaf (18, .invokestatic 149, 3)))) (.branch 25 (.branch 24 (.leaf (21, .ifCond .eq 7, 3)) (.leaf (24, .iconst 1, 1))) (.branch 28 (.leaf (25, .goto 4, 3)) (.branch 29 (.leaf (28, .iconst 0, 1)) (.leaf (29, .ireturn, 1))))))
noncomputable def oX12_isBox : List dLf := dFl tX12_isBox
theorem ofX12_isBox : dFl tX12_isBox = oX12_isBox := rfl
set_option maxRecDepth 100000 in
theorem odX12_isBox : ∀ q ∈ oX12_isBox, decode cX12_isBox q.1 = .ok (q.2.1, q.2.2) := q_go qT_ok bbX12_isBox oX12_isBox 0 (by decide +kernel)
theorem dX12_isBox_0 : decode cX12_isBox 0 = .ok (.aload_n 0, 1) := d_by (d_at odX12_isBox ofX12_isBox 0) rfl
theorem dX12_isBox_1 : decode cX12_isBox 1 = .ok (.getfield 180, 3) := d_by (d_at odX12_isBox ofX12_isBox 1) rfl
theorem dX12_isBox_4 : decode cX12_isBox 4 = .ok (.ifCond .eq 24, 3) := d_by (d_at odX12_isBox ofX12_isBox 4) rfl
theorem dX12_isBox_7 : decode cX12_isBox 7 = .ok (.iload_n 1, 1) := d_by (d_at odX12_isBox ofX12_isBox 7) rfl
theorem dX12_isBox_8 : decode cX12_isBox 8 = .ok (.iconst 0, 1) := d_by (d_at odX12_isBox ofX12_isBox 8) rfl
theorem dX12_isBox_9 : decode cX12_isBox 9 = .ok (.aload_n 0, 1) := d_by (d_at odX12_isBox ofX12_isBox 9) rfl
theorem dX12_isBox_10 : decode cX12_isBox 10 = .ok (.getfield 20, 3) := d_by (d_at odX12_isBox ofX12_isBox 10) rfl
theorem dX12_isBox_13 : decode cX12_isBox 13 = .ok (.bipush 7, 2) := d_by (d_at odX12_isBox ofX12_isBox 13) rfl
theorem dX12_isBox_15 : decode cX12_isBox 15 = .ok (.iaload, 1) := d_by (d_at odX12_isBox ofX12_isBox 15) rfl
theorem dX12_isBox_16 : decode cX12_isBox 16 = .ok (.iconst 1, 1) := d_by (d_at odX12_isBox ofX12_isBox 16) rfl
theorem dX12_isBox_17 : decode cX12_isBox 17 = .ok (.isub, 1) := d_by (d_at odX12_isBox ofX12_isBox 17) rfl
theorem dX12_isBox_18 : decode cX12_isBox 18 = .ok (.invokestatic 149, 3) := d_by (d_at odX12_isBox ofX12_isBox 18) rfl
theorem dX12_isBox_21 : decode cX12_isBox 21 = .ok (.ifCond .eq 7, 3) := d_by (d_at odX12_isBox ofX12_isBox 21) rfl
theorem dX12_isBox_24 : decode cX12_isBox 24 = .ok (.iconst 1, 1) := d_by (d_at odX12_isBox ofX12_isBox 24) rfl
theorem dX12_isBox_25 : decode cX12_isBox 25 = .ok (.goto 4, 3) := d_by (d_at odX12_isBox ofX12_isBox 25) rfl
theorem dX12_isBox_28 : decode cX12_isBox 28 = .ok (.iconst 0, 1) := d_by (d_at odX12_isBox ofX12_isBox 28) rfl
theorem dX12_isBox_29 : decode cX12_isBox 29 = .ok (.ireturn, 1) := d_by (d_at odX12_isBox ofX12_isBox 29) rfl
set_option maxRecDepth 100000 in
def bX12_ofWhale : List Nat := [42, 180, 0, 20, 16, 107, 7, 27, 104, 96, 28, 96, 46, 172]
set_option maxRecDepth 100000 in
theorem bbX12_ofWhale : cX12_ofWhale.data.toList.map UInt8.toNat = bX12_ofWhale := by decide +kernel
set_option maxRecDepth 100000 in
def tX12_ofWhale : Lean.RArray dLf := .branch 8 (.branch 4 (.branch 1 (.leaf (0, .aload_n 0, 1)) (.leaf (1, .getfield 20, 3))) (.branch 6 (.leaf (4, .bipush 107, 2)) (.branch 7 (.leaf (6, .iconst 4, 1)) (.leaf (7, .iload_n 1, 1))))) (.branch 11 (.branch 9 (.leaf (8, .imul, 1)) (.branch 10 (.leaf (9, .iadd, 1)) (.leaf (10, .iload_n 2, 1)))) (.branch 12 (.leaf (11, .iadd, 1)) (.branch 13 (.leaf (12, .iaload, 1)) (.leaf (13, .ireturn, 1)))))
noncomputable def oX12_ofWhale : List dLf := dFl tX12_ofWhale
theorem ofX12_ofWhale : dFl tX12_ofWhale = oX12_ofWhale := rfl
set_option maxRecDepth 100000 in
theorem odX12_ofWhale : ∀ q ∈ oX12_ofWhale, decode cX12_ofWhale q.1 = .ok (q.2.1, q.2.2) := q_go qT_ok bbX12_ofWhale oX12_ofWhale 0 (by decide +kernel)
theorem dX12_ofWhale_0 : decode cX12_ofWhale 0 = .ok (.aload_n 0, 1) := d_by (d_at odX12_ofWhale ofX12_ofWhale 0) rfl
theorem dX12_ofWhale_1 : decode cX12_ofWhale 1 = .ok (.getfield 20, 3) := d_by (d_at odX12_ofWhale ofX12_ofWhale 1) rfl
theorem dX12_ofWhale_4 : decode cX12_ofWhale 4 = .ok (.bipush 107, 2) := d_by (d_at odX12_ofWhale ofX12_ofWhale 4) rfl
theorem dX12_ofWhale_6 : decode cX12_ofWhale 6 = .ok (.iconst 4, 1) := d_by (d_at odX12_ofWhale ofX12_ofWhale 6) rfl
theorem dX12_ofWhale_7 : decode cX12_ofWhale 7 = .ok (.iload_n 1, 1) := d_by (d_at odX12_ofWhale ofX12_ofWhale 7) rfl
theorem dX12_ofWhale_8 : decode cX12_ofWhale 8 = .ok (.imul, 1) := d_by (d_at odX12_ofWhale ofX12_ofWhale 8) rfl
theorem dX12_ofWhale_9 : decode cX12_ofWhale 9 = .ok (.iadd, 1) := d_by (d_at odX12_ofWhale ofX12_ofWhale 9) rfl
theorem dX12_ofWhale_10 : decode cX12_ofWhale 10 = .ok (.iload_n 2, 1) := d_by (d_at odX12_ofWhale ofX12_ofWhale 10) rfl
theorem dX12_ofWhale_11 : decode cX12_ofWhale 11 = .ok (.iadd, 1) := d_by (d_at odX12_ofWhale ofX12_ofWhale 11) rfl
theorem dX12_ofWhale_12 : decode cX12_ofWhale 12 = .ok (.iaload, 1) := d_by (d_at odX12_ofWhale ofX12_ofWhale 12) rfl
theorem dX12_ofWhale_13 : decode cX12_ofWhale 13 = .ok (.ireturn, 1) := d_by (d_at odX12_ofWhale ofX12_ofWhale 13) rfl
set_option maxRecDepth 100000 in
def bX12_ofBox : List Nat := [42, 180, 0, 20, 16, 127, 7, 27, 104, 96, 28, 96, 46, 172]
set_option maxRecDepth 100000 in
theorem bbX12_ofBox : cX12_ofBox.data.toList.map UInt8.toNat = bX12_ofBox := by decide +kernel
set_option maxRecDepth 100000 in
def tX12_ofBox : Lean.RArray dLf := .branch 8 (.branch 4 (.branch 1 (.leaf (0, .aload_n 0, 1)) (.leaf (1, .getfield 20, 3))) (.branch 6 (.leaf (4, .bipush 127, 2)) (.branch 7 (.leaf (6, .iconst 4, 1)) (.leaf (7, .iload_n 1, 1))))) (.branch 11 (.branch 9 (.leaf (8, .imul, 1)) (.branch 10 (.leaf (9, .iadd, 1)) (.leaf (10, .iload_n 2, 1)))) (.branch 12 (.leaf (11, .iadd, 1)) (.branch 13 (.leaf (12, .iaload, 1)) (.leaf (13, .ireturn, 1)))))
noncomputable def oX12_ofBox : List dLf := dFl tX12_ofBox
theorem ofX12_ofBox : dFl tX12_ofBox = oX12_ofBox := rfl
set_option maxRecDepth 100000 in
theorem odX12_ofBox : ∀ q ∈ oX12_ofBox, decode cX12_ofBox q.1 = .ok (q.2.1, q.2.2) := q_go qT_ok bbX12_ofBox oX12_ofBox 0 (by decide +kernel)
theorem dX12_ofBox_0 : decode cX12_ofBox 0 = .ok (.aload_n 0, 1) := d_by (d_at odX12_ofBox ofX12_ofBox 0) rfl
theorem dX12_ofBox_1 : decode cX12_ofBox 1 = .ok (.getfield 20, 3) := d_by (d_at odX12_ofBox ofX12_ofBox 1) rfl
theorem dX12_ofBox_4 : decode cX12_ofBox 4 = .ok (.bipush 127, 2) := d_by (d_at odX12_ofBox ofX12_ofBox 4) rfl
theorem dX12_ofBox_6 : decode cX12_ofBox 6 = .ok (.iconst 4, 1) := d_by (d_at odX12_ofBox ofX12_ofBox 6) rfl
theorem dX12_ofBox_7 : decode cX12_ofBox 7 = .ok (.iload_n 1, 1) := d_by (d_at odX12_ofBox ofX12_ofBox 7) rfl
theorem dX12_ofBox_8 : decode cX12_ofBox 8 = .ok (.imul, 1) := d_by (d_at odX12_ofBox ofX12_ofBox 8) rfl
theorem dX12_ofBox_9 : decode cX12_ofBox 9 = .ok (.iadd, 1) := d_by (d_at odX12_ofBox ofX12_ofBox 9) rfl
theorem dX12_ofBox_10 : decode cX12_ofBox 10 = .ok (.iload_n 2, 1) := d_by (d_at odX12_ofBox ofX12_ofBox 10) rfl
theorem dX12_ofBox_11 : decode cX12_ofBox 11 = .ok (.iadd, 1) := d_by (d_at odX12_ofBox ofX12_ofBox 11) rfl
theorem dX12_ofBox_12 : decode cX12_ofBox 12 = .ok (.iaload, 1) := d_by (d_at odX12_ofBox ofX12_ofBox 12) rfl
theorem dX12_ofBox_13 : decode cX12_ofBox 13 = .ok (.ireturn, 1) := d_by (d_at odX12_ofBox ofX12_ofBox 13) rfl
set_option maxRecDepth 100000 in
def bX12_songLong : List Nat := [42, 180, 0, 20, 16, 10, 16, 7, 27, 104, 96, 46, 172]
set_option maxRecDepth 100000 in
theorem bbX12_songLong : cX12_songLong.data.toList.map UInt8.toNat = bX12_songLong := by decide +kernel
set_option maxRecDepth 100000 in
def tX12_songLong : Lean.RArray dLf := .branch 8 (.branch 4 (.branch 1 (.leaf (0, .aload_n 0, 1)) (.leaf (1, .getfield 20, 3))) (.branch 6 (.leaf (4, .bipush 10, 2)) (.leaf (6, .bipush 7, 2)))) (.branch 10 (.branch 9 (.leaf (8, .iload_n 1, 1)) (.leaf (9, .imul, 1))) (.branch 11 (.leaf (10, .iadd, 1)) (.branch 12 (.leaf (11, .iaload, 1)) (.leaf (12, .ireturn, 1)))))
noncomputable def oX12_songLong : List dLf := dFl tX12_songLong
theorem ofX12_songLong : dFl tX12_songLong = oX12_songLong := rfl
set_option maxRecDepth 100000 in
theorem odX12_songLong : ∀ q ∈ oX12_songLong, decode cX12_songLong q.1 = .ok (q.2.1, q.2.2) := q_go qT_ok bbX12_songLong oX12_songLong 0 (by decide +kernel)
theorem dX12_songLong_0 : decode cX12_songLong 0 = .ok (.aload_n 0, 1) := d_by (d_at odX12_songLong ofX12_songLong 0) rfl
theorem dX12_songLong_1 : decode cX12_songLong 1 = .ok (.getfield 20, 3) := d_by (d_at odX12_songLong ofX12_songLong 1) rfl
theorem dX12_songLong_4 : decode cX12_songLong 4 = .ok (.bipush 10, 2) := d_by (d_at odX12_songLong ofX12_songLong 4) rfl
theorem dX12_songLong_6 : decode cX12_songLong 6 = .ok (.bipush 7, 2) := d_by (d_at odX12_songLong ofX12_songLong 6) rfl
theorem dX12_songLong_8 : decode cX12_songLong 8 = .ok (.iload_n 1, 1) := d_by (d_at odX12_songLong ofX12_songLong 8) rfl
theorem dX12_songLong_9 : decode cX12_songLong 9 = .ok (.imul, 1) := d_by (d_at odX12_songLong ofX12_songLong 9) rfl
theorem dX12_songLong_10 : decode cX12_songLong 10 = .ok (.iadd, 1) := d_by (d_at odX12_songLong ofX12_songLong 10) rfl
theorem dX12_songLong_11 : decode cX12_songLong 11 = .ok (.iaload, 1) := d_by (d_at odX12_songLong ofX12_songLong 11) rfl
theorem dX12_songLong_12 : decode cX12_songLong 12 = .ok (.ireturn, 1) := d_by (d_at odX12_songLong ofX12_songLong 12) rfl
set_option maxRecDepth 100000 in
def bX12_boxLong : List Nat := [42, 42, 27, 4, 182, 1, 6, 182, 1, 9, 172]
set_option maxRecDepth 100000 in
theorem bbX12_boxLong : cX12_boxLong.data.toList.map UInt8.toNat = bX12_boxLong := by decide +kernel
set_option maxRecDepth 100000 in
def tX12_boxLong : Lean.RArray dLf := .branch 3 (.branch 1 (.leaf (0, .aload_n 0, 1)) (.branch 2 (.leaf (1, .aload_n 0, 1)) (.leaf (2, .iload_n 1, 1)))) (.branch 7 (.branch 4 (.leaf (3, .iconst 1, 1)) (.leaf (4, .invokevirtual 262, 3))) (.branch 10 (.leaf (7, .invokevirtual 265, 3)) (.leaf (10, .ireturn, 1))))
noncomputable def oX12_boxLong : List dLf := dFl tX12_boxLong
theorem ofX12_boxLong : dFl tX12_boxLong = oX12_boxLong := rfl
set_option maxRecDepth 100000 in
theorem odX12_boxLong : ∀ q ∈ oX12_boxLong, decode cX12_boxLong q.1 = .ok (q.2.1, q.2.2) := q_go qT_ok bbX12_boxLong oX12_boxLong 0 (by decide +kernel)
theorem dX12_boxLong_0 : decode cX12_boxLong 0 = .ok (.aload_n 0, 1) := d_by (d_at odX12_boxLong ofX12_boxLong 0) rfl
theorem dX12_boxLong_1 : decode cX12_boxLong 1 = .ok (.aload_n 0, 1) := d_by (d_at odX12_boxLong ofX12_boxLong 1) rfl
theorem dX12_boxLong_2 : decode cX12_boxLong 2 = .ok (.iload_n 1, 1) := d_by (d_at odX12_boxLong ofX12_boxLong 2) rfl
theorem dX12_boxLong_3 : decode cX12_boxLong 3 = .ok (.iconst 1, 1) := d_by (d_at odX12_boxLong ofX12_boxLong 3) rfl
theorem dX12_boxLong_4 : decode cX12_boxLong 4 = .ok (.invokevirtual 262, 3) := d_by (d_at odX12_boxLong ofX12_boxLong 4) rfl
theorem dX12_boxLong_7 : decode cX12_boxLong 7 = .ok (.invokevirtual 265, 3) := d_by (d_at odX12_boxLong ofX12_boxLong 7) rfl
theorem dX12_boxLong_10 : decode cX12_boxLong 10 = .ok (.ireturn, 1) := d_by (d_at odX12_boxLong ofX12_boxLong 10) rfl
set_option maxRecDepth 100000 in
def bX12_noteIn : List Nat := [42, 180, 0, 20, 5, 46, 154, 0, 7, 3, 167, 0, 18, 29, 42, 180, 0, 20, 5, 46, 108, 42, 180, 0, 20, 3, 46, 112, 54, 4, 42, 180, 0, 20, 16, 10, 16, 7, 27, 104, 96, 4, 96, 28, 96, 46, 42, 180, 0, 20, 3, 46, 96, 21, 4, 100, 42, 180, 0, 20, 3, 46, 112, 172]
set_option maxRecDepth 100000 in
theorem bbX12_noteIn : cX12_noteIn.data.toList.map UInt8.toNat = bX12_noteIn := by decide +kernel
set_option maxRecDepth 100000 in
def tX12_noteIn : Lean.RArray dLf := .branch 36 (.branch 19 (.branch 9 (.branch 4 (.branch 1 (.leaf (0, .aload_n 0, 1)) (.leaf (1, .getfield 20, 3))) (.branch 5 (.leaf (4, .iconst 2, 1)) (.branch 6 (.leaf (5, .iaload, 1)) (.leaf (6, .ifCond .ne 7, 3))))) (.branch 14 (.branch 10 (.leaf (9, .iconst 0, 1)) (.branch 13 (.leaf (10, .goto 18, 3)) (.leaf (13, .iload_n 3, 1)))) (.branch 15 (.leaf (14, .aload_n 0, 1)) (.branch 18 (.leaf (15, .getfield 20, 3)) (.leaf (18, .iconst 2, 1)))))) (.branch 26 (.branch 21 (.branch 20 (.leaf (19, .iaload, 1)) (.leaf (20, .idiv, 1))) (.branch 22 (.leaf (21, .aload_n 0, 1)) (.branch 25 (.leaf (22, .getfield 20, 3)) (.leaf (25, .iconst 0, 1))))) (.branch 30 (.branch 27 (.leaf (26, .iaload, 1)) (.branch 28 (.leaf (27, .irem, 1)) (.leaf (28, .istore 4, 2)))) (.branch 31 (.leaf (30, .aload_n 0, 1)) (.branch 34 (.leaf (31, .getfield 20, 3)) (.leaf (34, .bipush 10, 2))))))) (.branch 50 (.branch 42 (.branch 39 (.branch 38 (.leaf (36, .bipush 7, 2)) (.leaf (38, .iload_n 1, 1))) (.branch 40 (.leaf (39, .imul, 1)) (.branch 41 (.leaf (40, .iadd, 1)) (.leaf (41, .iconst 1, 1))))) (.branch 45 (.branch 43 (.leaf (42, .iadd, 1)) (.branch 44 (.leaf (43, .iload_n 2, 1)) (.leaf (44, .iadd, 1)))) (.branch 46 (.leaf (45, .iaload, 1)) (.branch 47 (.leaf (46, .aload_n 0, 1)) (.leaf (47, .getfield 20, 3)))))) (.branch 56 (.branch 52 (.branch 51 (.leaf (50, .iconst 0, 1)) (.leaf (51, .iaload, 1))) (.branch 53 (.leaf (52, .iadd, 1)) (.branch 55 (.leaf (53, .iload 4, 2)) (.leaf (55, .isub, 1))))) (.branch 61 (.branch 57 (.leaf (56, .aload_n 0, 1)) (.branch 60 (.leaf (57, .getfield 20, 3)) (.leaf (60, .iconst 0, 1)))) (.branch 62 (.leaf (61, .iaload, 1)) (.branch 63 (.leaf (62, .irem, 1)) (.leaf (63, .ireturn, 1)))))))
noncomputable def oX12_noteIn : List dLf := dFl tX12_noteIn
theorem ofX12_noteIn : dFl tX12_noteIn = oX12_noteIn := rfl
set_option maxRecDepth 100000 in
theorem odX12_noteIn : ∀ q ∈ oX12_noteIn, decode cX12_noteIn q.1 = .ok (q.2.1, q.2.2) := q_go qT_ok bbX12_noteIn oX12_noteIn 0 (by decide +kernel)
theorem dX12_noteIn_0 : decode cX12_noteIn 0 = .ok (.aload_n 0, 1) := d_by (d_at odX12_noteIn ofX12_noteIn 0) rfl
theorem dX12_noteIn_1 : decode cX12_noteIn 1 = .ok (.getfield 20, 3) := d_by (d_at odX12_noteIn ofX12_noteIn 1) rfl
theorem dX12_noteIn_4 : decode cX12_noteIn 4 = .ok (.iconst 2, 1) := d_by (d_at odX12_noteIn ofX12_noteIn 4) rfl
theorem dX12_noteIn_5 : decode cX12_noteIn 5 = .ok (.iaload, 1) := d_by (d_at odX12_noteIn ofX12_noteIn 5) rfl
theorem dX12_noteIn_6 : decode cX12_noteIn 6 = .ok (.ifCond .ne 7, 3) := d_by (d_at odX12_noteIn ofX12_noteIn 6) rfl
theorem dX12_noteIn_9 : decode cX12_noteIn 9 = .ok (.iconst 0, 1) := d_by (d_at odX12_noteIn ofX12_noteIn 9) rfl
theorem dX12_noteIn_10 : decode cX12_noteIn 10 = .ok (.goto 18, 3) := d_by (d_at odX12_noteIn ofX12_noteIn 10) rfl
theorem dX12_noteIn_13 : decode cX12_noteIn 13 = .ok (.iload_n 3, 1) := d_by (d_at odX12_noteIn ofX12_noteIn 13) rfl
theorem dX12_noteIn_14 : decode cX12_noteIn 14 = .ok (.aload_n 0, 1) := d_by (d_at odX12_noteIn ofX12_noteIn 14) rfl
theorem dX12_noteIn_15 : decode cX12_noteIn 15 = .ok (.getfield 20, 3) := d_by (d_at odX12_noteIn ofX12_noteIn 15) rfl
theorem dX12_noteIn_18 : decode cX12_noteIn 18 = .ok (.iconst 2, 1) := d_by (d_at odX12_noteIn ofX12_noteIn 18) rfl
theorem dX12_noteIn_19 : decode cX12_noteIn 19 = .ok (.iaload, 1) := d_by (d_at odX12_noteIn ofX12_noteIn 19) rfl
theorem dX12_noteIn_20 : decode cX12_noteIn 20 = .ok (.idiv, 1) := d_by (d_at odX12_noteIn ofX12_noteIn 20) rfl
theorem dX12_noteIn_21 : decode cX12_noteIn 21 = .ok (.aload_n 0, 1) := d_by (d_at odX12_noteIn ofX12_noteIn 21) rfl
theorem dX12_noteIn_22 : decode cX12_noteIn 22 = .ok (.getfield 20, 3) := d_by (d_at odX12_noteIn ofX12_noteIn 22) rfl
theorem dX12_noteIn_25 : decode cX12_noteIn 25 = .ok (.iconst 0, 1) := d_by (d_at odX12_noteIn ofX12_noteIn 25) rfl
theorem dX12_noteIn_26 : decode cX12_noteIn 26 = .ok (.iaload, 1) := d_by (d_at odX12_noteIn ofX12_noteIn 26) rfl
theorem dX12_noteIn_27 : decode cX12_noteIn 27 = .ok (.irem, 1) := d_by (d_at odX12_noteIn ofX12_noteIn 27) rfl
theorem dX12_noteIn_28 : decode cX12_noteIn 28 = .ok (.istore 4, 2) := d_by (d_at odX12_noteIn ofX12_noteIn 28) rfl
theorem dX12_noteIn_30 : decode cX12_noteIn 30 = .ok (.aload_n 0, 1) := d_by (d_at odX12_noteIn ofX12_noteIn 30) rfl
theorem dX12_noteIn_31 : decode cX12_noteIn 31 = .ok (.getfield 20, 3) := d_by (d_at odX12_noteIn ofX12_noteIn 31) rfl
theorem dX12_noteIn_34 : decode cX12_noteIn 34 = .ok (.bipush 10, 2) := d_by (d_at odX12_noteIn ofX12_noteIn 34) rfl
theorem dX12_noteIn_36 : decode cX12_noteIn 36 = .ok (.bipush 7, 2) := d_by (d_at odX12_noteIn ofX12_noteIn 36) rfl
theorem dX12_noteIn_38 : decode cX12_noteIn 38 = .ok (.iload_n 1, 1) := d_by (d_at odX12_noteIn ofX12_noteIn 38) rfl
theorem dX12_noteIn_39 : decode cX12_noteIn 39 = .ok (.imul, 1) := d_by (d_at odX12_noteIn ofX12_noteIn 39) rfl
theorem dX12_noteIn_40 : decode cX12_noteIn 40 = .ok (.iadd, 1) := d_by (d_at odX12_noteIn ofX12_noteIn 40) rfl
theorem dX12_noteIn_41 : decode cX12_noteIn 41 = .ok (.iconst 1, 1) := d_by (d_at odX12_noteIn ofX12_noteIn 41) rfl
theorem dX12_noteIn_42 : decode cX12_noteIn 42 = .ok (.iadd, 1) := d_by (d_at odX12_noteIn ofX12_noteIn 42) rfl
theorem dX12_noteIn_43 : decode cX12_noteIn 43 = .ok (.iload_n 2, 1) := d_by (d_at odX12_noteIn ofX12_noteIn 43) rfl
theorem dX12_noteIn_44 : decode cX12_noteIn 44 = .ok (.iadd, 1) := d_by (d_at odX12_noteIn ofX12_noteIn 44) rfl
theorem dX12_noteIn_45 : decode cX12_noteIn 45 = .ok (.iaload, 1) := d_by (d_at odX12_noteIn ofX12_noteIn 45) rfl
theorem dX12_noteIn_46 : decode cX12_noteIn 46 = .ok (.aload_n 0, 1) := d_by (d_at odX12_noteIn ofX12_noteIn 46) rfl
theorem dX12_noteIn_47 : decode cX12_noteIn 47 = .ok (.getfield 20, 3) := d_by (d_at odX12_noteIn ofX12_noteIn 47) rfl
theorem dX12_noteIn_50 : decode cX12_noteIn 50 = .ok (.iconst 0, 1) := d_by (d_at odX12_noteIn ofX12_noteIn 50) rfl
theorem dX12_noteIn_51 : decode cX12_noteIn 51 = .ok (.iaload, 1) := d_by (d_at odX12_noteIn ofX12_noteIn 51) rfl
theorem dX12_noteIn_52 : decode cX12_noteIn 52 = .ok (.iadd, 1) := d_by (d_at odX12_noteIn ofX12_noteIn 52) rfl
theorem dX12_noteIn_53 : decode cX12_noteIn 53 = .ok (.iload 4, 2) := d_by (d_at odX12_noteIn ofX12_noteIn 53) rfl
theorem dX12_noteIn_55 : decode cX12_noteIn 55 = .ok (.isub, 1) := d_by (d_at odX12_noteIn ofX12_noteIn 55) rfl
theorem dX12_noteIn_56 : decode cX12_noteIn 56 = .ok (.aload_n 0, 1) := d_by (d_at odX12_noteIn ofX12_noteIn 56) rfl
theorem dX12_noteIn_57 : decode cX12_noteIn 57 = .ok (.getfield 20, 3) := d_by (d_at odX12_noteIn ofX12_noteIn 57) rfl
theorem dX12_noteIn_60 : decode cX12_noteIn 60 = .ok (.iconst 0, 1) := d_by (d_at odX12_noteIn ofX12_noteIn 60) rfl
theorem dX12_noteIn_61 : decode cX12_noteIn 61 = .ok (.iaload, 1) := d_by (d_at odX12_noteIn ofX12_noteIn 61) rfl
theorem dX12_noteIn_62 : decode cX12_noteIn 62 = .ok (.irem, 1) := d_by (d_at odX12_noteIn ofX12_noteIn 62) rfl
theorem dX12_noteIn_63 : decode cX12_noteIn 63 = .ok (.ireturn, 1) := d_by (d_at odX12_noteIn ofX12_noteIn 63) rfl
set_option maxRecDepth 100000 in
def bX12_whale : List Nat := [42, 182, 0, 167, 42, 27, 182, 1, 12, 153, 0, 12, 28, 3, 7, 184, 0, 149, 154, 0, 9, 42, 4, 182, 0, 170, 172, 28, 170, 0, 0, 0, 0, 0, 0, 54, 0, 0, 0, 0, 0, 0, 0, 2, 0, 0, 0, 28, 0, 0, 0, 35, 0, 0, 0, 44, 42, 27, 3, 182, 1, 15, 172, 42, 180, 0, 26, 5, 27, 96, 46, 172, 42, 180, 0, 26, 16, 7, 27, 96, 46, 172, 42, 27, 28, 4, 100, 182, 1, 15, 172]
set_option maxRecDepth 100000 in
theorem bbX12_whale : cX12_whale.data.toList.map UInt8.toNat = bX12_whale := by decide +kernel
theorem eX12_whale_28 : decode cX12_whale 28 = .ok (.tableswitch 54 0 2 #[28, 35, 44], 28) := by decide +kernel
set_option maxRecDepth 100000 in
def oX12_whales0 : List dLf := [(0, .aload_n 0, 1), (1, .invokevirtual 167, 3), (4, .aload_n 0, 1), (5, .iload_n 1, 1), (6, .invokevirtual 268, 3), (9, .ifCond .eq 12, 3), (12, .iload_n 2, 1), (13, .iconst 0, 1), (14, .iconst 4, 1), (15, .invokestatic 149, 3), (18, .ifCond .ne 9, 3), (21, .aload_n 0, 1), (22, .iconst 1, 1), (23, .invokevirtual 170, 3), (26, .ireturn, 1), (27, .iload_n 2, 1)]
set_option maxRecDepth 100000 in
theorem odX12_whales0 : ∀ q ∈ oX12_whales0, decode cX12_whale q.1 = .ok (q.2.1, q.2.2) := q_go qT_ok bbX12_whale oX12_whales0 0 (by decide +kernel)
set_option maxRecDepth 100000 in
def oX12_whales2 : List dLf := [(56, .aload_n 0, 1), (57, .iload_n 1, 1), (58, .iconst 0, 1), (59, .invokevirtual 271, 3), (62, .ireturn, 1), (63, .aload_n 0, 1), (64, .getfield 26, 3), (67, .iconst 2, 1), (68, .iload_n 1, 1), (69, .iadd, 1), (70, .iaload, 1), (71, .ireturn, 1), (72, .aload_n 0, 1), (73, .getfield 26, 3), (76, .bipush 7, 2), (78, .iload_n 1, 1), (79, .iadd, 1), (80, .iaload, 1), (81, .ireturn, 1), (82, .aload_n 0, 1), (83, .iload_n 1, 1), (84, .iload_n 2, 1), (85, .iconst 1, 1), (86, .isub, 1), (87, .invokevirtual 271, 3), (90, .ireturn, 1)]
set_option maxRecDepth 100000 in
theorem odX12_whales2 : ∀ q ∈ oX12_whales2, decode cX12_whale q.1 = .ok (q.2.1, q.2.2) := q_go qT_ok bbX12_whale oX12_whales2 56 (by decide +kernel)
set_option maxRecDepth 100000 in
def oX12_whale : List dLf := [(0, .aload_n 0, 1), (1, .invokevirtual 167, 3), (4, .aload_n 0, 1), (5, .iload_n 1, 1), (6, .invokevirtual 268, 3), (9, .ifCond .eq 12, 3), (12, .iload_n 2, 1), (13, .iconst 0, 1), (14, .iconst 4, 1), (15, .invokestatic 149, 3), (18, .ifCond .ne 9, 3), (21, .aload_n 0, 1), (22, .iconst 1, 1), (23, .invokevirtual 170, 3), (26, .ireturn, 1), (27, .iload_n 2, 1), (28, .tableswitch 54 0 2 #[28, 35, 44], 28), (56, .aload_n 0, 1), (57, .iload_n 1, 1), (58, .iconst 0, 1), (59, .invokevirtual 271, 3), (62, .ireturn, 1), (63, .aload_n 0, 1), (64, .getfield 26, 3), (67, .iconst 2, 1), (68, .iload_n 1, 1), (69, .iadd, 1), (70, .iaload, 1), (71, .ireturn, 1), (72, .aload_n 0, 1), (73, .getfield 26, 3), (76, .bipush 7, 2), (78, .iload_n 1, 1), (79, .iadd, 1), (80, .iaload, 1), (81, .ireturn, 1), (82, .aload_n 0, 1), (83, .iload_n 1, 1), (84, .iload_n 2, 1), (85, .iconst 1, 1), (86, .isub, 1), (87, .invokevirtual 271, 3), (90, .ireturn, 1)]
set_option maxRecDepth 100000 in
theorem odX12_whale : ∀ q ∈ oX12_whale, decode cX12_whale q.1 = .ok (q.2.1, q.2.2) := by
  have e : oX12_whale = oX12_whales0 ++ ([(28, .tableswitch 54 0 2 #[28, 35, 44], 28)] ++ (oX12_whales2)) := rfl
  rw [e]
  exact List.forall_mem_append.mpr ⟨odX12_whales0, List.forall_mem_append.mpr ⟨(List.forall_mem_singleton.mpr eX12_whale_28), odX12_whales2⟩⟩
set_option maxRecDepth 100000 in
def tX12_whale : Lean.RArray dLf := .branch 62 (.branch 18 (.branch 9 (.branch 4 (.branch 1 (.leaf (0, .aload_n 0, 1)) (.leaf (1, .invokevirtual 167, 3))) (.branch 5 (.leaf (4, .aload_n 0, 1)) (.branch 6 (.leaf (5, .iload_n 1, 1)) (.leaf (6, .invokevirtual 268, 3))))) (.branch 13 (.branch 12 (.leaf (9, .ifCond .eq 12, 3)) (.leaf (12, .iload_n 2, 1))) (.branch 14 (.leaf (13, .iconst 0, 1)) (.branch 15 (.leaf (14, .iconst 4, 1)) (.leaf (15, .invokestatic 149, 3)))))) (.branch 27 (.branch 22 (.branch 21 (.leaf (18, .ifCond .ne 9, 3)) (.leaf (21, .aload_n 0, 1))) (.branch 23 (.leaf (22, .iconst 1, 1)) (.branch 26 (.leaf (23, .invokevirtual 170, 3)) (.leaf (26, .ireturn, 1))))) (.branch 57 (.branch 28 (.leaf (27, .iload_n 2, 1)) (.branch 56 (.leaf (28, .tableswitch 54 0 2 #[28, 35, 44], 28)) (.leaf (56, .aload_n 0, 1)))) (.branch 58 (.leaf (57, .iload_n 1, 1)) (.branch 59 (.leaf (58, .iconst 0, 1)) (.leaf (59, .invokevirtual 271, 3))))))) (.branch 78 (.branch 69 (.branch 64 (.branch 63 (.leaf (62, .ireturn, 1)) (.leaf (63, .aload_n 0, 1))) (.branch 67 (.leaf (64, .getfield 26, 3)) (.branch 68 (.leaf (67, .iconst 2, 1)) (.leaf (68, .iload_n 1, 1))))) (.branch 72 (.branch 70 (.leaf (69, .iadd, 1)) (.branch 71 (.leaf (70, .iaload, 1)) (.leaf (71, .ireturn, 1)))) (.branch 73 (.leaf (72, .aload_n 0, 1)) (.branch 76 (.leaf (73, .getfield 26, 3)) (.leaf (76, .bipush 7, 2)))))) (.branch 83 (.branch 80 (.branch 79 (.leaf (78, .iload_n 1, 1)) (.leaf (79, .iadd, 1))) (.branch 81 (.leaf (80, .iaload, 1)) (.branch 82 (.leaf (81, .ireturn, 1)) (.leaf (82, .aload_n 0, 1))))) (.branch 86 (.branch 84 (.leaf (83, .iload_n 1, 1)) (.branch 85 (.leaf (84, .iload_n 2, 1)) (.leaf (85, .iconst 1, 1)))) (.branch 87 (.leaf (86, .isub, 1)) (.branch 90 (.leaf (87, .invokevirtual 271, 3)) (.leaf (90, .ireturn, 1)))))))
set_option maxRecDepth 100000 in
theorem ofX12_whale : dFl tX12_whale = oX12_whale := rfl
theorem dX12_whale_0 : decode cX12_whale 0 = .ok (.aload_n 0, 1) := d_by (d_at odX12_whale ofX12_whale 0) rfl
theorem dX12_whale_1 : decode cX12_whale 1 = .ok (.invokevirtual 167, 3) := d_by (d_at odX12_whale ofX12_whale 1) rfl
theorem dX12_whale_4 : decode cX12_whale 4 = .ok (.aload_n 0, 1) := d_by (d_at odX12_whale ofX12_whale 4) rfl
theorem dX12_whale_5 : decode cX12_whale 5 = .ok (.iload_n 1, 1) := d_by (d_at odX12_whale ofX12_whale 5) rfl
theorem dX12_whale_6 : decode cX12_whale 6 = .ok (.invokevirtual 268, 3) := d_by (d_at odX12_whale ofX12_whale 6) rfl
theorem dX12_whale_9 : decode cX12_whale 9 = .ok (.ifCond .eq 12, 3) := d_by (d_at odX12_whale ofX12_whale 9) rfl
theorem dX12_whale_12 : decode cX12_whale 12 = .ok (.iload_n 2, 1) := d_by (d_at odX12_whale ofX12_whale 12) rfl
theorem dX12_whale_13 : decode cX12_whale 13 = .ok (.iconst 0, 1) := d_by (d_at odX12_whale ofX12_whale 13) rfl
theorem dX12_whale_14 : decode cX12_whale 14 = .ok (.iconst 4, 1) := d_by (d_at odX12_whale ofX12_whale 14) rfl
theorem dX12_whale_15 : decode cX12_whale 15 = .ok (.invokestatic 149, 3) := d_by (d_at odX12_whale ofX12_whale 15) rfl
theorem dX12_whale_18 : decode cX12_whale 18 = .ok (.ifCond .ne 9, 3) := d_by (d_at odX12_whale ofX12_whale 18) rfl
theorem dX12_whale_21 : decode cX12_whale 21 = .ok (.aload_n 0, 1) := d_by (d_at odX12_whale ofX12_whale 21) rfl
theorem dX12_whale_22 : decode cX12_whale 22 = .ok (.iconst 1, 1) := d_by (d_at odX12_whale ofX12_whale 22) rfl
theorem dX12_whale_23 : decode cX12_whale 23 = .ok (.invokevirtual 170, 3) := d_by (d_at odX12_whale ofX12_whale 23) rfl
theorem dX12_whale_26 : decode cX12_whale 26 = .ok (.ireturn, 1) := d_by (d_at odX12_whale ofX12_whale 26) rfl
theorem dX12_whale_27 : decode cX12_whale 27 = .ok (.iload_n 2, 1) := d_by (d_at odX12_whale ofX12_whale 27) rfl
theorem dX12_whale_28 : decode cX12_whale 28 = .ok (.tableswitch 54 0 2 #[28, 35, 44], 28) := d_by (d_at odX12_whale ofX12_whale 28) rfl
theorem dX12_whale_56 : decode cX12_whale 56 = .ok (.aload_n 0, 1) := d_by (d_at odX12_whale ofX12_whale 56) rfl
theorem dX12_whale_57 : decode cX12_whale 57 = .ok (.iload_n 1, 1) := d_by (d_at odX12_whale ofX12_whale 57) rfl
theorem dX12_whale_58 : decode cX12_whale 58 = .ok (.iconst 0, 1) := d_by (d_at odX12_whale ofX12_whale 58) rfl
theorem dX12_whale_59 : decode cX12_whale 59 = .ok (.invokevirtual 271, 3) := d_by (d_at odX12_whale ofX12_whale 59) rfl
theorem dX12_whale_62 : decode cX12_whale 62 = .ok (.ireturn, 1) := d_by (d_at odX12_whale ofX12_whale 62) rfl
theorem dX12_whale_63 : decode cX12_whale 63 = .ok (.aload_n 0, 1) := d_by (d_at odX12_whale ofX12_whale 63) rfl
theorem dX12_whale_64 : decode cX12_whale 64 = .ok (.getfield 26, 3) := d_by (d_at odX12_whale ofX12_whale 64) rfl
theorem dX12_whale_67 : decode cX12_whale 67 = .ok (.iconst 2, 1) := d_by (d_at odX12_whale ofX12_whale 67) rfl
theorem dX12_whale_68 : decode cX12_whale 68 = .ok (.iload_n 1, 1) := d_by (d_at odX12_whale ofX12_whale 68) rfl
theorem dX12_whale_69 : decode cX12_whale 69 = .ok (.iadd, 1) := d_by (d_at odX12_whale ofX12_whale 69) rfl
theorem dX12_whale_70 : decode cX12_whale 70 = .ok (.iaload, 1) := d_by (d_at odX12_whale ofX12_whale 70) rfl
theorem dX12_whale_71 : decode cX12_whale 71 = .ok (.ireturn, 1) := d_by (d_at odX12_whale ofX12_whale 71) rfl
theorem dX12_whale_72 : decode cX12_whale 72 = .ok (.aload_n 0, 1) := d_by (d_at odX12_whale ofX12_whale 72) rfl
theorem dX12_whale_73 : decode cX12_whale 73 = .ok (.getfield 26, 3) := d_by (d_at odX12_whale ofX12_whale 73) rfl
theorem dX12_whale_76 : decode cX12_whale 76 = .ok (.bipush 7, 2) := d_by (d_at odX12_whale ofX12_whale 76) rfl
theorem dX12_whale_78 : decode cX12_whale 78 = .ok (.iload_n 1, 1) := d_by (d_at odX12_whale ofX12_whale 78) rfl
theorem dX12_whale_79 : decode cX12_whale 79 = .ok (.iadd, 1) := d_by (d_at odX12_whale ofX12_whale 79) rfl
theorem dX12_whale_80 : decode cX12_whale 80 = .ok (.iaload, 1) := d_by (d_at odX12_whale ofX12_whale 80) rfl
theorem dX12_whale_81 : decode cX12_whale 81 = .ok (.ireturn, 1) := d_by (d_at odX12_whale ofX12_whale 81) rfl
theorem dX12_whale_82 : decode cX12_whale 82 = .ok (.aload_n 0, 1) := d_by (d_at odX12_whale ofX12_whale 82) rfl
theorem dX12_whale_83 : decode cX12_whale 83 = .ok (.iload_n 1, 1) := d_by (d_at odX12_whale ofX12_whale 83) rfl
theorem dX12_whale_84 : decode cX12_whale 84 = .ok (.iload_n 2, 1) := d_by (d_at odX12_whale ofX12_whale 84) rfl
theorem dX12_whale_85 : decode cX12_whale 85 = .ok (.iconst 1, 1) := d_by (d_at odX12_whale ofX12_whale 85) rfl
theorem dX12_whale_86 : decode cX12_whale 86 = .ok (.isub, 1) := d_by (d_at odX12_whale ofX12_whale 86) rfl
theorem dX12_whale_87 : decode cX12_whale 87 = .ok (.invokevirtual 271, 3) := d_by (d_at odX12_whale ofX12_whale 87) rfl
theorem dX12_whale_90 : decode cX12_whale 90 = .ok (.ireturn, 1) := d_by (d_at odX12_whale ofX12_whale 90) rfl
set_option maxRecDepth 100000 in
def bX12_box : List Nat := [42, 182, 0, 167, 42, 27, 182, 1, 18, 153, 0, 12, 28, 3, 8, 184, 0, 149, 154, 0, 9, 42, 4, 182, 0, 170, 172, 28, 7, 162, 0, 10, 42, 27, 28, 182, 1, 6, 172, 28, 7, 160, 0, 15, 42, 180, 0, 26, 16, 12, 27, 96, 46, 167, 0, 12, 42, 180, 0, 26, 16, 20, 27, 96, 46, 62, 29, 154, 0, 8, 16, 254, 167, 0, 6, 29, 4, 100, 172]
set_option maxRecDepth 100000 in
theorem bbX12_box : cX12_box.data.toList.map UInt8.toNat = bX12_box := by decide +kernel
set_option maxRecDepth 100000 in
def tX12_box : Lean.RArray dLf := .branch 40 (.branch 22 (.branch 12 (.branch 5 (.branch 1 (.leaf (0, .aload_n 0, 1)) (.branch 4 (.leaf (1, .invokevirtual 167, 3)) (.leaf (4, .aload_n 0, 1)))) (.branch 6 (.leaf (5, .iload_n 1, 1)) (.branch 9 (.leaf (6, .invokevirtual 274, 3)) (.leaf (9, .ifCond .eq 12, 3))))) (.branch 15 (.branch 13 (.leaf (12, .iload_n 2, 1)) (.branch 14 (.leaf (13, .iconst 0, 1)) (.leaf (14, .iconst 5, 1)))) (.branch 18 (.leaf (15, .invokestatic 149, 3)) (.branch 21 (.leaf (18, .ifCond .ne 9, 3)) (.leaf (21, .aload_n 0, 1)))))) (.branch 32 (.branch 27 (.branch 23 (.leaf (22, .iconst 1, 1)) (.branch 26 (.leaf (23, .invokevirtual 170, 3)) (.leaf (26, .ireturn, 1)))) (.branch 28 (.leaf (27, .iload_n 2, 1)) (.branch 29 (.leaf (28, .iconst 4, 1)) (.leaf (29, .if_icmp .ge 10, 3))))) (.branch 35 (.branch 33 (.leaf (32, .aload_n 0, 1)) (.branch 34 (.leaf (33, .iload_n 1, 1)) (.leaf (34, .iload_n 2, 1)))) (.branch 38 (.leaf (35, .invokevirtual 262, 3)) (.branch 39 (.leaf (38, .ireturn, 1)) (.leaf (39, .iload_n 2, 1))))))) (.branch 62 (.branch 51 (.branch 45 (.branch 41 (.leaf (40, .iconst 4, 1)) (.branch 44 (.leaf (41, .if_icmp .ne 15, 3)) (.leaf (44, .aload_n 0, 1)))) (.branch 48 (.leaf (45, .getfield 26, 3)) (.branch 50 (.leaf (48, .bipush 12, 2)) (.leaf (50, .iload_n 1, 1))))) (.branch 56 (.branch 52 (.leaf (51, .iadd, 1)) (.branch 53 (.leaf (52, .iaload, 1)) (.leaf (53, .goto 12, 3)))) (.branch 57 (.leaf (56, .aload_n 0, 1)) (.branch 60 (.leaf (57, .getfield 26, 3)) (.leaf (60, .bipush 20, 2)))))) (.branch 70 (.branch 65 (.branch 63 (.leaf (62, .iload_n 1, 1)) (.branch 64 (.leaf (63, .iadd, 1)) (.leaf (64, .iaload, 1)))) (.branch 66 (.leaf (65, .istore_n 3, 1)) (.branch 67 (.leaf (66, .iload_n 3, 1)) (.leaf (67, .ifCond .ne 8, 3))))) (.branch 76 (.branch 72 (.leaf (70, .bipush (-2), 2)) (.branch 75 (.leaf (72, .goto 6, 3)) (.leaf (75, .iload_n 3, 1)))) (.branch 77 (.leaf (76, .iconst 1, 1)) (.branch 78 (.leaf (77, .isub, 1)) (.leaf (78, .ireturn, 1)))))))
noncomputable def oX12_box : List dLf := dFl tX12_box
theorem ofX12_box : dFl tX12_box = oX12_box := rfl
set_option maxRecDepth 100000 in
theorem odX12_box : ∀ q ∈ oX12_box, decode cX12_box q.1 = .ok (q.2.1, q.2.2) := q_go qT_ok bbX12_box oX12_box 0 (by decide +kernel)
theorem dX12_box_0 : decode cX12_box 0 = .ok (.aload_n 0, 1) := d_by (d_at odX12_box ofX12_box 0) rfl
theorem dX12_box_1 : decode cX12_box 1 = .ok (.invokevirtual 167, 3) := d_by (d_at odX12_box ofX12_box 1) rfl
theorem dX12_box_4 : decode cX12_box 4 = .ok (.aload_n 0, 1) := d_by (d_at odX12_box ofX12_box 4) rfl
theorem dX12_box_5 : decode cX12_box 5 = .ok (.iload_n 1, 1) := d_by (d_at odX12_box ofX12_box 5) rfl
theorem dX12_box_6 : decode cX12_box 6 = .ok (.invokevirtual 274, 3) := d_by (d_at odX12_box ofX12_box 6) rfl
theorem dX12_box_9 : decode cX12_box 9 = .ok (.ifCond .eq 12, 3) := d_by (d_at odX12_box ofX12_box 9) rfl
theorem dX12_box_12 : decode cX12_box 12 = .ok (.iload_n 2, 1) := d_by (d_at odX12_box ofX12_box 12) rfl
theorem dX12_box_13 : decode cX12_box 13 = .ok (.iconst 0, 1) := d_by (d_at odX12_box ofX12_box 13) rfl
theorem dX12_box_14 : decode cX12_box 14 = .ok (.iconst 5, 1) := d_by (d_at odX12_box ofX12_box 14) rfl
theorem dX12_box_15 : decode cX12_box 15 = .ok (.invokestatic 149, 3) := d_by (d_at odX12_box ofX12_box 15) rfl
theorem dX12_box_18 : decode cX12_box 18 = .ok (.ifCond .ne 9, 3) := d_by (d_at odX12_box ofX12_box 18) rfl
theorem dX12_box_21 : decode cX12_box 21 = .ok (.aload_n 0, 1) := d_by (d_at odX12_box ofX12_box 21) rfl
theorem dX12_box_22 : decode cX12_box 22 = .ok (.iconst 1, 1) := d_by (d_at odX12_box ofX12_box 22) rfl
theorem dX12_box_23 : decode cX12_box 23 = .ok (.invokevirtual 170, 3) := d_by (d_at odX12_box ofX12_box 23) rfl
theorem dX12_box_26 : decode cX12_box 26 = .ok (.ireturn, 1) := d_by (d_at odX12_box ofX12_box 26) rfl
theorem dX12_box_27 : decode cX12_box 27 = .ok (.iload_n 2, 1) := d_by (d_at odX12_box ofX12_box 27) rfl
theorem dX12_box_28 : decode cX12_box 28 = .ok (.iconst 4, 1) := d_by (d_at odX12_box ofX12_box 28) rfl
theorem dX12_box_29 : decode cX12_box 29 = .ok (.if_icmp .ge 10, 3) := d_by (d_at odX12_box ofX12_box 29) rfl
theorem dX12_box_32 : decode cX12_box 32 = .ok (.aload_n 0, 1) := d_by (d_at odX12_box ofX12_box 32) rfl
theorem dX12_box_33 : decode cX12_box 33 = .ok (.iload_n 1, 1) := d_by (d_at odX12_box ofX12_box 33) rfl
theorem dX12_box_34 : decode cX12_box 34 = .ok (.iload_n 2, 1) := d_by (d_at odX12_box ofX12_box 34) rfl
theorem dX12_box_35 : decode cX12_box 35 = .ok (.invokevirtual 262, 3) := d_by (d_at odX12_box ofX12_box 35) rfl
theorem dX12_box_38 : decode cX12_box 38 = .ok (.ireturn, 1) := d_by (d_at odX12_box ofX12_box 38) rfl
theorem dX12_box_39 : decode cX12_box 39 = .ok (.iload_n 2, 1) := d_by (d_at odX12_box ofX12_box 39) rfl
theorem dX12_box_40 : decode cX12_box 40 = .ok (.iconst 4, 1) := d_by (d_at odX12_box ofX12_box 40) rfl
theorem dX12_box_41 : decode cX12_box 41 = .ok (.if_icmp .ne 15, 3) := d_by (d_at odX12_box ofX12_box 41) rfl
theorem dX12_box_44 : decode cX12_box 44 = .ok (.aload_n 0, 1) := d_by (d_at odX12_box ofX12_box 44) rfl
theorem dX12_box_45 : decode cX12_box 45 = .ok (.getfield 26, 3) := d_by (d_at odX12_box ofX12_box 45) rfl
theorem dX12_box_48 : decode cX12_box 48 = .ok (.bipush 12, 2) := d_by (d_at odX12_box ofX12_box 48) rfl
theorem dX12_box_50 : decode cX12_box 50 = .ok (.iload_n 1, 1) := d_by (d_at odX12_box ofX12_box 50) rfl
theorem dX12_box_51 : decode cX12_box 51 = .ok (.iadd, 1) := d_by (d_at odX12_box ofX12_box 51) rfl
theorem dX12_box_52 : decode cX12_box 52 = .ok (.iaload, 1) := d_by (d_at odX12_box ofX12_box 52) rfl
theorem dX12_box_53 : decode cX12_box 53 = .ok (.goto 12, 3) := d_by (d_at odX12_box ofX12_box 53) rfl
theorem dX12_box_56 : decode cX12_box 56 = .ok (.aload_n 0, 1) := d_by (d_at odX12_box ofX12_box 56) rfl
theorem dX12_box_57 : decode cX12_box 57 = .ok (.getfield 26, 3) := d_by (d_at odX12_box ofX12_box 57) rfl
theorem dX12_box_60 : decode cX12_box 60 = .ok (.bipush 20, 2) := d_by (d_at odX12_box ofX12_box 60) rfl
theorem dX12_box_62 : decode cX12_box 62 = .ok (.iload_n 1, 1) := d_by (d_at odX12_box ofX12_box 62) rfl
theorem dX12_box_63 : decode cX12_box 63 = .ok (.iadd, 1) := d_by (d_at odX12_box ofX12_box 63) rfl
theorem dX12_box_64 : decode cX12_box 64 = .ok (.iaload, 1) := d_by (d_at odX12_box ofX12_box 64) rfl
theorem dX12_box_65 : decode cX12_box 65 = .ok (.istore_n 3, 1) := d_by (d_at odX12_box ofX12_box 65) rfl
theorem dX12_box_66 : decode cX12_box 66 = .ok (.iload_n 3, 1) := d_by (d_at odX12_box ofX12_box 66) rfl
theorem dX12_box_67 : decode cX12_box 67 = .ok (.ifCond .ne 8, 3) := d_by (d_at odX12_box ofX12_box 67) rfl
theorem dX12_box_70 : decode cX12_box 70 = .ok (.bipush (-2), 2) := d_by (d_at odX12_box ofX12_box 70) rfl
theorem dX12_box_72 : decode cX12_box 72 = .ok (.goto 6, 3) := d_by (d_at odX12_box ofX12_box 72) rfl
theorem dX12_box_75 : decode cX12_box 75 = .ok (.iload_n 3, 1) := d_by (d_at odX12_box ofX12_box 75) rfl
theorem dX12_box_76 : decode cX12_box 76 = .ok (.iconst 1, 1) := d_by (d_at odX12_box ofX12_box 76) rfl
theorem dX12_box_77 : decode cX12_box 77 = .ok (.isub, 1) := d_by (d_at odX12_box ofX12_box 77) rfl
theorem dX12_box_78 : decode cX12_box 78 = .ok (.ireturn, 1) := d_by (d_at odX12_box ofX12_box 78) rfl
set_option maxRecDepth 100000 in
def bX12_length : List Nat := [42, 182, 0, 167, 42, 27, 182, 1, 21, 153, 0, 11, 42, 27, 182, 1, 9, 167, 0, 8, 42, 4, 182, 0, 170, 172]
set_option maxRecDepth 100000 in
theorem bbX12_length : cX12_length.data.toList.map UInt8.toNat = bX12_length := by decide +kernel
set_option maxRecDepth 100000 in
def tX12_length : Lean.RArray dLf := .branch 13 (.branch 5 (.branch 1 (.leaf (0, .aload_n 0, 1)) (.branch 4 (.leaf (1, .invokevirtual 167, 3)) (.leaf (4, .aload_n 0, 1)))) (.branch 9 (.branch 6 (.leaf (5, .iload_n 1, 1)) (.leaf (6, .invokevirtual 277, 3))) (.branch 12 (.leaf (9, .ifCond .eq 11, 3)) (.leaf (12, .aload_n 0, 1))))) (.branch 20 (.branch 14 (.leaf (13, .iload_n 1, 1)) (.branch 17 (.leaf (14, .invokevirtual 265, 3)) (.leaf (17, .goto 8, 3)))) (.branch 22 (.branch 21 (.leaf (20, .aload_n 0, 1)) (.leaf (21, .iconst 1, 1))) (.branch 25 (.leaf (22, .invokevirtual 170, 3)) (.leaf (25, .ireturn, 1)))))
noncomputable def oX12_length : List dLf := dFl tX12_length
theorem ofX12_length : dFl tX12_length = oX12_length := rfl
set_option maxRecDepth 100000 in
theorem odX12_length : ∀ q ∈ oX12_length, decode cX12_length q.1 = .ok (q.2.1, q.2.2) := q_go qT_ok bbX12_length oX12_length 0 (by decide +kernel)
theorem dX12_length_0 : decode cX12_length 0 = .ok (.aload_n 0, 1) := d_by (d_at odX12_length ofX12_length 0) rfl
theorem dX12_length_1 : decode cX12_length 1 = .ok (.invokevirtual 167, 3) := d_by (d_at odX12_length ofX12_length 1) rfl
theorem dX12_length_4 : decode cX12_length 4 = .ok (.aload_n 0, 1) := d_by (d_at odX12_length ofX12_length 4) rfl
theorem dX12_length_5 : decode cX12_length 5 = .ok (.iload_n 1, 1) := d_by (d_at odX12_length ofX12_length 5) rfl
theorem dX12_length_6 : decode cX12_length 6 = .ok (.invokevirtual 277, 3) := d_by (d_at odX12_length ofX12_length 6) rfl
theorem dX12_length_9 : decode cX12_length 9 = .ok (.ifCond .eq 11, 3) := d_by (d_at odX12_length ofX12_length 9) rfl
theorem dX12_length_12 : decode cX12_length 12 = .ok (.aload_n 0, 1) := d_by (d_at odX12_length ofX12_length 12) rfl
theorem dX12_length_13 : decode cX12_length 13 = .ok (.iload_n 1, 1) := d_by (d_at odX12_length ofX12_length 13) rfl
theorem dX12_length_14 : decode cX12_length 14 = .ok (.invokevirtual 265, 3) := d_by (d_at odX12_length ofX12_length 14) rfl
theorem dX12_length_17 : decode cX12_length 17 = .ok (.goto 8, 3) := d_by (d_at odX12_length ofX12_length 17) rfl
theorem dX12_length_20 : decode cX12_length 20 = .ok (.aload_n 0, 1) := d_by (d_at odX12_length ofX12_length 20) rfl
theorem dX12_length_21 : decode cX12_length 21 = .ok (.iconst 1, 1) := d_by (d_at odX12_length ofX12_length 21) rfl
theorem dX12_length_22 : decode cX12_length 22 = .ok (.invokevirtual 170, 3) := d_by (d_at odX12_length ofX12_length 22) rfl
theorem dX12_length_25 : decode cX12_length 25 = .ok (.ireturn, 1) := d_by (d_at odX12_length ofX12_length 25) rfl
set_option maxRecDepth 100000 in
def bX12_note : List Nat := [42, 182, 0, 167, 42, 27, 182, 1, 21, 153, 0, 33, 28, 3, 42, 27, 182, 1, 9, 4, 100, 184, 0, 149, 153, 0, 18, 42, 27, 28, 42, 180, 0, 26, 3, 46, 182, 1, 24, 167, 0, 8, 42, 4, 182, 0, 170, 172]
set_option maxRecDepth 100000 in
theorem bbX12_note : cX12_note.data.toList.map UInt8.toNat = bX12_note := by decide +kernel
set_option maxRecDepth 100000 in
def tX12_note : Lean.RArray dLf := .branch 24 (.branch 13 (.branch 5 (.branch 1 (.leaf (0, .aload_n 0, 1)) (.branch 4 (.leaf (1, .invokevirtual 167, 3)) (.leaf (4, .aload_n 0, 1)))) (.branch 9 (.branch 6 (.leaf (5, .iload_n 1, 1)) (.leaf (6, .invokevirtual 277, 3))) (.branch 12 (.leaf (9, .ifCond .eq 33, 3)) (.leaf (12, .iload_n 2, 1))))) (.branch 16 (.branch 14 (.leaf (13, .iconst 0, 1)) (.branch 15 (.leaf (14, .aload_n 0, 1)) (.leaf (15, .iload_n 1, 1)))) (.branch 20 (.branch 19 (.leaf (16, .invokevirtual 265, 3)) (.leaf (19, .iconst 1, 1))) (.branch 21 (.leaf (20, .isub, 1)) (.leaf (21, .invokestatic 149, 3)))))) (.branch 35 (.branch 29 (.branch 27 (.leaf (24, .ifCond .eq 18, 3)) (.branch 28 (.leaf (27, .aload_n 0, 1)) (.leaf (28, .iload_n 1, 1)))) (.branch 31 (.branch 30 (.leaf (29, .iload_n 2, 1)) (.leaf (30, .aload_n 0, 1))) (.branch 34 (.leaf (31, .getfield 26, 3)) (.leaf (34, .iconst 0, 1))))) (.branch 42 (.branch 36 (.leaf (35, .iaload, 1)) (.branch 39 (.leaf (36, .invokevirtual 280, 3)) (.leaf (39, .goto 8, 3)))) (.branch 44 (.branch 43 (.leaf (42, .aload_n 0, 1)) (.leaf (43, .iconst 1, 1))) (.branch 47 (.leaf (44, .invokevirtual 170, 3)) (.leaf (47, .ireturn, 1))))))
noncomputable def oX12_note : List dLf := dFl tX12_note
theorem ofX12_note : dFl tX12_note = oX12_note := rfl
set_option maxRecDepth 100000 in
theorem odX12_note : ∀ q ∈ oX12_note, decode cX12_note q.1 = .ok (q.2.1, q.2.2) := q_go qT_ok bbX12_note oX12_note 0 (by decide +kernel)
theorem dX12_note_0 : decode cX12_note 0 = .ok (.aload_n 0, 1) := d_by (d_at odX12_note ofX12_note 0) rfl
theorem dX12_note_1 : decode cX12_note 1 = .ok (.invokevirtual 167, 3) := d_by (d_at odX12_note ofX12_note 1) rfl
theorem dX12_note_4 : decode cX12_note 4 = .ok (.aload_n 0, 1) := d_by (d_at odX12_note ofX12_note 4) rfl
theorem dX12_note_5 : decode cX12_note 5 = .ok (.iload_n 1, 1) := d_by (d_at odX12_note ofX12_note 5) rfl
theorem dX12_note_6 : decode cX12_note 6 = .ok (.invokevirtual 277, 3) := d_by (d_at odX12_note ofX12_note 6) rfl
theorem dX12_note_9 : decode cX12_note 9 = .ok (.ifCond .eq 33, 3) := d_by (d_at odX12_note ofX12_note 9) rfl
theorem dX12_note_12 : decode cX12_note 12 = .ok (.iload_n 2, 1) := d_by (d_at odX12_note ofX12_note 12) rfl
theorem dX12_note_13 : decode cX12_note 13 = .ok (.iconst 0, 1) := d_by (d_at odX12_note ofX12_note 13) rfl
theorem dX12_note_14 : decode cX12_note 14 = .ok (.aload_n 0, 1) := d_by (d_at odX12_note ofX12_note 14) rfl
theorem dX12_note_15 : decode cX12_note 15 = .ok (.iload_n 1, 1) := d_by (d_at odX12_note ofX12_note 15) rfl
theorem dX12_note_16 : decode cX12_note 16 = .ok (.invokevirtual 265, 3) := d_by (d_at odX12_note ofX12_note 16) rfl
theorem dX12_note_19 : decode cX12_note 19 = .ok (.iconst 1, 1) := d_by (d_at odX12_note ofX12_note 19) rfl
theorem dX12_note_20 : decode cX12_note 20 = .ok (.isub, 1) := d_by (d_at odX12_note ofX12_note 20) rfl
theorem dX12_note_21 : decode cX12_note 21 = .ok (.invokestatic 149, 3) := d_by (d_at odX12_note ofX12_note 21) rfl
theorem dX12_note_24 : decode cX12_note 24 = .ok (.ifCond .eq 18, 3) := d_by (d_at odX12_note ofX12_note 24) rfl
theorem dX12_note_27 : decode cX12_note 27 = .ok (.aload_n 0, 1) := d_by (d_at odX12_note ofX12_note 27) rfl
theorem dX12_note_28 : decode cX12_note 28 = .ok (.iload_n 1, 1) := d_by (d_at odX12_note ofX12_note 28) rfl
theorem dX12_note_29 : decode cX12_note 29 = .ok (.iload_n 2, 1) := d_by (d_at odX12_note ofX12_note 29) rfl
theorem dX12_note_30 : decode cX12_note 30 = .ok (.aload_n 0, 1) := d_by (d_at odX12_note ofX12_note 30) rfl
theorem dX12_note_31 : decode cX12_note 31 = .ok (.getfield 26, 3) := d_by (d_at odX12_note ofX12_note 31) rfl
theorem dX12_note_34 : decode cX12_note 34 = .ok (.iconst 0, 1) := d_by (d_at odX12_note ofX12_note 34) rfl
theorem dX12_note_35 : decode cX12_note 35 = .ok (.iaload, 1) := d_by (d_at odX12_note ofX12_note 35) rfl
theorem dX12_note_36 : decode cX12_note 36 = .ok (.invokevirtual 280, 3) := d_by (d_at odX12_note ofX12_note 36) rfl
theorem dX12_note_39 : decode cX12_note 39 = .ok (.goto 8, 3) := d_by (d_at odX12_note ofX12_note 39) rfl
theorem dX12_note_42 : decode cX12_note 42 = .ok (.aload_n 0, 1) := d_by (d_at odX12_note ofX12_note 42) rfl
theorem dX12_note_43 : decode cX12_note 43 = .ok (.iconst 1, 1) := d_by (d_at odX12_note ofX12_note 43) rfl
theorem dX12_note_44 : decode cX12_note 44 = .ok (.invokevirtual 170, 3) := d_by (d_at odX12_note ofX12_note 44) rfl
theorem dX12_note_47 : decode cX12_note 47 = .ok (.ireturn, 1) := d_by (d_at odX12_note ofX12_note 47) rfl
set_option maxRecDepth 100000 in
def bX12_sung : List Nat := [42, 182, 0, 167, 42, 27, 182, 1, 18, 153, 0, 35, 28, 3, 42, 27, 182, 1, 28, 4, 100, 184, 0, 149, 153, 0, 20, 42, 180, 0, 26, 16, 28, 16, 6, 27, 104, 96, 28, 96, 46, 167, 0, 8, 42, 4, 182, 0, 170, 172]
set_option maxRecDepth 100000 in
theorem bbX12_sung : cX12_sung.data.toList.map UInt8.toNat = bX12_sung := by decide +kernel
set_option maxRecDepth 100000 in
def tX12_sung : Lean.RArray dLf := .branch 27 (.branch 13 (.branch 5 (.branch 1 (.leaf (0, .aload_n 0, 1)) (.branch 4 (.leaf (1, .invokevirtual 167, 3)) (.leaf (4, .aload_n 0, 1)))) (.branch 9 (.branch 6 (.leaf (5, .iload_n 1, 1)) (.leaf (6, .invokevirtual 274, 3))) (.branch 12 (.leaf (9, .ifCond .eq 35, 3)) (.leaf (12, .iload_n 2, 1))))) (.branch 19 (.branch 15 (.branch 14 (.leaf (13, .iconst 0, 1)) (.leaf (14, .aload_n 0, 1))) (.branch 16 (.leaf (15, .iload_n 1, 1)) (.leaf (16, .invokevirtual 284, 3)))) (.branch 21 (.branch 20 (.leaf (19, .iconst 1, 1)) (.leaf (20, .isub, 1))) (.branch 24 (.leaf (21, .invokestatic 149, 3)) (.leaf (24, .ifCond .eq 20, 3)))))) (.branch 38 (.branch 33 (.branch 28 (.leaf (27, .aload_n 0, 1)) (.branch 31 (.leaf (28, .getfield 26, 3)) (.leaf (31, .bipush 28, 2)))) (.branch 36 (.branch 35 (.leaf (33, .bipush 6, 2)) (.leaf (35, .iload_n 1, 1))) (.branch 37 (.leaf (36, .imul, 1)) (.leaf (37, .iadd, 1))))) (.branch 44 (.branch 40 (.branch 39 (.leaf (38, .iload_n 2, 1)) (.leaf (39, .iadd, 1))) (.branch 41 (.leaf (40, .iaload, 1)) (.leaf (41, .goto 8, 3)))) (.branch 46 (.branch 45 (.leaf (44, .aload_n 0, 1)) (.leaf (45, .iconst 1, 1))) (.branch 49 (.leaf (46, .invokevirtual 170, 3)) (.leaf (49, .ireturn, 1))))))
noncomputable def oX12_sung : List dLf := dFl tX12_sung
theorem ofX12_sung : dFl tX12_sung = oX12_sung := rfl
set_option maxRecDepth 100000 in
theorem odX12_sung : ∀ q ∈ oX12_sung, decode cX12_sung q.1 = .ok (q.2.1, q.2.2) := q_go qT_ok bbX12_sung oX12_sung 0 (by decide +kernel)
theorem dX12_sung_0 : decode cX12_sung 0 = .ok (.aload_n 0, 1) := d_by (d_at odX12_sung ofX12_sung 0) rfl
theorem dX12_sung_1 : decode cX12_sung 1 = .ok (.invokevirtual 167, 3) := d_by (d_at odX12_sung ofX12_sung 1) rfl
theorem dX12_sung_4 : decode cX12_sung 4 = .ok (.aload_n 0, 1) := d_by (d_at odX12_sung ofX12_sung 4) rfl
theorem dX12_sung_5 : decode cX12_sung 5 = .ok (.iload_n 1, 1) := d_by (d_at odX12_sung ofX12_sung 5) rfl
theorem dX12_sung_6 : decode cX12_sung 6 = .ok (.invokevirtual 274, 3) := d_by (d_at odX12_sung ofX12_sung 6) rfl
theorem dX12_sung_9 : decode cX12_sung 9 = .ok (.ifCond .eq 35, 3) := d_by (d_at odX12_sung ofX12_sung 9) rfl
theorem dX12_sung_12 : decode cX12_sung 12 = .ok (.iload_n 2, 1) := d_by (d_at odX12_sung ofX12_sung 12) rfl
theorem dX12_sung_13 : decode cX12_sung 13 = .ok (.iconst 0, 1) := d_by (d_at odX12_sung ofX12_sung 13) rfl
theorem dX12_sung_14 : decode cX12_sung 14 = .ok (.aload_n 0, 1) := d_by (d_at odX12_sung ofX12_sung 14) rfl
theorem dX12_sung_15 : decode cX12_sung 15 = .ok (.iload_n 1, 1) := d_by (d_at odX12_sung ofX12_sung 15) rfl
theorem dX12_sung_16 : decode cX12_sung 16 = .ok (.invokevirtual 284, 3) := d_by (d_at odX12_sung ofX12_sung 16) rfl
theorem dX12_sung_19 : decode cX12_sung 19 = .ok (.iconst 1, 1) := d_by (d_at odX12_sung ofX12_sung 19) rfl
theorem dX12_sung_20 : decode cX12_sung 20 = .ok (.isub, 1) := d_by (d_at odX12_sung ofX12_sung 20) rfl
theorem dX12_sung_21 : decode cX12_sung 21 = .ok (.invokestatic 149, 3) := d_by (d_at odX12_sung ofX12_sung 21) rfl
theorem dX12_sung_24 : decode cX12_sung 24 = .ok (.ifCond .eq 20, 3) := d_by (d_at odX12_sung ofX12_sung 24) rfl
theorem dX12_sung_27 : decode cX12_sung 27 = .ok (.aload_n 0, 1) := d_by (d_at odX12_sung ofX12_sung 27) rfl
theorem dX12_sung_28 : decode cX12_sung 28 = .ok (.getfield 26, 3) := d_by (d_at odX12_sung ofX12_sung 28) rfl
theorem dX12_sung_31 : decode cX12_sung 31 = .ok (.bipush 28, 2) := d_by (d_at odX12_sung ofX12_sung 31) rfl
theorem dX12_sung_33 : decode cX12_sung 33 = .ok (.bipush 6, 2) := d_by (d_at odX12_sung ofX12_sung 33) rfl
theorem dX12_sung_35 : decode cX12_sung 35 = .ok (.iload_n 1, 1) := d_by (d_at odX12_sung ofX12_sung 35) rfl
theorem dX12_sung_36 : decode cX12_sung 36 = .ok (.imul, 1) := d_by (d_at odX12_sung ofX12_sung 36) rfl
theorem dX12_sung_37 : decode cX12_sung 37 = .ok (.iadd, 1) := d_by (d_at odX12_sung ofX12_sung 37) rfl
theorem dX12_sung_38 : decode cX12_sung 38 = .ok (.iload_n 2, 1) := d_by (d_at odX12_sung ofX12_sung 38) rfl
theorem dX12_sung_39 : decode cX12_sung 39 = .ok (.iadd, 1) := d_by (d_at odX12_sung ofX12_sung 39) rfl
theorem dX12_sung_40 : decode cX12_sung 40 = .ok (.iaload, 1) := d_by (d_at odX12_sung ofX12_sung 40) rfl
theorem dX12_sung_41 : decode cX12_sung 41 = .ok (.goto 8, 3) := d_by (d_at odX12_sung ofX12_sung 41) rfl
theorem dX12_sung_44 : decode cX12_sung 44 = .ok (.aload_n 0, 1) := d_by (d_at odX12_sung ofX12_sung 44) rfl
theorem dX12_sung_45 : decode cX12_sung 45 = .ok (.iconst 1, 1) := d_by (d_at odX12_sung ofX12_sung 45) rfl
theorem dX12_sung_46 : decode cX12_sung 46 = .ok (.invokevirtual 170, 3) := d_by (d_at odX12_sung ofX12_sung 46) rfl
theorem dX12_sung_49 : decode cX12_sung 49 = .ok (.ireturn, 1) := d_by (d_at odX12_sung ofX12_sung 49) rfl
set_option maxRecDepth 100000 in
def bX12_unlike : List Nat := [3, 54, 6, 3, 54, 7, 21, 7, 42, 27, 182, 1, 28, 162, 0, 57, 21, 6, 42, 28, 21, 7, 29, 182, 1, 24, 21, 7, 21, 4, 160, 0, 8, 21, 5, 167, 0, 18, 42, 180, 0, 26, 16, 28, 16, 6, 27, 104, 96, 21, 7, 96, 46, 160, 0, 7, 3, 167, 0, 4, 4, 96, 54, 6, 132, 7, 1, 167, 255, 195, 21, 6, 172]
set_option maxRecDepth 100000 in
theorem bbX12_unlike : cX12_unlike.data.toList.map UInt8.toNat = bX12_unlike := by decide +kernel
set_option maxRecDepth 100000 in
def tX12_unlike : Lean.RArray dLf := .branch 38 (.branch 18 (.branch 8 (.branch 3 (.branch 1 (.leaf (0, .iconst 0, 1)) (.leaf (1, .istore 6, 2))) (.branch 4 (.leaf (3, .iconst 0, 1)) (.branch 6 (.leaf (4, .istore 7, 2)) (.leaf (6, .iload 7, 2))))) (.branch 10 (.branch 9 (.leaf (8, .aload_n 0, 1)) (.leaf (9, .iload_n 1, 1))) (.branch 13 (.leaf (10, .invokevirtual 284, 3)) (.branch 16 (.leaf (13, .if_icmp .ge 57, 3)) (.leaf (16, .iload 6, 2)))))) (.branch 26 (.branch 20 (.branch 19 (.leaf (18, .aload_n 0, 1)) (.leaf (19, .iload_n 2, 1))) (.branch 22 (.leaf (20, .iload 7, 2)) (.branch 23 (.leaf (22, .iload_n 3, 1)) (.leaf (23, .invokevirtual 280, 3))))) (.branch 30 (.branch 28 (.leaf (26, .iload 7, 2)) (.leaf (28, .iload 4, 2))) (.branch 33 (.leaf (30, .if_icmp .ne 8, 3)) (.branch 35 (.leaf (33, .iload 5, 2)) (.leaf (35, .goto 18, 3))))))) (.branch 53 (.branch 47 (.branch 42 (.branch 39 (.leaf (38, .aload_n 0, 1)) (.leaf (39, .getfield 26, 3))) (.branch 44 (.leaf (42, .bipush 28, 2)) (.branch 46 (.leaf (44, .bipush 6, 2)) (.leaf (46, .iload_n 1, 1))))) (.branch 49 (.branch 48 (.leaf (47, .imul, 1)) (.leaf (48, .iadd, 1))) (.branch 51 (.leaf (49, .iload 7, 2)) (.branch 52 (.leaf (51, .iadd, 1)) (.leaf (52, .iaload, 1)))))) (.branch 62 (.branch 57 (.branch 56 (.leaf (53, .if_icmp .ne 7, 3)) (.leaf (56, .iconst 0, 1))) (.branch 60 (.leaf (57, .goto 4, 3)) (.branch 61 (.leaf (60, .iconst 1, 1)) (.leaf (61, .iadd, 1))))) (.branch 67 (.branch 64 (.leaf (62, .istore 6, 2)) (.leaf (64, .iinc 7 1, 3))) (.branch 70 (.leaf (67, .goto (-61), 3)) (.branch 72 (.leaf (70, .iload 6, 2)) (.leaf (72, .ireturn, 1)))))))
noncomputable def oX12_unlike : List dLf := dFl tX12_unlike
theorem ofX12_unlike : dFl tX12_unlike = oX12_unlike := rfl
set_option maxRecDepth 100000 in
theorem odX12_unlike : ∀ q ∈ oX12_unlike, decode cX12_unlike q.1 = .ok (q.2.1, q.2.2) := q_go qT_ok bbX12_unlike oX12_unlike 0 (by decide +kernel)
theorem dX12_unlike_0 : decode cX12_unlike 0 = .ok (.iconst 0, 1) := d_by (d_at odX12_unlike ofX12_unlike 0) rfl
theorem dX12_unlike_1 : decode cX12_unlike 1 = .ok (.istore 6, 2) := d_by (d_at odX12_unlike ofX12_unlike 1) rfl
theorem dX12_unlike_3 : decode cX12_unlike 3 = .ok (.iconst 0, 1) := d_by (d_at odX12_unlike ofX12_unlike 3) rfl
theorem dX12_unlike_4 : decode cX12_unlike 4 = .ok (.istore 7, 2) := d_by (d_at odX12_unlike ofX12_unlike 4) rfl
theorem dX12_unlike_6 : decode cX12_unlike 6 = .ok (.iload 7, 2) := d_by (d_at odX12_unlike ofX12_unlike 6) rfl
theorem dX12_unlike_8 : decode cX12_unlike 8 = .ok (.aload_n 0, 1) := d_by (d_at odX12_unlike ofX12_unlike 8) rfl
theorem dX12_unlike_9 : decode cX12_unlike 9 = .ok (.iload_n 1, 1) := d_by (d_at odX12_unlike ofX12_unlike 9) rfl
theorem dX12_unlike_10 : decode cX12_unlike 10 = .ok (.invokevirtual 284, 3) := d_by (d_at odX12_unlike ofX12_unlike 10) rfl
theorem dX12_unlike_13 : decode cX12_unlike 13 = .ok (.if_icmp .ge 57, 3) := d_by (d_at odX12_unlike ofX12_unlike 13) rfl
theorem dX12_unlike_16 : decode cX12_unlike 16 = .ok (.iload 6, 2) := d_by (d_at odX12_unlike ofX12_unlike 16) rfl
theorem dX12_unlike_18 : decode cX12_unlike 18 = .ok (.aload_n 0, 1) := d_by (d_at odX12_unlike ofX12_unlike 18) rfl
theorem dX12_unlike_19 : decode cX12_unlike 19 = .ok (.iload_n 2, 1) := d_by (d_at odX12_unlike ofX12_unlike 19) rfl
theorem dX12_unlike_20 : decode cX12_unlike 20 = .ok (.iload 7, 2) := d_by (d_at odX12_unlike ofX12_unlike 20) rfl
theorem dX12_unlike_22 : decode cX12_unlike 22 = .ok (.iload_n 3, 1) := d_by (d_at odX12_unlike ofX12_unlike 22) rfl
theorem dX12_unlike_23 : decode cX12_unlike 23 = .ok (.invokevirtual 280, 3) := d_by (d_at odX12_unlike ofX12_unlike 23) rfl
theorem dX12_unlike_26 : decode cX12_unlike 26 = .ok (.iload 7, 2) := d_by (d_at odX12_unlike ofX12_unlike 26) rfl
theorem dX12_unlike_28 : decode cX12_unlike 28 = .ok (.iload 4, 2) := d_by (d_at odX12_unlike ofX12_unlike 28) rfl
theorem dX12_unlike_30 : decode cX12_unlike 30 = .ok (.if_icmp .ne 8, 3) := d_by (d_at odX12_unlike ofX12_unlike 30) rfl
theorem dX12_unlike_33 : decode cX12_unlike 33 = .ok (.iload 5, 2) := d_by (d_at odX12_unlike ofX12_unlike 33) rfl
theorem dX12_unlike_35 : decode cX12_unlike 35 = .ok (.goto 18, 3) := d_by (d_at odX12_unlike ofX12_unlike 35) rfl
theorem dX12_unlike_38 : decode cX12_unlike 38 = .ok (.aload_n 0, 1) := d_by (d_at odX12_unlike ofX12_unlike 38) rfl
theorem dX12_unlike_39 : decode cX12_unlike 39 = .ok (.getfield 26, 3) := d_by (d_at odX12_unlike ofX12_unlike 39) rfl
theorem dX12_unlike_42 : decode cX12_unlike 42 = .ok (.bipush 28, 2) := d_by (d_at odX12_unlike ofX12_unlike 42) rfl
theorem dX12_unlike_44 : decode cX12_unlike 44 = .ok (.bipush 6, 2) := d_by (d_at odX12_unlike ofX12_unlike 44) rfl
theorem dX12_unlike_46 : decode cX12_unlike 46 = .ok (.iload_n 1, 1) := d_by (d_at odX12_unlike ofX12_unlike 46) rfl
theorem dX12_unlike_47 : decode cX12_unlike 47 = .ok (.imul, 1) := d_by (d_at odX12_unlike ofX12_unlike 47) rfl
theorem dX12_unlike_48 : decode cX12_unlike 48 = .ok (.iadd, 1) := d_by (d_at odX12_unlike ofX12_unlike 48) rfl
theorem dX12_unlike_49 : decode cX12_unlike 49 = .ok (.iload 7, 2) := d_by (d_at odX12_unlike ofX12_unlike 49) rfl
theorem dX12_unlike_51 : decode cX12_unlike 51 = .ok (.iadd, 1) := d_by (d_at odX12_unlike ofX12_unlike 51) rfl
theorem dX12_unlike_52 : decode cX12_unlike 52 = .ok (.iaload, 1) := d_by (d_at odX12_unlike ofX12_unlike 52) rfl
theorem dX12_unlike_53 : decode cX12_unlike 53 = .ok (.if_icmp .ne 7, 3) := d_by (d_at odX12_unlike ofX12_unlike 53) rfl
theorem dX12_unlike_56 : decode cX12_unlike 56 = .ok (.iconst 0, 1) := d_by (d_at odX12_unlike ofX12_unlike 56) rfl
theorem dX12_unlike_57 : decode cX12_unlike 57 = .ok (.goto 4, 3) := d_by (d_at odX12_unlike ofX12_unlike 57) rfl
theorem dX12_unlike_60 : decode cX12_unlike 60 = .ok (.iconst 1, 1) := d_by (d_at odX12_unlike ofX12_unlike 60) rfl
theorem dX12_unlike_61 : decode cX12_unlike 61 = .ok (.iadd, 1) := d_by (d_at odX12_unlike ofX12_unlike 61) rfl
theorem dX12_unlike_62 : decode cX12_unlike 62 = .ok (.istore 6, 2) := d_by (d_at odX12_unlike ofX12_unlike 62) rfl
theorem dX12_unlike_64 : decode cX12_unlike 64 = .ok (.iinc 7 1, 3) := d_by (d_at odX12_unlike ofX12_unlike 64) rfl
theorem dX12_unlike_67 : decode cX12_unlike 67 = .ok (.goto (-61), 3) := d_by (d_at odX12_unlike ofX12_unlike 67) rfl
theorem dX12_unlike_70 : decode cX12_unlike 70 = .ok (.iload 6, 2) := d_by (d_at odX12_unlike ofX12_unlike 70) rfl
theorem dX12_unlike_72 : decode cX12_unlike 72 = .ok (.ireturn, 1) := d_by (d_at odX12_unlike ofX12_unlike 72) rfl
set_option maxRecDepth 100000 in
def bX12_hearsIn : List Nat := [16, 254, 54, 5, 16, 7, 54, 6, 3, 54, 7, 21, 7, 42, 180, 0, 20, 7, 46, 162, 0, 69, 42, 21, 7, 182, 1, 9, 42, 27, 182, 1, 28, 159, 0, 6, 167, 0, 46, 42, 27, 21, 7, 28, 29, 21, 4, 182, 1, 31, 54, 8, 21, 8, 21, 6, 164, 0, 6, 167, 0, 23, 21, 8, 21, 6, 162, 0, 8, 21, 7, 167, 0, 5, 16, 254, 54, 5, 21, 8, 54, 6, 132, 7, 1, 167, 255, 182, 21, 6, 42, 180, 0, 20, 4, 46, 163, 0, 8, 21, 5, 167, 0, 5, 16, 254, 172]
set_option maxRecDepth 100000 in
theorem bbX12_hearsIn : cX12_hearsIn.data.toList.map UInt8.toNat = bX12_hearsIn := by decide +kernel
set_option maxRecDepth 100000 in
def tX12_hearsIn : Lean.RArray dLf := .branch 47 (.branch 23 (.branch 11 (.branch 6 (.branch 2 (.leaf (0, .bipush (-2), 2)) (.branch 4 (.leaf (2, .istore 5, 2)) (.leaf (4, .bipush 7, 2)))) (.branch 8 (.leaf (6, .istore 6, 2)) (.branch 9 (.leaf (8, .iconst 0, 1)) (.leaf (9, .istore 7, 2))))) (.branch 17 (.branch 13 (.leaf (11, .iload 7, 2)) (.branch 14 (.leaf (13, .aload_n 0, 1)) (.leaf (14, .getfield 20, 3)))) (.branch 19 (.branch 18 (.leaf (17, .iconst 4, 1)) (.leaf (18, .iaload, 1))) (.branch 22 (.leaf (19, .if_icmp .ge 69, 3)) (.leaf (22, .aload_n 0, 1)))))) (.branch 36 (.branch 29 (.branch 25 (.leaf (23, .iload 7, 2)) (.branch 28 (.leaf (25, .invokevirtual 265, 3)) (.leaf (28, .aload_n 0, 1)))) (.branch 30 (.leaf (29, .iload_n 1, 1)) (.branch 33 (.leaf (30, .invokevirtual 284, 3)) (.leaf (33, .if_icmp .eq 6, 3))))) (.branch 41 (.branch 39 (.leaf (36, .goto 46, 3)) (.branch 40 (.leaf (39, .aload_n 0, 1)) (.leaf (40, .iload_n 1, 1)))) (.branch 44 (.branch 43 (.leaf (41, .iload 7, 2)) (.leaf (43, .iload_n 2, 1))) (.branch 45 (.leaf (44, .iload_n 3, 1)) (.leaf (45, .iload 4, 2))))))) (.branch 78 (.branch 62 (.branch 54 (.branch 50 (.leaf (47, .invokevirtual 287, 3)) (.branch 52 (.leaf (50, .istore 8, 2)) (.leaf (52, .iload 8, 2)))) (.branch 56 (.leaf (54, .iload 6, 2)) (.branch 59 (.leaf (56, .if_icmp .le 6, 3)) (.leaf (59, .goto 23, 3))))) (.branch 69 (.branch 64 (.leaf (62, .iload 8, 2)) (.branch 66 (.leaf (64, .iload 6, 2)) (.leaf (66, .if_icmp .ge 8, 3)))) (.branch 74 (.branch 71 (.leaf (69, .iload 7, 2)) (.leaf (71, .goto 5, 3))) (.branch 76 (.leaf (74, .bipush (-2), 2)) (.leaf (76, .istore 5, 2)))))) (.branch 94 (.branch 85 (.branch 80 (.leaf (78, .iload 8, 2)) (.branch 82 (.leaf (80, .istore 6, 2)) (.leaf (82, .iinc 7 1, 3)))) (.branch 90 (.branch 88 (.leaf (85, .goto (-74), 3)) (.leaf (88, .iload 6, 2))) (.branch 91 (.leaf (90, .aload_n 0, 1)) (.leaf (91, .getfield 20, 3))))) (.branch 99 (.branch 95 (.leaf (94, .iconst 1, 1)) (.branch 96 (.leaf (95, .iaload, 1)) (.leaf (96, .if_icmp .gt 8, 3)))) (.branch 104 (.branch 101 (.leaf (99, .iload 5, 2)) (.leaf (101, .goto 5, 3))) (.branch 106 (.leaf (104, .bipush (-2), 2)) (.leaf (106, .ireturn, 1)))))))
noncomputable def oX12_hearsIn : List dLf := dFl tX12_hearsIn
theorem ofX12_hearsIn : dFl tX12_hearsIn = oX12_hearsIn := rfl
set_option maxRecDepth 100000 in
theorem odX12_hearsIn : ∀ q ∈ oX12_hearsIn, decode cX12_hearsIn q.1 = .ok (q.2.1, q.2.2) := q_go qT_ok bbX12_hearsIn oX12_hearsIn 0 (by decide +kernel)
theorem dX12_hearsIn_0 : decode cX12_hearsIn 0 = .ok (.bipush (-2), 2) := d_by (d_at odX12_hearsIn ofX12_hearsIn 0) rfl
theorem dX12_hearsIn_2 : decode cX12_hearsIn 2 = .ok (.istore 5, 2) := d_by (d_at odX12_hearsIn ofX12_hearsIn 2) rfl
theorem dX12_hearsIn_4 : decode cX12_hearsIn 4 = .ok (.bipush 7, 2) := d_by (d_at odX12_hearsIn ofX12_hearsIn 4) rfl
theorem dX12_hearsIn_6 : decode cX12_hearsIn 6 = .ok (.istore 6, 2) := d_by (d_at odX12_hearsIn ofX12_hearsIn 6) rfl
theorem dX12_hearsIn_8 : decode cX12_hearsIn 8 = .ok (.iconst 0, 1) := d_by (d_at odX12_hearsIn ofX12_hearsIn 8) rfl
theorem dX12_hearsIn_9 : decode cX12_hearsIn 9 = .ok (.istore 7, 2) := d_by (d_at odX12_hearsIn ofX12_hearsIn 9) rfl
theorem dX12_hearsIn_11 : decode cX12_hearsIn 11 = .ok (.iload 7, 2) := d_by (d_at odX12_hearsIn ofX12_hearsIn 11) rfl
theorem dX12_hearsIn_13 : decode cX12_hearsIn 13 = .ok (.aload_n 0, 1) := d_by (d_at odX12_hearsIn ofX12_hearsIn 13) rfl
theorem dX12_hearsIn_14 : decode cX12_hearsIn 14 = .ok (.getfield 20, 3) := d_by (d_at odX12_hearsIn ofX12_hearsIn 14) rfl
theorem dX12_hearsIn_17 : decode cX12_hearsIn 17 = .ok (.iconst 4, 1) := d_by (d_at odX12_hearsIn ofX12_hearsIn 17) rfl
theorem dX12_hearsIn_18 : decode cX12_hearsIn 18 = .ok (.iaload, 1) := d_by (d_at odX12_hearsIn ofX12_hearsIn 18) rfl
theorem dX12_hearsIn_19 : decode cX12_hearsIn 19 = .ok (.if_icmp .ge 69, 3) := d_by (d_at odX12_hearsIn ofX12_hearsIn 19) rfl
theorem dX12_hearsIn_22 : decode cX12_hearsIn 22 = .ok (.aload_n 0, 1) := d_by (d_at odX12_hearsIn ofX12_hearsIn 22) rfl
theorem dX12_hearsIn_23 : decode cX12_hearsIn 23 = .ok (.iload 7, 2) := d_by (d_at odX12_hearsIn ofX12_hearsIn 23) rfl
theorem dX12_hearsIn_25 : decode cX12_hearsIn 25 = .ok (.invokevirtual 265, 3) := d_by (d_at odX12_hearsIn ofX12_hearsIn 25) rfl
theorem dX12_hearsIn_28 : decode cX12_hearsIn 28 = .ok (.aload_n 0, 1) := d_by (d_at odX12_hearsIn ofX12_hearsIn 28) rfl
theorem dX12_hearsIn_29 : decode cX12_hearsIn 29 = .ok (.iload_n 1, 1) := d_by (d_at odX12_hearsIn ofX12_hearsIn 29) rfl
theorem dX12_hearsIn_30 : decode cX12_hearsIn 30 = .ok (.invokevirtual 284, 3) := d_by (d_at odX12_hearsIn ofX12_hearsIn 30) rfl
theorem dX12_hearsIn_33 : decode cX12_hearsIn 33 = .ok (.if_icmp .eq 6, 3) := d_by (d_at odX12_hearsIn ofX12_hearsIn 33) rfl
theorem dX12_hearsIn_36 : decode cX12_hearsIn 36 = .ok (.goto 46, 3) := d_by (d_at odX12_hearsIn ofX12_hearsIn 36) rfl
theorem dX12_hearsIn_39 : decode cX12_hearsIn 39 = .ok (.aload_n 0, 1) := d_by (d_at odX12_hearsIn ofX12_hearsIn 39) rfl
theorem dX12_hearsIn_40 : decode cX12_hearsIn 40 = .ok (.iload_n 1, 1) := d_by (d_at odX12_hearsIn ofX12_hearsIn 40) rfl
theorem dX12_hearsIn_41 : decode cX12_hearsIn 41 = .ok (.iload 7, 2) := d_by (d_at odX12_hearsIn ofX12_hearsIn 41) rfl
theorem dX12_hearsIn_43 : decode cX12_hearsIn 43 = .ok (.iload_n 2, 1) := d_by (d_at odX12_hearsIn ofX12_hearsIn 43) rfl
theorem dX12_hearsIn_44 : decode cX12_hearsIn 44 = .ok (.iload_n 3, 1) := d_by (d_at odX12_hearsIn ofX12_hearsIn 44) rfl
theorem dX12_hearsIn_45 : decode cX12_hearsIn 45 = .ok (.iload 4, 2) := d_by (d_at odX12_hearsIn ofX12_hearsIn 45) rfl
theorem dX12_hearsIn_47 : decode cX12_hearsIn 47 = .ok (.invokevirtual 287, 3) := d_by (d_at odX12_hearsIn ofX12_hearsIn 47) rfl
theorem dX12_hearsIn_50 : decode cX12_hearsIn 50 = .ok (.istore 8, 2) := d_by (d_at odX12_hearsIn ofX12_hearsIn 50) rfl
theorem dX12_hearsIn_52 : decode cX12_hearsIn 52 = .ok (.iload 8, 2) := d_by (d_at odX12_hearsIn ofX12_hearsIn 52) rfl
theorem dX12_hearsIn_54 : decode cX12_hearsIn 54 = .ok (.iload 6, 2) := d_by (d_at odX12_hearsIn ofX12_hearsIn 54) rfl
theorem dX12_hearsIn_56 : decode cX12_hearsIn 56 = .ok (.if_icmp .le 6, 3) := d_by (d_at odX12_hearsIn ofX12_hearsIn 56) rfl
theorem dX12_hearsIn_59 : decode cX12_hearsIn 59 = .ok (.goto 23, 3) := d_by (d_at odX12_hearsIn ofX12_hearsIn 59) rfl
theorem dX12_hearsIn_62 : decode cX12_hearsIn 62 = .ok (.iload 8, 2) := d_by (d_at odX12_hearsIn ofX12_hearsIn 62) rfl
theorem dX12_hearsIn_64 : decode cX12_hearsIn 64 = .ok (.iload 6, 2) := d_by (d_at odX12_hearsIn ofX12_hearsIn 64) rfl
theorem dX12_hearsIn_66 : decode cX12_hearsIn 66 = .ok (.if_icmp .ge 8, 3) := d_by (d_at odX12_hearsIn ofX12_hearsIn 66) rfl
theorem dX12_hearsIn_69 : decode cX12_hearsIn 69 = .ok (.iload 7, 2) := d_by (d_at odX12_hearsIn ofX12_hearsIn 69) rfl
theorem dX12_hearsIn_71 : decode cX12_hearsIn 71 = .ok (.goto 5, 3) := d_by (d_at odX12_hearsIn ofX12_hearsIn 71) rfl
theorem dX12_hearsIn_74 : decode cX12_hearsIn 74 = .ok (.bipush (-2), 2) := d_by (d_at odX12_hearsIn ofX12_hearsIn 74) rfl
theorem dX12_hearsIn_76 : decode cX12_hearsIn 76 = .ok (.istore 5, 2) := d_by (d_at odX12_hearsIn ofX12_hearsIn 76) rfl
theorem dX12_hearsIn_78 : decode cX12_hearsIn 78 = .ok (.iload 8, 2) := d_by (d_at odX12_hearsIn ofX12_hearsIn 78) rfl
theorem dX12_hearsIn_80 : decode cX12_hearsIn 80 = .ok (.istore 6, 2) := d_by (d_at odX12_hearsIn ofX12_hearsIn 80) rfl
theorem dX12_hearsIn_82 : decode cX12_hearsIn 82 = .ok (.iinc 7 1, 3) := d_by (d_at odX12_hearsIn ofX12_hearsIn 82) rfl
theorem dX12_hearsIn_85 : decode cX12_hearsIn 85 = .ok (.goto (-74), 3) := d_by (d_at odX12_hearsIn ofX12_hearsIn 85) rfl
theorem dX12_hearsIn_88 : decode cX12_hearsIn 88 = .ok (.iload 6, 2) := d_by (d_at odX12_hearsIn ofX12_hearsIn 88) rfl
theorem dX12_hearsIn_90 : decode cX12_hearsIn 90 = .ok (.aload_n 0, 1) := d_by (d_at odX12_hearsIn ofX12_hearsIn 90) rfl
theorem dX12_hearsIn_91 : decode cX12_hearsIn 91 = .ok (.getfield 20, 3) := d_by (d_at odX12_hearsIn ofX12_hearsIn 91) rfl
theorem dX12_hearsIn_94 : decode cX12_hearsIn 94 = .ok (.iconst 1, 1) := d_by (d_at odX12_hearsIn ofX12_hearsIn 94) rfl
theorem dX12_hearsIn_95 : decode cX12_hearsIn 95 = .ok (.iaload, 1) := d_by (d_at odX12_hearsIn ofX12_hearsIn 95) rfl
theorem dX12_hearsIn_96 : decode cX12_hearsIn 96 = .ok (.if_icmp .gt 8, 3) := d_by (d_at odX12_hearsIn ofX12_hearsIn 96) rfl
theorem dX12_hearsIn_99 : decode cX12_hearsIn 99 = .ok (.iload 5, 2) := d_by (d_at odX12_hearsIn ofX12_hearsIn 99) rfl
theorem dX12_hearsIn_101 : decode cX12_hearsIn 101 = .ok (.goto 5, 3) := d_by (d_at odX12_hearsIn ofX12_hearsIn 101) rfl
theorem dX12_hearsIn_104 : decode cX12_hearsIn 104 = .ok (.bipush (-2), 2) := d_by (d_at odX12_hearsIn ofX12_hearsIn 104) rfl
theorem dX12_hearsIn_106 : decode cX12_hearsIn 106 = .ok (.ireturn, 1) := d_by (d_at odX12_hearsIn ofX12_hearsIn 106) rfl
set_option maxRecDepth 100000 in
def bX12_heardNow : List Nat := [42, 27, 42, 180, 0, 26, 3, 46, 2, 3, 182, 1, 35, 172]
set_option maxRecDepth 100000 in
theorem bbX12_heardNow : cX12_heardNow.data.toList.map UInt8.toNat = bX12_heardNow := by decide +kernel
set_option maxRecDepth 100000 in
def tX12_heardNow : Lean.RArray dLf := .branch 7 (.branch 2 (.branch 1 (.leaf (0, .aload_n 0, 1)) (.leaf (1, .iload_n 1, 1))) (.branch 3 (.leaf (2, .aload_n 0, 1)) (.branch 6 (.leaf (3, .getfield 26, 3)) (.leaf (6, .iconst 0, 1))))) (.branch 9 (.branch 8 (.leaf (7, .iaload, 1)) (.leaf (8, .iconst (-1), 1))) (.branch 10 (.leaf (9, .iconst 0, 1)) (.branch 13 (.leaf (10, .invokevirtual 291, 3)) (.leaf (13, .ireturn, 1)))))
noncomputable def oX12_heardNow : List dLf := dFl tX12_heardNow
theorem ofX12_heardNow : dFl tX12_heardNow = oX12_heardNow := rfl
set_option maxRecDepth 100000 in
theorem odX12_heardNow : ∀ q ∈ oX12_heardNow, decode cX12_heardNow q.1 = .ok (q.2.1, q.2.2) := q_go qT_ok bbX12_heardNow oX12_heardNow 0 (by decide +kernel)
theorem dX12_heardNow_0 : decode cX12_heardNow 0 = .ok (.aload_n 0, 1) := d_by (d_at odX12_heardNow ofX12_heardNow 0) rfl
theorem dX12_heardNow_1 : decode cX12_heardNow 1 = .ok (.iload_n 1, 1) := d_by (d_at odX12_heardNow ofX12_heardNow 1) rfl
theorem dX12_heardNow_2 : decode cX12_heardNow 2 = .ok (.aload_n 0, 1) := d_by (d_at odX12_heardNow ofX12_heardNow 2) rfl
theorem dX12_heardNow_3 : decode cX12_heardNow 3 = .ok (.getfield 26, 3) := d_by (d_at odX12_heardNow ofX12_heardNow 3) rfl
theorem dX12_heardNow_6 : decode cX12_heardNow 6 = .ok (.iconst 0, 1) := d_by (d_at odX12_heardNow ofX12_heardNow 6) rfl
theorem dX12_heardNow_7 : decode cX12_heardNow 7 = .ok (.iaload, 1) := d_by (d_at odX12_heardNow ofX12_heardNow 7) rfl
theorem dX12_heardNow_8 : decode cX12_heardNow 8 = .ok (.iconst (-1), 1) := d_by (d_at odX12_heardNow ofX12_heardNow 8) rfl
theorem dX12_heardNow_9 : decode cX12_heardNow 9 = .ok (.iconst 0, 1) := d_by (d_at odX12_heardNow ofX12_heardNow 9) rfl
theorem dX12_heardNow_10 : decode cX12_heardNow 10 = .ok (.invokevirtual 291, 3) := d_by (d_at odX12_heardNow ofX12_heardNow 10) rfl
theorem dX12_heardNow_13 : decode cX12_heardNow 13 = .ok (.ireturn, 1) := d_by (d_at odX12_heardNow ofX12_heardNow 13) rfl
set_option maxRecDepth 100000 in
def bX12_heard : List Nat := [42, 182, 0, 167, 42, 27, 182, 1, 18, 153, 0, 11, 42, 27, 182, 1, 39, 167, 0, 8, 42, 4, 182, 0, 170, 172]
set_option maxRecDepth 100000 in
theorem bbX12_heard : cX12_heard.data.toList.map UInt8.toNat = bX12_heard := by decide +kernel
set_option maxRecDepth 100000 in
def tX12_heard : Lean.RArray dLf := .branch 13 (.branch 5 (.branch 1 (.leaf (0, .aload_n 0, 1)) (.branch 4 (.leaf (1, .invokevirtual 167, 3)) (.leaf (4, .aload_n 0, 1)))) (.branch 9 (.branch 6 (.leaf (5, .iload_n 1, 1)) (.leaf (6, .invokevirtual 274, 3))) (.branch 12 (.leaf (9, .ifCond .eq 11, 3)) (.leaf (12, .aload_n 0, 1))))) (.branch 20 (.branch 14 (.leaf (13, .iload_n 1, 1)) (.branch 17 (.leaf (14, .invokevirtual 295, 3)) (.leaf (17, .goto 8, 3)))) (.branch 22 (.branch 21 (.leaf (20, .aload_n 0, 1)) (.leaf (21, .iconst 1, 1))) (.branch 25 (.leaf (22, .invokevirtual 170, 3)) (.leaf (25, .ireturn, 1)))))
noncomputable def oX12_heard : List dLf := dFl tX12_heard
theorem ofX12_heard : dFl tX12_heard = oX12_heard := rfl
set_option maxRecDepth 100000 in
theorem odX12_heard : ∀ q ∈ oX12_heard, decode cX12_heard q.1 = .ok (q.2.1, q.2.2) := q_go qT_ok bbX12_heard oX12_heard 0 (by decide +kernel)
theorem dX12_heard_0 : decode cX12_heard 0 = .ok (.aload_n 0, 1) := d_by (d_at odX12_heard ofX12_heard 0) rfl
theorem dX12_heard_1 : decode cX12_heard 1 = .ok (.invokevirtual 167, 3) := d_by (d_at odX12_heard ofX12_heard 1) rfl
theorem dX12_heard_4 : decode cX12_heard 4 = .ok (.aload_n 0, 1) := d_by (d_at odX12_heard ofX12_heard 4) rfl
theorem dX12_heard_5 : decode cX12_heard 5 = .ok (.iload_n 1, 1) := d_by (d_at odX12_heard ofX12_heard 5) rfl
theorem dX12_heard_6 : decode cX12_heard 6 = .ok (.invokevirtual 274, 3) := d_by (d_at odX12_heard ofX12_heard 6) rfl
theorem dX12_heard_9 : decode cX12_heard 9 = .ok (.ifCond .eq 11, 3) := d_by (d_at odX12_heard ofX12_heard 9) rfl
theorem dX12_heard_12 : decode cX12_heard 12 = .ok (.aload_n 0, 1) := d_by (d_at odX12_heard ofX12_heard 12) rfl
theorem dX12_heard_13 : decode cX12_heard 13 = .ok (.iload_n 1, 1) := d_by (d_at odX12_heard ofX12_heard 13) rfl
theorem dX12_heard_14 : decode cX12_heard 14 = .ok (.invokevirtual 295, 3) := d_by (d_at odX12_heard ofX12_heard 14) rfl
theorem dX12_heard_17 : decode cX12_heard 17 = .ok (.goto 8, 3) := d_by (d_at odX12_heard ofX12_heard 17) rfl
theorem dX12_heard_20 : decode cX12_heard 20 = .ok (.aload_n 0, 1) := d_by (d_at odX12_heard ofX12_heard 20) rfl
theorem dX12_heard_21 : decode cX12_heard 21 = .ok (.iconst 1, 1) := d_by (d_at odX12_heard ofX12_heard 21) rfl
theorem dX12_heard_22 : decode cX12_heard 22 = .ok (.invokevirtual 170, 3) := d_by (d_at odX12_heard ofX12_heard 22) rfl
theorem dX12_heard_25 : decode cX12_heard 25 = .ok (.ireturn, 1) := d_by (d_at odX12_heard ofX12_heard 25) rfl
set_option maxRecDepth 100000 in
def bX12_isClosed : List Nat := [42, 180, 0, 26, 4, 46, 27, 184, 1, 42, 172]
set_option maxRecDepth 100000 in
theorem bbX12_isClosed : cX12_isClosed.data.toList.map UInt8.toNat = bX12_isClosed := by decide +kernel
set_option maxRecDepth 100000 in
def tX12_isClosed : Lean.RArray dLf := .branch 5 (.branch 1 (.leaf (0, .aload_n 0, 1)) (.branch 4 (.leaf (1, .getfield 26, 3)) (.leaf (4, .iconst 1, 1)))) (.branch 7 (.branch 6 (.leaf (5, .iaload, 1)) (.leaf (6, .iload_n 1, 1))) (.branch 10 (.leaf (7, .invokestatic 298, 3)) (.leaf (10, .ireturn, 1))))
noncomputable def oX12_isClosed : List dLf := dFl tX12_isClosed
theorem ofX12_isClosed : dFl tX12_isClosed = oX12_isClosed := rfl
set_option maxRecDepth 100000 in
theorem odX12_isClosed : ∀ q ∈ oX12_isClosed, decode cX12_isClosed q.1 = .ok (q.2.1, q.2.2) := q_go qT_ok bbX12_isClosed oX12_isClosed 0 (by decide +kernel)
theorem dX12_isClosed_0 : decode cX12_isClosed 0 = .ok (.aload_n 0, 1) := d_by (d_at odX12_isClosed ofX12_isClosed 0) rfl
theorem dX12_isClosed_1 : decode cX12_isClosed 1 = .ok (.getfield 26, 3) := d_by (d_at odX12_isClosed ofX12_isClosed 1) rfl
theorem dX12_isClosed_4 : decode cX12_isClosed 4 = .ok (.iconst 1, 1) := d_by (d_at odX12_isClosed ofX12_isClosed 4) rfl
theorem dX12_isClosed_5 : decode cX12_isClosed 5 = .ok (.iaload, 1) := d_by (d_at odX12_isClosed ofX12_isClosed 5) rfl
theorem dX12_isClosed_6 : decode cX12_isClosed 6 = .ok (.iload_n 1, 1) := d_by (d_at odX12_isClosed ofX12_isClosed 6) rfl
theorem dX12_isClosed_7 : decode cX12_isClosed 7 = .ok (.invokestatic 298, 3) := d_by (d_at odX12_isClosed ofX12_isClosed 7) rfl
theorem dX12_isClosed_10 : decode cX12_isClosed 10 = .ok (.ireturn, 1) := d_by (d_at odX12_isClosed ofX12_isClosed 10) rfl
set_option maxRecDepth 100000 in
def bX12_wayOf : List Nat := [3, 62, 29, 42, 180, 0, 20, 8, 46, 162, 0, 32, 42, 180, 0, 20, 29, 27, 28, 184, 0, 230, 153, 0, 13, 42, 29, 182, 1, 46, 154, 0, 5, 29, 172, 132, 3, 1, 167, 255, 220, 2, 172]
set_option maxRecDepth 100000 in
theorem bbX12_wayOf : cX12_wayOf.data.toList.map UInt8.toNat = bX12_wayOf := by decide +kernel
set_option maxRecDepth 100000 in
def tX12_wayOf : Lean.RArray dLf := .branch 18 (.branch 8 (.branch 3 (.branch 1 (.leaf (0, .iconst 0, 1)) (.branch 2 (.leaf (1, .istore_n 3, 1)) (.leaf (2, .iload_n 3, 1)))) (.branch 4 (.leaf (3, .aload_n 0, 1)) (.branch 7 (.leaf (4, .getfield 20, 3)) (.leaf (7, .iconst 5, 1))))) (.branch 13 (.branch 9 (.leaf (8, .iaload, 1)) (.branch 12 (.leaf (9, .if_icmp .ge 32, 3)) (.leaf (12, .aload_n 0, 1)))) (.branch 16 (.leaf (13, .getfield 20, 3)) (.branch 17 (.leaf (16, .iload_n 3, 1)) (.leaf (17, .iload_n 1, 1)))))) (.branch 30 (.branch 25 (.branch 19 (.leaf (18, .iload_n 2, 1)) (.branch 22 (.leaf (19, .invokestatic 230, 3)) (.leaf (22, .ifCond .eq 13, 3)))) (.branch 26 (.leaf (25, .aload_n 0, 1)) (.branch 27 (.leaf (26, .iload_n 3, 1)) (.leaf (27, .invokevirtual 302, 3))))) (.branch 35 (.branch 33 (.leaf (30, .ifCond .ne 5, 3)) (.branch 34 (.leaf (33, .iload_n 3, 1)) (.leaf (34, .ireturn, 1)))) (.branch 41 (.branch 38 (.leaf (35, .iinc 3 1, 3)) (.leaf (38, .goto (-36), 3))) (.branch 42 (.leaf (41, .iconst (-1), 1)) (.leaf (42, .ireturn, 1))))))
noncomputable def oX12_wayOf : List dLf := dFl tX12_wayOf
theorem ofX12_wayOf : dFl tX12_wayOf = oX12_wayOf := rfl
set_option maxRecDepth 100000 in
theorem odX12_wayOf : ∀ q ∈ oX12_wayOf, decode cX12_wayOf q.1 = .ok (q.2.1, q.2.2) := q_go qT_ok bbX12_wayOf oX12_wayOf 0 (by decide +kernel)
set_option maxRecDepth 100000 in
def bX12_way : List Nat := [42, 182, 0, 167, 42, 27, 182, 1, 21, 153, 0, 16, 42, 28, 182, 1, 21, 153, 0, 8, 27, 28, 160, 0, 9, 42, 4, 182, 0, 170, 172, 42, 27, 28, 182, 1, 49, 62, 29, 156, 0, 8, 16, 254, 167, 0, 16, 42, 180, 0, 20, 16, 59, 7, 29, 104, 96, 5, 96, 46, 172]
set_option maxRecDepth 100000 in
theorem bbX12_way : cX12_way.data.toList.map UInt8.toNat = bX12_way := by decide +kernel
set_option maxRecDepth 100000 in
def tX12_way : Lean.RArray dLf := .branch 32 (.branch 17 (.branch 6 (.branch 4 (.branch 1 (.leaf (0, .aload_n 0, 1)) (.leaf (1, .invokevirtual 167, 3))) (.branch 5 (.leaf (4, .aload_n 0, 1)) (.leaf (5, .iload_n 1, 1)))) (.branch 12 (.branch 9 (.leaf (6, .invokevirtual 277, 3)) (.leaf (9, .ifCond .eq 16, 3))) (.branch 13 (.leaf (12, .aload_n 0, 1)) (.branch 14 (.leaf (13, .iload_n 2, 1)) (.leaf (14, .invokevirtual 277, 3)))))) (.branch 25 (.branch 21 (.branch 20 (.leaf (17, .ifCond .eq 8, 3)) (.leaf (20, .iload_n 1, 1))) (.branch 22 (.leaf (21, .iload_n 2, 1)) (.leaf (22, .if_icmp .ne 9, 3)))) (.branch 27 (.branch 26 (.leaf (25, .aload_n 0, 1)) (.leaf (26, .iconst 1, 1))) (.branch 30 (.leaf (27, .invokevirtual 170, 3)) (.branch 31 (.leaf (30, .ireturn, 1)) (.leaf (31, .aload_n 0, 1))))))) (.branch 48 (.branch 38 (.branch 34 (.branch 33 (.leaf (32, .iload_n 1, 1)) (.leaf (33, .iload_n 2, 1))) (.branch 37 (.leaf (34, .invokevirtual 305, 3)) (.leaf (37, .istore_n 3, 1)))) (.branch 42 (.branch 39 (.leaf (38, .iload_n 3, 1)) (.leaf (39, .ifCond .ge 8, 3))) (.branch 44 (.leaf (42, .bipush (-2), 2)) (.branch 47 (.leaf (44, .goto 16, 3)) (.leaf (47, .aload_n 0, 1)))))) (.branch 56 (.branch 53 (.branch 51 (.leaf (48, .getfield 20, 3)) (.leaf (51, .bipush 59, 2))) (.branch 54 (.leaf (53, .iconst 4, 1)) (.branch 55 (.leaf (54, .iload_n 3, 1)) (.leaf (55, .imul, 1))))) (.branch 58 (.branch 57 (.leaf (56, .iadd, 1)) (.leaf (57, .iconst 2, 1))) (.branch 59 (.leaf (58, .iadd, 1)) (.branch 60 (.leaf (59, .iaload, 1)) (.leaf (60, .ireturn, 1)))))))
noncomputable def oX12_way : List dLf := dFl tX12_way
theorem ofX12_way : dFl tX12_way = oX12_way := rfl
set_option maxRecDepth 100000 in
theorem odX12_way : ∀ q ∈ oX12_way, decode cX12_way q.1 = .ok (q.2.1, q.2.2) := q_go qT_ok bbX12_way oX12_way 0 (by decide +kernel)
set_option maxRecDepth 100000 in
def bX12_nearOf : List Nat := [16, 7, 62, 3, 54, 4, 3, 54, 5, 21, 5, 42, 180, 0, 20, 7, 46, 162, 0, 83, 42, 21, 5, 182, 1, 9, 42, 27, 182, 1, 28, 159, 0, 6, 167, 0, 60, 42, 27, 21, 5, 42, 180, 0, 26, 3, 46, 2, 3, 182, 1, 31, 54, 6, 21, 6, 29, 162, 0, 7, 4, 167, 0, 18, 21, 6, 29, 160, 0, 10, 21, 4, 4, 96, 167, 0, 5, 21, 4, 54, 4, 21, 6, 29, 162, 0, 8, 21, 6, 167, 0, 4, 29, 62, 132, 5, 1, 167, 255, 168, 28, 153, 0, 8, 21, 4, 167, 0, 4, 29, 172]
set_option maxRecDepth 100000 in
theorem bbX12_nearOf : cX12_nearOf.data.toList.map UInt8.toNat = bX12_nearOf := by decide +kernel
set_option maxRecDepth 100000 in
def tX12_nearOf : Lean.RArray dLf := .branch 52 (.branch 26 (.branch 11 (.branch 4 (.branch 2 (.leaf (0, .bipush 7, 2)) (.branch 3 (.leaf (2, .istore_n 3, 1)) (.leaf (3, .iconst 0, 1)))) (.branch 7 (.branch 6 (.leaf (4, .istore 4, 2)) (.leaf (6, .iconst 0, 1))) (.branch 9 (.leaf (7, .istore 5, 2)) (.leaf (9, .iload 5, 2))))) (.branch 17 (.branch 15 (.branch 12 (.leaf (11, .aload_n 0, 1)) (.leaf (12, .getfield 20, 3))) (.branch 16 (.leaf (15, .iconst 4, 1)) (.leaf (16, .iaload, 1)))) (.branch 21 (.branch 20 (.leaf (17, .if_icmp .ge 83, 3)) (.leaf (20, .aload_n 0, 1))) (.branch 23 (.leaf (21, .iload 5, 2)) (.leaf (23, .invokevirtual 265, 3)))))) (.branch 39 (.branch 31 (.branch 27 (.leaf (26, .aload_n 0, 1)) (.branch 28 (.leaf (27, .iload_n 1, 1)) (.leaf (28, .invokevirtual 284, 3)))) (.branch 37 (.branch 34 (.leaf (31, .if_icmp .eq 6, 3)) (.leaf (34, .goto 60, 3))) (.branch 38 (.leaf (37, .aload_n 0, 1)) (.leaf (38, .iload_n 1, 1))))) (.branch 46 (.branch 42 (.branch 41 (.leaf (39, .iload 5, 2)) (.leaf (41, .aload_n 0, 1))) (.branch 45 (.leaf (42, .getfield 26, 3)) (.leaf (45, .iconst 0, 1)))) (.branch 48 (.branch 47 (.leaf (46, .iaload, 1)) (.leaf (47, .iconst (-1), 1))) (.branch 49 (.leaf (48, .iconst 0, 1)) (.leaf (49, .invokevirtual 287, 3))))))) (.branch 81 (.branch 66 (.branch 57 (.branch 54 (.leaf (52, .istore 6, 2)) (.branch 56 (.leaf (54, .iload 6, 2)) (.leaf (56, .iload_n 3, 1)))) (.branch 61 (.branch 60 (.leaf (57, .if_icmp .ge 7, 3)) (.leaf (60, .iconst 1, 1))) (.branch 64 (.leaf (61, .goto 18, 3)) (.leaf (64, .iload 6, 2))))) (.branch 73 (.branch 70 (.branch 67 (.leaf (66, .iload_n 3, 1)) (.leaf (67, .if_icmp .ne 10, 3))) (.branch 72 (.leaf (70, .iload 4, 2)) (.leaf (72, .iconst 1, 1)))) (.branch 77 (.branch 74 (.leaf (73, .iadd, 1)) (.leaf (74, .goto 5, 3))) (.branch 79 (.leaf (77, .iload 4, 2)) (.leaf (79, .istore 4, 2)))))) (.branch 94 (.branch 87 (.branch 83 (.leaf (81, .iload 6, 2)) (.branch 84 (.leaf (83, .iload_n 3, 1)) (.leaf (84, .if_icmp .ge 8, 3)))) (.branch 92 (.branch 89 (.leaf (87, .iload 6, 2)) (.leaf (89, .goto 4, 3))) (.branch 93 (.leaf (92, .iload_n 3, 1)) (.leaf (93, .istore_n 3, 1))))) (.branch 104 (.branch 100 (.branch 97 (.leaf (94, .iinc 5 1, 3)) (.leaf (97, .goto (-88), 3))) (.branch 101 (.leaf (100, .iload_n 2, 1)) (.leaf (101, .ifCond .eq 8, 3)))) (.branch 109 (.branch 106 (.leaf (104, .iload 4, 2)) (.leaf (106, .goto 4, 3))) (.branch 110 (.leaf (109, .iload_n 3, 1)) (.leaf (110, .ireturn, 1)))))))
noncomputable def oX12_nearOf : List dLf := dFl tX12_nearOf
theorem ofX12_nearOf : dFl tX12_nearOf = oX12_nearOf := rfl
set_option maxRecDepth 100000 in
theorem odX12_nearOf : ∀ q ∈ oX12_nearOf, decode cX12_nearOf q.1 = .ok (q.2.1, q.2.2) := q_go qT_ok bbX12_nearOf oX12_nearOf 0 (by decide +kernel)
theorem dX12_nearOf_0 : decode cX12_nearOf 0 = .ok (.bipush 7, 2) := d_by (d_at odX12_nearOf ofX12_nearOf 0) rfl
theorem dX12_nearOf_2 : decode cX12_nearOf 2 = .ok (.istore_n 3, 1) := d_by (d_at odX12_nearOf ofX12_nearOf 2) rfl
theorem dX12_nearOf_3 : decode cX12_nearOf 3 = .ok (.iconst 0, 1) := d_by (d_at odX12_nearOf ofX12_nearOf 3) rfl
theorem dX12_nearOf_4 : decode cX12_nearOf 4 = .ok (.istore 4, 2) := d_by (d_at odX12_nearOf ofX12_nearOf 4) rfl
theorem dX12_nearOf_6 : decode cX12_nearOf 6 = .ok (.iconst 0, 1) := d_by (d_at odX12_nearOf ofX12_nearOf 6) rfl
theorem dX12_nearOf_7 : decode cX12_nearOf 7 = .ok (.istore 5, 2) := d_by (d_at odX12_nearOf ofX12_nearOf 7) rfl
theorem dX12_nearOf_9 : decode cX12_nearOf 9 = .ok (.iload 5, 2) := d_by (d_at odX12_nearOf ofX12_nearOf 9) rfl
theorem dX12_nearOf_11 : decode cX12_nearOf 11 = .ok (.aload_n 0, 1) := d_by (d_at odX12_nearOf ofX12_nearOf 11) rfl
theorem dX12_nearOf_12 : decode cX12_nearOf 12 = .ok (.getfield 20, 3) := d_by (d_at odX12_nearOf ofX12_nearOf 12) rfl
theorem dX12_nearOf_15 : decode cX12_nearOf 15 = .ok (.iconst 4, 1) := d_by (d_at odX12_nearOf ofX12_nearOf 15) rfl
theorem dX12_nearOf_16 : decode cX12_nearOf 16 = .ok (.iaload, 1) := d_by (d_at odX12_nearOf ofX12_nearOf 16) rfl
theorem dX12_nearOf_17 : decode cX12_nearOf 17 = .ok (.if_icmp .ge 83, 3) := d_by (d_at odX12_nearOf ofX12_nearOf 17) rfl
theorem dX12_nearOf_20 : decode cX12_nearOf 20 = .ok (.aload_n 0, 1) := d_by (d_at odX12_nearOf ofX12_nearOf 20) rfl
theorem dX12_nearOf_21 : decode cX12_nearOf 21 = .ok (.iload 5, 2) := d_by (d_at odX12_nearOf ofX12_nearOf 21) rfl
theorem dX12_nearOf_23 : decode cX12_nearOf 23 = .ok (.invokevirtual 265, 3) := d_by (d_at odX12_nearOf ofX12_nearOf 23) rfl
theorem dX12_nearOf_26 : decode cX12_nearOf 26 = .ok (.aload_n 0, 1) := d_by (d_at odX12_nearOf ofX12_nearOf 26) rfl
theorem dX12_nearOf_27 : decode cX12_nearOf 27 = .ok (.iload_n 1, 1) := d_by (d_at odX12_nearOf ofX12_nearOf 27) rfl
theorem dX12_nearOf_28 : decode cX12_nearOf 28 = .ok (.invokevirtual 284, 3) := d_by (d_at odX12_nearOf ofX12_nearOf 28) rfl
theorem dX12_nearOf_31 : decode cX12_nearOf 31 = .ok (.if_icmp .eq 6, 3) := d_by (d_at odX12_nearOf ofX12_nearOf 31) rfl
theorem dX12_nearOf_34 : decode cX12_nearOf 34 = .ok (.goto 60, 3) := d_by (d_at odX12_nearOf ofX12_nearOf 34) rfl
theorem dX12_nearOf_37 : decode cX12_nearOf 37 = .ok (.aload_n 0, 1) := d_by (d_at odX12_nearOf ofX12_nearOf 37) rfl
theorem dX12_nearOf_38 : decode cX12_nearOf 38 = .ok (.iload_n 1, 1) := d_by (d_at odX12_nearOf ofX12_nearOf 38) rfl
theorem dX12_nearOf_39 : decode cX12_nearOf 39 = .ok (.iload 5, 2) := d_by (d_at odX12_nearOf ofX12_nearOf 39) rfl
theorem dX12_nearOf_41 : decode cX12_nearOf 41 = .ok (.aload_n 0, 1) := d_by (d_at odX12_nearOf ofX12_nearOf 41) rfl
theorem dX12_nearOf_42 : decode cX12_nearOf 42 = .ok (.getfield 26, 3) := d_by (d_at odX12_nearOf ofX12_nearOf 42) rfl
theorem dX12_nearOf_45 : decode cX12_nearOf 45 = .ok (.iconst 0, 1) := d_by (d_at odX12_nearOf ofX12_nearOf 45) rfl
theorem dX12_nearOf_46 : decode cX12_nearOf 46 = .ok (.iaload, 1) := d_by (d_at odX12_nearOf ofX12_nearOf 46) rfl
theorem dX12_nearOf_47 : decode cX12_nearOf 47 = .ok (.iconst (-1), 1) := d_by (d_at odX12_nearOf ofX12_nearOf 47) rfl
theorem dX12_nearOf_48 : decode cX12_nearOf 48 = .ok (.iconst 0, 1) := d_by (d_at odX12_nearOf ofX12_nearOf 48) rfl
theorem dX12_nearOf_49 : decode cX12_nearOf 49 = .ok (.invokevirtual 287, 3) := d_by (d_at odX12_nearOf ofX12_nearOf 49) rfl
theorem dX12_nearOf_52 : decode cX12_nearOf 52 = .ok (.istore 6, 2) := d_by (d_at odX12_nearOf ofX12_nearOf 52) rfl
theorem dX12_nearOf_54 : decode cX12_nearOf 54 = .ok (.iload 6, 2) := d_by (d_at odX12_nearOf ofX12_nearOf 54) rfl
theorem dX12_nearOf_56 : decode cX12_nearOf 56 = .ok (.iload_n 3, 1) := d_by (d_at odX12_nearOf ofX12_nearOf 56) rfl
theorem dX12_nearOf_57 : decode cX12_nearOf 57 = .ok (.if_icmp .ge 7, 3) := d_by (d_at odX12_nearOf ofX12_nearOf 57) rfl
theorem dX12_nearOf_60 : decode cX12_nearOf 60 = .ok (.iconst 1, 1) := d_by (d_at odX12_nearOf ofX12_nearOf 60) rfl
theorem dX12_nearOf_61 : decode cX12_nearOf 61 = .ok (.goto 18, 3) := d_by (d_at odX12_nearOf ofX12_nearOf 61) rfl
theorem dX12_nearOf_64 : decode cX12_nearOf 64 = .ok (.iload 6, 2) := d_by (d_at odX12_nearOf ofX12_nearOf 64) rfl
theorem dX12_nearOf_66 : decode cX12_nearOf 66 = .ok (.iload_n 3, 1) := d_by (d_at odX12_nearOf ofX12_nearOf 66) rfl
theorem dX12_nearOf_67 : decode cX12_nearOf 67 = .ok (.if_icmp .ne 10, 3) := d_by (d_at odX12_nearOf ofX12_nearOf 67) rfl
theorem dX12_nearOf_70 : decode cX12_nearOf 70 = .ok (.iload 4, 2) := d_by (d_at odX12_nearOf ofX12_nearOf 70) rfl
theorem dX12_nearOf_72 : decode cX12_nearOf 72 = .ok (.iconst 1, 1) := d_by (d_at odX12_nearOf ofX12_nearOf 72) rfl
theorem dX12_nearOf_73 : decode cX12_nearOf 73 = .ok (.iadd, 1) := d_by (d_at odX12_nearOf ofX12_nearOf 73) rfl
theorem dX12_nearOf_74 : decode cX12_nearOf 74 = .ok (.goto 5, 3) := d_by (d_at odX12_nearOf ofX12_nearOf 74) rfl
theorem dX12_nearOf_77 : decode cX12_nearOf 77 = .ok (.iload 4, 2) := d_by (d_at odX12_nearOf ofX12_nearOf 77) rfl
theorem dX12_nearOf_79 : decode cX12_nearOf 79 = .ok (.istore 4, 2) := d_by (d_at odX12_nearOf ofX12_nearOf 79) rfl
theorem dX12_nearOf_81 : decode cX12_nearOf 81 = .ok (.iload 6, 2) := d_by (d_at odX12_nearOf ofX12_nearOf 81) rfl
theorem dX12_nearOf_83 : decode cX12_nearOf 83 = .ok (.iload_n 3, 1) := d_by (d_at odX12_nearOf ofX12_nearOf 83) rfl
theorem dX12_nearOf_84 : decode cX12_nearOf 84 = .ok (.if_icmp .ge 8, 3) := d_by (d_at odX12_nearOf ofX12_nearOf 84) rfl
theorem dX12_nearOf_87 : decode cX12_nearOf 87 = .ok (.iload 6, 2) := d_by (d_at odX12_nearOf ofX12_nearOf 87) rfl
theorem dX12_nearOf_89 : decode cX12_nearOf 89 = .ok (.goto 4, 3) := d_by (d_at odX12_nearOf ofX12_nearOf 89) rfl
theorem dX12_nearOf_92 : decode cX12_nearOf 92 = .ok (.iload_n 3, 1) := d_by (d_at odX12_nearOf ofX12_nearOf 92) rfl
theorem dX12_nearOf_93 : decode cX12_nearOf 93 = .ok (.istore_n 3, 1) := d_by (d_at odX12_nearOf ofX12_nearOf 93) rfl
theorem dX12_nearOf_94 : decode cX12_nearOf 94 = .ok (.iinc 5 1, 3) := d_by (d_at odX12_nearOf ofX12_nearOf 94) rfl
theorem dX12_nearOf_97 : decode cX12_nearOf 97 = .ok (.goto (-88), 3) := d_by (d_at odX12_nearOf ofX12_nearOf 97) rfl
theorem dX12_nearOf_100 : decode cX12_nearOf 100 = .ok (.iload_n 2, 1) := d_by (d_at odX12_nearOf ofX12_nearOf 100) rfl
theorem dX12_nearOf_101 : decode cX12_nearOf 101 = .ok (.ifCond .eq 8, 3) := d_by (d_at odX12_nearOf ofX12_nearOf 101) rfl
theorem dX12_nearOf_104 : decode cX12_nearOf 104 = .ok (.iload 4, 2) := d_by (d_at odX12_nearOf ofX12_nearOf 104) rfl
theorem dX12_nearOf_106 : decode cX12_nearOf 106 = .ok (.goto 4, 3) := d_by (d_at odX12_nearOf ofX12_nearOf 106) rfl
theorem dX12_nearOf_109 : decode cX12_nearOf 109 = .ok (.iload_n 3, 1) := d_by (d_at odX12_nearOf ofX12_nearOf 109) rfl
theorem dX12_nearOf_110 : decode cX12_nearOf 110 = .ok (.ireturn, 1) := d_by (d_at odX12_nearOf ofX12_nearOf 110) rfl
set_option maxRecDepth 100000 in
def bX12_near : List Nat := [42, 182, 0, 167, 42, 27, 182, 1, 18, 153, 0, 12, 42, 27, 3, 182, 1, 52, 167, 0, 8, 42, 4, 182, 0, 170, 172]
set_option maxRecDepth 100000 in
theorem bbX12_near : cX12_near.data.toList.map UInt8.toNat = bX12_near := by decide +kernel
set_option maxRecDepth 100000 in
def tX12_near : Lean.RArray dLf := .branch 13 (.branch 5 (.branch 1 (.leaf (0, .aload_n 0, 1)) (.branch 4 (.leaf (1, .invokevirtual 167, 3)) (.leaf (4, .aload_n 0, 1)))) (.branch 9 (.branch 6 (.leaf (5, .iload_n 1, 1)) (.leaf (6, .invokevirtual 274, 3))) (.branch 12 (.leaf (9, .ifCond .eq 12, 3)) (.leaf (12, .aload_n 0, 1))))) (.branch 21 (.branch 15 (.branch 14 (.leaf (13, .iload_n 1, 1)) (.leaf (14, .iconst 0, 1))) (.branch 18 (.leaf (15, .invokevirtual 308, 3)) (.leaf (18, .goto 8, 3)))) (.branch 23 (.branch 22 (.leaf (21, .aload_n 0, 1)) (.leaf (22, .iconst 1, 1))) (.branch 26 (.leaf (23, .invokevirtual 170, 3)) (.leaf (26, .ireturn, 1)))))
noncomputable def oX12_near : List dLf := dFl tX12_near
theorem ofX12_near : dFl tX12_near = oX12_near := rfl
set_option maxRecDepth 100000 in
theorem odX12_near : ∀ q ∈ oX12_near, decode cX12_near q.1 = .ok (q.2.1, q.2.2) := q_go qT_ok bbX12_near oX12_near 0 (by decide +kernel)
theorem dX12_near_0 : decode cX12_near 0 = .ok (.aload_n 0, 1) := d_by (d_at odX12_near ofX12_near 0) rfl
theorem dX12_near_1 : decode cX12_near 1 = .ok (.invokevirtual 167, 3) := d_by (d_at odX12_near ofX12_near 1) rfl
theorem dX12_near_4 : decode cX12_near 4 = .ok (.aload_n 0, 1) := d_by (d_at odX12_near ofX12_near 4) rfl
theorem dX12_near_5 : decode cX12_near 5 = .ok (.iload_n 1, 1) := d_by (d_at odX12_near ofX12_near 5) rfl
theorem dX12_near_6 : decode cX12_near 6 = .ok (.invokevirtual 274, 3) := d_by (d_at odX12_near ofX12_near 6) rfl
theorem dX12_near_9 : decode cX12_near 9 = .ok (.ifCond .eq 12, 3) := d_by (d_at odX12_near ofX12_near 9) rfl
theorem dX12_near_12 : decode cX12_near 12 = .ok (.aload_n 0, 1) := d_by (d_at odX12_near ofX12_near 12) rfl
theorem dX12_near_13 : decode cX12_near 13 = .ok (.iload_n 1, 1) := d_by (d_at odX12_near ofX12_near 13) rfl
theorem dX12_near_14 : decode cX12_near 14 = .ok (.iconst 0, 1) := d_by (d_at odX12_near ofX12_near 14) rfl
theorem dX12_near_15 : decode cX12_near 15 = .ok (.invokevirtual 308, 3) := d_by (d_at odX12_near ofX12_near 15) rfl
theorem dX12_near_18 : decode cX12_near 18 = .ok (.goto 8, 3) := d_by (d_at odX12_near ofX12_near 18) rfl
theorem dX12_near_21 : decode cX12_near 21 = .ok (.aload_n 0, 1) := d_by (d_at odX12_near ofX12_near 21) rfl
theorem dX12_near_22 : decode cX12_near 22 = .ok (.iconst 1, 1) := d_by (d_at odX12_near ofX12_near 22) rfl
theorem dX12_near_23 : decode cX12_near 23 = .ok (.invokevirtual 170, 3) := d_by (d_at odX12_near ofX12_near 23) rfl
theorem dX12_near_26 : decode cX12_near 26 = .ok (.ireturn, 1) := d_by (d_at odX12_near ofX12_near 26) rfl
set_option maxRecDepth 100000 in
def bX12_asNear : List Nat := [42, 182, 0, 167, 42, 27, 182, 1, 18, 153, 0, 12, 42, 27, 4, 182, 1, 52, 167, 0, 8, 42, 4, 182, 0, 170, 172]
set_option maxRecDepth 100000 in
theorem bbX12_asNear : cX12_asNear.data.toList.map UInt8.toNat = bX12_asNear := by decide +kernel
set_option maxRecDepth 100000 in
def tX12_asNear : Lean.RArray dLf := .branch 13 (.branch 5 (.branch 1 (.leaf (0, .aload_n 0, 1)) (.branch 4 (.leaf (1, .invokevirtual 167, 3)) (.leaf (4, .aload_n 0, 1)))) (.branch 9 (.branch 6 (.leaf (5, .iload_n 1, 1)) (.leaf (6, .invokevirtual 274, 3))) (.branch 12 (.leaf (9, .ifCond .eq 12, 3)) (.leaf (12, .aload_n 0, 1))))) (.branch 21 (.branch 15 (.branch 14 (.leaf (13, .iload_n 1, 1)) (.leaf (14, .iconst 1, 1))) (.branch 18 (.leaf (15, .invokevirtual 308, 3)) (.leaf (18, .goto 8, 3)))) (.branch 23 (.branch 22 (.leaf (21, .aload_n 0, 1)) (.leaf (22, .iconst 1, 1))) (.branch 26 (.leaf (23, .invokevirtual 170, 3)) (.leaf (26, .ireturn, 1)))))
noncomputable def oX12_asNear : List dLf := dFl tX12_asNear
theorem ofX12_asNear : dFl tX12_asNear = oX12_asNear := rfl
set_option maxRecDepth 100000 in
theorem odX12_asNear : ∀ q ∈ oX12_asNear, decode cX12_asNear q.1 = .ok (q.2.1, q.2.2) := q_go qT_ok bbX12_asNear oX12_asNear 0 (by decide +kernel)
theorem dX12_asNear_0 : decode cX12_asNear 0 = .ok (.aload_n 0, 1) := d_by (d_at odX12_asNear ofX12_asNear 0) rfl
theorem dX12_asNear_1 : decode cX12_asNear 1 = .ok (.invokevirtual 167, 3) := d_by (d_at odX12_asNear ofX12_asNear 1) rfl
theorem dX12_asNear_4 : decode cX12_asNear 4 = .ok (.aload_n 0, 1) := d_by (d_at odX12_asNear ofX12_asNear 4) rfl
theorem dX12_asNear_5 : decode cX12_asNear 5 = .ok (.iload_n 1, 1) := d_by (d_at odX12_asNear ofX12_asNear 5) rfl
theorem dX12_asNear_6 : decode cX12_asNear 6 = .ok (.invokevirtual 274, 3) := d_by (d_at odX12_asNear ofX12_asNear 6) rfl
theorem dX12_asNear_9 : decode cX12_asNear 9 = .ok (.ifCond .eq 12, 3) := d_by (d_at odX12_asNear ofX12_asNear 9) rfl
theorem dX12_asNear_12 : decode cX12_asNear 12 = .ok (.aload_n 0, 1) := d_by (d_at odX12_asNear ofX12_asNear 12) rfl
theorem dX12_asNear_13 : decode cX12_asNear 13 = .ok (.iload_n 1, 1) := d_by (d_at odX12_asNear ofX12_asNear 13) rfl
theorem dX12_asNear_14 : decode cX12_asNear 14 = .ok (.iconst 1, 1) := d_by (d_at odX12_asNear ofX12_asNear 14) rfl
theorem dX12_asNear_15 : decode cX12_asNear 15 = .ok (.invokevirtual 308, 3) := d_by (d_at odX12_asNear ofX12_asNear 15) rfl
theorem dX12_asNear_18 : decode cX12_asNear 18 = .ok (.goto 8, 3) := d_by (d_at odX12_asNear ofX12_asNear 18) rfl
theorem dX12_asNear_21 : decode cX12_asNear 21 = .ok (.aload_n 0, 1) := d_by (d_at odX12_asNear ofX12_asNear 21) rfl
theorem dX12_asNear_22 : decode cX12_asNear 22 = .ok (.iconst 1, 1) := d_by (d_at odX12_asNear ofX12_asNear 22) rfl
theorem dX12_asNear_23 : decode cX12_asNear 23 = .ok (.invokevirtual 170, 3) := d_by (d_at odX12_asNear ofX12_asNear 23) rfl
theorem dX12_asNear_26 : decode cX12_asNear 26 = .ok (.ireturn, 1) := d_by (d_at odX12_asNear ofX12_asNear 26) rfl
set_option maxRecDepth 100000 in
def bX12_sent : List Nat := [42, 182, 0, 167, 42, 180, 0, 180, 153, 0, 12, 27, 3, 5, 184, 0, 149, 154, 0, 9, 42, 4, 182, 0, 170, 172, 3, 61, 3, 62, 29, 42, 180, 0, 20, 16, 7, 46, 162, 0, 86, 42, 180, 0, 26, 16, 12, 29, 96, 46, 154, 0, 6, 167, 0, 65, 28, 27, 154, 0, 7, 4, 167, 0, 54, 27, 4, 160, 0, 31, 42, 180, 0, 26, 16, 20, 29, 96, 46, 4, 100, 42, 29, 4, 182, 1, 6, 160, 0, 7, 4, 167, 0, 25, 3, 167, 0, 21, 42, 180, 0, 26, 16, 12, 29, 96, 46, 4, 100, 42, 29, 6, 182, 1, 6, 100, 96, 61, 132, 3, 1, 167, 255, 165, 28, 172]
set_option maxRecDepth 100000 in
theorem bbX12_sent : cX12_sent.data.toList.map UInt8.toNat = bX12_sent := by decide +kernel
set_option maxRecDepth 100000 in
def tX12_sent : Lean.RArray dLf := .branch 66 (.branch 31 (.branch 17 (.branch 8 (.branch 4 (.branch 1 (.leaf (0, .aload_n 0, 1)) (.leaf (1, .invokevirtual 167, 3))) (.branch 5 (.leaf (4, .aload_n 0, 1)) (.leaf (5, .getfield 180, 3)))) (.branch 12 (.branch 11 (.leaf (8, .ifCond .eq 12, 3)) (.leaf (11, .iload_n 1, 1))) (.branch 13 (.leaf (12, .iconst 0, 1)) (.branch 14 (.leaf (13, .iconst 2, 1)) (.leaf (14, .invokestatic 149, 3)))))) (.branch 26 (.branch 21 (.branch 20 (.leaf (17, .ifCond .ne 9, 3)) (.leaf (20, .aload_n 0, 1))) (.branch 22 (.leaf (21, .iconst 1, 1)) (.branch 25 (.leaf (22, .invokevirtual 170, 3)) (.leaf (25, .ireturn, 1))))) (.branch 28 (.branch 27 (.leaf (26, .iconst 0, 1)) (.leaf (27, .istore_n 2, 1))) (.branch 29 (.leaf (28, .iconst 0, 1)) (.branch 30 (.leaf (29, .istore_n 3, 1)) (.leaf (30, .iload_n 3, 1))))))) (.branch 48 (.branch 38 (.branch 35 (.branch 32 (.leaf (31, .aload_n 0, 1)) (.leaf (32, .getfield 20, 3))) (.branch 37 (.leaf (35, .bipush 7, 2)) (.leaf (37, .iaload, 1)))) (.branch 42 (.branch 41 (.leaf (38, .if_icmp .ge 86, 3)) (.leaf (41, .aload_n 0, 1))) (.branch 45 (.leaf (42, .getfield 26, 3)) (.branch 47 (.leaf (45, .bipush 12, 2)) (.leaf (47, .iload_n 3, 1)))))) (.branch 57 (.branch 50 (.branch 49 (.leaf (48, .iadd, 1)) (.leaf (49, .iaload, 1))) (.branch 53 (.leaf (50, .ifCond .ne 6, 3)) (.branch 56 (.leaf (53, .goto 65, 3)) (.leaf (56, .iload_n 2, 1))))) (.branch 61 (.branch 58 (.leaf (57, .iload_n 1, 1)) (.leaf (58, .ifCond .ne 7, 3))) (.branch 62 (.leaf (61, .iconst 1, 1)) (.branch 65 (.leaf (62, .goto 54, 3)) (.leaf (65, .iload_n 1, 1)))))))) (.branch 98 (.branch 80 (.branch 74 (.branch 70 (.branch 67 (.leaf (66, .iconst 1, 1)) (.leaf (67, .if_icmp .ne 31, 3))) (.branch 71 (.leaf (70, .aload_n 0, 1)) (.leaf (71, .getfield 26, 3)))) (.branch 77 (.branch 76 (.leaf (74, .bipush 20, 2)) (.leaf (76, .iload_n 3, 1))) (.branch 78 (.leaf (77, .iadd, 1)) (.branch 79 (.leaf (78, .iaload, 1)) (.leaf (79, .iconst 1, 1)))))) (.branch 87 (.branch 82 (.branch 81 (.leaf (80, .isub, 1)) (.leaf (81, .aload_n 0, 1))) (.branch 83 (.leaf (82, .iload_n 3, 1)) (.branch 84 (.leaf (83, .iconst 1, 1)) (.leaf (84, .invokevirtual 262, 3))))) (.branch 91 (.branch 90 (.leaf (87, .if_icmp .ne 7, 3)) (.leaf (90, .iconst 1, 1))) (.branch 94 (.leaf (91, .goto 25, 3)) (.branch 95 (.leaf (94, .iconst 0, 1)) (.leaf (95, .goto 21, 3))))))) (.branch 110 (.branch 105 (.branch 102 (.branch 99 (.leaf (98, .aload_n 0, 1)) (.leaf (99, .getfield 26, 3))) (.branch 104 (.leaf (102, .bipush 12, 2)) (.leaf (104, .iload_n 3, 1)))) (.branch 107 (.branch 106 (.leaf (105, .iadd, 1)) (.leaf (106, .iaload, 1))) (.branch 108 (.leaf (107, .iconst 1, 1)) (.branch 109 (.leaf (108, .isub, 1)) (.leaf (109, .aload_n 0, 1)))))) (.branch 117 (.branch 112 (.branch 111 (.leaf (110, .iload_n 3, 1)) (.leaf (111, .iconst 3, 1))) (.branch 115 (.leaf (112, .invokevirtual 262, 3)) (.branch 116 (.leaf (115, .isub, 1)) (.leaf (116, .iadd, 1))))) (.branch 121 (.branch 118 (.leaf (117, .istore_n 2, 1)) (.leaf (118, .iinc 3 1, 3))) (.branch 124 (.leaf (121, .goto (-91), 3)) (.branch 125 (.leaf (124, .iload_n 2, 1)) (.leaf (125, .ireturn, 1))))))))
noncomputable def oX12_sent : List dLf := dFl tX12_sent
theorem ofX12_sent : dFl tX12_sent = oX12_sent := rfl
set_option maxRecDepth 100000 in
theorem odX12_sent : ∀ q ∈ oX12_sent, decode cX12_sent q.1 = .ok (q.2.1, q.2.2) := q_go qT_ok bbX12_sent oX12_sent 0 (by decide +kernel)
set_option maxRecDepth 100000 in
def bX12_apartOf : List Nat := [42, 27, 182, 1, 9, 42, 28, 182, 1, 9, 159, 0, 6, 16, 254, 172, 3, 62, 3, 54, 4, 21, 4, 42, 27, 182, 1, 9, 162, 0, 54, 29, 42, 180, 0, 20, 16, 10, 16, 7, 27, 104, 96, 4, 96, 21, 4, 96, 46, 42, 180, 0, 20, 16, 10, 16, 7, 28, 104, 96, 4, 96, 21, 4, 96, 46, 160, 0, 7, 3, 167, 0, 4, 4, 96, 62, 132, 4, 1, 167, 255, 198, 29, 172]
set_option maxRecDepth 100000 in
theorem bbX12_apartOf : cX12_apartOf.data.toList.map UInt8.toNat = bX12_apartOf := by decide +kernel
set_option maxRecDepth 100000 in
def tX12_apartOf : Lean.RArray dLf := .branch 43 (.branch 21 (.branch 10 (.branch 5 (.branch 1 (.leaf (0, .aload_n 0, 1)) (.branch 2 (.leaf (1, .iload_n 1, 1)) (.leaf (2, .invokevirtual 265, 3)))) (.branch 6 (.leaf (5, .aload_n 0, 1)) (.branch 7 (.leaf (6, .iload_n 2, 1)) (.leaf (7, .invokevirtual 265, 3))))) (.branch 16 (.branch 13 (.leaf (10, .if_icmp .eq 6, 3)) (.branch 15 (.leaf (13, .bipush (-2), 2)) (.leaf (15, .ireturn, 1)))) (.branch 18 (.branch 17 (.leaf (16, .iconst 0, 1)) (.leaf (17, .istore_n 3, 1))) (.branch 19 (.leaf (18, .iconst 0, 1)) (.leaf (19, .istore 4, 2)))))) (.branch 32 (.branch 25 (.branch 23 (.leaf (21, .iload 4, 2)) (.branch 24 (.leaf (23, .aload_n 0, 1)) (.leaf (24, .iload_n 1, 1)))) (.branch 28 (.leaf (25, .invokevirtual 265, 3)) (.branch 31 (.leaf (28, .if_icmp .ge 54, 3)) (.leaf (31, .iload_n 3, 1))))) (.branch 38 (.branch 33 (.leaf (32, .aload_n 0, 1)) (.branch 36 (.leaf (33, .getfield 20, 3)) (.leaf (36, .bipush 10, 2)))) (.branch 41 (.branch 40 (.leaf (38, .bipush 7, 2)) (.leaf (40, .iload_n 1, 1))) (.branch 42 (.leaf (41, .imul, 1)) (.leaf (42, .iadd, 1))))))) (.branch 61 (.branch 50 (.branch 47 (.branch 44 (.leaf (43, .iconst 1, 1)) (.branch 45 (.leaf (44, .iadd, 1)) (.leaf (45, .iload 4, 2)))) (.branch 48 (.leaf (47, .iadd, 1)) (.branch 49 (.leaf (48, .iaload, 1)) (.leaf (49, .aload_n 0, 1))))) (.branch 57 (.branch 53 (.leaf (50, .getfield 20, 3)) (.branch 55 (.leaf (53, .bipush 10, 2)) (.leaf (55, .bipush 7, 2)))) (.branch 59 (.branch 58 (.leaf (57, .iload_n 2, 1)) (.leaf (58, .imul, 1))) (.branch 60 (.leaf (59, .iadd, 1)) (.leaf (60, .iconst 1, 1)))))) (.branch 73 (.branch 65 (.branch 62 (.leaf (61, .iadd, 1)) (.branch 64 (.leaf (62, .iload 4, 2)) (.leaf (64, .iadd, 1)))) (.branch 69 (.branch 66 (.leaf (65, .iaload, 1)) (.leaf (66, .if_icmp .ne 7, 3))) (.branch 70 (.leaf (69, .iconst 0, 1)) (.leaf (70, .goto 4, 3))))) (.branch 76 (.branch 74 (.leaf (73, .iconst 1, 1)) (.branch 75 (.leaf (74, .iadd, 1)) (.leaf (75, .istore_n 3, 1)))) (.branch 82 (.branch 79 (.leaf (76, .iinc 4 1, 3)) (.leaf (79, .goto (-58), 3))) (.branch 83 (.leaf (82, .iload_n 3, 1)) (.leaf (83, .ireturn, 1)))))))
noncomputable def oX12_apartOf : List dLf := dFl tX12_apartOf
theorem ofX12_apartOf : dFl tX12_apartOf = oX12_apartOf := rfl
set_option maxRecDepth 100000 in
theorem odX12_apartOf : ∀ q ∈ oX12_apartOf, decode cX12_apartOf q.1 = .ok (q.2.1, q.2.2) := q_go qT_ok bbX12_apartOf oX12_apartOf 0 (by decide +kernel)
theorem dX12_apartOf_0 : decode cX12_apartOf 0 = .ok (.aload_n 0, 1) := d_by (d_at odX12_apartOf ofX12_apartOf 0) rfl
theorem dX12_apartOf_1 : decode cX12_apartOf 1 = .ok (.iload_n 1, 1) := d_by (d_at odX12_apartOf ofX12_apartOf 1) rfl
theorem dX12_apartOf_2 : decode cX12_apartOf 2 = .ok (.invokevirtual 265, 3) := d_by (d_at odX12_apartOf ofX12_apartOf 2) rfl
theorem dX12_apartOf_5 : decode cX12_apartOf 5 = .ok (.aload_n 0, 1) := d_by (d_at odX12_apartOf ofX12_apartOf 5) rfl
theorem dX12_apartOf_6 : decode cX12_apartOf 6 = .ok (.iload_n 2, 1) := d_by (d_at odX12_apartOf ofX12_apartOf 6) rfl
theorem dX12_apartOf_7 : decode cX12_apartOf 7 = .ok (.invokevirtual 265, 3) := d_by (d_at odX12_apartOf ofX12_apartOf 7) rfl
theorem dX12_apartOf_10 : decode cX12_apartOf 10 = .ok (.if_icmp .eq 6, 3) := d_by (d_at odX12_apartOf ofX12_apartOf 10) rfl
theorem dX12_apartOf_13 : decode cX12_apartOf 13 = .ok (.bipush (-2), 2) := d_by (d_at odX12_apartOf ofX12_apartOf 13) rfl
theorem dX12_apartOf_15 : decode cX12_apartOf 15 = .ok (.ireturn, 1) := d_by (d_at odX12_apartOf ofX12_apartOf 15) rfl
theorem dX12_apartOf_16 : decode cX12_apartOf 16 = .ok (.iconst 0, 1) := d_by (d_at odX12_apartOf ofX12_apartOf 16) rfl
theorem dX12_apartOf_17 : decode cX12_apartOf 17 = .ok (.istore_n 3, 1) := d_by (d_at odX12_apartOf ofX12_apartOf 17) rfl
theorem dX12_apartOf_18 : decode cX12_apartOf 18 = .ok (.iconst 0, 1) := d_by (d_at odX12_apartOf ofX12_apartOf 18) rfl
theorem dX12_apartOf_19 : decode cX12_apartOf 19 = .ok (.istore 4, 2) := d_by (d_at odX12_apartOf ofX12_apartOf 19) rfl
theorem dX12_apartOf_21 : decode cX12_apartOf 21 = .ok (.iload 4, 2) := d_by (d_at odX12_apartOf ofX12_apartOf 21) rfl
theorem dX12_apartOf_23 : decode cX12_apartOf 23 = .ok (.aload_n 0, 1) := d_by (d_at odX12_apartOf ofX12_apartOf 23) rfl
theorem dX12_apartOf_24 : decode cX12_apartOf 24 = .ok (.iload_n 1, 1) := d_by (d_at odX12_apartOf ofX12_apartOf 24) rfl
theorem dX12_apartOf_25 : decode cX12_apartOf 25 = .ok (.invokevirtual 265, 3) := d_by (d_at odX12_apartOf ofX12_apartOf 25) rfl
theorem dX12_apartOf_28 : decode cX12_apartOf 28 = .ok (.if_icmp .ge 54, 3) := d_by (d_at odX12_apartOf ofX12_apartOf 28) rfl
theorem dX12_apartOf_31 : decode cX12_apartOf 31 = .ok (.iload_n 3, 1) := d_by (d_at odX12_apartOf ofX12_apartOf 31) rfl
theorem dX12_apartOf_32 : decode cX12_apartOf 32 = .ok (.aload_n 0, 1) := d_by (d_at odX12_apartOf ofX12_apartOf 32) rfl
theorem dX12_apartOf_33 : decode cX12_apartOf 33 = .ok (.getfield 20, 3) := d_by (d_at odX12_apartOf ofX12_apartOf 33) rfl
theorem dX12_apartOf_36 : decode cX12_apartOf 36 = .ok (.bipush 10, 2) := d_by (d_at odX12_apartOf ofX12_apartOf 36) rfl
theorem dX12_apartOf_38 : decode cX12_apartOf 38 = .ok (.bipush 7, 2) := d_by (d_at odX12_apartOf ofX12_apartOf 38) rfl
theorem dX12_apartOf_40 : decode cX12_apartOf 40 = .ok (.iload_n 1, 1) := d_by (d_at odX12_apartOf ofX12_apartOf 40) rfl
theorem dX12_apartOf_41 : decode cX12_apartOf 41 = .ok (.imul, 1) := d_by (d_at odX12_apartOf ofX12_apartOf 41) rfl
theorem dX12_apartOf_42 : decode cX12_apartOf 42 = .ok (.iadd, 1) := d_by (d_at odX12_apartOf ofX12_apartOf 42) rfl
theorem dX12_apartOf_43 : decode cX12_apartOf 43 = .ok (.iconst 1, 1) := d_by (d_at odX12_apartOf ofX12_apartOf 43) rfl
theorem dX12_apartOf_44 : decode cX12_apartOf 44 = .ok (.iadd, 1) := d_by (d_at odX12_apartOf ofX12_apartOf 44) rfl
theorem dX12_apartOf_45 : decode cX12_apartOf 45 = .ok (.iload 4, 2) := d_by (d_at odX12_apartOf ofX12_apartOf 45) rfl
theorem dX12_apartOf_47 : decode cX12_apartOf 47 = .ok (.iadd, 1) := d_by (d_at odX12_apartOf ofX12_apartOf 47) rfl
theorem dX12_apartOf_48 : decode cX12_apartOf 48 = .ok (.iaload, 1) := d_by (d_at odX12_apartOf ofX12_apartOf 48) rfl
theorem dX12_apartOf_49 : decode cX12_apartOf 49 = .ok (.aload_n 0, 1) := d_by (d_at odX12_apartOf ofX12_apartOf 49) rfl
theorem dX12_apartOf_50 : decode cX12_apartOf 50 = .ok (.getfield 20, 3) := d_by (d_at odX12_apartOf ofX12_apartOf 50) rfl
theorem dX12_apartOf_53 : decode cX12_apartOf 53 = .ok (.bipush 10, 2) := d_by (d_at odX12_apartOf ofX12_apartOf 53) rfl
theorem dX12_apartOf_55 : decode cX12_apartOf 55 = .ok (.bipush 7, 2) := d_by (d_at odX12_apartOf ofX12_apartOf 55) rfl
theorem dX12_apartOf_57 : decode cX12_apartOf 57 = .ok (.iload_n 2, 1) := d_by (d_at odX12_apartOf ofX12_apartOf 57) rfl
theorem dX12_apartOf_58 : decode cX12_apartOf 58 = .ok (.imul, 1) := d_by (d_at odX12_apartOf ofX12_apartOf 58) rfl
theorem dX12_apartOf_59 : decode cX12_apartOf 59 = .ok (.iadd, 1) := d_by (d_at odX12_apartOf ofX12_apartOf 59) rfl
theorem dX12_apartOf_60 : decode cX12_apartOf 60 = .ok (.iconst 1, 1) := d_by (d_at odX12_apartOf ofX12_apartOf 60) rfl
theorem dX12_apartOf_61 : decode cX12_apartOf 61 = .ok (.iadd, 1) := d_by (d_at odX12_apartOf ofX12_apartOf 61) rfl
theorem dX12_apartOf_62 : decode cX12_apartOf 62 = .ok (.iload 4, 2) := d_by (d_at odX12_apartOf ofX12_apartOf 62) rfl
theorem dX12_apartOf_64 : decode cX12_apartOf 64 = .ok (.iadd, 1) := d_by (d_at odX12_apartOf ofX12_apartOf 64) rfl
theorem dX12_apartOf_65 : decode cX12_apartOf 65 = .ok (.iaload, 1) := d_by (d_at odX12_apartOf ofX12_apartOf 65) rfl
theorem dX12_apartOf_66 : decode cX12_apartOf 66 = .ok (.if_icmp .ne 7, 3) := d_by (d_at odX12_apartOf ofX12_apartOf 66) rfl
theorem dX12_apartOf_69 : decode cX12_apartOf 69 = .ok (.iconst 0, 1) := d_by (d_at odX12_apartOf ofX12_apartOf 69) rfl
theorem dX12_apartOf_70 : decode cX12_apartOf 70 = .ok (.goto 4, 3) := d_by (d_at odX12_apartOf ofX12_apartOf 70) rfl
theorem dX12_apartOf_73 : decode cX12_apartOf 73 = .ok (.iconst 1, 1) := d_by (d_at odX12_apartOf ofX12_apartOf 73) rfl
theorem dX12_apartOf_74 : decode cX12_apartOf 74 = .ok (.iadd, 1) := d_by (d_at odX12_apartOf ofX12_apartOf 74) rfl
theorem dX12_apartOf_75 : decode cX12_apartOf 75 = .ok (.istore_n 3, 1) := d_by (d_at odX12_apartOf ofX12_apartOf 75) rfl
theorem dX12_apartOf_76 : decode cX12_apartOf 76 = .ok (.iinc 4 1, 3) := d_by (d_at odX12_apartOf ofX12_apartOf 76) rfl
theorem dX12_apartOf_79 : decode cX12_apartOf 79 = .ok (.goto (-58), 3) := d_by (d_at odX12_apartOf ofX12_apartOf 79) rfl
theorem dX12_apartOf_82 : decode cX12_apartOf 82 = .ok (.iload_n 3, 1) := d_by (d_at odX12_apartOf ofX12_apartOf 82) rfl
theorem dX12_apartOf_83 : decode cX12_apartOf 83 = .ok (.ireturn, 1) := d_by (d_at odX12_apartOf ofX12_apartOf 83) rfl
set_option maxRecDepth 100000 in
def bX12_apart : List Nat := [42, 182, 0, 167, 42, 27, 182, 1, 21, 153, 0, 20, 42, 28, 182, 1, 21, 153, 0, 12, 42, 27, 28, 182, 1, 56, 167, 0, 8, 42, 4, 182, 0, 170, 172]
set_option maxRecDepth 100000 in
theorem bbX12_apart : cX12_apart.data.toList.map UInt8.toNat = bX12_apart := by decide +kernel
set_option maxRecDepth 100000 in
def tX12_apart : Lean.RArray dLf := .branch 17 (.branch 6 (.branch 4 (.branch 1 (.leaf (0, .aload_n 0, 1)) (.leaf (1, .invokevirtual 167, 3))) (.branch 5 (.leaf (4, .aload_n 0, 1)) (.leaf (5, .iload_n 1, 1)))) (.branch 12 (.branch 9 (.leaf (6, .invokevirtual 277, 3)) (.leaf (9, .ifCond .eq 20, 3))) (.branch 13 (.leaf (12, .aload_n 0, 1)) (.branch 14 (.leaf (13, .iload_n 2, 1)) (.leaf (14, .invokevirtual 277, 3)))))) (.branch 26 (.branch 21 (.branch 20 (.leaf (17, .ifCond .eq 12, 3)) (.leaf (20, .aload_n 0, 1))) (.branch 22 (.leaf (21, .iload_n 1, 1)) (.branch 23 (.leaf (22, .iload_n 2, 1)) (.leaf (23, .invokevirtual 312, 3))))) (.branch 30 (.branch 29 (.leaf (26, .goto 8, 3)) (.leaf (29, .aload_n 0, 1))) (.branch 31 (.leaf (30, .iconst 1, 1)) (.branch 34 (.leaf (31, .invokevirtual 170, 3)) (.leaf (34, .ireturn, 1))))))
noncomputable def oX12_apart : List dLf := dFl tX12_apart
theorem ofX12_apart : dFl tX12_apart = oX12_apart := rfl
set_option maxRecDepth 100000 in
theorem odX12_apart : ∀ q ∈ oX12_apart, decode cX12_apart q.1 = .ok (q.2.1, q.2.2) := q_go qT_ok bbX12_apart oX12_apart 0 (by decide +kernel)
theorem dX12_apart_0 : decode cX12_apart 0 = .ok (.aload_n 0, 1) := d_by (d_at odX12_apart ofX12_apart 0) rfl
theorem dX12_apart_1 : decode cX12_apart 1 = .ok (.invokevirtual 167, 3) := d_by (d_at odX12_apart ofX12_apart 1) rfl
theorem dX12_apart_4 : decode cX12_apart 4 = .ok (.aload_n 0, 1) := d_by (d_at odX12_apart ofX12_apart 4) rfl
theorem dX12_apart_5 : decode cX12_apart 5 = .ok (.iload_n 1, 1) := d_by (d_at odX12_apart ofX12_apart 5) rfl
theorem dX12_apart_6 : decode cX12_apart 6 = .ok (.invokevirtual 277, 3) := d_by (d_at odX12_apart ofX12_apart 6) rfl
theorem dX12_apart_9 : decode cX12_apart 9 = .ok (.ifCond .eq 20, 3) := d_by (d_at odX12_apart ofX12_apart 9) rfl
theorem dX12_apart_12 : decode cX12_apart 12 = .ok (.aload_n 0, 1) := d_by (d_at odX12_apart ofX12_apart 12) rfl
theorem dX12_apart_13 : decode cX12_apart 13 = .ok (.iload_n 2, 1) := d_by (d_at odX12_apart ofX12_apart 13) rfl
theorem dX12_apart_14 : decode cX12_apart 14 = .ok (.invokevirtual 277, 3) := d_by (d_at odX12_apart ofX12_apart 14) rfl
theorem dX12_apart_17 : decode cX12_apart 17 = .ok (.ifCond .eq 12, 3) := d_by (d_at odX12_apart ofX12_apart 17) rfl
theorem dX12_apart_20 : decode cX12_apart 20 = .ok (.aload_n 0, 1) := d_by (d_at odX12_apart ofX12_apart 20) rfl
theorem dX12_apart_21 : decode cX12_apart 21 = .ok (.iload_n 1, 1) := d_by (d_at odX12_apart ofX12_apart 21) rfl
theorem dX12_apart_22 : decode cX12_apart 22 = .ok (.iload_n 2, 1) := d_by (d_at odX12_apart ofX12_apart 22) rfl
theorem dX12_apart_23 : decode cX12_apart 23 = .ok (.invokevirtual 312, 3) := d_by (d_at odX12_apart ofX12_apart 23) rfl
theorem dX12_apart_26 : decode cX12_apart 26 = .ok (.goto 8, 3) := d_by (d_at odX12_apart ofX12_apart 26) rfl
theorem dX12_apart_29 : decode cX12_apart 29 = .ok (.aload_n 0, 1) := d_by (d_at odX12_apart ofX12_apart 29) rfl
theorem dX12_apart_30 : decode cX12_apart 30 = .ok (.iconst 1, 1) := d_by (d_at odX12_apart ofX12_apart 30) rfl
theorem dX12_apart_31 : decode cX12_apart 31 = .ok (.invokevirtual 170, 3) := d_by (d_at odX12_apart ofX12_apart 31) rfl
theorem dX12_apart_34 : decode cX12_apart 34 = .ok (.ireturn, 1) := d_by (d_at odX12_apart ofX12_apart 34) rfl
set_option maxRecDepth 100000 in
def bX12_bear : List Nat := [42, 182, 0, 167, 42, 180, 0, 180, 154, 0, 9, 42, 4, 182, 0, 170, 172, 16, 7, 60, 3, 61, 28, 42, 180, 0, 20, 7, 46, 162, 0, 48, 3, 62, 29, 28, 162, 0, 35, 42, 28, 29, 182, 1, 56, 155, 0, 20, 42, 28, 29, 182, 1, 56, 27, 162, 0, 10, 42, 28, 29, 182, 1, 56, 60, 132, 3, 1, 167, 255, 222, 132, 2, 1, 167, 255, 204, 27, 16, 6, 164, 0, 8, 16, 254, 167, 0, 8, 27, 4, 100, 5, 108, 172]
set_option maxRecDepth 100000 in
theorem bbX12_bear : cX12_bear.data.toList.map UInt8.toNat = bX12_bear := by decide +kernel
set_option maxRecDepth 100000 in
def tX12_bear : Lean.RArray dLf := .branch 42 (.branch 22 (.branch 12 (.branch 5 (.branch 1 (.leaf (0, .aload_n 0, 1)) (.branch 4 (.leaf (1, .invokevirtual 167, 3)) (.leaf (4, .aload_n 0, 1)))) (.branch 8 (.leaf (5, .getfield 180, 3)) (.branch 11 (.leaf (8, .ifCond .ne 9, 3)) (.leaf (11, .aload_n 0, 1))))) (.branch 17 (.branch 13 (.leaf (12, .iconst 1, 1)) (.branch 16 (.leaf (13, .invokevirtual 170, 3)) (.leaf (16, .ireturn, 1)))) (.branch 20 (.branch 19 (.leaf (17, .bipush 7, 2)) (.leaf (19, .istore_n 1, 1))) (.branch 21 (.leaf (20, .iconst 0, 1)) (.leaf (21, .istore_n 2, 1)))))) (.branch 33 (.branch 27 (.branch 23 (.leaf (22, .iload_n 2, 1)) (.branch 24 (.leaf (23, .aload_n 0, 1)) (.leaf (24, .getfield 20, 3)))) (.branch 29 (.branch 28 (.leaf (27, .iconst 4, 1)) (.leaf (28, .iaload, 1))) (.branch 32 (.leaf (29, .if_icmp .ge 48, 3)) (.leaf (32, .iconst 0, 1))))) (.branch 36 (.branch 34 (.leaf (33, .istore_n 3, 1)) (.branch 35 (.leaf (34, .iload_n 3, 1)) (.leaf (35, .iload_n 2, 1)))) (.branch 40 (.branch 39 (.leaf (36, .if_icmp .ge 35, 3)) (.leaf (39, .aload_n 0, 1))) (.branch 41 (.leaf (40, .iload_n 2, 1)) (.leaf (41, .iload_n 3, 1))))))) (.branch 68 (.branch 55 (.branch 49 (.branch 45 (.leaf (42, .invokevirtual 312, 3)) (.branch 48 (.leaf (45, .ifCond .lt 20, 3)) (.leaf (48, .aload_n 0, 1)))) (.branch 51 (.branch 50 (.leaf (49, .iload_n 2, 1)) (.leaf (50, .iload_n 3, 1))) (.branch 54 (.leaf (51, .invokevirtual 312, 3)) (.leaf (54, .iload_n 1, 1))))) (.branch 60 (.branch 58 (.leaf (55, .if_icmp .ge 10, 3)) (.branch 59 (.leaf (58, .aload_n 0, 1)) (.leaf (59, .iload_n 2, 1)))) (.branch 64 (.branch 61 (.leaf (60, .iload_n 3, 1)) (.leaf (61, .invokevirtual 312, 3))) (.branch 65 (.leaf (64, .istore_n 1, 1)) (.leaf (65, .iinc 3 1, 3)))))) (.branch 85 (.branch 77 (.branch 71 (.leaf (68, .goto (-34), 3)) (.branch 74 (.leaf (71, .iinc 2 1, 3)) (.leaf (74, .goto (-52), 3)))) (.branch 80 (.branch 78 (.leaf (77, .iload_n 1, 1)) (.leaf (78, .bipush 6, 2))) (.branch 83 (.leaf (80, .if_icmp .le 8, 3)) (.leaf (83, .bipush (-2), 2))))) (.branch 90 (.branch 88 (.leaf (85, .goto 8, 3)) (.branch 89 (.leaf (88, .iload_n 1, 1)) (.leaf (89, .iconst 1, 1)))) (.branch 92 (.branch 91 (.leaf (90, .isub, 1)) (.leaf (91, .iconst 2, 1))) (.branch 93 (.leaf (92, .idiv, 1)) (.leaf (93, .ireturn, 1)))))))
noncomputable def oX12_bear : List dLf := dFl tX12_bear
theorem ofX12_bear : dFl tX12_bear = oX12_bear := rfl
set_option maxRecDepth 100000 in
theorem odX12_bear : ∀ q ∈ oX12_bear, decode cX12_bear q.1 = .ok (q.2.1, q.2.2) := q_go qT_ok bbX12_bear oX12_bear 0 (by decide +kernel)
set_option maxRecDepth 100000 in
def bX12_mixed : List Nat := [42, 182, 0, 167, 42, 180, 0, 180, 154, 0, 9, 42, 4, 182, 0, 170, 172, 3, 60, 3, 61, 28, 42, 180, 0, 20, 7, 46, 162, 0, 56, 3, 62, 29, 28, 162, 0, 43, 27, 42, 28, 29, 182, 1, 56, 155, 0, 24, 42, 28, 29, 182, 1, 56, 5, 42, 180, 0, 20, 4, 46, 104, 163, 0, 7, 4, 167, 0, 4, 3, 96, 60, 132, 3, 1, 167, 255, 214, 132, 2, 1, 167, 255, 196, 27, 172]
set_option maxRecDepth 100000 in
theorem bbX12_mixed : cX12_mixed.data.toList.map UInt8.toNat = bX12_mixed := by decide +kernel
set_option maxRecDepth 100000 in
def tX12_mixed : Lean.RArray dLf := .branch 40 (.branch 21 (.branch 12 (.branch 5 (.branch 1 (.leaf (0, .aload_n 0, 1)) (.branch 4 (.leaf (1, .invokevirtual 167, 3)) (.leaf (4, .aload_n 0, 1)))) (.branch 8 (.leaf (5, .getfield 180, 3)) (.branch 11 (.leaf (8, .ifCond .ne 9, 3)) (.leaf (11, .aload_n 0, 1))))) (.branch 17 (.branch 13 (.leaf (12, .iconst 1, 1)) (.branch 16 (.leaf (13, .invokevirtual 170, 3)) (.leaf (16, .ireturn, 1)))) (.branch 19 (.branch 18 (.leaf (17, .iconst 0, 1)) (.leaf (18, .istore_n 1, 1))) (.branch 20 (.leaf (19, .iconst 0, 1)) (.leaf (20, .istore_n 2, 1)))))) (.branch 31 (.branch 26 (.branch 22 (.leaf (21, .iload_n 2, 1)) (.branch 23 (.leaf (22, .aload_n 0, 1)) (.leaf (23, .getfield 20, 3)))) (.branch 27 (.leaf (26, .iconst 4, 1)) (.branch 28 (.leaf (27, .iaload, 1)) (.leaf (28, .if_icmp .ge 56, 3))))) (.branch 34 (.branch 32 (.leaf (31, .iconst 0, 1)) (.branch 33 (.leaf (32, .istore_n 3, 1)) (.leaf (33, .iload_n 3, 1)))) (.branch 38 (.branch 35 (.leaf (34, .iload_n 2, 1)) (.leaf (35, .if_icmp .ge 43, 3))) (.branch 39 (.leaf (38, .iload_n 1, 1)) (.leaf (39, .aload_n 0, 1))))))) (.branch 61 (.branch 50 (.branch 45 (.branch 41 (.leaf (40, .iload_n 2, 1)) (.branch 42 (.leaf (41, .iload_n 3, 1)) (.leaf (42, .invokevirtual 312, 3)))) (.branch 48 (.leaf (45, .ifCond .lt 24, 3)) (.branch 49 (.leaf (48, .aload_n 0, 1)) (.leaf (49, .iload_n 2, 1))))) (.branch 55 (.branch 51 (.leaf (50, .iload_n 3, 1)) (.branch 54 (.leaf (51, .invokevirtual 312, 3)) (.leaf (54, .iconst 2, 1)))) (.branch 59 (.branch 56 (.leaf (55, .aload_n 0, 1)) (.leaf (56, .getfield 20, 3))) (.branch 60 (.leaf (59, .iconst 1, 1)) (.leaf (60, .iaload, 1)))))) (.branch 71 (.branch 66 (.branch 62 (.leaf (61, .imul, 1)) (.branch 65 (.leaf (62, .if_icmp .gt 7, 3)) (.leaf (65, .iconst 1, 1)))) (.branch 69 (.leaf (66, .goto 4, 3)) (.branch 70 (.leaf (69, .iconst 0, 1)) (.leaf (70, .iadd, 1))))) (.branch 78 (.branch 72 (.leaf (71, .istore_n 1, 1)) (.branch 75 (.leaf (72, .iinc 3 1, 3)) (.leaf (75, .goto (-42), 3)))) (.branch 84 (.branch 81 (.leaf (78, .iinc 2 1, 3)) (.leaf (81, .goto (-60), 3))) (.branch 85 (.leaf (84, .iload_n 1, 1)) (.leaf (85, .ireturn, 1)))))))
noncomputable def oX12_mixed : List dLf := dFl tX12_mixed
theorem ofX12_mixed : dFl tX12_mixed = oX12_mixed := rfl
set_option maxRecDepth 100000 in
theorem odX12_mixed : ∀ q ∈ oX12_mixed, decode cX12_mixed q.1 = .ok (q.2.1, q.2.2) := q_go qT_ok bbX12_mixed oX12_mixed 0 (by decide +kernel)
set_option maxRecDepth 100000 in
def bX12_power : List Nat := [4, 61, 3, 62, 29, 27, 162, 0, 18, 28, 42, 180, 0, 20, 3, 46, 104, 61, 132, 3, 1, 167, 255, 239, 28, 172]
set_option maxRecDepth 100000 in
theorem bbX12_power : cX12_power.data.toList.map UInt8.toNat = bX12_power := by decide +kernel
set_option maxRecDepth 100000 in
def tX12_power : Lean.RArray dLf := .branch 11 (.branch 4 (.branch 2 (.branch 1 (.leaf (0, .iconst 1, 1)) (.leaf (1, .istore_n 2, 1))) (.branch 3 (.leaf (2, .iconst 0, 1)) (.leaf (3, .istore_n 3, 1)))) (.branch 6 (.branch 5 (.leaf (4, .iload_n 3, 1)) (.leaf (5, .iload_n 1, 1))) (.branch 9 (.leaf (6, .if_icmp .ge 18, 3)) (.branch 10 (.leaf (9, .iload_n 2, 1)) (.leaf (10, .aload_n 0, 1)))))) (.branch 17 (.branch 15 (.branch 14 (.leaf (11, .getfield 20, 3)) (.leaf (14, .iconst 0, 1))) (.branch 16 (.leaf (15, .iaload, 1)) (.leaf (16, .imul, 1)))) (.branch 21 (.branch 18 (.leaf (17, .istore_n 2, 1)) (.leaf (18, .iinc 3 1, 3))) (.branch 24 (.leaf (21, .goto (-17), 3)) (.branch 25 (.leaf (24, .iload_n 2, 1)) (.leaf (25, .ireturn, 1))))))
noncomputable def oX12_power : List dLf := dFl tX12_power
theorem ofX12_power : dFl tX12_power = oX12_power := rfl
set_option maxRecDepth 100000 in
theorem odX12_power : ∀ q ∈ oX12_power, decode cX12_power q.1 = .ok (q.2.1, q.2.2) := q_go qT_ok bbX12_power oX12_power 0 (by decide +kernel)
set_option maxRecDepth 100000 in
def bX12_digitsApart : List Nat := [3, 54, 4, 27, 54, 5, 28, 54, 6, 3, 54, 7, 21, 7, 29, 162, 0, 62, 21, 4, 21, 5, 42, 180, 0, 20, 3, 46, 112, 21, 6, 42, 180, 0, 20, 3, 46, 112, 160, 0, 7, 3, 167, 0, 4, 4, 96, 54, 4, 21, 5, 42, 180, 0, 20, 3, 46, 108, 54, 5, 21, 6, 42, 180, 0, 20, 3, 46, 108, 54, 6, 132, 7, 1, 167, 255, 194, 21, 4, 172]
set_option maxRecDepth 100000 in
theorem bbX12_digitsApart : cX12_digitsApart.data.toList.map UInt8.toNat = bX12_digitsApart := by decide +kernel
set_option maxRecDepth 100000 in
def tX12_digitsApart : Lean.RArray dLf := .branch 38 (.branch 20 (.branch 9 (.branch 4 (.branch 1 (.leaf (0, .iconst 0, 1)) (.branch 3 (.leaf (1, .istore 4, 2)) (.leaf (3, .iload_n 1, 1)))) (.branch 6 (.leaf (4, .istore 5, 2)) (.branch 7 (.leaf (6, .iload_n 2, 1)) (.leaf (7, .istore 6, 2))))) (.branch 14 (.branch 10 (.leaf (9, .iconst 0, 1)) (.branch 12 (.leaf (10, .istore 7, 2)) (.leaf (12, .iload 7, 2)))) (.branch 15 (.leaf (14, .iload_n 3, 1)) (.branch 18 (.leaf (15, .if_icmp .ge 62, 3)) (.leaf (18, .iload 4, 2)))))) (.branch 29 (.branch 26 (.branch 22 (.leaf (20, .iload 5, 2)) (.branch 23 (.leaf (22, .aload_n 0, 1)) (.leaf (23, .getfield 20, 3)))) (.branch 27 (.leaf (26, .iconst 0, 1)) (.branch 28 (.leaf (27, .iaload, 1)) (.leaf (28, .irem, 1))))) (.branch 35 (.branch 31 (.leaf (29, .iload 6, 2)) (.branch 32 (.leaf (31, .aload_n 0, 1)) (.leaf (32, .getfield 20, 3)))) (.branch 36 (.leaf (35, .iconst 0, 1)) (.branch 37 (.leaf (36, .iaload, 1)) (.leaf (37, .irem, 1))))))) (.branch 58 (.branch 49 (.branch 45 (.branch 41 (.leaf (38, .if_icmp .ne 7, 3)) (.branch 42 (.leaf (41, .iconst 0, 1)) (.leaf (42, .goto 4, 3)))) (.branch 46 (.leaf (45, .iconst 1, 1)) (.branch 47 (.leaf (46, .iadd, 1)) (.leaf (47, .istore 4, 2))))) (.branch 55 (.branch 51 (.leaf (49, .iload 5, 2)) (.branch 52 (.leaf (51, .aload_n 0, 1)) (.leaf (52, .getfield 20, 3)))) (.branch 56 (.leaf (55, .iconst 0, 1)) (.branch 57 (.leaf (56, .iaload, 1)) (.leaf (57, .idiv, 1)))))) (.branch 68 (.branch 63 (.branch 60 (.leaf (58, .istore 5, 2)) (.branch 62 (.leaf (60, .iload 6, 2)) (.leaf (62, .aload_n 0, 1)))) (.branch 66 (.leaf (63, .getfield 20, 3)) (.branch 67 (.leaf (66, .iconst 0, 1)) (.leaf (67, .iaload, 1))))) (.branch 74 (.branch 69 (.leaf (68, .idiv, 1)) (.branch 71 (.leaf (69, .istore 6, 2)) (.leaf (71, .iinc 7 1, 3)))) (.branch 77 (.leaf (74, .goto (-62), 3)) (.branch 79 (.leaf (77, .iload 4, 2)) (.leaf (79, .ireturn, 1)))))))
noncomputable def oX12_digitsApart : List dLf := dFl tX12_digitsApart
theorem ofX12_digitsApart : dFl tX12_digitsApart = oX12_digitsApart := rfl
set_option maxRecDepth 100000 in
theorem odX12_digitsApart : ∀ q ∈ oX12_digitsApart, decode cX12_digitsApart q.1 = .ok (q.2.1, q.2.2) := q_go qT_ok bbX12_digitsApart oX12_digitsApart 0 (by decide +kernel)
