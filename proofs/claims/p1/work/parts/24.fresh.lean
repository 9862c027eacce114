/-! the methods on the fresh heap, by program -/
set_option maxRecDepth 10000 in
theorem kX11_appendBytes_1 (d : Nat) (h : zH) (p1 : Int32) (s0 : zsh h 0 = some (11, 16)) (s1 : zsh h 1 = some (13, 1000)) (i0_1 : h.2.1 0 1 = 0) (r0_0 : h.2.2.2.1 0 0 = some 1) : zCv (d + 0) mX11_appendBytes [.inr (.inr (some 0)), .inl p1] h (fun h' => h' = zsI (zsI (zsI (zsI (zsI (zsI (zsI (zsI (h) 1 0 (vp_nar .byte ((p1 >>> (24 &&& 31)).toInt8.toInt32))) 0 1 1) 1 1 (vp_nar .byte ((p1 >>> (16 &&& 31)).toInt8.toInt32))) 0 1 2) 1 2 (vp_nar .byte ((p1 >>> (8 &&& 31)).toInt8.toInt32))) 0 1 3) 1 3 (vp_nar .byte ((p1 >>> (0 &&& 31)).toInt8.toInt32))) 0 1 4) := by
  show zEx none (d + 0) mX11_appendBytes (0, [(0, .inr (.inr (some 0))), (1, .inl p1)], [], h) _
  refine ex_bipush (v := 24) (pc' := 2) dX11_appendBytes_0 (by decide) rfl ?_
  refine ex_istore_n (pc' := 3) (ls' := [(2, .inl 24), (0, .inr (.inr (some 0))), (1, .inl p1)]) dX11_appendBytes_2 (by decide) rfl rfl ?_
  refine ex_iload_n (pc' := 4) dX11_appendBytes_3 rfl rfl ?_
  refine ex_if_f (pc' := 7) dX11_appendBytes_4 (by decide) (by decide) rfl ?_
  refine ex_aload_n (pc' := 8) dX11_appendBytes_7 rfl rfl ?_
  refine ex_getR (pc' := 11) (r := 1) dX11_appendBytes_8 fl_11_9 s0 (by decide) r0_0 rfl ?_
  refine ex_aload_n (pc' := 12) dX11_appendBytes_11 rfl rfl ?_
  refine ex_getI (pc' := 15) (v := 0) dX11_appendBytes_12 fl_11_13 s0 (by decide) i0_1 rfl ?_
  refine ex_iload_n (pc' := 16) dX11_appendBytes_15 rfl rfl ?_
  refine ex_iload_n (pc' := 17) dX11_appendBytes_16 rfl rfl ?_
  refine ex_ishr (pc' := 18) (v := p1 >>> (24 &&& 31)) dX11_appendBytes_17 rfl rfl ?_
  refine ex_i2b (pc' := 19) (v := (p1 >>> (24 &&& 31)).toInt8.toInt32) dX11_appendBytes_18 rfl rfl ?_
  refine ex_bast (pc' := 20) dX11_appendBytes_19 s1 (by decide) rfl ?_
  refine ex_aload_n (pc' := 21) dX11_appendBytes_20 rfl rfl ?_
  refine ex_dup (pc' := 22) dX11_appendBytes_21 rfl rfl ?_
  refine ex_getI (pc' := 25) (v := 0) dX11_appendBytes_22 fl_11_13 (zsiI s0) (by decide) i0_1 rfl ?_
  refine ex_iconst (v := 1) (pc' := 26) dX11_appendBytes_25 (by decide) rfl ?_
  refine ex_iadd (pc' := 27) (v := 1) dX11_appendBytes_26 (by decide) rfl ?_
  refine ex_putI (pc' := 30) dX11_appendBytes_27 fl_11_13 (zsiI s0) (Or.inl rfl) (Or.inl rfl) rfl ?_
  refine ex_iinc (pc' := 33) (v := 16) (ls' := [(2, .inl 16), (0, .inr (.inr (some 0))), (1, .inl p1)]) dX11_appendBytes_30 rfl (by decide) (by decide) rfl rfl ?_
  refine ex_goto (pc' := 3) dX11_appendBytes_33 (by decide) ?_
  refine ex_iload_n (pc' := 4) dX11_appendBytes_3 rfl rfl ?_
  refine ex_if_f (pc' := 7) dX11_appendBytes_4 (by decide) (by decide) rfl ?_
  refine ex_aload_n (pc' := 8) dX11_appendBytes_7 rfl rfl ?_
  refine ex_getR (pc' := 11) (r := 1) dX11_appendBytes_8 fl_11_9 (zsiI (zsiI s0)) (by decide) r0_0 rfl ?_
  refine ex_aload_n (pc' := 12) dX11_appendBytes_11 rfl rfl ?_
  refine ex_getI (pc' := 15) (v := 1) dX11_appendBytes_12 fl_11_13 (zsiI (zsiI s0)) (by decide) rfl rfl ?_
  refine ex_iload_n (pc' := 16) dX11_appendBytes_15 rfl rfl ?_
  refine ex_iload_n (pc' := 17) dX11_appendBytes_16 rfl rfl ?_
  refine ex_ishr (pc' := 18) (v := p1 >>> (16 &&& 31)) dX11_appendBytes_17 rfl rfl ?_
  refine ex_i2b (pc' := 19) (v := (p1 >>> (16 &&& 31)).toInt8.toInt32) dX11_appendBytes_18 rfl rfl ?_
  refine ex_bast (pc' := 20) dX11_appendBytes_19 (zsiI (zsiI s1)) (by decide) rfl ?_
  refine ex_aload_n (pc' := 21) dX11_appendBytes_20 rfl rfl ?_
  refine ex_dup (pc' := 22) dX11_appendBytes_21 rfl rfl ?_
  refine ex_getI (pc' := 25) (v := 1) dX11_appendBytes_22 fl_11_13 (zsiI (zsiI (zsiI s0))) (by decide) rfl rfl ?_
  refine ex_iconst (v := 1) (pc' := 26) dX11_appendBytes_25 (by decide) rfl ?_
  refine ex_iadd (pc' := 27) (v := 2) dX11_appendBytes_26 (by decide) rfl ?_
  refine ex_putI (pc' := 30) dX11_appendBytes_27 fl_11_13 (zsiI (zsiI (zsiI s0))) (Or.inl rfl) (Or.inl rfl) rfl ?_
  refine ex_iinc (pc' := 33) (v := 8) (ls' := [(2, .inl 8), (0, .inr (.inr (some 0))), (1, .inl p1)]) dX11_appendBytes_30 rfl (by decide) (by decide) rfl rfl ?_
  refine ex_goto (pc' := 3) dX11_appendBytes_33 (by decide) ?_
  refine ex_iload_n (pc' := 4) dX11_appendBytes_3 rfl rfl ?_
  refine ex_if_f (pc' := 7) dX11_appendBytes_4 (by decide) (by decide) rfl ?_
  refine ex_aload_n (pc' := 8) dX11_appendBytes_7 rfl rfl ?_
  refine ex_getR (pc' := 11) (r := 1) dX11_appendBytes_8 fl_11_9 (zsiI (zsiI (zsiI (zsiI s0)))) (by decide) r0_0 rfl ?_
  refine ex_aload_n (pc' := 12) dX11_appendBytes_11 rfl rfl ?_
  refine ex_getI (pc' := 15) (v := 2) dX11_appendBytes_12 fl_11_13 (zsiI (zsiI (zsiI (zsiI s0)))) (by decide) rfl rfl ?_
  refine ex_iload_n (pc' := 16) dX11_appendBytes_15 rfl rfl ?_
  refine ex_iload_n (pc' := 17) dX11_appendBytes_16 rfl rfl ?_
  refine ex_ishr (pc' := 18) (v := p1 >>> (8 &&& 31)) dX11_appendBytes_17 rfl rfl ?_
  refine ex_i2b (pc' := 19) (v := (p1 >>> (8 &&& 31)).toInt8.toInt32) dX11_appendBytes_18 rfl rfl ?_
  refine ex_bast (pc' := 20) dX11_appendBytes_19 (zsiI (zsiI (zsiI (zsiI s1)))) (by decide) rfl ?_
  refine ex_aload_n (pc' := 21) dX11_appendBytes_20 rfl rfl ?_
  refine ex_dup (pc' := 22) dX11_appendBytes_21 rfl rfl ?_
  refine ex_getI (pc' := 25) (v := 2) dX11_appendBytes_22 fl_11_13 (zsiI (zsiI (zsiI (zsiI (zsiI s0))))) (by decide) rfl rfl ?_
  refine ex_iconst (v := 1) (pc' := 26) dX11_appendBytes_25 (by decide) rfl ?_
  refine ex_iadd (pc' := 27) (v := 3) dX11_appendBytes_26 (by decide) rfl ?_
  refine ex_putI (pc' := 30) dX11_appendBytes_27 fl_11_13 (zsiI (zsiI (zsiI (zsiI (zsiI s0))))) (Or.inl rfl) (Or.inl rfl) rfl ?_
  refine ex_iinc (pc' := 33) (v := 0) (ls' := [(2, .inl 0), (0, .inr (.inr (some 0))), (1, .inl p1)]) dX11_appendBytes_30 rfl (by decide) (by decide) rfl rfl ?_
  refine ex_goto (pc' := 3) dX11_appendBytes_33 (by decide) ?_
  refine ex_iload_n (pc' := 4) dX11_appendBytes_3 rfl rfl ?_
  refine ex_if_f (pc' := 7) dX11_appendBytes_4 (by decide) (by decide) rfl ?_
  refine ex_aload_n (pc' := 8) dX11_appendBytes_7 rfl rfl ?_
  refine ex_getR (pc' := 11) (r := 1) dX11_appendBytes_8 fl_11_9 (zsiI (zsiI (zsiI (zsiI (zsiI (zsiI s0)))))) (by decide) r0_0 rfl ?_
  refine ex_aload_n (pc' := 12) dX11_appendBytes_11 rfl rfl ?_
  refine ex_getI (pc' := 15) (v := 3) dX11_appendBytes_12 fl_11_13 (zsiI (zsiI (zsiI (zsiI (zsiI (zsiI s0)))))) (by decide) rfl rfl ?_
  refine ex_iload_n (pc' := 16) dX11_appendBytes_15 rfl rfl ?_
  refine ex_iload_n (pc' := 17) dX11_appendBytes_16 rfl rfl ?_
  refine ex_ishr (pc' := 18) (v := p1 >>> (0 &&& 31)) dX11_appendBytes_17 rfl rfl ?_
  refine ex_i2b (pc' := 19) (v := (p1 >>> (0 &&& 31)).toInt8.toInt32) dX11_appendBytes_18 rfl rfl ?_
  refine ex_bast (pc' := 20) dX11_appendBytes_19 (zsiI (zsiI (zsiI (zsiI (zsiI (zsiI s1)))))) (by decide) rfl ?_
  refine ex_aload_n (pc' := 21) dX11_appendBytes_20 rfl rfl ?_
  refine ex_dup (pc' := 22) dX11_appendBytes_21 rfl rfl ?_
  refine ex_getI (pc' := 25) (v := 3) dX11_appendBytes_22 fl_11_13 (zsiI (zsiI (zsiI (zsiI (zsiI (zsiI (zsiI s0))))))) (by decide) rfl rfl ?_
  refine ex_iconst (v := 1) (pc' := 26) dX11_appendBytes_25 (by decide) rfl ?_
  refine ex_iadd (pc' := 27) (v := 4) dX11_appendBytes_26 (by decide) rfl ?_
  refine ex_putI (pc' := 30) dX11_appendBytes_27 fl_11_13 (zsiI (zsiI (zsiI (zsiI (zsiI (zsiI (zsiI s0))))))) (Or.inl rfl) (Or.inl rfl) rfl ?_
  refine ex_iinc (pc' := 33) (v := (-8)) (ls' := [(2, .inl (-8)), (0, .inr (.inr (some 0))), (1, .inl p1)]) dX11_appendBytes_30 rfl (by decide) (by decide) rfl rfl ?_
  refine ex_goto (pc' := 3) dX11_appendBytes_33 (by decide) ?_
  refine ex_iload_n (pc' := 4) dX11_appendBytes_3 rfl rfl ?_
  refine ex_if_t (pc' := 36) dX11_appendBytes_4 (by decide) (by decide) ?_
  exact ex_vretV dX11_appendBytes_36 rfl rfl
set_option maxRecDepth 10000 in
theorem kX11_appendBytes_2 (d : Nat) (h : zH) (p1 : Int32) (s0 : zsh h 0 = some (11, 16)) (s1 : zsh h 1 = some (13, 1000)) (i0_1 : h.2.1 0 1 = 4) (r0_0 : h.2.2.2.1 0 0 = some 1) : zCv (d + 0) mX11_appendBytes [.inr (.inr (some 0)), .inl p1] h (fun h' => h' = zsI (zsI (zsI (zsI (zsI (zsI (zsI (zsI (h) 1 4 (vp_nar .byte ((p1 >>> (24 &&& 31)).toInt8.toInt32))) 0 1 5) 1 5 (vp_nar .byte ((p1 >>> (16 &&& 31)).toInt8.toInt32))) 0 1 6) 1 6 (vp_nar .byte ((p1 >>> (8 &&& 31)).toInt8.toInt32))) 0 1 7) 1 7 (vp_nar .byte ((p1 >>> (0 &&& 31)).toInt8.toInt32))) 0 1 8) := by
  show zEx none (d + 0) mX11_appendBytes (0, [(0, .inr (.inr (some 0))), (1, .inl p1)], [], h) _
  refine ex_bipush (v := 24) (pc' := 2) dX11_appendBytes_0 (by decide) rfl ?_
  refine ex_istore_n (pc' := 3) (ls' := [(2, .inl 24), (0, .inr (.inr (some 0))), (1, .inl p1)]) dX11_appendBytes_2 (by decide) rfl rfl ?_
  refine ex_iload_n (pc' := 4) dX11_appendBytes_3 rfl rfl ?_
  refine ex_if_f (pc' := 7) dX11_appendBytes_4 (by decide) (by decide) rfl ?_
  refine ex_aload_n (pc' := 8) dX11_appendBytes_7 rfl rfl ?_
  refine ex_getR (pc' := 11) (r := 1) dX11_appendBytes_8 fl_11_9 s0 (by decide) r0_0 rfl ?_
  refine ex_aload_n (pc' := 12) dX11_appendBytes_11 rfl rfl ?_
  refine ex_getI (pc' := 15) (v := 4) dX11_appendBytes_12 fl_11_13 s0 (by decide) i0_1 rfl ?_
  refine ex_iload_n (pc' := 16) dX11_appendBytes_15 rfl rfl ?_
  refine ex_iload_n (pc' := 17) dX11_appendBytes_16 rfl rfl ?_
  refine ex_ishr (pc' := 18) (v := p1 >>> (24 &&& 31)) dX11_appendBytes_17 rfl rfl ?_
  refine ex_i2b (pc' := 19) (v := (p1 >>> (24 &&& 31)).toInt8.toInt32) dX11_appendBytes_18 rfl rfl ?_
  refine ex_bast (pc' := 20) dX11_appendBytes_19 s1 (by decide) rfl ?_
  refine ex_aload_n (pc' := 21) dX11_appendBytes_20 rfl rfl ?_
  refine ex_dup (pc' := 22) dX11_appendBytes_21 rfl rfl ?_
  refine ex_getI (pc' := 25) (v := 4) dX11_appendBytes_22 fl_11_13 (zsiI s0) (by decide) i0_1 rfl ?_
  refine ex_iconst (v := 1) (pc' := 26) dX11_appendBytes_25 (by decide) rfl ?_
  refine ex_iadd (pc' := 27) (v := 5) dX11_appendBytes_26 (by decide) rfl ?_
  refine ex_putI (pc' := 30) dX11_appendBytes_27 fl_11_13 (zsiI s0) (Or.inl rfl) (Or.inl rfl) rfl ?_
  refine ex_iinc (pc' := 33) (v := 16) (ls' := [(2, .inl 16), (0, .inr (.inr (some 0))), (1, .inl p1)]) dX11_appendBytes_30 rfl (by decide) (by decide) rfl rfl ?_
  refine ex_goto (pc' := 3) dX11_appendBytes_33 (by decide) ?_
  refine ex_iload_n (pc' := 4) dX11_appendBytes_3 rfl rfl ?_
  refine ex_if_f (pc' := 7) dX11_appendBytes_4 (by decide) (by decide) rfl ?_
  refine ex_aload_n (pc' := 8) dX11_appendBytes_7 rfl rfl ?_
  refine ex_getR (pc' := 11) (r := 1) dX11_appendBytes_8 fl_11_9 (zsiI (zsiI s0)) (by decide) r0_0 rfl ?_
  refine ex_aload_n (pc' := 12) dX11_appendBytes_11 rfl rfl ?_
  refine ex_getI (pc' := 15) (v := 5) dX11_appendBytes_12 fl_11_13 (zsiI (zsiI s0)) (by decide) rfl rfl ?_
  refine ex_iload_n (pc' := 16) dX11_appendBytes_15 rfl rfl ?_
  refine ex_iload_n (pc' := 17) dX11_appendBytes_16 rfl rfl ?_
  refine ex_ishr (pc' := 18) (v := p1 >>> (16 &&& 31)) dX11_appendBytes_17 rfl rfl ?_
  refine ex_i2b (pc' := 19) (v := (p1 >>> (16 &&& 31)).toInt8.toInt32) dX11_appendBytes_18 rfl rfl ?_
  refine ex_bast (pc' := 20) dX11_appendBytes_19 (zsiI (zsiI s1)) (by decide) rfl ?_
  refine ex_aload_n (pc' := 21) dX11_appendBytes_20 rfl rfl ?_
  refine ex_dup (pc' := 22) dX11_appendBytes_21 rfl rfl ?_
  refine ex_getI (pc' := 25) (v := 5) dX11_appendBytes_22 fl_11_13 (zsiI (zsiI (zsiI s0))) (by decide) rfl rfl ?_
  refine ex_iconst (v := 1) (pc' := 26) dX11_appendBytes_25 (by decide) rfl ?_
  refine ex_iadd (pc' := 27) (v := 6) dX11_appendBytes_26 (by decide) rfl ?_
  refine ex_putI (pc' := 30) dX11_appendBytes_27 fl_11_13 (zsiI (zsiI (zsiI s0))) (Or.inl rfl) (Or.inl rfl) rfl ?_
  refine ex_iinc (pc' := 33) (v := 8) (ls' := [(2, .inl 8), (0, .inr (.inr (some 0))), (1, .inl p1)]) dX11_appendBytes_30 rfl (by decide) (by decide) rfl rfl ?_
  refine ex_goto (pc' := 3) dX11_appendBytes_33 (by decide) ?_
  refine ex_iload_n (pc' := 4) dX11_appendBytes_3 rfl rfl ?_
  refine ex_if_f (pc' := 7) dX11_appendBytes_4 (by decide) (by decide) rfl ?_
  refine ex_aload_n (pc' := 8) dX11_appendBytes_7 rfl rfl ?_
  refine ex_getR (pc' := 11) (r := 1) dX11_appendBytes_8 fl_11_9 (zsiI (zsiI (zsiI (zsiI s0)))) (by decide) r0_0 rfl ?_
  refine ex_aload_n (pc' := 12) dX11_appendBytes_11 rfl rfl ?_
  refine ex_getI (pc' := 15) (v := 6) dX11_appendBytes_12 fl_11_13 (zsiI (zsiI (zsiI (zsiI s0)))) (by decide) rfl rfl ?_
  refine ex_iload_n (pc' := 16) dX11_appendBytes_15 rfl rfl ?_
  refine ex_iload_n (pc' := 17) dX11_appendBytes_16 rfl rfl ?_
  refine ex_ishr (pc' := 18) (v := p1 >>> (8 &&& 31)) dX11_appendBytes_17 rfl rfl ?_
  refine ex_i2b (pc' := 19) (v := (p1 >>> (8 &&& 31)).toInt8.toInt32) dX11_appendBytes_18 rfl rfl ?_
  refine ex_bast (pc' := 20) dX11_appendBytes_19 (zsiI (zsiI (zsiI (zsiI s1)))) (by decide) rfl ?_
  refine ex_aload_n (pc' := 21) dX11_appendBytes_20 rfl rfl ?_
  refine ex_dup (pc' := 22) dX11_appendBytes_21 rfl rfl ?_
  refine ex_getI (pc' := 25) (v := 6) dX11_appendBytes_22 fl_11_13 (zsiI (zsiI (zsiI (zsiI (zsiI s0))))) (by decide) rfl rfl ?_
  refine ex_iconst (v := 1) (pc' := 26) dX11_appendBytes_25 (by decide) rfl ?_
  refine ex_iadd (pc' := 27) (v := 7) dX11_appendBytes_26 (by decide) rfl ?_
  refine ex_putI (pc' := 30) dX11_appendBytes_27 fl_11_13 (zsiI (zsiI (zsiI (zsiI (zsiI s0))))) (Or.inl rfl) (Or.inl rfl) rfl ?_
  refine ex_iinc (pc' := 33) (v := 0) (ls' := [(2, .inl 0), (0, .inr (.inr (some 0))), (1, .inl p1)]) dX11_appendBytes_30 rfl (by decide) (by decide) rfl rfl ?_
  refine ex_goto (pc' := 3) dX11_appendBytes_33 (by decide) ?_
  refine ex_iload_n (pc' := 4) dX11_appendBytes_3 rfl rfl ?_
  refine ex_if_f (pc' := 7) dX11_appendBytes_4 (by decide) (by decide) rfl ?_
  refine ex_aload_n (pc' := 8) dX11_appendBytes_7 rfl rfl ?_
  refine ex_getR (pc' := 11) (r := 1) dX11_appendBytes_8 fl_11_9 (zsiI (zsiI (zsiI (zsiI (zsiI (zsiI s0)))))) (by decide) r0_0 rfl ?_
  refine ex_aload_n (pc' := 12) dX11_appendBytes_11 rfl rfl ?_
  refine ex_getI (pc' := 15) (v := 7) dX11_appendBytes_12 fl_11_13 (zsiI (zsiI (zsiI (zsiI (zsiI (zsiI s0)))))) (by decide) rfl rfl ?_
  refine ex_iload_n (pc' := 16) dX11_appendBytes_15 rfl rfl ?_
  refine ex_iload_n (pc' := 17) dX11_appendBytes_16 rfl rfl ?_
  refine ex_ishr (pc' := 18) (v := p1 >>> (0 &&& 31)) dX11_appendBytes_17 rfl rfl ?_
  refine ex_i2b (pc' := 19) (v := (p1 >>> (0 &&& 31)).toInt8.toInt32) dX11_appendBytes_18 rfl rfl ?_
  refine ex_bast (pc' := 20) dX11_appendBytes_19 (zsiI (zsiI (zsiI (zsiI (zsiI (zsiI s1)))))) (by decide) rfl ?_
  refine ex_aload_n (pc' := 21) dX11_appendBytes_20 rfl rfl ?_
  refine ex_dup (pc' := 22) dX11_appendBytes_21 rfl rfl ?_
  refine ex_getI (pc' := 25) (v := 7) dX11_appendBytes_22 fl_11_13 (zsiI (zsiI (zsiI (zsiI (zsiI (zsiI (zsiI s0))))))) (by decide) rfl rfl ?_
  refine ex_iconst (v := 1) (pc' := 26) dX11_appendBytes_25 (by decide) rfl ?_
  refine ex_iadd (pc' := 27) (v := 8) dX11_appendBytes_26 (by decide) rfl ?_
  refine ex_putI (pc' := 30) dX11_appendBytes_27 fl_11_13 (zsiI (zsiI (zsiI (zsiI (zsiI (zsiI (zsiI s0))))))) (Or.inl rfl) (Or.inl rfl) rfl ?_
  refine ex_iinc (pc' := 33) (v := (-8)) (ls' := [(2, .inl (-8)), (0, .inr (.inr (some 0))), (1, .inl p1)]) dX11_appendBytes_30 rfl (by decide) (by decide) rfl rfl ?_
  refine ex_goto (pc' := 3) dX11_appendBytes_33 (by decide) ?_
  refine ex_iload_n (pc' := 4) dX11_appendBytes_3 rfl rfl ?_
  refine ex_if_t (pc' := 36) dX11_appendBytes_4 (by decide) (by decide) ?_
  exact ex_vretV dX11_appendBytes_36 rfl rfl
set_option maxRecDepth 10000 in
theorem kX11_appendBytes_3 (d : Nat) (h : zH) (p1 : Int32) (s0 : zsh h 0 = some (11, 16)) (s1 : zsh h 1 = some (13, 1000)) (i0_1 : h.2.1 0 1 = 8) (r0_0 : h.2.2.2.1 0 0 = some 1) : zCv (d + 0) mX11_appendBytes [.inr (.inr (some 0)), .inl p1] h (fun h' => h' = zsI (zsI (zsI (zsI (zsI (zsI (zsI (zsI (h) 1 8 (vp_nar .byte ((p1 >>> (24 &&& 31)).toInt8.toInt32))) 0 1 9) 1 9 (vp_nar .byte ((p1 >>> (16 &&& 31)).toInt8.toInt32))) 0 1 10) 1 10 (vp_nar .byte ((p1 >>> (8 &&& 31)).toInt8.toInt32))) 0 1 11) 1 11 (vp_nar .byte ((p1 >>> (0 &&& 31)).toInt8.toInt32))) 0 1 12) := by
  show zEx none (d + 0) mX11_appendBytes (0, [(0, .inr (.inr (some 0))), (1, .inl p1)], [], h) _
  refine ex_bipush (v := 24) (pc' := 2) dX11_appendBytes_0 (by decide) rfl ?_
  refine ex_istore_n (pc' := 3) (ls' := [(2, .inl 24), (0, .inr (.inr (some 0))), (1, .inl p1)]) dX11_appendBytes_2 (by decide) rfl rfl ?_
  refine ex_iload_n (pc' := 4) dX11_appendBytes_3 rfl rfl ?_
  refine ex_if_f (pc' := 7) dX11_appendBytes_4 (by decide) (by decide) rfl ?_
  refine ex_aload_n (pc' := 8) dX11_appendBytes_7 rfl rfl ?_
  refine ex_getR (pc' := 11) (r := 1) dX11_appendBytes_8 fl_11_9 s0 (by decide) r0_0 rfl ?_
  refine ex_aload_n (pc' := 12) dX11_appendBytes_11 rfl rfl ?_
  refine ex_getI (pc' := 15) (v := 8) dX11_appendBytes_12 fl_11_13 s0 (by decide) i0_1 rfl ?_
  refine ex_iload_n (pc' := 16) dX11_appendBytes_15 rfl rfl ?_
  refine ex_iload_n (pc' := 17) dX11_appendBytes_16 rfl rfl ?_
  refine ex_ishr (pc' := 18) (v := p1 >>> (24 &&& 31)) dX11_appendBytes_17 rfl rfl ?_
  refine ex_i2b (pc' := 19) (v := (p1 >>> (24 &&& 31)).toInt8.toInt32) dX11_appendBytes_18 rfl rfl ?_
  refine ex_bast (pc' := 20) dX11_appendBytes_19 s1 (by decide) rfl ?_
  refine ex_aload_n (pc' := 21) dX11_appendBytes_20 rfl rfl ?_
  refine ex_dup (pc' := 22) dX11_appendBytes_21 rfl rfl ?_
  refine ex_getI (pc' := 25) (v := 8) dX11_appendBytes_22 fl_11_13 (zsiI s0) (by decide) i0_1 rfl ?_
  refine ex_iconst (v := 1) (pc' := 26) dX11_appendBytes_25 (by decide) rfl ?_
  refine ex_iadd (pc' := 27) (v := 9) dX11_appendBytes_26 (by decide) rfl ?_
  refine ex_putI (pc' := 30) dX11_appendBytes_27 fl_11_13 (zsiI s0) (Or.inl rfl) (Or.inl rfl) rfl ?_
  refine ex_iinc (pc' := 33) (v := 16) (ls' := [(2, .inl 16), (0, .inr (.inr (some 0))), (1, .inl p1)]) dX11_appendBytes_30 rfl (by decide) (by decide) rfl rfl ?_
  refine ex_goto (pc' := 3) dX11_appendBytes_33 (by decide) ?_
  refine ex_iload_n (pc' := 4) dX11_appendBytes_3 rfl rfl ?_
  refine ex_if_f (pc' := 7) dX11_appendBytes_4 (by decide) (by decide) rfl ?_
  refine ex_aload_n (pc' := 8) dX11_appendBytes_7 rfl rfl ?_
  refine ex_getR (pc' := 11) (r := 1) dX11_appendBytes_8 fl_11_9 (zsiI (zsiI s0)) (by decide) r0_0 rfl ?_
  refine ex_aload_n (pc' := 12) dX11_appendBytes_11 rfl rfl ?_
  refine ex_getI (pc' := 15) (v := 9) dX11_appendBytes_12 fl_11_13 (zsiI (zsiI s0)) (by decide) rfl rfl ?_
  refine ex_iload_n (pc' := 16) dX11_appendBytes_15 rfl rfl ?_
  refine ex_iload_n (pc' := 17) dX11_appendBytes_16 rfl rfl ?_
  refine ex_ishr (pc' := 18) (v := p1 >>> (16 &&& 31)) dX11_appendBytes_17 rfl rfl ?_
  refine ex_i2b (pc' := 19) (v := (p1 >>> (16 &&& 31)).toInt8.toInt32) dX11_appendBytes_18 rfl rfl ?_
  refine ex_bast (pc' := 20) dX11_appendBytes_19 (zsiI (zsiI s1)) (by decide) rfl ?_
  refine ex_aload_n (pc' := 21) dX11_appendBytes_20 rfl rfl ?_
  refine ex_dup (pc' := 22) dX11_appendBytes_21 rfl rfl ?_
  refine ex_getI (pc' := 25) (v := 9) dX11_appendBytes_22 fl_11_13 (zsiI (zsiI (zsiI s0))) (by decide) rfl rfl ?_
  refine ex_iconst (v := 1) (pc' := 26) dX11_appendBytes_25 (by decide) rfl ?_
  refine ex_iadd (pc' := 27) (v := 10) dX11_appendBytes_26 (by decide) rfl ?_
  refine ex_putI (pc' := 30) dX11_appendBytes_27 fl_11_13 (zsiI (zsiI (zsiI s0))) (Or.inl rfl) (Or.inl rfl) rfl ?_
  refine ex_iinc (pc' := 33) (v := 8) (ls' := [(2, .inl 8), (0, .inr (.inr (some 0))), (1, .inl p1)]) dX11_appendBytes_30 rfl (by decide) (by decide) rfl rfl ?_
  refine ex_goto (pc' := 3) dX11_appendBytes_33 (by decide) ?_
  refine ex_iload_n (pc' := 4) dX11_appendBytes_3 rfl rfl ?_
  refine ex_if_f (pc' := 7) dX11_appendBytes_4 (by decide) (by decide) rfl ?_
  refine ex_aload_n (pc' := 8) dX11_appendBytes_7 rfl rfl ?_
  refine ex_getR (pc' := 11) (r := 1) dX11_appendBytes_8 fl_11_9 (zsiI (zsiI (zsiI (zsiI s0)))) (by decide) r0_0 rfl ?_
  refine ex_aload_n (pc' := 12) dX11_appendBytes_11 rfl rfl ?_
  refine ex_getI (pc' := 15) (v := 10) dX11_appendBytes_12 fl_11_13 (zsiI (zsiI (zsiI (zsiI s0)))) (by decide) rfl rfl ?_
  refine ex_iload_n (pc' := 16) dX11_appendBytes_15 rfl rfl ?_
  refine ex_iload_n (pc' := 17) dX11_appendBytes_16 rfl rfl ?_
  refine ex_ishr (pc' := 18) (v := p1 >>> (8 &&& 31)) dX11_appendBytes_17 rfl rfl ?_
  refine ex_i2b (pc' := 19) (v := (p1 >>> (8 &&& 31)).toInt8.toInt32) dX11_appendBytes_18 rfl rfl ?_
  refine ex_bast (pc' := 20) dX11_appendBytes_19 (zsiI (zsiI (zsiI (zsiI s1)))) (by decide) rfl ?_
  refine ex_aload_n (pc' := 21) dX11_appendBytes_20 rfl rfl ?_
  refine ex_dup (pc' := 22) dX11_appendBytes_21 rfl rfl ?_
  refine ex_getI (pc' := 25) (v := 10) dX11_appendBytes_22 fl_11_13 (zsiI (zsiI (zsiI (zsiI (zsiI s0))))) (by decide) rfl rfl ?_
  refine ex_iconst (v := 1) (pc' := 26) dX11_appendBytes_25 (by decide) rfl ?_
  refine ex_iadd (pc' := 27) (v := 11) dX11_appendBytes_26 (by decide) rfl ?_
  refine ex_putI (pc' := 30) dX11_appendBytes_27 fl_11_13 (zsiI (zsiI (zsiI (zsiI (zsiI s0))))) (Or.inl rfl) (Or.inl rfl) rfl ?_
  refine ex_iinc (pc' := 33) (v := 0) (ls' := [(2, .inl 0), (0, .inr (.inr (some 0))), (1, .inl p1)]) dX11_appendBytes_30 rfl (by decide) (by decide) rfl rfl ?_
  refine ex_goto (pc' := 3) dX11_appendBytes_33 (by decide) ?_
  refine ex_iload_n (pc' := 4) dX11_appendBytes_3 rfl rfl ?_
  refine ex_if_f (pc' := 7) dX11_appendBytes_4 (by decide) (by decide) rfl ?_
  refine ex_aload_n (pc' := 8) dX11_appendBytes_7 rfl rfl ?_
  refine ex_getR (pc' := 11) (r := 1) dX11_appendBytes_8 fl_11_9 (zsiI (zsiI (zsiI (zsiI (zsiI (zsiI s0)))))) (by decide) r0_0 rfl ?_
  refine ex_aload_n (pc' := 12) dX11_appendBytes_11 rfl rfl ?_
  refine ex_getI (pc' := 15) (v := 11) dX11_appendBytes_12 fl_11_13 (zsiI (zsiI (zsiI (zsiI (zsiI (zsiI s0)))))) (by decide) rfl rfl ?_
  refine ex_iload_n (pc' := 16) dX11_appendBytes_15 rfl rfl ?_
  refine ex_iload_n (pc' := 17) dX11_appendBytes_16 rfl rfl ?_
  refine ex_ishr (pc' := 18) (v := p1 >>> (0 &&& 31)) dX11_appendBytes_17 rfl rfl ?_
  refine ex_i2b (pc' := 19) (v := (p1 >>> (0 &&& 31)).toInt8.toInt32) dX11_appendBytes_18 rfl rfl ?_
  refine ex_bast (pc' := 20) dX11_appendBytes_19 (zsiI (zsiI (zsiI (zsiI (zsiI (zsiI s1)))))) (by decide) rfl ?_
  refine ex_aload_n (pc' := 21) dX11_appendBytes_20 rfl rfl ?_
  refine ex_dup (pc' := 22) dX11_appendBytes_21 rfl rfl ?_
  refine ex_getI (pc' := 25) (v := 11) dX11_appendBytes_22 fl_11_13 (zsiI (zsiI (zsiI (zsiI (zsiI (zsiI (zsiI s0))))))) (by decide) rfl rfl ?_
  refine ex_iconst (v := 1) (pc' := 26) dX11_appendBytes_25 (by decide) rfl ?_
  refine ex_iadd (pc' := 27) (v := 12) dX11_appendBytes_26 (by decide) rfl ?_
  refine ex_putI (pc' := 30) dX11_appendBytes_27 fl_11_13 (zsiI (zsiI (zsiI (zsiI (zsiI (zsiI (zsiI s0))))))) (Or.inl rfl) (Or.inl rfl) rfl ?_
  refine ex_iinc (pc' := 33) (v := (-8)) (ls' := [(2, .inl (-8)), (0, .inr (.inr (some 0))), (1, .inl p1)]) dX11_appendBytes_30 rfl (by decide) (by decide) rfl rfl ?_
  refine ex_goto (pc' := 3) dX11_appendBytes_33 (by decide) ?_
  refine ex_iload_n (pc' := 4) dX11_appendBytes_3 rfl rfl ?_
  refine ex_if_t (pc' := 36) dX11_appendBytes_4 (by decide) (by decide) ?_
  exact ex_vretV dX11_appendBytes_36 rfl rfl
set_option maxRecDepth 10000 in
theorem kX11_appendBytes_4 (d : Nat) (h : zH) (p1 : Int32) (s0 : zsh h 0 = some (11, 16)) (s1 : zsh h 1 = some (13, 1000)) (i0_1 : h.2.1 0 1 = 12) (r0_0 : h.2.2.2.1 0 0 = some 1) : zCv (d + 0) mX11_appendBytes [.inr (.inr (some 0)), .inl p1] h (fun h' => h' = zsI (zsI (zsI (zsI (zsI (zsI (zsI (zsI (h) 1 12 (vp_nar .byte ((p1 >>> (24 &&& 31)).toInt8.toInt32))) 0 1 13) 1 13 (vp_nar .byte ((p1 >>> (16 &&& 31)).toInt8.toInt32))) 0 1 14) 1 14 (vp_nar .byte ((p1 >>> (8 &&& 31)).toInt8.toInt32))) 0 1 15) 1 15 (vp_nar .byte ((p1 >>> (0 &&& 31)).toInt8.toInt32))) 0 1 16) := by
  show zEx none (d + 0) mX11_appendBytes (0, [(0, .inr (.inr (some 0))), (1, .inl p1)], [], h) _
  refine ex_bipush (v := 24) (pc' := 2) dX11_appendBytes_0 (by decide) rfl ?_
  refine ex_istore_n (pc' := 3) (ls' := [(2, .inl 24), (0, .inr (.inr (some 0))), (1, .inl p1)]) dX11_appendBytes_2 (by decide) rfl rfl ?_
  refine ex_iload_n (pc' := 4) dX11_appendBytes_3 rfl rfl ?_
  refine ex_if_f (pc' := 7) dX11_appendBytes_4 (by decide) (by decide) rfl ?_
  refine ex_aload_n (pc' := 8) dX11_appendBytes_7 rfl rfl ?_
  refine ex_getR (pc' := 11) (r := 1) dX11_appendBytes_8 fl_11_9 s0 (by decide) r0_0 rfl ?_
  refine ex_aload_n (pc' := 12) dX11_appendBytes_11 rfl rfl ?_
  refine ex_getI (pc' := 15) (v := 12) dX11_appendBytes_12 fl_11_13 s0 (by decide) i0_1 rfl ?_
  refine ex_iload_n (pc' := 16) dX11_appendBytes_15 rfl rfl ?_
  refine ex_iload_n (pc' := 17) dX11_appendBytes_16 rfl rfl ?_
  refine ex_ishr (pc' := 18) (v := p1 >>> (24 &&& 31)) dX11_appendBytes_17 rfl rfl ?_
  refine ex_i2b (pc' := 19) (v := (p1 >>> (24 &&& 31)).toInt8.toInt32) dX11_appendBytes_18 rfl rfl ?_
  refine ex_bast (pc' := 20) dX11_appendBytes_19 s1 (by decide) rfl ?_
  refine ex_aload_n (pc' := 21) dX11_appendBytes_20 rfl rfl ?_
  refine ex_dup (pc' := 22) dX11_appendBytes_21 rfl rfl ?_
  refine ex_getI (pc' := 25) (v := 12) dX11_appendBytes_22 fl_11_13 (zsiI s0) (by decide) i0_1 rfl ?_
  refine ex_iconst (v := 1) (pc' := 26) dX11_appendBytes_25 (by decide) rfl ?_
  refine ex_iadd (pc' := 27) (v := 13) dX11_appendBytes_26 (by decide) rfl ?_
  refine ex_putI (pc' := 30) dX11_appendBytes_27 fl_11_13 (zsiI s0) (Or.inl rfl) (Or.inl rfl) rfl ?_
  refine ex_iinc (pc' := 33) (v := 16) (ls' := [(2, .inl 16), (0, .inr (.inr (some 0))), (1, .inl p1)]) dX11_appendBytes_30 rfl (by decide) (by decide) rfl rfl ?_
  refine ex_goto (pc' := 3) dX11_appendBytes_33 (by decide) ?_
  refine ex_iload_n (pc' := 4) dX11_appendBytes_3 rfl rfl ?_
  refine ex_if_f (pc' := 7) dX11_appendBytes_4 (by decide) (by decide) rfl ?_
  refine ex_aload_n (pc' := 8) dX11_appendBytes_7 rfl rfl ?_
  refine ex_getR (pc' := 11) (r := 1) dX11_appendBytes_8 fl_11_9 (zsiI (zsiI s0)) (by decide) r0_0 rfl ?_
  refine ex_aload_n (pc' := 12) dX11_appendBytes_11 rfl rfl ?_
  refine ex_getI (pc' := 15) (v := 13) dX11_appendBytes_12 fl_11_13 (zsiI (zsiI s0)) (by decide) rfl rfl ?_
  refine ex_iload_n (pc' := 16) dX11_appendBytes_15 rfl rfl ?_
  refine ex_iload_n (pc' := 17) dX11_appendBytes_16 rfl rfl ?_
  refine ex_ishr (pc' := 18) (v := p1 >>> (16 &&& 31)) dX11_appendBytes_17 rfl rfl ?_
  refine ex_i2b (pc' := 19) (v := (p1 >>> (16 &&& 31)).toInt8.toInt32) dX11_appendBytes_18 rfl rfl ?_
  refine ex_bast (pc' := 20) dX11_appendBytes_19 (zsiI (zsiI s1)) (by decide) rfl ?_
  refine ex_aload_n (pc' := 21) dX11_appendBytes_20 rfl rfl ?_
  refine ex_dup (pc' := 22) dX11_appendBytes_21 rfl rfl ?_
  refine ex_getI (pc' := 25) (v := 13) dX11_appendBytes_22 fl_11_13 (zsiI (zsiI (zsiI s0))) (by decide) rfl rfl ?_
  refine ex_iconst (v := 1) (pc' := 26) dX11_appendBytes_25 (by decide) rfl ?_
  refine ex_iadd (pc' := 27) (v := 14) dX11_appendBytes_26 (by decide) rfl ?_
  refine ex_putI (pc' := 30) dX11_appendBytes_27 fl_11_13 (zsiI (zsiI (zsiI s0))) (Or.inl rfl) (Or.inl rfl) rfl ?_
  refine ex_iinc (pc' := 33) (v := 8) (ls' := [(2, .inl 8), (0, .inr (.inr (some 0))), (1, .inl p1)]) dX11_appendBytes_30 rfl (by decide) (by decide) rfl rfl ?_
  refine ex_goto (pc' := 3) dX11_appendBytes_33 (by decide) ?_
  refine ex_iload_n (pc' := 4) dX11_appendBytes_3 rfl rfl ?_
  refine ex_if_f (pc' := 7) dX11_appendBytes_4 (by decide) (by decide) rfl ?_
  refine ex_aload_n (pc' := 8) dX11_appendBytes_7 rfl rfl ?_
  refine ex_getR (pc' := 11) (r := 1) dX11_appendBytes_8 fl_11_9 (zsiI (zsiI (zsiI (zsiI s0)))) (by decide) r0_0 rfl ?_
  refine ex_aload_n (pc' := 12) dX11_appendBytes_11 rfl rfl ?_
  refine ex_getI (pc' := 15) (v := 14) dX11_appendBytes_12 fl_11_13 (zsiI (zsiI (zsiI (zsiI s0)))) (by decide) rfl rfl ?_
  refine ex_iload_n (pc' := 16) dX11_appendBytes_15 rfl rfl ?_
  refine ex_iload_n (pc' := 17) dX11_appendBytes_16 rfl rfl ?_
  refine ex_ishr (pc' := 18) (v := p1 >>> (8 &&& 31)) dX11_appendBytes_17 rfl rfl ?_
  refine ex_i2b (pc' := 19) (v := (p1 >>> (8 &&& 31)).toInt8.toInt32) dX11_appendBytes_18 rfl rfl ?_
  refine ex_bast (pc' := 20) dX11_appendBytes_19 (zsiI (zsiI (zsiI (zsiI s1)))) (by decide) rfl ?_
  refine ex_aload_n (pc' := 21) dX11_appendBytes_20 rfl rfl ?_
  refine ex_dup (pc' := 22) dX11_appendBytes_21 rfl rfl ?_
  refine ex_getI (pc' := 25) (v := 14) dX11_appendBytes_22 fl_11_13 (zsiI (zsiI (zsiI (zsiI (zsiI s0))))) (by decide) rfl rfl ?_
  refine ex_iconst (v := 1) (pc' := 26) dX11_appendBytes_25 (by decide) rfl ?_
  refine ex_iadd (pc' := 27) (v := 15) dX11_appendBytes_26 (by decide) rfl ?_
  refine ex_putI (pc' := 30) dX11_appendBytes_27 fl_11_13 (zsiI (zsiI (zsiI (zsiI (zsiI s0))))) (Or.inl rfl) (Or.inl rfl) rfl ?_
  refine ex_iinc (pc' := 33) (v := 0) (ls' := [(2, .inl 0), (0, .inr (.inr (some 0))), (1, .inl p1)]) dX11_appendBytes_30 rfl (by decide) (by decide) rfl rfl ?_
  refine ex_goto (pc' := 3) dX11_appendBytes_33 (by decide) ?_
  refine ex_iload_n (pc' := 4) dX11_appendBytes_3 rfl rfl ?_
  refine ex_if_f (pc' := 7) dX11_appendBytes_4 (by decide) (by decide) rfl ?_
  refine ex_aload_n (pc' := 8) dX11_appendBytes_7 rfl rfl ?_
  refine ex_getR (pc' := 11) (r := 1) dX11_appendBytes_8 fl_11_9 (zsiI (zsiI (zsiI (zsiI (zsiI (zsiI s0)))))) (by decide) r0_0 rfl ?_
  refine ex_aload_n (pc' := 12) dX11_appendBytes_11 rfl rfl ?_
  refine ex_getI (pc' := 15) (v := 15) dX11_appendBytes_12 fl_11_13 (zsiI (zsiI (zsiI (zsiI (zsiI (zsiI s0)))))) (by decide) rfl rfl ?_
  refine ex_iload_n (pc' := 16) dX11_appendBytes_15 rfl rfl ?_
  refine ex_iload_n (pc' := 17) dX11_appendBytes_16 rfl rfl ?_
  refine ex_ishr (pc' := 18) (v := p1 >>> (0 &&& 31)) dX11_appendBytes_17 rfl rfl ?_
  refine ex_i2b (pc' := 19) (v := (p1 >>> (0 &&& 31)).toInt8.toInt32) dX11_appendBytes_18 rfl rfl ?_
  refine ex_bast (pc' := 20) dX11_appendBytes_19 (zsiI (zsiI (zsiI (zsiI (zsiI (zsiI s1)))))) (by decide) rfl ?_
  refine ex_aload_n (pc' := 21) dX11_appendBytes_20 rfl rfl ?_
  refine ex_dup (pc' := 22) dX11_appendBytes_21 rfl rfl ?_
  refine ex_getI (pc' := 25) (v := 15) dX11_appendBytes_22 fl_11_13 (zsiI (zsiI (zsiI (zsiI (zsiI (zsiI (zsiI s0))))))) (by decide) rfl rfl ?_
  refine ex_iconst (v := 1) (pc' := 26) dX11_appendBytes_25 (by decide) rfl ?_
  refine ex_iadd (pc' := 27) (v := 16) dX11_appendBytes_26 (by decide) rfl ?_
  refine ex_putI (pc' := 30) dX11_appendBytes_27 fl_11_13 (zsiI (zsiI (zsiI (zsiI (zsiI (zsiI (zsiI s0))))))) (Or.inl rfl) (Or.inl rfl) rfl ?_
  refine ex_iinc (pc' := 33) (v := (-8)) (ls' := [(2, .inl (-8)), (0, .inr (.inr (some 0))), (1, .inl p1)]) dX11_appendBytes_30 rfl (by decide) (by decide) rfl rfl ?_
  refine ex_goto (pc' := 3) dX11_appendBytes_33 (by decide) ?_
  refine ex_iload_n (pc' := 4) dX11_appendBytes_3 rfl rfl ?_
  refine ex_if_t (pc' := 36) dX11_appendBytes_4 (by decide) (by decide) ?_
  exact ex_vretV dX11_appendBytes_36 rfl rfl
set_option maxRecDepth 10000 in
theorem kX11_appendBytes_5 (d : Nat) (h : zH) (p1 : Int32) (s0 : zsh h 0 = some (11, 16)) (s1 : zsh h 1 = some (13, 1000)) (i0_1 : h.2.1 0 1 = 16) (r0_0 : h.2.2.2.1 0 0 = some 1) : zCv (d + 0) mX11_appendBytes [.inr (.inr (some 0)), .inl p1] h (fun h' => h' = zsI (zsI (zsI (zsI (zsI (zsI (zsI (zsI (h) 1 16 (vp_nar .byte ((p1 >>> (24 &&& 31)).toInt8.toInt32))) 0 1 17) 1 17 (vp_nar .byte ((p1 >>> (16 &&& 31)).toInt8.toInt32))) 0 1 18) 1 18 (vp_nar .byte ((p1 >>> (8 &&& 31)).toInt8.toInt32))) 0 1 19) 1 19 (vp_nar .byte ((p1 >>> (0 &&& 31)).toInt8.toInt32))) 0 1 20) := by
  show zEx none (d + 0) mX11_appendBytes (0, [(0, .inr (.inr (some 0))), (1, .inl p1)], [], h) _
  refine ex_bipush (v := 24) (pc' := 2) dX11_appendBytes_0 (by decide) rfl ?_
  refine ex_istore_n (pc' := 3) (ls' := [(2, .inl 24), (0, .inr (.inr (some 0))), (1, .inl p1)]) dX11_appendBytes_2 (by decide) rfl rfl ?_
  refine ex_iload_n (pc' := 4) dX11_appendBytes_3 rfl rfl ?_
  refine ex_if_f (pc' := 7) dX11_appendBytes_4 (by decide) (by decide) rfl ?_
  refine ex_aload_n (pc' := 8) dX11_appendBytes_7 rfl rfl ?_
  refine ex_getR (pc' := 11) (r := 1) dX11_appendBytes_8 fl_11_9 s0 (by decide) r0_0 rfl ?_
  refine ex_aload_n (pc' := 12) dX11_appendBytes_11 rfl rfl ?_
  refine ex_getI (pc' := 15) (v := 16) dX11_appendBytes_12 fl_11_13 s0 (by decide) i0_1 rfl ?_
  refine ex_iload_n (pc' := 16) dX11_appendBytes_15 rfl rfl ?_
  refine ex_iload_n (pc' := 17) dX11_appendBytes_16 rfl rfl ?_
  refine ex_ishr (pc' := 18) (v := p1 >>> (24 &&& 31)) dX11_appendBytes_17 rfl rfl ?_
  refine ex_i2b (pc' := 19) (v := (p1 >>> (24 &&& 31)).toInt8.toInt32) dX11_appendBytes_18 rfl rfl ?_
  refine ex_bast (pc' := 20) dX11_appendBytes_19 s1 (by decide) rfl ?_
  refine ex_aload_n (pc' := 21) dX11_appendBytes_20 rfl rfl ?_
  refine ex_dup (pc' := 22) dX11_appendBytes_21 rfl rfl ?_
  refine ex_getI (pc' := 25) (v := 16) dX11_appendBytes_22 fl_11_13 (zsiI s0) (by decide) i0_1 rfl ?_
  refine ex_iconst (v := 1) (pc' := 26) dX11_appendBytes_25 (by decide) rfl ?_
  refine ex_iadd (pc' := 27) (v := 17) dX11_appendBytes_26 (by decide) rfl ?_
  refine ex_putI (pc' := 30) dX11_appendBytes_27 fl_11_13 (zsiI s0) (Or.inl rfl) (Or.inl rfl) rfl ?_
  refine ex_iinc (pc' := 33) (v := 16) (ls' := [(2, .inl 16), (0, .inr (.inr (some 0))), (1, .inl p1)]) dX11_appendBytes_30 rfl (by decide) (by decide) rfl rfl ?_
  refine ex_goto (pc' := 3) dX11_appendBytes_33 (by decide) ?_
  refine ex_iload_n (pc' := 4) dX11_appendBytes_3 rfl rfl ?_
  refine ex_if_f (pc' := 7) dX11_appendBytes_4 (by decide) (by decide) rfl ?_
  refine ex_aload_n (pc' := 8) dX11_appendBytes_7 rfl rfl ?_
  refine ex_getR (pc' := 11) (r := 1) dX11_appendBytes_8 fl_11_9 (zsiI (zsiI s0)) (by decide) r0_0 rfl ?_
  refine ex_aload_n (pc' := 12) dX11_appendBytes_11 rfl rfl ?_
  refine ex_getI (pc' := 15) (v := 17) dX11_appendBytes_12 fl_11_13 (zsiI (zsiI s0)) (by decide) rfl rfl ?_
  refine ex_iload_n (pc' := 16) dX11_appendBytes_15 rfl rfl ?_
  refine ex_iload_n (pc' := 17) dX11_appendBytes_16 rfl rfl ?_
  refine ex_ishr (pc' := 18) (v := p1 >>> (16 &&& 31)) dX11_appendBytes_17 rfl rfl ?_
  refine ex_i2b (pc' := 19) (v := (p1 >>> (16 &&& 31)).toInt8.toInt32) dX11_appendBytes_18 rfl rfl ?_
  refine ex_bast (pc' := 20) dX11_appendBytes_19 (zsiI (zsiI s1)) (by decide) rfl ?_
  refine ex_aload_n (pc' := 21) dX11_appendBytes_20 rfl rfl ?_
  refine ex_dup (pc' := 22) dX11_appendBytes_21 rfl rfl ?_
  refine ex_getI (pc' := 25) (v := 17) dX11_appendBytes_22 fl_11_13 (zsiI (zsiI (zsiI s0))) (by decide) rfl rfl ?_
  refine ex_iconst (v := 1) (pc' := 26) dX11_appendBytes_25 (by decide) rfl ?_
  refine ex_iadd (pc' := 27) (v := 18) dX11_appendBytes_26 (by decide) rfl ?_
  refine ex_putI (pc' := 30) dX11_appendBytes_27 fl_11_13 (zsiI (zsiI (zsiI s0))) (Or.inl rfl) (Or.inl rfl) rfl ?_
  refine ex_iinc (pc' := 33) (v := 8) (ls' := [(2, .inl 8), (0, .inr (.inr (some 0))), (1, .inl p1)]) dX11_appendBytes_30 rfl (by decide) (by decide) rfl rfl ?_
  refine ex_goto (pc' := 3) dX11_appendBytes_33 (by decide) ?_
  refine ex_iload_n (pc' := 4) dX11_appendBytes_3 rfl rfl ?_
  refine ex_if_f (pc' := 7) dX11_appendBytes_4 (by decide) (by decide) rfl ?_
  refine ex_aload_n (pc' := 8) dX11_appendBytes_7 rfl rfl ?_
  refine ex_getR (pc' := 11) (r := 1) dX11_appendBytes_8 fl_11_9 (zsiI (zsiI (zsiI (zsiI s0)))) (by decide) r0_0 rfl ?_
  refine ex_aload_n (pc' := 12) dX11_appendBytes_11 rfl rfl ?_
  refine ex_getI (pc' := 15) (v := 18) dX11_appendBytes_12 fl_11_13 (zsiI (zsiI (zsiI (zsiI s0)))) (by decide) rfl rfl ?_
  refine ex_iload_n (pc' := 16) dX11_appendBytes_15 rfl rfl ?_
  refine ex_iload_n (pc' := 17) dX11_appendBytes_16 rfl rfl ?_
  refine ex_ishr (pc' := 18) (v := p1 >>> (8 &&& 31)) dX11_appendBytes_17 rfl rfl ?_
  refine ex_i2b (pc' := 19) (v := (p1 >>> (8 &&& 31)).toInt8.toInt32) dX11_appendBytes_18 rfl rfl ?_
  refine ex_bast (pc' := 20) dX11_appendBytes_19 (zsiI (zsiI (zsiI (zsiI s1)))) (by decide) rfl ?_
  refine ex_aload_n (pc' := 21) dX11_appendBytes_20 rfl rfl ?_
  refine ex_dup (pc' := 22) dX11_appendBytes_21 rfl rfl ?_
  refine ex_getI (pc' := 25) (v := 18) dX11_appendBytes_22 fl_11_13 (zsiI (zsiI (zsiI (zsiI (zsiI s0))))) (by decide) rfl rfl ?_
  refine ex_iconst (v := 1) (pc' := 26) dX11_appendBytes_25 (by decide) rfl ?_
  refine ex_iadd (pc' := 27) (v := 19) dX11_appendBytes_26 (by decide) rfl ?_
  refine ex_putI (pc' := 30) dX11_appendBytes_27 fl_11_13 (zsiI (zsiI (zsiI (zsiI (zsiI s0))))) (Or.inl rfl) (Or.inl rfl) rfl ?_
  refine ex_iinc (pc' := 33) (v := 0) (ls' := [(2, .inl 0), (0, .inr (.inr (some 0))), (1, .inl p1)]) dX11_appendBytes_30 rfl (by decide) (by decide) rfl rfl ?_
  refine ex_goto (pc' := 3) dX11_appendBytes_33 (by decide) ?_
  refine ex_iload_n (pc' := 4) dX11_appendBytes_3 rfl rfl ?_
  refine ex_if_f (pc' := 7) dX11_appendBytes_4 (by decide) (by decide) rfl ?_
  refine ex_aload_n (pc' := 8) dX11_appendBytes_7 rfl rfl ?_
  refine ex_getR (pc' := 11) (r := 1) dX11_appendBytes_8 fl_11_9 (zsiI (zsiI (zsiI (zsiI (zsiI (zsiI s0)))))) (by decide) r0_0 rfl ?_
  refine ex_aload_n (pc' := 12) dX11_appendBytes_11 rfl rfl ?_
  refine ex_getI (pc' := 15) (v := 19) dX11_appendBytes_12 fl_11_13 (zsiI (zsiI (zsiI (zsiI (zsiI (zsiI s0)))))) (by decide) rfl rfl ?_
  refine ex_iload_n (pc' := 16) dX11_appendBytes_15 rfl rfl ?_
  refine ex_iload_n (pc' := 17) dX11_appendBytes_16 rfl rfl ?_
  refine ex_ishr (pc' := 18) (v := p1 >>> (0 &&& 31)) dX11_appendBytes_17 rfl rfl ?_
  refine ex_i2b (pc' := 19) (v := (p1 >>> (0 &&& 31)).toInt8.toInt32) dX11_appendBytes_18 rfl rfl ?_
  refine ex_bast (pc' := 20) dX11_appendBytes_19 (zsiI (zsiI (zsiI (zsiI (zsiI (zsiI s1)))))) (by decide) rfl ?_
  refine ex_aload_n (pc' := 21) dX11_appendBytes_20 rfl rfl ?_
  refine ex_dup (pc' := 22) dX11_appendBytes_21 rfl rfl ?_
  refine ex_getI (pc' := 25) (v := 19) dX11_appendBytes_22 fl_11_13 (zsiI (zsiI (zsiI (zsiI (zsiI (zsiI (zsiI s0))))))) (by decide) rfl rfl ?_
  refine ex_iconst (v := 1) (pc' := 26) dX11_appendBytes_25 (by decide) rfl ?_
  refine ex_iadd (pc' := 27) (v := 20) dX11_appendBytes_26 (by decide) rfl ?_
  refine ex_putI (pc' := 30) dX11_appendBytes_27 fl_11_13 (zsiI (zsiI (zsiI (zsiI (zsiI (zsiI (zsiI s0))))))) (Or.inl rfl) (Or.inl rfl) rfl ?_
  refine ex_iinc (pc' := 33) (v := (-8)) (ls' := [(2, .inl (-8)), (0, .inr (.inr (some 0))), (1, .inl p1)]) dX11_appendBytes_30 rfl (by decide) (by decide) rfl rfl ?_
  refine ex_goto (pc' := 3) dX11_appendBytes_33 (by decide) ?_
  refine ex_iload_n (pc' := 4) dX11_appendBytes_3 rfl rfl ?_
  refine ex_if_t (pc' := 36) dX11_appendBytes_4 (by decide) (by decide) ?_
  exact ex_vretV dX11_appendBytes_36 rfl rfl
set_option maxRecDepth 10000 in
theorem kX11_feed_1 (d : Nat) (h : zH) (p1 p2 p3 p4 p5 : Int32) (s0 : zsh h 0 = some (11, 16)) (s1 : zsh h 1 = some (13, 1000)) (i0_1 : h.2.1 0 1 = 0) (r0_0 : h.2.2.2.1 0 0 = some 1) : zCi (d + 1) mX11_feed [.inr (.inr (some 0)), .inl p1, .inl p2, .inl p3, .inl p4, .inl p5] h (fun x h' => x = 20 ∧ h' = zsI (zsI (zsI (zsI (zsI (zsI (zsI (zsI (zsI (zsI (zsI (zsI (zsI (zsI (zsI (zsI (zsI (zsI (zsI (zsI (zsI (zsI (zsI (zsI (zsI (zsI (zsI (zsI (zsI (zsI (zsI (zsI (zsI (zsI (zsI (zsI (zsI (zsI (zsI (zsI (h) 1 0 (vp_nar .byte ((p1 >>> (24 &&& 31)).toInt8.toInt32))) 0 1 1) 1 1 (vp_nar .byte ((p1 >>> (16 &&& 31)).toInt8.toInt32))) 0 1 2) 1 2 (vp_nar .byte ((p1 >>> (8 &&& 31)).toInt8.toInt32))) 0 1 3) 1 3 (vp_nar .byte ((p1 >>> (0 &&& 31)).toInt8.toInt32))) 0 1 4) 1 4 (vp_nar .byte ((p2 >>> (24 &&& 31)).toInt8.toInt32))) 0 1 5) 1 5 (vp_nar .byte ((p2 >>> (16 &&& 31)).toInt8.toInt32))) 0 1 6) 1 6 (vp_nar .byte ((p2 >>> (8 &&& 31)).toInt8.toInt32))) 0 1 7) 1 7 (vp_nar .byte ((p2 >>> (0 &&& 31)).toInt8.toInt32))) 0 1 8) 1 8 (vp_nar .byte ((p3 >>> (24 &&& 31)).toInt8.toInt32))) 0 1 9) 1 9 (vp_nar .byte ((p3 >>> (16 &&& 31)).toInt8.toInt32))) 0 1 10) 1 10 (vp_nar .byte ((p3 >>> (8 &&& 31)).toInt8.toInt32))) 0 1 11) 1 11 (vp_nar .byte ((p3 >>> (0 &&& 31)).toInt8.toInt32))) 0 1 12) 1 12 (vp_nar .byte ((p4 >>> (24 &&& 31)).toInt8.toInt32))) 0 1 13) 1 13 (vp_nar .byte ((p4 >>> (16 &&& 31)).toInt8.toInt32))) 0 1 14) 1 14 (vp_nar .byte ((p4 >>> (8 &&& 31)).toInt8.toInt32))) 0 1 15) 1 15 (vp_nar .byte ((p4 >>> (0 &&& 31)).toInt8.toInt32))) 0 1 16) 1 16 (vp_nar .byte ((p5 >>> (24 &&& 31)).toInt8.toInt32))) 0 1 17) 1 17 (vp_nar .byte ((p5 >>> (16 &&& 31)).toInt8.toInt32))) 0 1 18) 1 18 (vp_nar .byte ((p5 >>> (8 &&& 31)).toInt8.toInt32))) 0 1 19) 1 19 (vp_nar .byte ((p5 >>> (0 &&& 31)).toInt8.toInt32))) 0 1 20) := by
  show zEx none (d + 1) mX11_feed (0, [(0, .inr (.inr (some 0))), (1, .inl p1), (2, .inl p2), (3, .inl p3), (4, .inl p4), (5, .inl p5)], [], h) _
  refine ex_aload_n (pc' := 1) dX11_feed_0 rfl rfl ?_
  refine ex_getI (pc' := 4) (v := 0) dX11_feed_1 fl_11_13 s0 (by decide) i0_1 rfl ?_
  refine ex_sipush (v := 980) (pc' := 7) dX11_feed_4 (by decide) rfl ?_
  refine ex_icmp_t (pc' := 12) dX11_feed_7 (by decide) (by decide) ?_
  refine ex_aload_n (pc' := 13) dX11_feed_12 rfl rfl ?_
  refine ex_iload_n (pc' := 14) dX11_feed_13 rfl rfl ?_
  refine en_callvV (pc' := 17) (vs := [.inl p1]) (rest := []) (h2 := zsI (zsI (zsI (zsI (zsI (zsI (zsI (zsI (h) 1 0 (vp_nar .byte ((p1 >>> (24 &&& 31)).toInt8.toInt32))) 0 1 1) 1 1 (vp_nar .byte ((p1 >>> (16 &&& 31)).toInt8.toInt32))) 0 1 2) 1 2 (vp_nar .byte ((p1 >>> (8 &&& 31)).toInt8.toInt32))) 0 1 3) 1 3 (vp_nar .byte ((p1 >>> (0 &&& 31)).toInt8.toInt32))) 0 1 4) dX11_feed_14 ml_11_94 ⟨zble rfl, zble rfl⟩ rfl rfl s0 (zblt rfl) (zble rfl) rfl (kX11_appendBytes_1 _ h p1 s0 s1 i0_1 r0_0) ?_
  refine ex_aload_n (pc' := 18) dX11_feed_17 rfl rfl ?_
  refine ex_iload_n (pc' := 19) dX11_feed_18 rfl rfl ?_
  refine en_callvV (pc' := 22) (vs := [.inl p2]) (rest := []) (h2 := zsI (zsI (zsI (zsI (zsI (zsI (zsI (zsI (zsI (zsI (zsI (zsI (zsI (zsI (zsI (zsI (h) 1 0 (vp_nar .byte ((p1 >>> (24 &&& 31)).toInt8.toInt32))) 0 1 1) 1 1 (vp_nar .byte ((p1 >>> (16 &&& 31)).toInt8.toInt32))) 0 1 2) 1 2 (vp_nar .byte ((p1 >>> (8 &&& 31)).toInt8.toInt32))) 0 1 3) 1 3 (vp_nar .byte ((p1 >>> (0 &&& 31)).toInt8.toInt32))) 0 1 4) 1 4 (vp_nar .byte ((p2 >>> (24 &&& 31)).toInt8.toInt32))) 0 1 5) 1 5 (vp_nar .byte ((p2 >>> (16 &&& 31)).toInt8.toInt32))) 0 1 6) 1 6 (vp_nar .byte ((p2 >>> (8 &&& 31)).toInt8.toInt32))) 0 1 7) 1 7 (vp_nar .byte ((p2 >>> (0 &&& 31)).toInt8.toInt32))) 0 1 8) dX11_feed_19 ml_11_94 ⟨zble rfl, zble rfl⟩ rfl rfl (zsiI (zsiI (zsiI (zsiI (zsiI (zsiI (zsiI (zsiI s0)))))))) (zblt rfl) (zble rfl) rfl (kX11_appendBytes_2 _ (zsI (zsI (zsI (zsI (zsI (zsI (zsI (zsI (h) 1 0 (vp_nar .byte ((p1 >>> (24 &&& 31)).toInt8.toInt32))) 0 1 1) 1 1 (vp_nar .byte ((p1 >>> (16 &&& 31)).toInt8.toInt32))) 0 1 2) 1 2 (vp_nar .byte ((p1 >>> (8 &&& 31)).toInt8.toInt32))) 0 1 3) 1 3 (vp_nar .byte ((p1 >>> (0 &&& 31)).toInt8.toInt32))) 0 1 4) p2 (zsiI (zsiI (zsiI (zsiI (zsiI (zsiI (zsiI (zsiI s0)))))))) (zsiI (zsiI (zsiI (zsiI (zsiI (zsiI (zsiI (zsiI s1)))))))) rfl r0_0) ?_
  refine ex_aload_n (pc' := 23) dX11_feed_22 rfl rfl ?_
  refine ex_iload_n (pc' := 24) dX11_feed_23 rfl rfl ?_
  refine en_callvV (pc' := 27) (vs := [.inl p3]) (rest := []) (h2 := zsI (zsI (zsI (zsI (zsI (zsI (zsI (zsI (zsI (zsI (zsI (zsI (zsI (zsI (zsI (zsI (zsI (zsI (zsI (zsI (zsI (zsI (zsI (zsI (h) 1 0 (vp_nar .byte ((p1 >>> (24 &&& 31)).toInt8.toInt32))) 0 1 1) 1 1 (vp_nar .byte ((p1 >>> (16 &&& 31)).toInt8.toInt32))) 0 1 2) 1 2 (vp_nar .byte ((p1 >>> (8 &&& 31)).toInt8.toInt32))) 0 1 3) 1 3 (vp_nar .byte ((p1 >>> (0 &&& 31)).toInt8.toInt32))) 0 1 4) 1 4 (vp_nar .byte ((p2 >>> (24 &&& 31)).toInt8.toInt32))) 0 1 5) 1 5 (vp_nar .byte ((p2 >>> (16 &&& 31)).toInt8.toInt32))) 0 1 6) 1 6 (vp_nar .byte ((p2 >>> (8 &&& 31)).toInt8.toInt32))) 0 1 7) 1 7 (vp_nar .byte ((p2 >>> (0 &&& 31)).toInt8.toInt32))) 0 1 8) 1 8 (vp_nar .byte ((p3 >>> (24 &&& 31)).toInt8.toInt32))) 0 1 9) 1 9 (vp_nar .byte ((p3 >>> (16 &&& 31)).toInt8.toInt32))) 0 1 10) 1 10 (vp_nar .byte ((p3 >>> (8 &&& 31)).toInt8.toInt32))) 0 1 11) 1 11 (vp_nar .byte ((p3 >>> (0 &&& 31)).toInt8.toInt32))) 0 1 12) dX11_feed_24 ml_11_94 ⟨zble rfl, zble rfl⟩ rfl rfl (zsiI (zsiI (zsiI (zsiI (zsiI (zsiI (zsiI (zsiI (zsiI (zsiI (zsiI (zsiI (zsiI (zsiI (zsiI (zsiI s0)))))))))))))))) (zblt rfl) (zble rfl) rfl (kX11_appendBytes_3 _ (zsI (zsI (zsI (zsI (zsI (zsI (zsI (zsI (zsI (zsI (zsI (zsI (zsI (zsI (zsI (zsI (h) 1 0 (vp_nar .byte ((p1 >>> (24 &&& 31)).toInt8.toInt32))) 0 1 1) 1 1 (vp_nar .byte ((p1 >>> (16 &&& 31)).toInt8.toInt32))) 0 1 2) 1 2 (vp_nar .byte ((p1 >>> (8 &&& 31)).toInt8.toInt32))) 0 1 3) 1 3 (vp_nar .byte ((p1 >>> (0 &&& 31)).toInt8.toInt32))) 0 1 4) 1 4 (vp_nar .byte ((p2 >>> (24 &&& 31)).toInt8.toInt32))) 0 1 5) 1 5 (vp_nar .byte ((p2 >>> (16 &&& 31)).toInt8.toInt32))) 0 1 6) 1 6 (vp_nar .byte ((p2 >>> (8 &&& 31)).toInt8.toInt32))) 0 1 7) 1 7 (vp_nar .byte ((p2 >>> (0 &&& 31)).toInt8.toInt32))) 0 1 8) p3 (zsiI (zsiI (zsiI (zsiI (zsiI (zsiI (zsiI (zsiI (zsiI (zsiI (zsiI (zsiI (zsiI (zsiI (zsiI (zsiI s0)))))))))))))))) (zsiI (zsiI (zsiI (zsiI (zsiI (zsiI (zsiI (zsiI (zsiI (zsiI (zsiI (zsiI (zsiI (zsiI (zsiI (zsiI s1)))))))))))))))) rfl r0_0) ?_
  refine ex_aload_n (pc' := 28) dX11_feed_27 rfl rfl ?_
  refine ex_iload (pc' := 30) dX11_feed_28 rfl rfl ?_
  refine en_callvV (pc' := 33) (vs := [.inl p4]) (rest := []) (h2 := zsI (zsI (zsI (zsI (zsI (zsI (zsI (zsI (zsI (zsI (zsI (zsI (zsI (zsI (zsI (zsI (zsI (zsI (zsI (zsI (zsI (zsI (zsI (zsI (zsI (zsI (zsI (zsI (zsI (zsI (zsI (zsI (h) 1 0 (vp_nar .byte ((p1 >>> (24 &&& 31)).toInt8.toInt32))) 0 1 1) 1 1 (vp_nar .byte ((p1 >>> (16 &&& 31)).toInt8.toInt32))) 0 1 2) 1 2 (vp_nar .byte ((p1 >>> (8 &&& 31)).toInt8.toInt32))) 0 1 3) 1 3 (vp_nar .byte ((p1 >>> (0 &&& 31)).toInt8.toInt32))) 0 1 4) 1 4 (vp_nar .byte ((p2 >>> (24 &&& 31)).toInt8.toInt32))) 0 1 5) 1 5 (vp_nar .byte ((p2 >>> (16 &&& 31)).toInt8.toInt32))) 0 1 6) 1 6 (vp_nar .byte ((p2 >>> (8 &&& 31)).toInt8.toInt32))) 0 1 7) 1 7 (vp_nar .byte ((p2 >>> (0 &&& 31)).toInt8.toInt32))) 0 1 8) 1 8 (vp_nar .byte ((p3 >>> (24 &&& 31)).toInt8.toInt32))) 0 1 9) 1 9 (vp_nar .byte ((p3 >>> (16 &&& 31)).toInt8.toInt32))) 0 1 10) 1 10 (vp_nar .byte ((p3 >>> (8 &&& 31)).toInt8.toInt32))) 0 1 11) 1 11 (vp_nar .byte ((p3 >>> (0 &&& 31)).toInt8.toInt32))) 0 1 12) 1 12 (vp_nar .byte ((p4 >>> (24 &&& 31)).toInt8.toInt32))) 0 1 13) 1 13 (vp_nar .byte ((p4 >>> (16 &&& 31)).toInt8.toInt32))) 0 1 14) 1 14 (vp_nar .byte ((p4 >>> (8 &&& 31)).toInt8.toInt32))) 0 1 15) 1 15 (vp_nar .byte ((p4 >>> (0 &&& 31)).toInt8.toInt32))) 0 1 16) dX11_feed_30 ml_11_94 ⟨zble rfl, zble rfl⟩ rfl rfl (zsiI (zsiI (zsiI (zsiI (zsiI (zsiI (zsiI (zsiI (zsiI (zsiI (zsiI (zsiI (zsiI (zsiI (zsiI (zsiI (zsiI (zsiI (zsiI (zsiI (zsiI (zsiI (zsiI (zsiI s0)))))))))))))))))))))))) (zblt rfl) (zble rfl) rfl (kX11_appendBytes_4 _ (zsI (zsI (zsI (zsI (zsI (zsI (zsI (zsI (zsI (zsI (zsI (zsI (zsI (zsI (zsI (zsI (zsI (zsI (zsI (zsI (zsI (zsI (zsI (zsI (h) 1 0 (vp_nar .byte ((p1 >>> (24 &&& 31)).toInt8.toInt32))) 0 1 1) 1 1 (vp_nar .byte ((p1 >>> (16 &&& 31)).toInt8.toInt32))) 0 1 2) 1 2 (vp_nar .byte ((p1 >>> (8 &&& 31)).toInt8.toInt32))) 0 1 3) 1 3 (vp_nar .byte ((p1 >>> (0 &&& 31)).toInt8.toInt32))) 0 1 4) 1 4 (vp_nar .byte ((p2 >>> (24 &&& 31)).toInt8.toInt32))) 0 1 5) 1 5 (vp_nar .byte ((p2 >>> (16 &&& 31)).toInt8.toInt32))) 0 1 6) 1 6 (vp_nar .byte ((p2 >>> (8 &&& 31)).toInt8.toInt32))) 0 1 7) 1 7 (vp_nar .byte ((p2 >>> (0 &&& 31)).toInt8.toInt32))) 0 1 8) 1 8 (vp_nar .byte ((p3 >>> (24 &&& 31)).toInt8.toInt32))) 0 1 9) 1 9 (vp_nar .byte ((p3 >>> (16 &&& 31)).toInt8.toInt32))) 0 1 10) 1 10 (vp_nar .byte ((p3 >>> (8 &&& 31)).toInt8.toInt32))) 0 1 11) 1 11 (vp_nar .byte ((p3 >>> (0 &&& 31)).toInt8.toInt32))) 0 1 12) p4 (zsiI (zsiI (zsiI (zsiI (zsiI (zsiI (zsiI (zsiI (zsiI (zsiI (zsiI (zsiI (zsiI (zsiI (zsiI (zsiI (zsiI (zsiI (zsiI (zsiI (zsiI (zsiI (zsiI (zsiI s0)))))))))))))))))))))))) (zsiI (zsiI (zsiI (zsiI (zsiI (zsiI (zsiI (zsiI (zsiI (zsiI (zsiI (zsiI (zsiI (zsiI (zsiI (zsiI (zsiI (zsiI (zsiI (zsiI (zsiI (zsiI (zsiI (zsiI s1)))))))))))))))))))))))) rfl r0_0) ?_
  refine ex_aload_n (pc' := 34) dX11_feed_33 rfl rfl ?_
  refine ex_iload (pc' := 36) dX11_feed_34 rfl rfl ?_
  refine en_callvV (pc' := 39) (vs := [.inl p5]) (rest := []) (h2 := zsI (zsI (zsI (zsI (zsI (zsI (zsI (zsI (zsI (zsI (zsI (zsI (zsI (zsI (zsI (zsI (zsI (zsI (zsI (zsI (zsI (zsI (zsI (zsI (zsI (zsI (zsI (zsI (zsI (zsI (zsI (zsI (zsI (zsI (zsI (zsI (zsI (zsI (zsI (zsI (h) 1 0 (vp_nar .byte ((p1 >>> (24 &&& 31)).toInt8.toInt32))) 0 1 1) 1 1 (vp_nar .byte ((p1 >>> (16 &&& 31)).toInt8.toInt32))) 0 1 2) 1 2 (vp_nar .byte ((p1 >>> (8 &&& 31)).toInt8.toInt32))) 0 1 3) 1 3 (vp_nar .byte ((p1 >>> (0 &&& 31)).toInt8.toInt32))) 0 1 4) 1 4 (vp_nar .byte ((p2 >>> (24 &&& 31)).toInt8.toInt32))) 0 1 5) 1 5 (vp_nar .byte ((p2 >>> (16 &&& 31)).toInt8.toInt32))) 0 1 6) 1 6 (vp_nar .byte ((p2 >>> (8 &&& 31)).toInt8.toInt32))) 0 1 7) 1 7 (vp_nar .byte ((p2 >>> (0 &&& 31)).toInt8.toInt32))) 0 1 8) 1 8 (vp_nar .byte ((p3 >>> (24 &&& 31)).toInt8.toInt32))) 0 1 9) 1 9 (vp_nar .byte ((p3 >>> (16 &&& 31)).toInt8.toInt32))) 0 1 10) 1 10 (vp_nar .byte ((p3 >>> (8 &&& 31)).toInt8.toInt32))) 0 1 11) 1 11 (vp_nar .byte ((p3 >>> (0 &&& 31)).toInt8.toInt32))) 0 1 12) 1 12 (vp_nar .byte ((p4 >>> (24 &&& 31)).toInt8.toInt32))) 0 1 13) 1 13 (vp_nar .byte ((p4 >>> (16 &&& 31)).toInt8.toInt32))) 0 1 14) 1 14 (vp_nar .byte ((p4 >>> (8 &&& 31)).toInt8.toInt32))) 0 1 15) 1 15 (vp_nar .byte ((p4 >>> (0 &&& 31)).toInt8.toInt32))) 0 1 16) 1 16 (vp_nar .byte ((p5 >>> (24 &&& 31)).toInt8.toInt32))) 0 1 17) 1 17 (vp_nar .byte ((p5 >>> (16 &&& 31)).toInt8.toInt32))) 0 1 18) 1 18 (vp_nar .byte ((p5 >>> (8 &&& 31)).toInt8.toInt32))) 0 1 19) 1 19 (vp_nar .byte ((p5 >>> (0 &&& 31)).toInt8.toInt32))) 0 1 20) dX11_feed_36 ml_11_94 ⟨zble rfl, zble rfl⟩ rfl rfl (zsiI (zsiI (zsiI (zsiI (zsiI (zsiI (zsiI (zsiI (zsiI (zsiI (zsiI (zsiI (zsiI (zsiI (zsiI (zsiI (zsiI (zsiI (zsiI (zsiI (zsiI (zsiI (zsiI (zsiI (zsiI (zsiI (zsiI (zsiI (zsiI (zsiI (zsiI (zsiI s0)))))))))))))))))))))))))))))))) (zblt rfl) (zble rfl) rfl (kX11_appendBytes_5 _ (zsI (zsI (zsI (zsI (zsI (zsI (zsI (zsI (zsI (zsI (zsI (zsI (zsI (zsI (zsI (zsI (zsI (zsI (zsI (zsI (zsI (zsI (zsI (zsI (zsI (zsI (zsI (zsI (zsI (zsI (zsI (zsI (h) 1 0 (vp_nar .byte ((p1 >>> (24 &&& 31)).toInt8.toInt32))) 0 1 1) 1 1 (vp_nar .byte ((p1 >>> (16 &&& 31)).toInt8.toInt32))) 0 1 2) 1 2 (vp_nar .byte ((p1 >>> (8 &&& 31)).toInt8.toInt32))) 0 1 3) 1 3 (vp_nar .byte ((p1 >>> (0 &&& 31)).toInt8.toInt32))) 0 1 4) 1 4 (vp_nar .byte ((p2 >>> (24 &&& 31)).toInt8.toInt32))) 0 1 5) 1 5 (vp_nar .byte ((p2 >>> (16 &&& 31)).toInt8.toInt32))) 0 1 6) 1 6 (vp_nar .byte ((p2 >>> (8 &&& 31)).toInt8.toInt32))) 0 1 7) 1 7 (vp_nar .byte ((p2 >>> (0 &&& 31)).toInt8.toInt32))) 0 1 8) 1 8 (vp_nar .byte ((p3 >>> (24 &&& 31)).toInt8.toInt32))) 0 1 9) 1 9 (vp_nar .byte ((p3 >>> (16 &&& 31)).toInt8.toInt32))) 0 1 10) 1 10 (vp_nar .byte ((p3 >>> (8 &&& 31)).toInt8.toInt32))) 0 1 11) 1 11 (vp_nar .byte ((p3 >>> (0 &&& 31)).toInt8.toInt32))) 0 1 12) 1 12 (vp_nar .byte ((p4 >>> (24 &&& 31)).toInt8.toInt32))) 0 1 13) 1 13 (vp_nar .byte ((p4 >>> (16 &&& 31)).toInt8.toInt32))) 0 1 14) 1 14 (vp_nar .byte ((p4 >>> (8 &&& 31)).toInt8.toInt32))) 0 1 15) 1 15 (vp_nar .byte ((p4 >>> (0 &&& 31)).toInt8.toInt32))) 0 1 16) p5 (zsiI (zsiI (zsiI (zsiI (zsiI (zsiI (zsiI (zsiI (zsiI (zsiI (zsiI (zsiI (zsiI (zsiI (zsiI (zsiI (zsiI (zsiI (zsiI (zsiI (zsiI (zsiI (zsiI (zsiI (zsiI (zsiI (zsiI (zsiI (zsiI (zsiI (zsiI (zsiI s0)))))))))))))))))))))))))))))))) (zsiI (zsiI (zsiI (zsiI (zsiI (zsiI (zsiI (zsiI (zsiI (zsiI (zsiI (zsiI (zsiI (zsiI (zsiI (zsiI (zsiI (zsiI (zsiI (zsiI (zsiI (zsiI (zsiI (zsiI (zsiI (zsiI (zsiI (zsiI (zsiI (zsiI (zsiI (zsiI s1)))))))))))))))))))))))))))))))) rfl r0_0) ?_
  refine ex_aload_n (pc' := 40) dX11_feed_39 rfl rfl ?_
  refine ex_getI (pc' := 43) (v := 20) dX11_feed_40 fl_11_13 (zsiI (zsiI (zsiI (zsiI (zsiI (zsiI (zsiI (zsiI (zsiI (zsiI (zsiI (zsiI (zsiI (zsiI (zsiI (zsiI (zsiI (zsiI (zsiI (zsiI (zsiI (zsiI (zsiI (zsiI (zsiI (zsiI (zsiI (zsiI (zsiI (zsiI (zsiI (zsiI (zsiI (zsiI (zsiI (zsiI (zsiI (zsiI (zsiI (zsiI s0)))))))))))))))))))))))))))))))))))))))) (by decide) rfl rfl ?_
  exact ex_iretI dX11_feed_43 rfl rfl ⟨rfl, rfl⟩
set_option maxRecDepth 10000 in
theorem kX12_feed_1 (d : Nat) (h : zH) (p1 p2 p3 p4 p5 : Int32) (s196 : zsh h 196 = some (12, 39)) (s197 : zsh h 197 = some (14, 1000)) (i196_2 : h.2.1 196 2 = 0) (r196_1 : h.2.2.2.1 196 1 = some 197) : zCi (d + 0) mX12_feed [.inr (.inr (some 196)), .inl p1, .inl p2, .inl p3, .inl p4, .inl p5] h (fun x h' => x = 20 ∧ h' = zsI (zsI (zsI (zsI (zsI (zsI (zsI (zsI (zsI (zsI (zsI (zsI (zsI (zsI (zsI (zsI (zsI (zsI (zsI (zsI (zsI (zsI (zsI (zsI (zsI (zsI (zsI (zsI (zsI (zsI (zsI (zsI (zsI (zsI (zsI (zsI (zsI (zsI (zsI (zsI (zsI (h) 196 0 0) 197 0 ((p1 >>> (24 &&& 31)) &&& 255)) 196 2 1) 197 1 ((p1 >>> (16 &&& 31)) &&& 255)) 196 2 2) 197 2 ((p1 >>> (8 &&& 31)) &&& 255)) 196 2 3) 197 3 ((p1 >>> (0 &&& 31)) &&& 255)) 196 2 4) 197 4 ((p2 >>> (24 &&& 31)) &&& 255)) 196 2 5) 197 5 ((p2 >>> (16 &&& 31)) &&& 255)) 196 2 6) 197 6 ((p2 >>> (8 &&& 31)) &&& 255)) 196 2 7) 197 7 ((p2 >>> (0 &&& 31)) &&& 255)) 196 2 8) 197 8 ((p3 >>> (24 &&& 31)) &&& 255)) 196 2 9) 197 9 ((p3 >>> (16 &&& 31)) &&& 255)) 196 2 10) 197 10 ((p3 >>> (8 &&& 31)) &&& 255)) 196 2 11) 197 11 ((p3 >>> (0 &&& 31)) &&& 255)) 196 2 12) 197 12 ((p4 >>> (24 &&& 31)) &&& 255)) 196 2 13) 197 13 ((p4 >>> (16 &&& 31)) &&& 255)) 196 2 14) 197 14 ((p4 >>> (8 &&& 31)) &&& 255)) 196 2 15) 197 15 ((p4 >>> (0 &&& 31)) &&& 255)) 196 2 16) 197 16 ((p5 >>> (24 &&& 31)) &&& 255)) 196 2 17) 197 17 ((p5 >>> (16 &&& 31)) &&& 255)) 196 2 18) 197 18 ((p5 >>> (8 &&& 31)) &&& 255)) 196 2 19) 197 19 ((p5 >>> (0 &&& 31)) &&& 255)) 196 2 20) := by
  show zEx none (d + 0) mX12_feed (0, [(0, .inr (.inr (some 196))), (1, .inl p1), (2, .inl p2), (3, .inl p3), (4, .inl p4), (5, .inl p5)], [], h) _
  refine ex_aload_n (pc' := 1) dX12_feed_0 rfl rfl ?_
  refine ex_iconst (v := 0) (pc' := 2) dX12_feed_1 (by decide) rfl ?_
  refine ex_putI (pc' := 5) dX12_feed_2 fl_12_62 s196 (Or.inl rfl) (Or.inl rfl) rfl ?_
  refine ex_aload_n (pc' := 6) dX12_feed_5 rfl rfl ?_
  refine ex_getI (pc' := 9) (v := 0) dX12_feed_6 fl_12_68 (zsiI s196) (by decide) i196_2 rfl ?_
  refine ex_bipush (v := 20) (pc' := 11) dX12_feed_9 (by decide) rfl ?_
  refine ex_iadd (pc' := 12) (v := 20) dX12_feed_11 (by decide) rfl ?_
  refine ex_sipush (v := 1000) (pc' := 15) dX12_feed_12 (by decide) rfl ?_
  refine ex_icmp_t (pc' := 20) dX12_feed_15 (by decide) (by decide) ?_
  refine ex_iconst (v := 0) (pc' := 21) dX12_feed_20 (by decide) rfl ?_
  refine ex_istore (pc' := 23) (ls' := [(6, .inl 0), (0, .inr (.inr (some 196))), (1, .inl p1), (2, .inl p2), (3, .inl p3), (4, .inl p4), (5, .inl p5)]) dX12_feed_21 (by decide) rfl rfl ?_
  refine ex_iload (pc' := 25) dX12_feed_23 rfl rfl ?_
  refine ex_bipush (v := 20) (pc' := 27) dX12_feed_25 (by decide) rfl ?_
  refine ex_icmp_f (pc' := 30) dX12_feed_27 (by decide) (by decide) rfl ?_
  refine ex_iload (pc' := 32) dX12_feed_30 rfl rfl ?_
  refine ex_iconst (v := 4) (pc' := 33) dX12_feed_32 (by decide) rfl ?_
  refine ex_icmp_f (pc' := 36) dX12_feed_33 (by decide) (by decide) rfl ?_
  refine ex_iload_n (pc' := 37) dX12_feed_36 rfl rfl ?_
  refine ex_goto (pc' := 76) dX12_feed_37 (by decide) ?_
  refine ex_istore (pc' := 78) (ls' := [(7, .inl p1), (6, .inl 0), (0, .inr (.inr (some 196))), (1, .inl p1), (2, .inl p2), (3, .inl p3), (4, .inl p4), (5, .inl p5)]) dX12_feed_76 (by decide) rfl rfl ?_
  refine ex_aload_n (pc' := 79) dX12_feed_78 rfl rfl ?_
  refine ex_getR (pc' := 82) (r := 197) dX12_feed_79 fl_12_7 (zsiI s196) (by decide) r196_1 rfl ?_
  refine ex_aload_n (pc' := 83) dX12_feed_82 rfl rfl ?_
  refine ex_getI (pc' := 86) (v := 0) dX12_feed_83 fl_12_68 (zsiI s196) (by decide) i196_2 rfl ?_
  refine ex_iload (pc' := 88) dX12_feed_86 rfl rfl ?_
  refine ex_bipush (v := 24) (pc' := 90) dX12_feed_88 (by decide) rfl ?_
  refine ex_bipush (v := 8) (pc' := 92) dX12_feed_90 (by decide) rfl ?_
  refine ex_iload (pc' := 94) dX12_feed_92 rfl rfl ?_
  refine ex_iconst (v := 4) (pc' := 95) dX12_feed_94 (by decide) rfl ?_
  refine ex_irem (pc' := 96) (v := 0) dX12_feed_95 (by decide) (by decide) rfl ?_
  refine ex_imul (pc' := 97) (v := 0) dX12_feed_96 (by decide) rfl ?_
  refine ex_isub (pc' := 98) (v := 24) dX12_feed_97 (by decide) rfl ?_
  refine ex_ishr (pc' := 99) (v := p1 >>> (24 &&& 31)) dX12_feed_98 rfl rfl ?_
  refine ex_sipush (v := 255) (pc' := 102) dX12_feed_99 (by decide) rfl ?_
  refine ex_iand (pc' := 103) (v := (p1 >>> (24 &&& 31)) &&& 255) dX12_feed_102 rfl rfl ?_
  refine ex_iast (pc' := 104) dX12_feed_103 (zsiI s197) (by decide) rfl ?_
  refine ex_aload_n (pc' := 105) dX12_feed_104 rfl rfl ?_
  refine ex_dup (pc' := 106) dX12_feed_105 rfl rfl ?_
  refine ex_getI (pc' := 109) (v := 0) dX12_feed_106 fl_12_68 (zsiI (zsiI s196)) (by decide) i196_2 rfl ?_
  refine ex_iconst (v := 1) (pc' := 110) dX12_feed_109 (by decide) rfl ?_
  refine ex_iadd (pc' := 111) (v := 1) dX12_feed_110 (by decide) rfl ?_
  refine ex_putI (pc' := 114) dX12_feed_111 fl_12_68 (zsiI (zsiI s196)) (Or.inl rfl) (Or.inl rfl) rfl ?_
  refine ex_iinc (pc' := 117) (v := 1) (ls' := [(6, .inl 1), (7, .inl p1), (0, .inr (.inr (some 196))), (1, .inl p1), (2, .inl p2), (3, .inl p3), (4, .inl p4), (5, .inl p5)]) dX12_feed_114 rfl (by decide) (by decide) rfl rfl ?_
  refine ex_goto (pc' := 23) dX12_feed_117 (by decide) ?_
  refine ex_iload (pc' := 25) dX12_feed_23 rfl rfl ?_
  refine ex_bipush (v := 20) (pc' := 27) dX12_feed_25 (by decide) rfl ?_
  refine ex_icmp_f (pc' := 30) dX12_feed_27 (by decide) (by decide) rfl ?_
  refine ex_iload (pc' := 32) dX12_feed_30 rfl rfl ?_
  refine ex_iconst (v := 4) (pc' := 33) dX12_feed_32 (by decide) rfl ?_
  refine ex_icmp_f (pc' := 36) dX12_feed_33 (by decide) (by decide) rfl ?_
  refine ex_iload_n (pc' := 37) dX12_feed_36 rfl rfl ?_
  refine ex_goto (pc' := 76) dX12_feed_37 (by decide) ?_
  refine ex_istore (pc' := 78) (ls' := [(7, .inl p1), (6, .inl 1), (0, .inr (.inr (some 196))), (1, .inl p1), (2, .inl p2), (3, .inl p3), (4, .inl p4), (5, .inl p5)]) dX12_feed_76 (by decide) rfl rfl ?_
  refine ex_aload_n (pc' := 79) dX12_feed_78 rfl rfl ?_
  refine ex_getR (pc' := 82) (r := 197) dX12_feed_79 fl_12_7 (zsiI (zsiI (zsiI s196))) (by decide) r196_1 rfl ?_
  refine ex_aload_n (pc' := 83) dX12_feed_82 rfl rfl ?_
  refine ex_getI (pc' := 86) (v := 1) dX12_feed_83 fl_12_68 (zsiI (zsiI (zsiI s196))) (by decide) rfl rfl ?_
  refine ex_iload (pc' := 88) dX12_feed_86 rfl rfl ?_
  refine ex_bipush (v := 24) (pc' := 90) dX12_feed_88 (by decide) rfl ?_
  refine ex_bipush (v := 8) (pc' := 92) dX12_feed_90 (by decide) rfl ?_
  refine ex_iload (pc' := 94) dX12_feed_92 rfl rfl ?_
  refine ex_iconst (v := 4) (pc' := 95) dX12_feed_94 (by decide) rfl ?_
  refine ex_irem (pc' := 96) (v := 1) dX12_feed_95 (by decide) (by decide) rfl ?_
  refine ex_imul (pc' := 97) (v := 8) dX12_feed_96 (by decide) rfl ?_
  refine ex_isub (pc' := 98) (v := 16) dX12_feed_97 (by decide) rfl ?_
  refine ex_ishr (pc' := 99) (v := p1 >>> (16 &&& 31)) dX12_feed_98 rfl rfl ?_
  refine ex_sipush (v := 255) (pc' := 102) dX12_feed_99 (by decide) rfl ?_
  refine ex_iand (pc' := 103) (v := (p1 >>> (16 &&& 31)) &&& 255) dX12_feed_102 rfl rfl ?_
  refine ex_iast (pc' := 104) dX12_feed_103 (zsiI (zsiI (zsiI s197))) (by decide) rfl ?_
  refine ex_aload_n (pc' := 105) dX12_feed_104 rfl rfl ?_
  refine ex_dup (pc' := 106) dX12_feed_105 rfl rfl ?_
  refine ex_getI (pc' := 109) (v := 1) dX12_feed_106 fl_12_68 (zsiI (zsiI (zsiI (zsiI s196)))) (by decide) rfl rfl ?_
  refine ex_iconst (v := 1) (pc' := 110) dX12_feed_109 (by decide) rfl ?_
  refine ex_iadd (pc' := 111) (v := 2) dX12_feed_110 (by decide) rfl ?_
  refine ex_putI (pc' := 114) dX12_feed_111 fl_12_68 (zsiI (zsiI (zsiI (zsiI s196)))) (Or.inl rfl) (Or.inl rfl) rfl ?_
  refine ex_iinc (pc' := 117) (v := 2) (ls' := [(6, .inl 2), (7, .inl p1), (0, .inr (.inr (some 196))), (1, .inl p1), (2, .inl p2), (3, .inl p3), (4, .inl p4), (5, .inl p5)]) dX12_feed_114 rfl (by decide) (by decide) rfl rfl ?_
  refine ex_goto (pc' := 23) dX12_feed_117 (by decide) ?_
  refine ex_iload (pc' := 25) dX12_feed_23 rfl rfl ?_
  refine ex_bipush (v := 20) (pc' := 27) dX12_feed_25 (by decide) rfl ?_
  refine ex_icmp_f (pc' := 30) dX12_feed_27 (by decide) (by decide) rfl ?_
  refine ex_iload (pc' := 32) dX12_feed_30 rfl rfl ?_
  refine ex_iconst (v := 4) (pc' := 33) dX12_feed_32 (by decide) rfl ?_
  refine ex_icmp_f (pc' := 36) dX12_feed_33 (by decide) (by decide) rfl ?_
  refine ex_iload_n (pc' := 37) dX12_feed_36 rfl rfl ?_
  refine ex_goto (pc' := 76) dX12_feed_37 (by decide) ?_
  refine ex_istore (pc' := 78) (ls' := [(7, .inl p1), (6, .inl 2), (0, .inr (.inr (some 196))), (1, .inl p1), (2, .inl p2), (3, .inl p3), (4, .inl p4), (5, .inl p5)]) dX12_feed_76 (by decide) rfl rfl ?_
  refine ex_aload_n (pc' := 79) dX12_feed_78 rfl rfl ?_
  refine ex_getR (pc' := 82) (r := 197) dX12_feed_79 fl_12_7 (zsiI (zsiI (zsiI (zsiI (zsiI s196))))) (by decide) r196_1 rfl ?_
  refine ex_aload_n (pc' := 83) dX12_feed_82 rfl rfl ?_
  refine ex_getI (pc' := 86) (v := 2) dX12_feed_83 fl_12_68 (zsiI (zsiI (zsiI (zsiI (zsiI s196))))) (by decide) rfl rfl ?_
  refine ex_iload (pc' := 88) dX12_feed_86 rfl rfl ?_
  refine ex_bipush (v := 24) (pc' := 90) dX12_feed_88 (by decide) rfl ?_
  refine ex_bipush (v := 8) (pc' := 92) dX12_feed_90 (by decide) rfl ?_
  refine ex_iload (pc' := 94) dX12_feed_92 rfl rfl ?_
  refine ex_iconst (v := 4) (pc' := 95) dX12_feed_94 (by decide) rfl ?_
  refine ex_irem (pc' := 96) (v := 2) dX12_feed_95 (by decide) (by decide) rfl ?_
  refine ex_imul (pc' := 97) (v := 16) dX12_feed_96 (by decide) rfl ?_
  refine ex_isub (pc' := 98) (v := 8) dX12_feed_97 (by decide) rfl ?_
  refine ex_ishr (pc' := 99) (v := p1 >>> (8 &&& 31)) dX12_feed_98 rfl rfl ?_
  refine ex_sipush (v := 255) (pc' := 102) dX12_feed_99 (by decide) rfl ?_
  refine ex_iand (pc' := 103) (v := (p1 >>> (8 &&& 31)) &&& 255) dX12_feed_102 rfl rfl ?_
  refine ex_iast (pc' := 104) dX12_feed_103 (zsiI (zsiI (zsiI (zsiI (zsiI s197))))) (by decide) rfl ?_
  refine ex_aload_n (pc' := 105) dX12_feed_104 rfl rfl ?_
  refine ex_dup (pc' := 106) dX12_feed_105 rfl rfl ?_
  refine ex_getI (pc' := 109) (v := 2) dX12_feed_106 fl_12_68 (zsiI (zsiI (zsiI (zsiI (zsiI (zsiI s196)))))) (by decide) rfl rfl ?_
  refine ex_iconst (v := 1) (pc' := 110) dX12_feed_109 (by decide) rfl ?_
  refine ex_iadd (pc' := 111) (v := 3) dX12_feed_110 (by decide) rfl ?_
  refine ex_putI (pc' := 114) dX12_feed_111 fl_12_68 (zsiI (zsiI (zsiI (zsiI (zsiI (zsiI s196)))))) (Or.inl rfl) (Or.inl rfl) rfl ?_
  refine ex_iinc (pc' := 117) (v := 3) (ls' := [(6, .inl 3), (7, .inl p1), (0, .inr (.inr (some 196))), (1, .inl p1), (2, .inl p2), (3, .inl p3), (4, .inl p4), (5, .inl p5)]) dX12_feed_114 rfl (by decide) (by decide) rfl rfl ?_
  refine ex_goto (pc' := 23) dX12_feed_117 (by decide) ?_
  refine ex_iload (pc' := 25) dX12_feed_23 rfl rfl ?_
  refine ex_bipush (v := 20) (pc' := 27) dX12_feed_25 (by decide) rfl ?_
  refine ex_icmp_f (pc' := 30) dX12_feed_27 (by decide) (by decide) rfl ?_
  refine ex_iload (pc' := 32) dX12_feed_30 rfl rfl ?_
  refine ex_iconst (v := 4) (pc' := 33) dX12_feed_32 (by decide) rfl ?_
  refine ex_icmp_f (pc' := 36) dX12_feed_33 (by decide) (by decide) rfl ?_
  refine ex_iload_n (pc' := 37) dX12_feed_36 rfl rfl ?_
  refine ex_goto (pc' := 76) dX12_feed_37 (by decide) ?_
  refine ex_istore (pc' := 78) (ls' := [(7, .inl p1), (6, .inl 3), (0, .inr (.inr (some 196))), (1, .inl p1), (2, .inl p2), (3, .inl p3), (4, .inl p4), (5, .inl p5)]) dX12_feed_76 (by decide) rfl rfl ?_
  refine ex_aload_n (pc' := 79) dX12_feed_78 rfl rfl ?_
  refine ex_getR (pc' := 82) (r := 197) dX12_feed_79 fl_12_7 (zsiI (zsiI (zsiI (zsiI (zsiI (zsiI (zsiI s196))))))) (by decide) r196_1 rfl ?_
  refine ex_aload_n (pc' := 83) dX12_feed_82 rfl rfl ?_
  refine ex_getI (pc' := 86) (v := 3) dX12_feed_83 fl_12_68 (zsiI (zsiI (zsiI (zsiI (zsiI (zsiI (zsiI s196))))))) (by decide) rfl rfl ?_
  refine ex_iload (pc' := 88) dX12_feed_86 rfl rfl ?_
  refine ex_bipush (v := 24) (pc' := 90) dX12_feed_88 (by decide) rfl ?_
  refine ex_bipush (v := 8) (pc' := 92) dX12_feed_90 (by decide) rfl ?_
  refine ex_iload (pc' := 94) dX12_feed_92 rfl rfl ?_
  refine ex_iconst (v := 4) (pc' := 95) dX12_feed_94 (by decide) rfl ?_
  refine ex_irem (pc' := 96) (v := 3) dX12_feed_95 (by decide) (by decide) rfl ?_
  refine ex_imul (pc' := 97) (v := 24) dX12_feed_96 (by decide) rfl ?_
  refine ex_isub (pc' := 98) (v := 0) dX12_feed_97 (by decide) rfl ?_
  refine ex_ishr (pc' := 99) (v := p1 >>> (0 &&& 31)) dX12_feed_98 rfl rfl ?_
  refine ex_sipush (v := 255) (pc' := 102) dX12_feed_99 (by decide) rfl ?_
  refine ex_iand (pc' := 103) (v := (p1 >>> (0 &&& 31)) &&& 255) dX12_feed_102 rfl rfl ?_
  refine ex_iast (pc' := 104) dX12_feed_103 (zsiI (zsiI (zsiI (zsiI (zsiI (zsiI (zsiI s197))))))) (by decide) rfl ?_
  refine ex_aload_n (pc' := 105) dX12_feed_104 rfl rfl ?_
  refine ex_dup (pc' := 106) dX12_feed_105 rfl rfl ?_
  refine ex_getI (pc' := 109) (v := 3) dX12_feed_106 fl_12_68 (zsiI (zsiI (zsiI (zsiI (zsiI (zsiI (zsiI (zsiI s196)))))))) (by decide) rfl rfl ?_
  refine ex_iconst (v := 1) (pc' := 110) dX12_feed_109 (by decide) rfl ?_
  refine ex_iadd (pc' := 111) (v := 4) dX12_feed_110 (by decide) rfl ?_
  refine ex_putI (pc' := 114) dX12_feed_111 fl_12_68 (zsiI (zsiI (zsiI (zsiI (zsiI (zsiI (zsiI (zsiI s196)))))))) (Or.inl rfl) (Or.inl rfl) rfl ?_
  refine ex_iinc (pc' := 117) (v := 4) (ls' := [(6, .inl 4), (7, .inl p1), (0, .inr (.inr (some 196))), (1, .inl p1), (2, .inl p2), (3, .inl p3), (4, .inl p4), (5, .inl p5)]) dX12_feed_114 rfl (by decide) (by decide) rfl rfl ?_
  refine ex_goto (pc' := 23) dX12_feed_117 (by decide) ?_
  refine ex_iload (pc' := 25) dX12_feed_23 rfl rfl ?_
  refine ex_bipush (v := 20) (pc' := 27) dX12_feed_25 (by decide) rfl ?_
  refine ex_icmp_f (pc' := 30) dX12_feed_27 (by decide) (by decide) rfl ?_
  refine ex_iload (pc' := 32) dX12_feed_30 rfl rfl ?_
  refine ex_iconst (v := 4) (pc' := 33) dX12_feed_32 (by decide) rfl ?_
  refine ex_icmp_t (pc' := 40) dX12_feed_33 (by decide) (by decide) ?_
  refine ex_iload (pc' := 42) dX12_feed_40 rfl rfl ?_
  refine ex_bipush (v := 8) (pc' := 44) dX12_feed_42 (by decide) rfl ?_
  refine ex_icmp_f (pc' := 47) dX12_feed_44 (by decide) (by decide) rfl ?_
  refine ex_iload_n (pc' := 48) dX12_feed_47 rfl rfl ?_
  refine ex_goto (pc' := 76) dX12_feed_48 (by decide) ?_
  refine ex_istore (pc' := 78) (ls' := [(7, .inl p2), (6, .inl 4), (0, .inr (.inr (some 196))), (1, .inl p1), (2, .inl p2), (3, .inl p3), (4, .inl p4), (5, .inl p5)]) dX12_feed_76 (by decide) rfl rfl ?_
  refine ex_aload_n (pc' := 79) dX12_feed_78 rfl rfl ?_
  refine ex_getR (pc' := 82) (r := 197) dX12_feed_79 fl_12_7 (zsiI (zsiI (zsiI (zsiI (zsiI (zsiI (zsiI (zsiI (zsiI s196))))))))) (by decide) r196_1 rfl ?_
  refine ex_aload_n (pc' := 83) dX12_feed_82 rfl rfl ?_
  refine ex_getI (pc' := 86) (v := 4) dX12_feed_83 fl_12_68 (zsiI (zsiI (zsiI (zsiI (zsiI (zsiI (zsiI (zsiI (zsiI s196))))))))) (by decide) rfl rfl ?_
  refine ex_iload (pc' := 88) dX12_feed_86 rfl rfl ?_
  refine ex_bipush (v := 24) (pc' := 90) dX12_feed_88 (by decide) rfl ?_
  refine ex_bipush (v := 8) (pc' := 92) dX12_feed_90 (by decide) rfl ?_
  refine ex_iload (pc' := 94) dX12_feed_92 rfl rfl ?_
  refine ex_iconst (v := 4) (pc' := 95) dX12_feed_94 (by decide) rfl ?_
  refine ex_irem (pc' := 96) (v := 0) dX12_feed_95 (by decide) (by decide) rfl ?_
  refine ex_imul (pc' := 97) (v := 0) dX12_feed_96 (by decide) rfl ?_
  refine ex_isub (pc' := 98) (v := 24) dX12_feed_97 (by decide) rfl ?_
  refine ex_ishr (pc' := 99) (v := p2 >>> (24 &&& 31)) dX12_feed_98 rfl rfl ?_
  refine ex_sipush (v := 255) (pc' := 102) dX12_feed_99 (by decide) rfl ?_
  refine ex_iand (pc' := 103) (v := (p2 >>> (24 &&& 31)) &&& 255) dX12_feed_102 rfl rfl ?_
  refine ex_iast (pc' := 104) dX12_feed_103 (zsiI (zsiI (zsiI (zsiI (zsiI (zsiI (zsiI (zsiI (zsiI s197))))))))) (by decide) rfl ?_
  refine ex_aload_n (pc' := 105) dX12_feed_104 rfl rfl ?_
  refine ex_dup (pc' := 106) dX12_feed_105 rfl rfl ?_
  refine ex_getI (pc' := 109) (v := 4) dX12_feed_106 fl_12_68 (zsiI (zsiI (zsiI (zsiI (zsiI (zsiI (zsiI (zsiI (zsiI (zsiI s196)))))))))) (by decide) rfl rfl ?_
  refine ex_iconst (v := 1) (pc' := 110) dX12_feed_109 (by decide) rfl ?_
  refine ex_iadd (pc' := 111) (v := 5) dX12_feed_110 (by decide) rfl ?_
  refine ex_putI (pc' := 114) dX12_feed_111 fl_12_68 (zsiI (zsiI (zsiI (zsiI (zsiI (zsiI (zsiI (zsiI (zsiI (zsiI s196)))))))))) (Or.inl rfl) (Or.inl rfl) rfl ?_
  refine ex_iinc (pc' := 117) (v := 5) (ls' := [(6, .inl 5), (7, .inl p2), (0, .inr (.inr (some 196))), (1, .inl p1), (2, .inl p2), (3, .inl p3), (4, .inl p4), (5, .inl p5)]) dX12_feed_114 rfl (by decide) (by decide) rfl rfl ?_
  refine ex_goto (pc' := 23) dX12_feed_117 (by decide) ?_
  refine ex_iload (pc' := 25) dX12_feed_23 rfl rfl ?_
  refine ex_bipush (v := 20) (pc' := 27) dX12_feed_25 (by decide) rfl ?_
  refine ex_icmp_f (pc' := 30) dX12_feed_27 (by decide) (by decide) rfl ?_
  refine ex_iload (pc' := 32) dX12_feed_30 rfl rfl ?_
  refine ex_iconst (v := 4) (pc' := 33) dX12_feed_32 (by decide) rfl ?_
  refine ex_icmp_t (pc' := 40) dX12_feed_33 (by decide) (by decide) ?_
  refine ex_iload (pc' := 42) dX12_feed_40 rfl rfl ?_
  refine ex_bipush (v := 8) (pc' := 44) dX12_feed_42 (by decide) rfl ?_
  refine ex_icmp_f (pc' := 47) dX12_feed_44 (by decide) (by decide) rfl ?_
  refine ex_iload_n (pc' := 48) dX12_feed_47 rfl rfl ?_
  refine ex_goto (pc' := 76) dX12_feed_48 (by decide) ?_
  refine ex_istore (pc' := 78) (ls' := [(7, .inl p2), (6, .inl 5), (0, .inr (.inr (some 196))), (1, .inl p1), (2, .inl p2), (3, .inl p3), (4, .inl p4), (5, .inl p5)]) dX12_feed_76 (by decide) rfl rfl ?_
  refine ex_aload_n (pc' := 79) dX12_feed_78 rfl rfl ?_
  refine ex_getR (pc' := 82) (r := 197) dX12_feed_79 fl_12_7 (zsiI (zsiI (zsiI (zsiI (zsiI (zsiI (zsiI (zsiI (zsiI (zsiI (zsiI s196))))))))))) (by decide) r196_1 rfl ?_
  refine ex_aload_n (pc' := 83) dX12_feed_82 rfl rfl ?_
  refine ex_getI (pc' := 86) (v := 5) dX12_feed_83 fl_12_68 (zsiI (zsiI (zsiI (zsiI (zsiI (zsiI (zsiI (zsiI (zsiI (zsiI (zsiI s196))))))))))) (by decide) rfl rfl ?_
  refine ex_iload (pc' := 88) dX12_feed_86 rfl rfl ?_
  refine ex_bipush (v := 24) (pc' := 90) dX12_feed_88 (by decide) rfl ?_
  refine ex_bipush (v := 8) (pc' := 92) dX12_feed_90 (by decide) rfl ?_
  refine ex_iload (pc' := 94) dX12_feed_92 rfl rfl ?_
  refine ex_iconst (v := 4) (pc' := 95) dX12_feed_94 (by decide) rfl ?_
  refine ex_irem (pc' := 96) (v := 1) dX12_feed_95 (by decide) (by decide) rfl ?_
  refine ex_imul (pc' := 97) (v := 8) dX12_feed_96 (by decide) rfl ?_
  refine ex_isub (pc' := 98) (v := 16) dX12_feed_97 (by decide) rfl ?_
  refine ex_ishr (pc' := 99) (v := p2 >>> (16 &&& 31)) dX12_feed_98 rfl rfl ?_
  refine ex_sipush (v := 255) (pc' := 102) dX12_feed_99 (by decide) rfl ?_
  refine ex_iand (pc' := 103) (v := (p2 >>> (16 &&& 31)) &&& 255) dX12_feed_102 rfl rfl ?_
  refine ex_iast (pc' := 104) dX12_feed_103 (zsiI (zsiI (zsiI (zsiI (zsiI (zsiI (zsiI (zsiI (zsiI (zsiI (zsiI s197))))))))))) (by decide) rfl ?_
  refine ex_aload_n (pc' := 105) dX12_feed_104 rfl rfl ?_
  refine ex_dup (pc' := 106) dX12_feed_105 rfl rfl ?_
  refine ex_getI (pc' := 109) (v := 5) dX12_feed_106 fl_12_68 (zsiI (zsiI (zsiI (zsiI (zsiI (zsiI (zsiI (zsiI (zsiI (zsiI (zsiI (zsiI s196)))))))))))) (by decide) rfl rfl ?_
  refine ex_iconst (v := 1) (pc' := 110) dX12_feed_109 (by decide) rfl ?_
  refine ex_iadd (pc' := 111) (v := 6) dX12_feed_110 (by decide) rfl ?_
  refine ex_putI (pc' := 114) dX12_feed_111 fl_12_68 (zsiI (zsiI (zsiI (zsiI (zsiI (zsiI (zsiI (zsiI (zsiI (zsiI (zsiI (zsiI s196)))))))))))) (Or.inl rfl) (Or.inl rfl) rfl ?_
  refine ex_iinc (pc' := 117) (v := 6) (ls' := [(6, .inl 6), (7, .inl p2), (0, .inr (.inr (some 196))), (1, .inl p1), (2, .inl p2), (3, .inl p3), (4, .inl p4), (5, .inl p5)]) dX12_feed_114 rfl (by decide) (by decide) rfl rfl ?_
  refine ex_goto (pc' := 23) dX12_feed_117 (by decide) ?_
  refine ex_iload (pc' := 25) dX12_feed_23 rfl rfl ?_
  refine ex_bipush (v := 20) (pc' := 27) dX12_feed_25 (by decide) rfl ?_
  refine ex_icmp_f (pc' := 30) dX12_feed_27 (by decide) (by decide) rfl ?_
  refine ex_iload (pc' := 32) dX12_feed_30 rfl rfl ?_
  refine ex_iconst (v := 4) (pc' := 33) dX12_feed_32 (by decide) rfl ?_
  refine ex_icmp_t (pc' := 40) dX12_feed_33 (by decide) (by decide) ?_
  refine ex_iload (pc' := 42) dX12_feed_40 rfl rfl ?_
  refine ex_bipush (v := 8) (pc' := 44) dX12_feed_42 (by decide) rfl ?_
  refine ex_icmp_f (pc' := 47) dX12_feed_44 (by decide) (by decide) rfl ?_
  refine ex_iload_n (pc' := 48) dX12_feed_47 rfl rfl ?_
  refine ex_goto (pc' := 76) dX12_feed_48 (by decide) ?_
  refine ex_istore (pc' := 78) (ls' := [(7, .inl p2), (6, .inl 6), (0, .inr (.inr (some 196))), (1, .inl p1), (2, .inl p2), (3, .inl p3), (4, .inl p4), (5, .inl p5)]) dX12_feed_76 (by decide) rfl rfl ?_
  refine ex_aload_n (pc' := 79) dX12_feed_78 rfl rfl ?_
  refine ex_getR (pc' := 82) (r := 197) dX12_feed_79 fl_12_7 (zsiI (zsiI (zsiI (zsiI (zsiI (zsiI (zsiI (zsiI (zsiI (zsiI (zsiI (zsiI (zsiI s196))))))))))))) (by decide) r196_1 rfl ?_
  refine ex_aload_n (pc' := 83) dX12_feed_82 rfl rfl ?_
  refine ex_getI (pc' := 86) (v := 6) dX12_feed_83 fl_12_68 (zsiI (zsiI (zsiI (zsiI (zsiI (zsiI (zsiI (zsiI (zsiI (zsiI (zsiI (zsiI (zsiI s196))))))))))))) (by decide) rfl rfl ?_
  refine ex_iload (pc' := 88) dX12_feed_86 rfl rfl ?_
  refine ex_bipush (v := 24) (pc' := 90) dX12_feed_88 (by decide) rfl ?_
  refine ex_bipush (v := 8) (pc' := 92) dX12_feed_90 (by decide) rfl ?_
  refine ex_iload (pc' := 94) dX12_feed_92 rfl rfl ?_
  refine ex_iconst (v := 4) (pc' := 95) dX12_feed_94 (by decide) rfl ?_
  refine ex_irem (pc' := 96) (v := 2) dX12_feed_95 (by decide) (by decide) rfl ?_
  refine ex_imul (pc' := 97) (v := 16) dX12_feed_96 (by decide) rfl ?_
  refine ex_isub (pc' := 98) (v := 8) dX12_feed_97 (by decide) rfl ?_
  refine ex_ishr (pc' := 99) (v := p2 >>> (8 &&& 31)) dX12_feed_98 rfl rfl ?_
  refine ex_sipush (v := 255) (pc' := 102) dX12_feed_99 (by decide) rfl ?_
  refine ex_iand (pc' := 103) (v := (p2 >>> (8 &&& 31)) &&& 255) dX12_feed_102 rfl rfl ?_
  refine ex_iast (pc' := 104) dX12_feed_103 (zsiI (zsiI (zsiI (zsiI (zsiI (zsiI (zsiI (zsiI (zsiI (zsiI (zsiI (zsiI (zsiI s197))))))))))))) (by decide) rfl ?_
  refine ex_aload_n (pc' := 105) dX12_feed_104 rfl rfl ?_
  refine ex_dup (pc' := 106) dX12_feed_105 rfl rfl ?_
  refine ex_getI (pc' := 109) (v := 6) dX12_feed_106 fl_12_68 (zsiI (zsiI (zsiI (zsiI (zsiI (zsiI (zsiI (zsiI (zsiI (zsiI (zsiI (zsiI (zsiI (zsiI s196)))))))))))))) (by decide) rfl rfl ?_
  refine ex_iconst (v := 1) (pc' := 110) dX12_feed_109 (by decide) rfl ?_
  refine ex_iadd (pc' := 111) (v := 7) dX12_feed_110 (by decide) rfl ?_
  refine ex_putI (pc' := 114) dX12_feed_111 fl_12_68 (zsiI (zsiI (zsiI (zsiI (zsiI (zsiI (zsiI (zsiI (zsiI (zsiI (zsiI (zsiI (zsiI (zsiI s196)))))))))))))) (Or.inl rfl) (Or.inl rfl) rfl ?_
  refine ex_iinc (pc' := 117) (v := 7) (ls' := [(6, .inl 7), (7, .inl p2), (0, .inr (.inr (some 196))), (1, .inl p1), (2, .inl p2), (3, .inl p3), (4, .inl p4), (5, .inl p5)]) dX12_feed_114 rfl (by decide) (by decide) rfl rfl ?_
  refine ex_goto (pc' := 23) dX12_feed_117 (by decide) ?_
  refine ex_iload (pc' := 25) dX12_feed_23 rfl rfl ?_
  refine ex_bipush (v := 20) (pc' := 27) dX12_feed_25 (by decide) rfl ?_
  refine ex_icmp_f (pc' := 30) dX12_feed_27 (by decide) (by decide) rfl ?_
  refine ex_iload (pc' := 32) dX12_feed_30 rfl rfl ?_
  refine ex_iconst (v := 4) (pc' := 33) dX12_feed_32 (by decide) rfl ?_
  refine ex_icmp_t (pc' := 40) dX12_feed_33 (by decide) (by decide) ?_
  refine ex_iload (pc' := 42) dX12_feed_40 rfl rfl ?_
  refine ex_bipush (v := 8) (pc' := 44) dX12_feed_42 (by decide) rfl ?_
  refine ex_icmp_f (pc' := 47) dX12_feed_44 (by decide) (by decide) rfl ?_
  refine ex_iload_n (pc' := 48) dX12_feed_47 rfl rfl ?_
  refine ex_goto (pc' := 76) dX12_feed_48 (by decide) ?_
  refine ex_istore (pc' := 78) (ls' := [(7, .inl p2), (6, .inl 7), (0, .inr (.inr (some 196))), (1, .inl p1), (2, .inl p2), (3, .inl p3), (4, .inl p4), (5, .inl p5)]) dX12_feed_76 (by decide) rfl rfl ?_
  refine ex_aload_n (pc' := 79) dX12_feed_78 rfl rfl ?_
  refine ex_getR (pc' := 82) (r := 197) dX12_feed_79 fl_12_7 (zsiI (zsiI (zsiI (zsiI (zsiI (zsiI (zsiI (zsiI (zsiI (zsiI (zsiI (zsiI (zsiI (zsiI (zsiI s196))))))))))))))) (by decide) r196_1 rfl ?_
  refine ex_aload_n (pc' := 83) dX12_feed_82 rfl rfl ?_
  refine ex_getI (pc' := 86) (v := 7) dX12_feed_83 fl_12_68 (zsiI (zsiI (zsiI (zsiI (zsiI (zsiI (zsiI (zsiI (zsiI (zsiI (zsiI (zsiI (zsiI (zsiI (zsiI s196))))))))))))))) (by decide) rfl rfl ?_
  refine ex_iload (pc' := 88) dX12_feed_86 rfl rfl ?_
  refine ex_bipush (v := 24) (pc' := 90) dX12_feed_88 (by decide) rfl ?_
  refine ex_bipush (v := 8) (pc' := 92) dX12_feed_90 (by decide) rfl ?_
  refine ex_iload (pc' := 94) dX12_feed_92 rfl rfl ?_
  refine ex_iconst (v := 4) (pc' := 95) dX12_feed_94 (by decide) rfl ?_
  refine ex_irem (pc' := 96) (v := 3) dX12_feed_95 (by decide) (by decide) rfl ?_
  refine ex_imul (pc' := 97) (v := 24) dX12_feed_96 (by decide) rfl ?_
  refine ex_isub (pc' := 98) (v := 0) dX12_feed_97 (by decide) rfl ?_
  refine ex_ishr (pc' := 99) (v := p2 >>> (0 &&& 31)) dX12_feed_98 rfl rfl ?_
  refine ex_sipush (v := 255) (pc' := 102) dX12_feed_99 (by decide) rfl ?_
  refine ex_iand (pc' := 103) (v := (p2 >>> (0 &&& 31)) &&& 255) dX12_feed_102 rfl rfl ?_
  refine ex_iast (pc' := 104) dX12_feed_103 (zsiI (zsiI (zsiI (zsiI (zsiI (zsiI (zsiI (zsiI (zsiI (zsiI (zsiI (zsiI (zsiI (zsiI (zsiI s197))))))))))))))) (by decide) rfl ?_
  refine ex_aload_n (pc' := 105) dX12_feed_104 rfl rfl ?_
  refine ex_dup (pc' := 106) dX12_feed_105 rfl rfl ?_
  refine ex_getI (pc' := 109) (v := 7) dX12_feed_106 fl_12_68 (zsiI (zsiI (zsiI (zsiI (zsiI (zsiI (zsiI (zsiI (zsiI (zsiI (zsiI (zsiI (zsiI (zsiI (zsiI (zsiI s196)))))))))))))))) (by decide) rfl rfl ?_
  refine ex_iconst (v := 1) (pc' := 110) dX12_feed_109 (by decide) rfl ?_
  refine ex_iadd (pc' := 111) (v := 8) dX12_feed_110 (by decide) rfl ?_
  refine ex_putI (pc' := 114) dX12_feed_111 fl_12_68 (zsiI (zsiI (zsiI (zsiI (zsiI (zsiI (zsiI (zsiI (zsiI (zsiI (zsiI (zsiI (zsiI (zsiI (zsiI (zsiI s196)))))))))))))))) (Or.inl rfl) (Or.inl rfl) rfl ?_
  refine ex_iinc (pc' := 117) (v := 8) (ls' := [(6, .inl 8), (7, .inl p2), (0, .inr (.inr (some 196))), (1, .inl p1), (2, .inl p2), (3, .inl p3), (4, .inl p4), (5, .inl p5)]) dX12_feed_114 rfl (by decide) (by decide) rfl rfl ?_
  refine ex_goto (pc' := 23) dX12_feed_117 (by decide) ?_
  refine ex_iload (pc' := 25) dX12_feed_23 rfl rfl ?_
  refine ex_bipush (v := 20) (pc' := 27) dX12_feed_25 (by decide) rfl ?_
  refine ex_icmp_f (pc' := 30) dX12_feed_27 (by decide) (by decide) rfl ?_
  refine ex_iload (pc' := 32) dX12_feed_30 rfl rfl ?_
  refine ex_iconst (v := 4) (pc' := 33) dX12_feed_32 (by decide) rfl ?_
  refine ex_icmp_t (pc' := 40) dX12_feed_33 (by decide) (by decide) ?_
  refine ex_iload (pc' := 42) dX12_feed_40 rfl rfl ?_
  refine ex_bipush (v := 8) (pc' := 44) dX12_feed_42 (by decide) rfl ?_
  refine ex_icmp_t (pc' := 51) dX12_feed_44 (by decide) (by decide) ?_
  refine ex_iload (pc' := 53) dX12_feed_51 rfl rfl ?_
  refine ex_bipush (v := 12) (pc' := 55) dX12_feed_53 (by decide) rfl ?_
  refine ex_icmp_f (pc' := 58) dX12_feed_55 (by decide) (by decide) rfl ?_
  refine ex_iload_n (pc' := 59) dX12_feed_58 rfl rfl ?_
  refine ex_goto (pc' := 76) dX12_feed_59 (by decide) ?_
  refine ex_istore (pc' := 78) (ls' := [(7, .inl p3), (6, .inl 8), (0, .inr (.inr (some 196))), (1, .inl p1), (2, .inl p2), (3, .inl p3), (4, .inl p4), (5, .inl p5)]) dX12_feed_76 (by decide) rfl rfl ?_
  refine ex_aload_n (pc' := 79) dX12_feed_78 rfl rfl ?_
  refine ex_getR (pc' := 82) (r := 197) dX12_feed_79 fl_12_7 (zsiI (zsiI (zsiI (zsiI (zsiI (zsiI (zsiI (zsiI (zsiI (zsiI (zsiI (zsiI (zsiI (zsiI (zsiI (zsiI (zsiI s196))))))))))))))))) (by decide) r196_1 rfl ?_
  refine ex_aload_n (pc' := 83) dX12_feed_82 rfl rfl ?_
  refine ex_getI (pc' := 86) (v := 8) dX12_feed_83 fl_12_68 (zsiI (zsiI (zsiI (zsiI (zsiI (zsiI (zsiI (zsiI (zsiI (zsiI (zsiI (zsiI (zsiI (zsiI (zsiI (zsiI (zsiI s196))))))))))))))))) (by decide) rfl rfl ?_
  refine ex_iload (pc' := 88) dX12_feed_86 rfl rfl ?_
  refine ex_bipush (v := 24) (pc' := 90) dX12_feed_88 (by decide) rfl ?_
  refine ex_bipush (v := 8) (pc' := 92) dX12_feed_90 (by decide) rfl ?_
  refine ex_iload (pc' := 94) dX12_feed_92 rfl rfl ?_
  refine ex_iconst (v := 4) (pc' := 95) dX12_feed_94 (by decide) rfl ?_
  refine ex_irem (pc' := 96) (v := 0) dX12_feed_95 (by decide) (by decide) rfl ?_
  refine ex_imul (pc' := 97) (v := 0) dX12_feed_96 (by decide) rfl ?_
  refine ex_isub (pc' := 98) (v := 24) dX12_feed_97 (by decide) rfl ?_
  refine ex_ishr (pc' := 99) (v := p3 >>> (24 &&& 31)) dX12_feed_98 rfl rfl ?_
  refine ex_sipush (v := 255) (pc' := 102) dX12_feed_99 (by decide) rfl ?_
  refine ex_iand (pc' := 103) (v := (p3 >>> (24 &&& 31)) &&& 255) dX12_feed_102 rfl rfl ?_
  refine ex_iast (pc' := 104) dX12_feed_103 (zsiI (zsiI (zsiI (zsiI (zsiI (zsiI (zsiI (zsiI (zsiI (zsiI (zsiI (zsiI (zsiI (zsiI (zsiI (zsiI (zsiI s197))))))))))))))))) (by decide) rfl ?_
  refine ex_aload_n (pc' := 105) dX12_feed_104 rfl rfl ?_
  refine ex_dup (pc' := 106) dX12_feed_105 rfl rfl ?_
  refine ex_getI (pc' := 109) (v := 8) dX12_feed_106 fl_12_68 (zsiI (zsiI (zsiI (zsiI (zsiI (zsiI (zsiI (zsiI (zsiI (zsiI (zsiI (zsiI (zsiI (zsiI (zsiI (zsiI (zsiI (zsiI s196)))))))))))))))))) (by decide) rfl rfl ?_
  refine ex_iconst (v := 1) (pc' := 110) dX12_feed_109 (by decide) rfl ?_
  refine ex_iadd (pc' := 111) (v := 9) dX12_feed_110 (by decide) rfl ?_
  refine ex_putI (pc' := 114) dX12_feed_111 fl_12_68 (zsiI (zsiI (zsiI (zsiI (zsiI (zsiI (zsiI (zsiI (zsiI (zsiI (zsiI (zsiI (zsiI (zsiI (zsiI (zsiI (zsiI (zsiI s196)))))))))))))))))) (Or.inl rfl) (Or.inl rfl) rfl ?_
  refine ex_iinc (pc' := 117) (v := 9) (ls' := [(6, .inl 9), (7, .inl p3), (0, .inr (.inr (some 196))), (1, .inl p1), (2, .inl p2), (3, .inl p3), (4, .inl p4), (5, .inl p5)]) dX12_feed_114 rfl (by decide) (by decide) rfl rfl ?_
  refine ex_goto (pc' := 23) dX12_feed_117 (by decide) ?_
  refine ex_iload (pc' := 25) dX12_feed_23 rfl rfl ?_
  refine ex_bipush (v := 20) (pc' := 27) dX12_feed_25 (by decide) rfl ?_
  refine ex_icmp_f (pc' := 30) dX12_feed_27 (by decide) (by decide) rfl ?_
  refine ex_iload (pc' := 32) dX12_feed_30 rfl rfl ?_
  refine ex_iconst (v := 4) (pc' := 33) dX12_feed_32 (by decide) rfl ?_
  refine ex_icmp_t (pc' := 40) dX12_feed_33 (by decide) (by decide) ?_
  refine ex_iload (pc' := 42) dX12_feed_40 rfl rfl ?_
  refine ex_bipush (v := 8) (pc' := 44) dX12_feed_42 (by decide) rfl ?_
  refine ex_icmp_t (pc' := 51) dX12_feed_44 (by decide) (by decide) ?_
  refine ex_iload (pc' := 53) dX12_feed_51 rfl rfl ?_
  refine ex_bipush (v := 12) (pc' := 55) dX12_feed_53 (by decide) rfl ?_
  refine ex_icmp_f (pc' := 58) dX12_feed_55 (by decide) (by decide) rfl ?_
  refine ex_iload_n (pc' := 59) dX12_feed_58 rfl rfl ?_
  refine ex_goto (pc' := 76) dX12_feed_59 (by decide) ?_
  refine ex_istore (pc' := 78) (ls' := [(7, .inl p3), (6, .inl 9), (0, .inr (.inr (some 196))), (1, .inl p1), (2, .inl p2), (3, .inl p3), (4, .inl p4), (5, .inl p5)]) dX12_feed_76 (by decide) rfl rfl ?_
  refine ex_aload_n (pc' := 79) dX12_feed_78 rfl rfl ?_
  refine ex_getR (pc' := 82) (r := 197) dX12_feed_79 fl_12_7 (zsiI (zsiI (zsiI (zsiI (zsiI (zsiI (zsiI (zsiI (zsiI (zsiI (zsiI (zsiI (zsiI (zsiI (zsiI (zsiI (zsiI (zsiI (zsiI s196))))))))))))))))))) (by decide) r196_1 rfl ?_
  refine ex_aload_n (pc' := 83) dX12_feed_82 rfl rfl ?_
  refine ex_getI (pc' := 86) (v := 9) dX12_feed_83 fl_12_68 (zsiI (zsiI (zsiI (zsiI (zsiI (zsiI (zsiI (zsiI (zsiI (zsiI (zsiI (zsiI (zsiI (zsiI (zsiI (zsiI (zsiI (zsiI (zsiI s196))))))))))))))))))) (by decide) rfl rfl ?_
  refine ex_iload (pc' := 88) dX12_feed_86 rfl rfl ?_
  refine ex_bipush (v := 24) (pc' := 90) dX12_feed_88 (by decide) rfl ?_
  refine ex_bipush (v := 8) (pc' := 92) dX12_feed_90 (by decide) rfl ?_
  refine ex_iload (pc' := 94) dX12_feed_92 rfl rfl ?_
  refine ex_iconst (v := 4) (pc' := 95) dX12_feed_94 (by decide) rfl ?_
  refine ex_irem (pc' := 96) (v := 1) dX12_feed_95 (by decide) (by decide) rfl ?_
  refine ex_imul (pc' := 97) (v := 8) dX12_feed_96 (by decide) rfl ?_
  refine ex_isub (pc' := 98) (v := 16) dX12_feed_97 (by decide) rfl ?_
  refine ex_ishr (pc' := 99) (v := p3 >>> (16 &&& 31)) dX12_feed_98 rfl rfl ?_
  refine ex_sipush (v := 255) (pc' := 102) dX12_feed_99 (by decide) rfl ?_
  refine ex_iand (pc' := 103) (v := (p3 >>> (16 &&& 31)) &&& 255) dX12_feed_102 rfl rfl ?_
  refine ex_iast (pc' := 104) dX12_feed_103 (zsiI (zsiI (zsiI (zsiI (zsiI (zsiI (zsiI (zsiI (zsiI (zsiI (zsiI (zsiI (zsiI (zsiI (zsiI (zsiI (zsiI (zsiI (zsiI s197))))))))))))))))))) (by decide) rfl ?_
  refine ex_aload_n (pc' := 105) dX12_feed_104 rfl rfl ?_
  refine ex_dup (pc' := 106) dX12_feed_105 rfl rfl ?_
  refine ex_getI (pc' := 109) (v := 9) dX12_feed_106 fl_12_68 (zsiI (zsiI (zsiI (zsiI (zsiI (zsiI (zsiI (zsiI (zsiI (zsiI (zsiI (zsiI (zsiI (zsiI (zsiI (zsiI (zsiI (zsiI (zsiI (zsiI s196)))))))))))))))))))) (by decide) rfl rfl ?_
  refine ex_iconst (v := 1) (pc' := 110) dX12_feed_109 (by decide) rfl ?_
  refine ex_iadd (pc' := 111) (v := 10) dX12_feed_110 (by decide) rfl ?_
  refine ex_putI (pc' := 114) dX12_feed_111 fl_12_68 (zsiI (zsiI (zsiI (zsiI (zsiI (zsiI (zsiI (zsiI (zsiI (zsiI (zsiI (zsiI (zsiI (zsiI (zsiI (zsiI (zsiI (zsiI (zsiI (zsiI s196)))))))))))))))))))) (Or.inl rfl) (Or.inl rfl) rfl ?_
  refine ex_iinc (pc' := 117) (v := 10) (ls' := [(6, .inl 10), (7, .inl p3), (0, .inr (.inr (some 196))), (1, .inl p1), (2, .inl p2), (3, .inl p3), (4, .inl p4), (5, .inl p5)]) dX12_feed_114 rfl (by decide) (by decide) rfl rfl ?_
  refine ex_goto (pc' := 23) dX12_feed_117 (by decide) ?_
  refine ex_iload (pc' := 25) dX12_feed_23 rfl rfl ?_
  refine ex_bipush (v := 20) (pc' := 27) dX12_feed_25 (by decide) rfl ?_
  refine ex_icmp_f (pc' := 30) dX12_feed_27 (by decide) (by decide) rfl ?_
  refine ex_iload (pc' := 32) dX12_feed_30 rfl rfl ?_
  refine ex_iconst (v := 4) (pc' := 33) dX12_feed_32 (by decide) rfl ?_
  refine ex_icmp_t (pc' := 40) dX12_feed_33 (by decide) (by decide) ?_
  refine ex_iload (pc' := 42) dX12_feed_40 rfl rfl ?_
  refine ex_bipush (v := 8) (pc' := 44) dX12_feed_42 (by decide) rfl ?_
  refine ex_icmp_t (pc' := 51) dX12_feed_44 (by decide) (by decide) ?_
  refine ex_iload (pc' := 53) dX12_feed_51 rfl rfl ?_
  refine ex_bipush (v := 12) (pc' := 55) dX12_feed_53 (by decide) rfl ?_
  refine ex_icmp_f (pc' := 58) dX12_feed_55 (by decide) (by decide) rfl ?_
  refine ex_iload_n (pc' := 59) dX12_feed_58 rfl rfl ?_
  refine ex_goto (pc' := 76) dX12_feed_59 (by decide) ?_
  refine ex_istore (pc' := 78) (ls' := [(7, .inl p3), (6, .inl 10), (0, .inr (.inr (some 196))), (1, .inl p1), (2, .inl p2), (3, .inl p3), (4, .inl p4), (5, .inl p5)]) dX12_feed_76 (by decide) rfl rfl ?_
  refine ex_aload_n (pc' := 79) dX12_feed_78 rfl rfl ?_
  refine ex_getR (pc' := 82) (r := 197) dX12_feed_79 fl_12_7 (zsiI (zsiI (zsiI (zsiI (zsiI (zsiI (zsiI (zsiI (zsiI (zsiI (zsiI (zsiI (zsiI (zsiI (zsiI (zsiI (zsiI (zsiI (zsiI (zsiI (zsiI s196))))))))))))))))))))) (by decide) r196_1 rfl ?_
  refine ex_aload_n (pc' := 83) dX12_feed_82 rfl rfl ?_
  refine ex_getI (pc' := 86) (v := 10) dX12_feed_83 fl_12_68 (zsiI (zsiI (zsiI (zsiI (zsiI (zsiI (zsiI (zsiI (zsiI (zsiI (zsiI (zsiI (zsiI (zsiI (zsiI (zsiI (zsiI (zsiI (zsiI (zsiI (zsiI s196))))))))))))))))))))) (by decide) rfl rfl ?_
  refine ex_iload (pc' := 88) dX12_feed_86 rfl rfl ?_
  refine ex_bipush (v := 24) (pc' := 90) dX12_feed_88 (by decide) rfl ?_
  refine ex_bipush (v := 8) (pc' := 92) dX12_feed_90 (by decide) rfl ?_
  refine ex_iload (pc' := 94) dX12_feed_92 rfl rfl ?_
  refine ex_iconst (v := 4) (pc' := 95) dX12_feed_94 (by decide) rfl ?_
  refine ex_irem (pc' := 96) (v := 2) dX12_feed_95 (by decide) (by decide) rfl ?_
  refine ex_imul (pc' := 97) (v := 16) dX12_feed_96 (by decide) rfl ?_
  refine ex_isub (pc' := 98) (v := 8) dX12_feed_97 (by decide) rfl ?_
  refine ex_ishr (pc' := 99) (v := p3 >>> (8 &&& 31)) dX12_feed_98 rfl rfl ?_
  refine ex_sipush (v := 255) (pc' := 102) dX12_feed_99 (by decide) rfl ?_
  refine ex_iand (pc' := 103) (v := (p3 >>> (8 &&& 31)) &&& 255) dX12_feed_102 rfl rfl ?_
  refine ex_iast (pc' := 104) dX12_feed_103 (zsiI (zsiI (zsiI (zsiI (zsiI (zsiI (zsiI (zsiI (zsiI (zsiI (zsiI (zsiI (zsiI (zsiI (zsiI (zsiI (zsiI (zsiI (zsiI (zsiI (zsiI s197))))))))))))))))))))) (by decide) rfl ?_
  refine ex_aload_n (pc' := 105) dX12_feed_104 rfl rfl ?_
  refine ex_dup (pc' := 106) dX12_feed_105 rfl rfl ?_
  refine ex_getI (pc' := 109) (v := 10) dX12_feed_106 fl_12_68 (zsiI (zsiI (zsiI (zsiI (zsiI (zsiI (zsiI (zsiI (zsiI (zsiI (zsiI (zsiI (zsiI (zsiI (zsiI (zsiI (zsiI (zsiI (zsiI (zsiI (zsiI (zsiI s196)))))))))))))))))))))) (by decide) rfl rfl ?_
  refine ex_iconst (v := 1) (pc' := 110) dX12_feed_109 (by decide) rfl ?_
  refine ex_iadd (pc' := 111) (v := 11) dX12_feed_110 (by decide) rfl ?_
  refine ex_putI (pc' := 114) dX12_feed_111 fl_12_68 (zsiI (zsiI (zsiI (zsiI (zsiI (zsiI (zsiI (zsiI (zsiI (zsiI (zsiI (zsiI (zsiI (zsiI (zsiI (zsiI (zsiI (zsiI (zsiI (zsiI (zsiI (zsiI s196)))))))))))))))))))))) (Or.inl rfl) (Or.inl rfl) rfl ?_
  refine ex_iinc (pc' := 117) (v := 11) (ls' := [(6, .inl 11), (7, .inl p3), (0, .inr (.inr (some 196))), (1, .inl p1), (2, .inl p2), (3, .inl p3), (4, .inl p4), (5, .inl p5)]) dX12_feed_114 rfl (by decide) (by decide) rfl rfl ?_
  refine ex_goto (pc' := 23) dX12_feed_117 (by decide) ?_
  refine ex_iload (pc' := 25) dX12_feed_23 rfl rfl ?_
  refine ex_bipush (v := 20) (pc' := 27) dX12_feed_25 (by decide) rfl ?_
  refine ex_icmp_f (pc' := 30) dX12_feed_27 (by decide) (by decide) rfl ?_
  refine ex_iload (pc' := 32) dX12_feed_30 rfl rfl ?_
  refine ex_iconst (v := 4) (pc' := 33) dX12_feed_32 (by decide) rfl ?_
  refine ex_icmp_t (pc' := 40) dX12_feed_33 (by decide) (by decide) ?_
  refine ex_iload (pc' := 42) dX12_feed_40 rfl rfl ?_
  refine ex_bipush (v := 8) (pc' := 44) dX12_feed_42 (by decide) rfl ?_
  refine ex_icmp_t (pc' := 51) dX12_feed_44 (by decide) (by decide) ?_
  refine ex_iload (pc' := 53) dX12_feed_51 rfl rfl ?_
  refine ex_bipush (v := 12) (pc' := 55) dX12_feed_53 (by decide) rfl ?_
  refine ex_icmp_f (pc' := 58) dX12_feed_55 (by decide) (by decide) rfl ?_
  refine ex_iload_n (pc' := 59) dX12_feed_58 rfl rfl ?_
  refine ex_goto (pc' := 76) dX12_feed_59 (by decide) ?_
  refine ex_istore (pc' := 78) (ls' := [(7, .inl p3), (6, .inl 11), (0, .inr (.inr (some 196))), (1, .inl p1), (2, .inl p2), (3, .inl p3), (4, .inl p4), (5, .inl p5)]) dX12_feed_76 (by decide) rfl rfl ?_
  refine ex_aload_n (pc' := 79) dX12_feed_78 rfl rfl ?_
  refine ex_getR (pc' := 82) (r := 197) dX12_feed_79 fl_12_7 (zsiI (zsiI (zsiI (zsiI (zsiI (zsiI (zsiI (zsiI (zsiI (zsiI (zsiI (zsiI (zsiI (zsiI (zsiI (zsiI (zsiI (zsiI (zsiI (zsiI (zsiI (zsiI (zsiI s196))))))))))))))))))))))) (by decide) r196_1 rfl ?_
  refine ex_aload_n (pc' := 83) dX12_feed_82 rfl rfl ?_
  refine ex_getI (pc' := 86) (v := 11) dX12_feed_83 fl_12_68 (zsiI (zsiI (zsiI (zsiI (zsiI (zsiI (zsiI (zsiI (zsiI (zsiI (zsiI (zsiI (zsiI (zsiI (zsiI (zsiI (zsiI (zsiI (zsiI (zsiI (zsiI (zsiI (zsiI s196))))))))))))))))))))))) (by decide) rfl rfl ?_
  refine ex_iload (pc' := 88) dX12_feed_86 rfl rfl ?_
  refine ex_bipush (v := 24) (pc' := 90) dX12_feed_88 (by decide) rfl ?_
  refine ex_bipush (v := 8) (pc' := 92) dX12_feed_90 (by decide) rfl ?_
  refine ex_iload (pc' := 94) dX12_feed_92 rfl rfl ?_
  refine ex_iconst (v := 4) (pc' := 95) dX12_feed_94 (by decide) rfl ?_
  refine ex_irem (pc' := 96) (v := 3) dX12_feed_95 (by decide) (by decide) rfl ?_
  refine ex_imul (pc' := 97) (v := 24) dX12_feed_96 (by decide) rfl ?_
  refine ex_isub (pc' := 98) (v := 0) dX12_feed_97 (by decide) rfl ?_
  refine ex_ishr (pc' := 99) (v := p3 >>> (0 &&& 31)) dX12_feed_98 rfl rfl ?_
  refine ex_sipush (v := 255) (pc' := 102) dX12_feed_99 (by decide) rfl ?_
  refine ex_iand (pc' := 103) (v := (p3 >>> (0 &&& 31)) &&& 255) dX12_feed_102 rfl rfl ?_
  refine ex_iast (pc' := 104) dX12_feed_103 (zsiI (zsiI (zsiI (zsiI (zsiI (zsiI (zsiI (zsiI (zsiI (zsiI (zsiI (zsiI (zsiI (zsiI (zsiI (zsiI (zsiI (zsiI (zsiI (zsiI (zsiI (zsiI (zsiI s197))))))))))))))))))))))) (by decide) rfl ?_
  refine ex_aload_n (pc' := 105) dX12_feed_104 rfl rfl ?_
  refine ex_dup (pc' := 106) dX12_feed_105 rfl rfl ?_
  refine ex_getI (pc' := 109) (v := 11) dX12_feed_106 fl_12_68 (zsiI (zsiI (zsiI (zsiI (zsiI (zsiI (zsiI (zsiI (zsiI (zsiI (zsiI (zsiI (zsiI (zsiI (zsiI (zsiI (zsiI (zsiI (zsiI (zsiI (zsiI (zsiI (zsiI (zsiI s196)))))))))))))))))))))))) (by decide) rfl rfl ?_
  refine ex_iconst (v := 1) (pc' := 110) dX12_feed_109 (by decide) rfl ?_
  refine ex_iadd (pc' := 111) (v := 12) dX12_feed_110 (by decide) rfl ?_
  refine ex_putI (pc' := 114) dX12_feed_111 fl_12_68 (zsiI (zsiI (zsiI (zsiI (zsiI (zsiI (zsiI (zsiI (zsiI (zsiI (zsiI (zsiI (zsiI (zsiI (zsiI (zsiI (zsiI (zsiI (zsiI (zsiI (zsiI (zsiI (zsiI (zsiI s196)))))))))))))))))))))))) (Or.inl rfl) (Or.inl rfl) rfl ?_
  refine ex_iinc (pc' := 117) (v := 12) (ls' := [(6, .inl 12), (7, .inl p3), (0, .inr (.inr (some 196))), (1, .inl p1), (2, .inl p2), (3, .inl p3), (4, .inl p4), (5, .inl p5)]) dX12_feed_114 rfl (by decide) (by decide) rfl rfl ?_
  refine ex_goto (pc' := 23) dX12_feed_117 (by decide) ?_
  refine ex_iload (pc' := 25) dX12_feed_23 rfl rfl ?_
  refine ex_bipush (v := 20) (pc' := 27) dX12_feed_25 (by decide) rfl ?_
  refine ex_icmp_f (pc' := 30) dX12_feed_27 (by decide) (by decide) rfl ?_
  refine ex_iload (pc' := 32) dX12_feed_30 rfl rfl ?_
  refine ex_iconst (v := 4) (pc' := 33) dX12_feed_32 (by decide) rfl ?_
  refine ex_icmp_t (pc' := 40) dX12_feed_33 (by decide) (by decide) ?_
  refine ex_iload (pc' := 42) dX12_feed_40 rfl rfl ?_
  refine ex_bipush (v := 8) (pc' := 44) dX12_feed_42 (by decide) rfl ?_
  refine ex_icmp_t (pc' := 51) dX12_feed_44 (by decide) (by decide) ?_
  refine ex_iload (pc' := 53) dX12_feed_51 rfl rfl ?_
  refine ex_bipush (v := 12) (pc' := 55) dX12_feed_53 (by decide) rfl ?_
  refine ex_icmp_t (pc' := 62) dX12_feed_55 (by decide) (by decide) ?_
  refine ex_iload (pc' := 64) dX12_feed_62 rfl rfl ?_
  refine ex_bipush (v := 16) (pc' := 66) dX12_feed_64 (by decide) rfl ?_
  refine ex_icmp_f (pc' := 69) dX12_feed_66 (by decide) (by decide) rfl ?_
  refine ex_iload (pc' := 71) dX12_feed_69 rfl rfl ?_
  refine ex_goto (pc' := 76) dX12_feed_71 (by decide) ?_
  refine ex_istore (pc' := 78) (ls' := [(7, .inl p4), (6, .inl 12), (0, .inr (.inr (some 196))), (1, .inl p1), (2, .inl p2), (3, .inl p3), (4, .inl p4), (5, .inl p5)]) dX12_feed_76 (by decide) rfl rfl ?_
  refine ex_aload_n (pc' := 79) dX12_feed_78 rfl rfl ?_
  refine ex_getR (pc' := 82) (r := 197) dX12_feed_79 fl_12_7 (zsiI (zsiI (zsiI (zsiI (zsiI (zsiI (zsiI (zsiI (zsiI (zsiI (zsiI (zsiI (zsiI (zsiI (zsiI (zsiI (zsiI (zsiI (zsiI (zsiI (zsiI (zsiI (zsiI (zsiI (zsiI s196))))))))))))))))))))))))) (by decide) r196_1 rfl ?_
  refine ex_aload_n (pc' := 83) dX12_feed_82 rfl rfl ?_
  refine ex_getI (pc' := 86) (v := 12) dX12_feed_83 fl_12_68 (zsiI (zsiI (zsiI (zsiI (zsiI (zsiI (zsiI (zsiI (zsiI (zsiI (zsiI (zsiI (zsiI (zsiI (zsiI (zsiI (zsiI (zsiI (zsiI (zsiI (zsiI (zsiI (zsiI (zsiI (zsiI s196))))))))))))))))))))))))) (by decide) rfl rfl ?_
  refine ex_iload (pc' := 88) dX12_feed_86 rfl rfl ?_
  refine ex_bipush (v := 24) (pc' := 90) dX12_feed_88 (by decide) rfl ?_
  refine ex_bipush (v := 8) (pc' := 92) dX12_feed_90 (by decide) rfl ?_
  refine ex_iload (pc' := 94) dX12_feed_92 rfl rfl ?_
  refine ex_iconst (v := 4) (pc' := 95) dX12_feed_94 (by decide) rfl ?_
  refine ex_irem (pc' := 96) (v := 0) dX12_feed_95 (by decide) (by decide) rfl ?_
  refine ex_imul (pc' := 97) (v := 0) dX12_feed_96 (by decide) rfl ?_
  refine ex_isub (pc' := 98) (v := 24) dX12_feed_97 (by decide) rfl ?_
  refine ex_ishr (pc' := 99) (v := p4 >>> (24 &&& 31)) dX12_feed_98 rfl rfl ?_
  refine ex_sipush (v := 255) (pc' := 102) dX12_feed_99 (by decide) rfl ?_
  refine ex_iand (pc' := 103) (v := (p4 >>> (24 &&& 31)) &&& 255) dX12_feed_102 rfl rfl ?_
  refine ex_iast (pc' := 104) dX12_feed_103 (zsiI (zsiI (zsiI (zsiI (zsiI (zsiI (zsiI (zsiI (zsiI (zsiI (zsiI (zsiI (zsiI (zsiI (zsiI (zsiI (zsiI (zsiI (zsiI (zsiI (zsiI (zsiI (zsiI (zsiI (zsiI s197))))))))))))))))))))))))) (by decide) rfl ?_
  refine ex_aload_n (pc' := 105) dX12_feed_104 rfl rfl ?_
  refine ex_dup (pc' := 106) dX12_feed_105 rfl rfl ?_
  refine ex_getI (pc' := 109) (v := 12) dX12_feed_106 fl_12_68 (zsiI (zsiI (zsiI (zsiI (zsiI (zsiI (zsiI (zsiI (zsiI (zsiI (zsiI (zsiI (zsiI (zsiI (zsiI (zsiI (zsiI (zsiI (zsiI (zsiI (zsiI (zsiI (zsiI (zsiI (zsiI (zsiI s196)))))))))))))))))))))))))) (by decide) rfl rfl ?_
  refine ex_iconst (v := 1) (pc' := 110) dX12_feed_109 (by decide) rfl ?_
  refine ex_iadd (pc' := 111) (v := 13) dX12_feed_110 (by decide) rfl ?_
  refine ex_putI (pc' := 114) dX12_feed_111 fl_12_68 (zsiI (zsiI (zsiI (zsiI (zsiI (zsiI (zsiI (zsiI (zsiI (zsiI (zsiI (zsiI (zsiI (zsiI (zsiI (zsiI (zsiI (zsiI (zsiI (zsiI (zsiI (zsiI (zsiI (zsiI (zsiI (zsiI s196)))))))))))))))))))))))))) (Or.inl rfl) (Or.inl rfl) rfl ?_
  refine ex_iinc (pc' := 117) (v := 13) (ls' := [(6, .inl 13), (7, .inl p4), (0, .inr (.inr (some 196))), (1, .inl p1), (2, .inl p2), (3, .inl p3), (4, .inl p4), (5, .inl p5)]) dX12_feed_114 rfl (by decide) (by decide) rfl rfl ?_
  refine ex_goto (pc' := 23) dX12_feed_117 (by decide) ?_
  refine ex_iload (pc' := 25) dX12_feed_23 rfl rfl ?_
  refine ex_bipush (v := 20) (pc' := 27) dX12_feed_25 (by decide) rfl ?_
  refine ex_icmp_f (pc' := 30) dX12_feed_27 (by decide) (by decide) rfl ?_
  refine ex_iload (pc' := 32) dX12_feed_30 rfl rfl ?_
  refine ex_iconst (v := 4) (pc' := 33) dX12_feed_32 (by decide) rfl ?_
  refine ex_icmp_t (pc' := 40) dX12_feed_33 (by decide) (by decide) ?_
  refine ex_iload (pc' := 42) dX12_feed_40 rfl rfl ?_
  refine ex_bipush (v := 8) (pc' := 44) dX12_feed_42 (by decide) rfl ?_
  refine ex_icmp_t (pc' := 51) dX12_feed_44 (by decide) (by decide) ?_
  refine ex_iload (pc' := 53) dX12_feed_51 rfl rfl ?_
  refine ex_bipush (v := 12) (pc' := 55) dX12_feed_53 (by decide) rfl ?_
  refine ex_icmp_t (pc' := 62) dX12_feed_55 (by decide) (by decide) ?_
  refine ex_iload (pc' := 64) dX12_feed_62 rfl rfl ?_
  refine ex_bipush (v := 16) (pc' := 66) dX12_feed_64 (by decide) rfl ?_
  refine ex_icmp_f (pc' := 69) dX12_feed_66 (by decide) (by decide) rfl ?_
  refine ex_iload (pc' := 71) dX12_feed_69 rfl rfl ?_
  refine ex_goto (pc' := 76) dX12_feed_71 (by decide) ?_
  refine ex_istore (pc' := 78) (ls' := [(7, .inl p4), (6, .inl 13), (0, .inr (.inr (some 196))), (1, .inl p1), (2, .inl p2), (3, .inl p3), (4, .inl p4), (5, .inl p5)]) dX12_feed_76 (by decide) rfl rfl ?_
  refine ex_aload_n (pc' := 79) dX12_feed_78 rfl rfl ?_
  refine ex_getR (pc' := 82) (r := 197) dX12_feed_79 fl_12_7 (zsiI (zsiI (zsiI (zsiI (zsiI (zsiI (zsiI (zsiI (zsiI (zsiI (zsiI (zsiI (zsiI (zsiI (zsiI (zsiI (zsiI (zsiI (zsiI (zsiI (zsiI (zsiI (zsiI (zsiI (zsiI (zsiI (zsiI s196))))))))))))))))))))))))))) (by decide) r196_1 rfl ?_
  refine ex_aload_n (pc' := 83) dX12_feed_82 rfl rfl ?_
  refine ex_getI (pc' := 86) (v := 13) dX12_feed_83 fl_12_68 (zsiI (zsiI (zsiI (zsiI (zsiI (zsiI (zsiI (zsiI (zsiI (zsiI (zsiI (zsiI (zsiI (zsiI (zsiI (zsiI (zsiI (zsiI (zsiI (zsiI (zsiI (zsiI (zsiI (zsiI (zsiI (zsiI (zsiI s196))))))))))))))))))))))))))) (by decide) rfl rfl ?_
  refine ex_iload (pc' := 88) dX12_feed_86 rfl rfl ?_
  refine ex_bipush (v := 24) (pc' := 90) dX12_feed_88 (by decide) rfl ?_
  refine ex_bipush (v := 8) (pc' := 92) dX12_feed_90 (by decide) rfl ?_
  refine ex_iload (pc' := 94) dX12_feed_92 rfl rfl ?_
  refine ex_iconst (v := 4) (pc' := 95) dX12_feed_94 (by decide) rfl ?_
  refine ex_irem (pc' := 96) (v := 1) dX12_feed_95 (by decide) (by decide) rfl ?_
  refine ex_imul (pc' := 97) (v := 8) dX12_feed_96 (by decide) rfl ?_
  refine ex_isub (pc' := 98) (v := 16) dX12_feed_97 (by decide) rfl ?_
  refine ex_ishr (pc' := 99) (v := p4 >>> (16 &&& 31)) dX12_feed_98 rfl rfl ?_
  refine ex_sipush (v := 255) (pc' := 102) dX12_feed_99 (by decide) rfl ?_
  refine ex_iand (pc' := 103) (v := (p4 >>> (16 &&& 31)) &&& 255) dX12_feed_102 rfl rfl ?_
  refine ex_iast (pc' := 104) dX12_feed_103 (zsiI (zsiI (zsiI (zsiI (zsiI (zsiI (zsiI (zsiI (zsiI (zsiI (zsiI (zsiI (zsiI (zsiI (zsiI (zsiI (zsiI (zsiI (zsiI (zsiI (zsiI (zsiI (zsiI (zsiI (zsiI (zsiI (zsiI s197))))))))))))))))))))))))))) (by decide) rfl ?_
  refine ex_aload_n (pc' := 105) dX12_feed_104 rfl rfl ?_
  refine ex_dup (pc' := 106) dX12_feed_105 rfl rfl ?_
  refine ex_getI (pc' := 109) (v := 13) dX12_feed_106 fl_12_68 (zsiI (zsiI (zsiI (zsiI (zsiI (zsiI (zsiI (zsiI (zsiI (zsiI (zsiI (zsiI (zsiI (zsiI (zsiI (zsiI (zsiI (zsiI (zsiI (zsiI (zsiI (zsiI (zsiI (zsiI (zsiI (zsiI (zsiI (zsiI s196)))))))))))))))))))))))))))) (by decide) rfl rfl ?_
  refine ex_iconst (v := 1) (pc' := 110) dX12_feed_109 (by decide) rfl ?_
  refine ex_iadd (pc' := 111) (v := 14) dX12_feed_110 (by decide) rfl ?_
  refine ex_putI (pc' := 114) dX12_feed_111 fl_12_68 (zsiI (zsiI (zsiI (zsiI (zsiI (zsiI (zsiI (zsiI (zsiI (zsiI (zsiI (zsiI (zsiI (zsiI (zsiI (zsiI (zsiI (zsiI (zsiI (zsiI (zsiI (zsiI (zsiI (zsiI (zsiI (zsiI (zsiI (zsiI s196)))))))))))))))))))))))))))) (Or.inl rfl) (Or.inl rfl) rfl ?_
  refine ex_iinc (pc' := 117) (v := 14) (ls' := [(6, .inl 14), (7, .inl p4), (0, .inr (.inr (some 196))), (1, .inl p1), (2, .inl p2), (3, .inl p3), (4, .inl p4), (5, .inl p5)]) dX12_feed_114 rfl (by decide) (by decide) rfl rfl ?_
  refine ex_goto (pc' := 23) dX12_feed_117 (by decide) ?_
  refine ex_iload (pc' := 25) dX12_feed_23 rfl rfl ?_
  refine ex_bipush (v := 20) (pc' := 27) dX12_feed_25 (by decide) rfl ?_
  refine ex_icmp_f (pc' := 30) dX12_feed_27 (by decide) (by decide) rfl ?_
  refine ex_iload (pc' := 32) dX12_feed_30 rfl rfl ?_
  refine ex_iconst (v := 4) (pc' := 33) dX12_feed_32 (by decide) rfl ?_
  refine ex_icmp_t (pc' := 40) dX12_feed_33 (by decide) (by decide) ?_
  refine ex_iload (pc' := 42) dX12_feed_40 rfl rfl ?_
  refine ex_bipush (v := 8) (pc' := 44) dX12_feed_42 (by decide) rfl ?_
  refine ex_icmp_t (pc' := 51) dX12_feed_44 (by decide) (by decide) ?_
  refine ex_iload (pc' := 53) dX12_feed_51 rfl rfl ?_
  refine ex_bipush (v := 12) (pc' := 55) dX12_feed_53 (by decide) rfl ?_
  refine ex_icmp_t (pc' := 62) dX12_feed_55 (by decide) (by decide) ?_
  refine ex_iload (pc' := 64) dX12_feed_62 rfl rfl ?_
  refine ex_bipush (v := 16) (pc' := 66) dX12_feed_64 (by decide) rfl ?_
  refine ex_icmp_f (pc' := 69) dX12_feed_66 (by decide) (by decide) rfl ?_
  refine ex_iload (pc' := 71) dX12_feed_69 rfl rfl ?_
  refine ex_goto (pc' := 76) dX12_feed_71 (by decide) ?_
  refine ex_istore (pc' := 78) (ls' := [(7, .inl p4), (6, .inl 14), (0, .inr (.inr (some 196))), (1, .inl p1), (2, .inl p2), (3, .inl p3), (4, .inl p4), (5, .inl p5)]) dX12_feed_76 (by decide) rfl rfl ?_
  refine ex_aload_n (pc' := 79) dX12_feed_78 rfl rfl ?_
  refine ex_getR (pc' := 82) (r := 197) dX12_feed_79 fl_12_7 (zsiI (zsiI (zsiI (zsiI (zsiI (zsiI (zsiI (zsiI (zsiI (zsiI (zsiI (zsiI (zsiI (zsiI (zsiI (zsiI (zsiI (zsiI (zsiI (zsiI (zsiI (zsiI (zsiI (zsiI (zsiI (zsiI (zsiI (zsiI (zsiI s196))))))))))))))))))))))))))))) (by decide) r196_1 rfl ?_
  refine ex_aload_n (pc' := 83) dX12_feed_82 rfl rfl ?_
  refine ex_getI (pc' := 86) (v := 14) dX12_feed_83 fl_12_68 (zsiI (zsiI (zsiI (zsiI (zsiI (zsiI (zsiI (zsiI (zsiI (zsiI (zsiI (zsiI (zsiI (zsiI (zsiI (zsiI (zsiI (zsiI (zsiI (zsiI (zsiI (zsiI (zsiI (zsiI (zsiI (zsiI (zsiI (zsiI (zsiI s196))))))))))))))))))))))))))))) (by decide) rfl rfl ?_
  refine ex_iload (pc' := 88) dX12_feed_86 rfl rfl ?_
  refine ex_bipush (v := 24) (pc' := 90) dX12_feed_88 (by decide) rfl ?_
  refine ex_bipush (v := 8) (pc' := 92) dX12_feed_90 (by decide) rfl ?_
  refine ex_iload (pc' := 94) dX12_feed_92 rfl rfl ?_
  refine ex_iconst (v := 4) (pc' := 95) dX12_feed_94 (by decide) rfl ?_
  refine ex_irem (pc' := 96) (v := 2) dX12_feed_95 (by decide) (by decide) rfl ?_
  refine ex_imul (pc' := 97) (v := 16) dX12_feed_96 (by decide) rfl ?_
  refine ex_isub (pc' := 98) (v := 8) dX12_feed_97 (by decide) rfl ?_
  refine ex_ishr (pc' := 99) (v := p4 >>> (8 &&& 31)) dX12_feed_98 rfl rfl ?_
  refine ex_sipush (v := 255) (pc' := 102) dX12_feed_99 (by decide) rfl ?_
  refine ex_iand (pc' := 103) (v := (p4 >>> (8 &&& 31)) &&& 255) dX12_feed_102 rfl rfl ?_
  refine ex_iast (pc' := 104) dX12_feed_103 (zsiI (zsiI (zsiI (zsiI (zsiI (zsiI (zsiI (zsiI (zsiI (zsiI (zsiI (zsiI (zsiI (zsiI (zsiI (zsiI (zsiI (zsiI (zsiI (zsiI (zsiI (zsiI (zsiI (zsiI (zsiI (zsiI (zsiI (zsiI (zsiI s197))))))))))))))))))))))))))))) (by decide) rfl ?_
  refine ex_aload_n (pc' := 105) dX12_feed_104 rfl rfl ?_
  refine ex_dup (pc' := 106) dX12_feed_105 rfl rfl ?_
  refine ex_getI (pc' := 109) (v := 14) dX12_feed_106 fl_12_68 (zsiI (zsiI (zsiI (zsiI (zsiI (zsiI (zsiI (zsiI (zsiI (zsiI (zsiI (zsiI (zsiI (zsiI (zsiI (zsiI (zsiI (zsiI (zsiI (zsiI (zsiI (zsiI (zsiI (zsiI (zsiI (zsiI (zsiI (zsiI (zsiI (zsiI s196)))))))))))))))))))))))))))))) (by decide) rfl rfl ?_
  refine ex_iconst (v := 1) (pc' := 110) dX12_feed_109 (by decide) rfl ?_
  refine ex_iadd (pc' := 111) (v := 15) dX12_feed_110 (by decide) rfl ?_
  refine ex_putI (pc' := 114) dX12_feed_111 fl_12_68 (zsiI (zsiI (zsiI (zsiI (zsiI (zsiI (zsiI (zsiI (zsiI (zsiI (zsiI (zsiI (zsiI (zsiI (zsiI (zsiI (zsiI (zsiI (zsiI (zsiI (zsiI (zsiI (zsiI (zsiI (zsiI (zsiI (zsiI (zsiI (zsiI (zsiI s196)))))))))))))))))))))))))))))) (Or.inl rfl) (Or.inl rfl) rfl ?_
  refine ex_iinc (pc' := 117) (v := 15) (ls' := [(6, .inl 15), (7, .inl p4), (0, .inr (.inr (some 196))), (1, .inl p1), (2, .inl p2), (3, .inl p3), (4, .inl p4), (5, .inl p5)]) dX12_feed_114 rfl (by decide) (by decide) rfl rfl ?_
  refine ex_goto (pc' := 23) dX12_feed_117 (by decide) ?_
  refine ex_iload (pc' := 25) dX12_feed_23 rfl rfl ?_
  refine ex_bipush (v := 20) (pc' := 27) dX12_feed_25 (by decide) rfl ?_
  refine ex_icmp_f (pc' := 30) dX12_feed_27 (by decide) (by decide) rfl ?_
  refine ex_iload (pc' := 32) dX12_feed_30 rfl rfl ?_
  refine ex_iconst (v := 4) (pc' := 33) dX12_feed_32 (by decide) rfl ?_
  refine ex_icmp_t (pc' := 40) dX12_feed_33 (by decide) (by decide) ?_
  refine ex_iload (pc' := 42) dX12_feed_40 rfl rfl ?_
  refine ex_bipush (v := 8) (pc' := 44) dX12_feed_42 (by decide) rfl ?_
  refine ex_icmp_t (pc' := 51) dX12_feed_44 (by decide) (by decide) ?_
  refine ex_iload (pc' := 53) dX12_feed_51 rfl rfl ?_
  refine ex_bipush (v := 12) (pc' := 55) dX12_feed_53 (by decide) rfl ?_
  refine ex_icmp_t (pc' := 62) dX12_feed_55 (by decide) (by decide) ?_
  refine ex_iload (pc' := 64) dX12_feed_62 rfl rfl ?_
  refine ex_bipush (v := 16) (pc' := 66) dX12_feed_64 (by decide) rfl ?_
  refine ex_icmp_f (pc' := 69) dX12_feed_66 (by decide) (by decide) rfl ?_
  refine ex_iload (pc' := 71) dX12_feed_69 rfl rfl ?_
  refine ex_goto (pc' := 76) dX12_feed_71 (by decide) ?_
  refine ex_istore (pc' := 78) (ls' := [(7, .inl p4), (6, .inl 15), (0, .inr (.inr (some 196))), (1, .inl p1), (2, .inl p2), (3, .inl p3), (4, .inl p4), (5, .inl p5)]) dX12_feed_76 (by decide) rfl rfl ?_
  refine ex_aload_n (pc' := 79) dX12_feed_78 rfl rfl ?_
  refine ex_getR (pc' := 82) (r := 197) dX12_feed_79 fl_12_7 (zsiI (zsiI (zsiI (zsiI (zsiI (zsiI (zsiI (zsiI (zsiI (zsiI (zsiI (zsiI (zsiI (zsiI (zsiI (zsiI (zsiI (zsiI (zsiI (zsiI (zsiI (zsiI (zsiI (zsiI (zsiI (zsiI (zsiI (zsiI (zsiI (zsiI (zsiI s196))))))))))))))))))))))))))))))) (by decide) r196_1 rfl ?_
  refine ex_aload_n (pc' := 83) dX12_feed_82 rfl rfl ?_
  refine ex_getI (pc' := 86) (v := 15) dX12_feed_83 fl_12_68 (zsiI (zsiI (zsiI (zsiI (zsiI (zsiI (zsiI (zsiI (zsiI (zsiI (zsiI (zsiI (zsiI (zsiI (zsiI (zsiI (zsiI (zsiI (zsiI (zsiI (zsiI (zsiI (zsiI (zsiI (zsiI (zsiI (zsiI (zsiI (zsiI (zsiI (zsiI s196))))))))))))))))))))))))))))))) (by decide) rfl rfl ?_
  refine ex_iload (pc' := 88) dX12_feed_86 rfl rfl ?_
  refine ex_bipush (v := 24) (pc' := 90) dX12_feed_88 (by decide) rfl ?_
  refine ex_bipush (v := 8) (pc' := 92) dX12_feed_90 (by decide) rfl ?_
  refine ex_iload (pc' := 94) dX12_feed_92 rfl rfl ?_
  refine ex_iconst (v := 4) (pc' := 95) dX12_feed_94 (by decide) rfl ?_
  refine ex_irem (pc' := 96) (v := 3) dX12_feed_95 (by decide) (by decide) rfl ?_
  refine ex_imul (pc' := 97) (v := 24) dX12_feed_96 (by decide) rfl ?_
  refine ex_isub (pc' := 98) (v := 0) dX12_feed_97 (by decide) rfl ?_
  refine ex_ishr (pc' := 99) (v := p4 >>> (0 &&& 31)) dX12_feed_98 rfl rfl ?_
  refine ex_sipush (v := 255) (pc' := 102) dX12_feed_99 (by decide) rfl ?_
  refine ex_iand (pc' := 103) (v := (p4 >>> (0 &&& 31)) &&& 255) dX12_feed_102 rfl rfl ?_
  refine ex_iast (pc' := 104) dX12_feed_103 (zsiI (zsiI (zsiI (zsiI (zsiI (zsiI (zsiI (zsiI (zsiI (zsiI (zsiI (zsiI (zsiI (zsiI (zsiI (zsiI (zsiI (zsiI (zsiI (zsiI (zsiI (zsiI (zsiI (zsiI (zsiI (zsiI (zsiI (zsiI (zsiI (zsiI (zsiI s197))))))))))))))))))))))))))))))) (by decide) rfl ?_
  refine ex_aload_n (pc' := 105) dX12_feed_104 rfl rfl ?_
  refine ex_dup (pc' := 106) dX12_feed_105 rfl rfl ?_
  refine ex_getI (pc' := 109) (v := 15) dX12_feed_106 fl_12_68 (zsiI (zsiI (zsiI (zsiI (zsiI (zsiI (zsiI (zsiI (zsiI (zsiI (zsiI (zsiI (zsiI (zsiI (zsiI (zsiI (zsiI (zsiI (zsiI (zsiI (zsiI (zsiI (zsiI (zsiI (zsiI (zsiI (zsiI (zsiI (zsiI (zsiI (zsiI (zsiI s196)))))))))))))))))))))))))))))))) (by decide) rfl rfl ?_
  refine ex_iconst (v := 1) (pc' := 110) dX12_feed_109 (by decide) rfl ?_
  refine ex_iadd (pc' := 111) (v := 16) dX12_feed_110 (by decide) rfl ?_
  refine ex_putI (pc' := 114) dX12_feed_111 fl_12_68 (zsiI (zsiI (zsiI (zsiI (zsiI (zsiI (zsiI (zsiI (zsiI (zsiI (zsiI (zsiI (zsiI (zsiI (zsiI (zsiI (zsiI (zsiI (zsiI (zsiI (zsiI (zsiI (zsiI (zsiI (zsiI (zsiI (zsiI (zsiI (zsiI (zsiI (zsiI (zsiI s196)))))))))))))))))))))))))))))))) (Or.inl rfl) (Or.inl rfl) rfl ?_
  refine ex_iinc (pc' := 117) (v := 16) (ls' := [(6, .inl 16), (7, .inl p4), (0, .inr (.inr (some 196))), (1, .inl p1), (2, .inl p2), (3, .inl p3), (4, .inl p4), (5, .inl p5)]) dX12_feed_114 rfl (by decide) (by decide) rfl rfl ?_
  refine ex_goto (pc' := 23) dX12_feed_117 (by decide) ?_
  refine ex_iload (pc' := 25) dX12_feed_23 rfl rfl ?_
  refine ex_bipush (v := 20) (pc' := 27) dX12_feed_25 (by decide) rfl ?_
  refine ex_icmp_f (pc' := 30) dX12_feed_27 (by decide) (by decide) rfl ?_
  refine ex_iload (pc' := 32) dX12_feed_30 rfl rfl ?_
  refine ex_iconst (v := 4) (pc' := 33) dX12_feed_32 (by decide) rfl ?_
  refine ex_icmp_t (pc' := 40) dX12_feed_33 (by decide) (by decide) ?_
  refine ex_iload (pc' := 42) dX12_feed_40 rfl rfl ?_
  refine ex_bipush (v := 8) (pc' := 44) dX12_feed_42 (by decide) rfl ?_
  refine ex_icmp_t (pc' := 51) dX12_feed_44 (by decide) (by decide) ?_
  refine ex_iload (pc' := 53) dX12_feed_51 rfl rfl ?_
  refine ex_bipush (v := 12) (pc' := 55) dX12_feed_53 (by decide) rfl ?_
  refine ex_icmp_t (pc' := 62) dX12_feed_55 (by decide) (by decide) ?_
  refine ex_iload (pc' := 64) dX12_feed_62 rfl rfl ?_
  refine ex_bipush (v := 16) (pc' := 66) dX12_feed_64 (by decide) rfl ?_
  refine ex_icmp_t (pc' := 74) dX12_feed_66 (by decide) (by decide) ?_
  refine ex_iload (pc' := 76) dX12_feed_74 rfl rfl ?_
  refine ex_istore (pc' := 78) (ls' := [(7, .inl p5), (6, .inl 16), (0, .inr (.inr (some 196))), (1, .inl p1), (2, .inl p2), (3, .inl p3), (4, .inl p4), (5, .inl p5)]) dX12_feed_76 (by decide) rfl rfl ?_
  refine ex_aload_n (pc' := 79) dX12_feed_78 rfl rfl ?_
  refine ex_getR (pc' := 82) (r := 197) dX12_feed_79 fl_12_7 (zsiI (zsiI (zsiI (zsiI (zsiI (zsiI (zsiI (zsiI (zsiI (zsiI (zsiI (zsiI (zsiI (zsiI (zsiI (zsiI (zsiI (zsiI (zsiI (zsiI (zsiI (zsiI (zsiI (zsiI (zsiI (zsiI (zsiI (zsiI (zsiI (zsiI (zsiI (zsiI (zsiI s196))))))))))))))))))))))))))))))))) (by decide) r196_1 rfl ?_
  refine ex_aload_n (pc' := 83) dX12_feed_82 rfl rfl ?_
  refine ex_getI (pc' := 86) (v := 16) dX12_feed_83 fl_12_68 (zsiI (zsiI (zsiI (zsiI (zsiI (zsiI (zsiI (zsiI (zsiI (zsiI (zsiI (zsiI (zsiI (zsiI (zsiI (zsiI (zsiI (zsiI (zsiI (zsiI (zsiI (zsiI (zsiI (zsiI (zsiI (zsiI (zsiI (zsiI (zsiI (zsiI (zsiI (zsiI (zsiI s196))))))))))))))))))))))))))))))))) (by decide) rfl rfl ?_
  refine ex_iload (pc' := 88) dX12_feed_86 rfl rfl ?_
  refine ex_bipush (v := 24) (pc' := 90) dX12_feed_88 (by decide) rfl ?_
  refine ex_bipush (v := 8) (pc' := 92) dX12_feed_90 (by decide) rfl ?_
  refine ex_iload (pc' := 94) dX12_feed_92 rfl rfl ?_
  refine ex_iconst (v := 4) (pc' := 95) dX12_feed_94 (by decide) rfl ?_
  refine ex_irem (pc' := 96) (v := 0) dX12_feed_95 (by decide) (by decide) rfl ?_
  refine ex_imul (pc' := 97) (v := 0) dX12_feed_96 (by decide) rfl ?_
  refine ex_isub (pc' := 98) (v := 24) dX12_feed_97 (by decide) rfl ?_
  refine ex_ishr (pc' := 99) (v := p5 >>> (24 &&& 31)) dX12_feed_98 rfl rfl ?_
  refine ex_sipush (v := 255) (pc' := 102) dX12_feed_99 (by decide) rfl ?_
  refine ex_iand (pc' := 103) (v := (p5 >>> (24 &&& 31)) &&& 255) dX12_feed_102 rfl rfl ?_
  refine ex_iast (pc' := 104) dX12_feed_103 (zsiI (zsiI (zsiI (zsiI (zsiI (zsiI (zsiI (zsiI (zsiI (zsiI (zsiI (zsiI (zsiI (zsiI (zsiI (zsiI (zsiI (zsiI (zsiI (zsiI (zsiI (zsiI (zsiI (zsiI (zsiI (zsiI (zsiI (zsiI (zsiI (zsiI (zsiI (zsiI (zsiI s197))))))))))))))))))))))))))))))))) (by decide) rfl ?_
  refine ex_aload_n (pc' := 105) dX12_feed_104 rfl rfl ?_
  refine ex_dup (pc' := 106) dX12_feed_105 rfl rfl ?_
  refine ex_getI (pc' := 109) (v := 16) dX12_feed_106 fl_12_68 (zsiI (zsiI (zsiI (zsiI (zsiI (zsiI (zsiI (zsiI (zsiI (zsiI (zsiI (zsiI (zsiI (zsiI (zsiI (zsiI (zsiI (zsiI (zsiI (zsiI (zsiI (zsiI (zsiI (zsiI (zsiI (zsiI (zsiI (zsiI (zsiI (zsiI (zsiI (zsiI (zsiI (zsiI s196)))))))))))))))))))))))))))))))))) (by decide) rfl rfl ?_
  refine ex_iconst (v := 1) (pc' := 110) dX12_feed_109 (by decide) rfl ?_
  refine ex_iadd (pc' := 111) (v := 17) dX12_feed_110 (by decide) rfl ?_
  refine ex_putI (pc' := 114) dX12_feed_111 fl_12_68 (zsiI (zsiI (zsiI (zsiI (zsiI (zsiI (zsiI (zsiI (zsiI (zsiI (zsiI (zsiI (zsiI (zsiI (zsiI (zsiI (zsiI (zsiI (zsiI (zsiI (zsiI (zsiI (zsiI (zsiI (zsiI (zsiI (zsiI (zsiI (zsiI (zsiI (zsiI (zsiI (zsiI (zsiI s196)))))))))))))))))))))))))))))))))) (Or.inl rfl) (Or.inl rfl) rfl ?_
  refine ex_iinc (pc' := 117) (v := 17) (ls' := [(6, .inl 17), (7, .inl p5), (0, .inr (.inr (some 196))), (1, .inl p1), (2, .inl p2), (3, .inl p3), (4, .inl p4), (5, .inl p5)]) dX12_feed_114 rfl (by decide) (by decide) rfl rfl ?_
  refine ex_goto (pc' := 23) dX12_feed_117 (by decide) ?_
  refine ex_iload (pc' := 25) dX12_feed_23 rfl rfl ?_
  refine ex_bipush (v := 20) (pc' := 27) dX12_feed_25 (by decide) rfl ?_
  refine ex_icmp_f (pc' := 30) dX12_feed_27 (by decide) (by decide) rfl ?_
  refine ex_iload (pc' := 32) dX12_feed_30 rfl rfl ?_
  refine ex_iconst (v := 4) (pc' := 33) dX12_feed_32 (by decide) rfl ?_
  refine ex_icmp_t (pc' := 40) dX12_feed_33 (by decide) (by decide) ?_
  refine ex_iload (pc' := 42) dX12_feed_40 rfl rfl ?_
  refine ex_bipush (v := 8) (pc' := 44) dX12_feed_42 (by decide) rfl ?_
  refine ex_icmp_t (pc' := 51) dX12_feed_44 (by decide) (by decide) ?_
  refine ex_iload (pc' := 53) dX12_feed_51 rfl rfl ?_
  refine ex_bipush (v := 12) (pc' := 55) dX12_feed_53 (by decide) rfl ?_
  refine ex_icmp_t (pc' := 62) dX12_feed_55 (by decide) (by decide) ?_
  refine ex_iload (pc' := 64) dX12_feed_62 rfl rfl ?_
  refine ex_bipush (v := 16) (pc' := 66) dX12_feed_64 (by decide) rfl ?_
  refine ex_icmp_t (pc' := 74) dX12_feed_66 (by decide) (by decide) ?_
  refine ex_iload (pc' := 76) dX12_feed_74 rfl rfl ?_
  refine ex_istore (pc' := 78) (ls' := [(7, .inl p5), (6, .inl 17), (0, .inr (.inr (some 196))), (1, .inl p1), (2, .inl p2), (3, .inl p3), (4, .inl p4), (5, .inl p5)]) dX12_feed_76 (by decide) rfl rfl ?_
  refine ex_aload_n (pc' := 79) dX12_feed_78 rfl rfl ?_
  refine ex_getR (pc' := 82) (r := 197) dX12_feed_79 fl_12_7 (zsiI (zsiI (zsiI (zsiI (zsiI (zsiI (zsiI (zsiI (zsiI (zsiI (zsiI (zsiI (zsiI (zsiI (zsiI (zsiI (zsiI (zsiI (zsiI (zsiI (zsiI (zsiI (zsiI (zsiI (zsiI (zsiI (zsiI (zsiI (zsiI (zsiI (zsiI (zsiI (zsiI (zsiI (zsiI s196))))))))))))))))))))))))))))))))))) (by decide) r196_1 rfl ?_
  refine ex_aload_n (pc' := 83) dX12_feed_82 rfl rfl ?_
  refine ex_getI (pc' := 86) (v := 17) dX12_feed_83 fl_12_68 (zsiI (zsiI (zsiI (zsiI (zsiI (zsiI (zsiI (zsiI (zsiI (zsiI (zsiI (zsiI (zsiI (zsiI (zsiI (zsiI (zsiI (zsiI (zsiI (zsiI (zsiI (zsiI (zsiI (zsiI (zsiI (zsiI (zsiI (zsiI (zsiI (zsiI (zsiI (zsiI (zsiI (zsiI (zsiI s196))))))))))))))))))))))))))))))))))) (by decide) rfl rfl ?_
  refine ex_iload (pc' := 88) dX12_feed_86 rfl rfl ?_
  refine ex_bipush (v := 24) (pc' := 90) dX12_feed_88 (by decide) rfl ?_
  refine ex_bipush (v := 8) (pc' := 92) dX12_feed_90 (by decide) rfl ?_
  refine ex_iload (pc' := 94) dX12_feed_92 rfl rfl ?_
  refine ex_iconst (v := 4) (pc' := 95) dX12_feed_94 (by decide) rfl ?_
  refine ex_irem (pc' := 96) (v := 1) dX12_feed_95 (by decide) (by decide) rfl ?_
  refine ex_imul (pc' := 97) (v := 8) dX12_feed_96 (by decide) rfl ?_
  refine ex_isub (pc' := 98) (v := 16) dX12_feed_97 (by decide) rfl ?_
  refine ex_ishr (pc' := 99) (v := p5 >>> (16 &&& 31)) dX12_feed_98 rfl rfl ?_
  refine ex_sipush (v := 255) (pc' := 102) dX12_feed_99 (by decide) rfl ?_
  refine ex_iand (pc' := 103) (v := (p5 >>> (16 &&& 31)) &&& 255) dX12_feed_102 rfl rfl ?_
  refine ex_iast (pc' := 104) dX12_feed_103 (zsiI (zsiI (zsiI (zsiI (zsiI (zsiI (zsiI (zsiI (zsiI (zsiI (zsiI (zsiI (zsiI (zsiI (zsiI (zsiI (zsiI (zsiI (zsiI (zsiI (zsiI (zsiI (zsiI (zsiI (zsiI (zsiI (zsiI (zsiI (zsiI (zsiI (zsiI (zsiI (zsiI (zsiI (zsiI s197))))))))))))))))))))))))))))))))))) (by decide) rfl ?_
  refine ex_aload_n (pc' := 105) dX12_feed_104 rfl rfl ?_
  refine ex_dup (pc' := 106) dX12_feed_105 rfl rfl ?_
  refine ex_getI (pc' := 109) (v := 17) dX12_feed_106 fl_12_68 (zsiI (zsiI (zsiI (zsiI (zsiI (zsiI (zsiI (zsiI (zsiI (zsiI (zsiI (zsiI (zsiI (zsiI (zsiI (zsiI (zsiI (zsiI (zsiI (zsiI (zsiI (zsiI (zsiI (zsiI (zsiI (zsiI (zsiI (zsiI (zsiI (zsiI (zsiI (zsiI (zsiI (zsiI (zsiI (zsiI s196)))))))))))))))))))))))))))))))))))) (by decide) rfl rfl ?_
  refine ex_iconst (v := 1) (pc' := 110) dX12_feed_109 (by decide) rfl ?_
  refine ex_iadd (pc' := 111) (v := 18) dX12_feed_110 (by decide) rfl ?_
  refine ex_putI (pc' := 114) dX12_feed_111 fl_12_68 (zsiI (zsiI (zsiI (zsiI (zsiI (zsiI (zsiI (zsiI (zsiI (zsiI (zsiI (zsiI (zsiI (zsiI (zsiI (zsiI (zsiI (zsiI (zsiI (zsiI (zsiI (zsiI (zsiI (zsiI (zsiI (zsiI (zsiI (zsiI (zsiI (zsiI (zsiI (zsiI (zsiI (zsiI (zsiI (zsiI s196)))))))))))))))))))))))))))))))))))) (Or.inl rfl) (Or.inl rfl) rfl ?_
  refine ex_iinc (pc' := 117) (v := 18) (ls' := [(6, .inl 18), (7, .inl p5), (0, .inr (.inr (some 196))), (1, .inl p1), (2, .inl p2), (3, .inl p3), (4, .inl p4), (5, .inl p5)]) dX12_feed_114 rfl (by decide) (by decide) rfl rfl ?_
  refine ex_goto (pc' := 23) dX12_feed_117 (by decide) ?_
  refine ex_iload (pc' := 25) dX12_feed_23 rfl rfl ?_
  refine ex_bipush (v := 20) (pc' := 27) dX12_feed_25 (by decide) rfl ?_
  refine ex_icmp_f (pc' := 30) dX12_feed_27 (by decide) (by decide) rfl ?_
  refine ex_iload (pc' := 32) dX12_feed_30 rfl rfl ?_
  refine ex_iconst (v := 4) (pc' := 33) dX12_feed_32 (by decide) rfl ?_
  refine ex_icmp_t (pc' := 40) dX12_feed_33 (by decide) (by decide) ?_
  refine ex_iload (pc' := 42) dX12_feed_40 rfl rfl ?_
  refine ex_bipush (v := 8) (pc' := 44) dX12_feed_42 (by decide) rfl ?_
  refine ex_icmp_t (pc' := 51) dX12_feed_44 (by decide) (by decide) ?_
  refine ex_iload (pc' := 53) dX12_feed_51 rfl rfl ?_
  refine ex_bipush (v := 12) (pc' := 55) dX12_feed_53 (by decide) rfl ?_
  refine ex_icmp_t (pc' := 62) dX12_feed_55 (by decide) (by decide) ?_
  refine ex_iload (pc' := 64) dX12_feed_62 rfl rfl ?_
  refine ex_bipush (v := 16) (pc' := 66) dX12_feed_64 (by decide) rfl ?_
  refine ex_icmp_t (pc' := 74) dX12_feed_66 (by decide) (by decide) ?_
  refine ex_iload (pc' := 76) dX12_feed_74 rfl rfl ?_
  refine ex_istore (pc' := 78) (ls' := [(7, .inl p5), (6, .inl 18), (0, .inr (.inr (some 196))), (1, .inl p1), (2, .inl p2), (3, .inl p3), (4, .inl p4), (5, .inl p5)]) dX12_feed_76 (by decide) rfl rfl ?_
  refine ex_aload_n (pc' := 79) dX12_feed_78 rfl rfl ?_
  refine ex_getR (pc' := 82) (r := 197) dX12_feed_79 fl_12_7 (zsiI (zsiI (zsiI (zsiI (zsiI (zsiI (zsiI (zsiI (zsiI (zsiI (zsiI (zsiI (zsiI (zsiI (zsiI (zsiI (zsiI (zsiI (zsiI (zsiI (zsiI (zsiI (zsiI (zsiI (zsiI (zsiI (zsiI (zsiI (zsiI (zsiI (zsiI (zsiI (zsiI (zsiI (zsiI (zsiI (zsiI s196))))))))))))))))))))))))))))))))))))) (by decide) r196_1 rfl ?_
  refine ex_aload_n (pc' := 83) dX12_feed_82 rfl rfl ?_
  refine ex_getI (pc' := 86) (v := 18) dX12_feed_83 fl_12_68 (zsiI (zsiI (zsiI (zsiI (zsiI (zsiI (zsiI (zsiI (zsiI (zsiI (zsiI (zsiI (zsiI (zsiI (zsiI (zsiI (zsiI (zsiI (zsiI (zsiI (zsiI (zsiI (zsiI (zsiI (zsiI (zsiI (zsiI (zsiI (zsiI (zsiI (zsiI (zsiI (zsiI (zsiI (zsiI (zsiI (zsiI s196))))))))))))))))))))))))))))))))))))) (by decide) rfl rfl ?_
  refine ex_iload (pc' := 88) dX12_feed_86 rfl rfl ?_
  refine ex_bipush (v := 24) (pc' := 90) dX12_feed_88 (by decide) rfl ?_
  refine ex_bipush (v := 8) (pc' := 92) dX12_feed_90 (by decide) rfl ?_
  refine ex_iload (pc' := 94) dX12_feed_92 rfl rfl ?_
  refine ex_iconst (v := 4) (pc' := 95) dX12_feed_94 (by decide) rfl ?_
  refine ex_irem (pc' := 96) (v := 2) dX12_feed_95 (by decide) (by decide) rfl ?_
  refine ex_imul (pc' := 97) (v := 16) dX12_feed_96 (by decide) rfl ?_
  refine ex_isub (pc' := 98) (v := 8) dX12_feed_97 (by decide) rfl ?_
  refine ex_ishr (pc' := 99) (v := p5 >>> (8 &&& 31)) dX12_feed_98 rfl rfl ?_
  refine ex_sipush (v := 255) (pc' := 102) dX12_feed_99 (by decide) rfl ?_
  refine ex_iand (pc' := 103) (v := (p5 >>> (8 &&& 31)) &&& 255) dX12_feed_102 rfl rfl ?_
  refine ex_iast (pc' := 104) dX12_feed_103 (zsiI (zsiI (zsiI (zsiI (zsiI (zsiI (zsiI (zsiI (zsiI (zsiI (zsiI (zsiI (zsiI (zsiI (zsiI (zsiI (zsiI (zsiI (zsiI (zsiI (zsiI (zsiI (zsiI (zsiI (zsiI (zsiI (zsiI (zsiI (zsiI (zsiI (zsiI (zsiI (zsiI (zsiI (zsiI (zsiI (zsiI s197))))))))))))))))))))))))))))))))))))) (by decide) rfl ?_
  refine ex_aload_n (pc' := 105) dX12_feed_104 rfl rfl ?_
  refine ex_dup (pc' := 106) dX12_feed_105 rfl rfl ?_
  refine ex_getI (pc' := 109) (v := 18) dX12_feed_106 fl_12_68 (zsiI (zsiI (zsiI (zsiI (zsiI (zsiI (zsiI (zsiI (zsiI (zsiI (zsiI (zsiI (zsiI (zsiI (zsiI (zsiI (zsiI (zsiI (zsiI (zsiI (zsiI (zsiI (zsiI (zsiI (zsiI (zsiI (zsiI (zsiI (zsiI (zsiI (zsiI (zsiI (zsiI (zsiI (zsiI (zsiI (zsiI (zsiI s196)))))))))))))))))))))))))))))))))))))) (by decide) rfl rfl ?_
  refine ex_iconst (v := 1) (pc' := 110) dX12_feed_109 (by decide) rfl ?_
  refine ex_iadd (pc' := 111) (v := 19) dX12_feed_110 (by decide) rfl ?_
  refine ex_putI (pc' := 114) dX12_feed_111 fl_12_68 (zsiI (zsiI (zsiI (zsiI (zsiI (zsiI (zsiI (zsiI (zsiI (zsiI (zsiI (zsiI (zsiI (zsiI (zsiI (zsiI (zsiI (zsiI (zsiI (zsiI (zsiI (zsiI (zsiI (zsiI (zsiI (zsiI (zsiI (zsiI (zsiI (zsiI (zsiI (zsiI (zsiI (zsiI (zsiI (zsiI (zsiI (zsiI s196)))))))))))))))))))))))))))))))))))))) (Or.inl rfl) (Or.inl rfl) rfl ?_
  refine ex_iinc (pc' := 117) (v := 19) (ls' := [(6, .inl 19), (7, .inl p5), (0, .inr (.inr (some 196))), (1, .inl p1), (2, .inl p2), (3, .inl p3), (4, .inl p4), (5, .inl p5)]) dX12_feed_114 rfl (by decide) (by decide) rfl rfl ?_
  refine ex_goto (pc' := 23) dX12_feed_117 (by decide) ?_
  refine ex_iload (pc' := 25) dX12_feed_23 rfl rfl ?_
  refine ex_bipush (v := 20) (pc' := 27) dX12_feed_25 (by decide) rfl ?_
  refine ex_icmp_f (pc' := 30) dX12_feed_27 (by decide) (by decide) rfl ?_
  refine ex_iload (pc' := 32) dX12_feed_30 rfl rfl ?_
  refine ex_iconst (v := 4) (pc' := 33) dX12_feed_32 (by decide) rfl ?_
  refine ex_icmp_t (pc' := 40) dX12_feed_33 (by decide) (by decide) ?_
  refine ex_iload (pc' := 42) dX12_feed_40 rfl rfl ?_
  refine ex_bipush (v := 8) (pc' := 44) dX12_feed_42 (by decide) rfl ?_
  refine ex_icmp_t (pc' := 51) dX12_feed_44 (by decide) (by decide) ?_
  refine ex_iload (pc' := 53) dX12_feed_51 rfl rfl ?_
  refine ex_bipush (v := 12) (pc' := 55) dX12_feed_53 (by decide) rfl ?_
  refine ex_icmp_t (pc' := 62) dX12_feed_55 (by decide) (by decide) ?_
  refine ex_iload (pc' := 64) dX12_feed_62 rfl rfl ?_
  refine ex_bipush (v := 16) (pc' := 66) dX12_feed_64 (by decide) rfl ?_
  refine ex_icmp_t (pc' := 74) dX12_feed_66 (by decide) (by decide) ?_
  refine ex_iload (pc' := 76) dX12_feed_74 rfl rfl ?_
  refine ex_istore (pc' := 78) (ls' := [(7, .inl p5), (6, .inl 19), (0, .inr (.inr (some 196))), (1, .inl p1), (2, .inl p2), (3, .inl p3), (4, .inl p4), (5, .inl p5)]) dX12_feed_76 (by decide) rfl rfl ?_
  refine ex_aload_n (pc' := 79) dX12_feed_78 rfl rfl ?_
  refine ex_getR (pc' := 82) (r := 197) dX12_feed_79 fl_12_7 (zsiI (zsiI (zsiI (zsiI (zsiI (zsiI (zsiI (zsiI (zsiI (zsiI (zsiI (zsiI (zsiI (zsiI (zsiI (zsiI (zsiI (zsiI (zsiI (zsiI (zsiI (zsiI (zsiI (zsiI (zsiI (zsiI (zsiI (zsiI (zsiI (zsiI (zsiI (zsiI (zsiI (zsiI (zsiI (zsiI (zsiI (zsiI (zsiI s196))))))))))))))))))))))))))))))))))))))) (by decide) r196_1 rfl ?_
  refine ex_aload_n (pc' := 83) dX12_feed_82 rfl rfl ?_
  refine ex_getI (pc' := 86) (v := 19) dX12_feed_83 fl_12_68 (zsiI (zsiI (zsiI (zsiI (zsiI (zsiI (zsiI (zsiI (zsiI (zsiI (zsiI (zsiI (zsiI (zsiI (zsiI (zsiI (zsiI (zsiI (zsiI (zsiI (zsiI (zsiI (zsiI (zsiI (zsiI (zsiI (zsiI (zsiI (zsiI (zsiI (zsiI (zsiI (zsiI (zsiI (zsiI (zsiI (zsiI (zsiI (zsiI s196))))))))))))))))))))))))))))))))))))))) (by decide) rfl rfl ?_
  refine ex_iload (pc' := 88) dX12_feed_86 rfl rfl ?_
  refine ex_bipush (v := 24) (pc' := 90) dX12_feed_88 (by decide) rfl ?_
  refine ex_bipush (v := 8) (pc' := 92) dX12_feed_90 (by decide) rfl ?_
  refine ex_iload (pc' := 94) dX12_feed_92 rfl rfl ?_
  refine ex_iconst (v := 4) (pc' := 95) dX12_feed_94 (by decide) rfl ?_
  refine ex_irem (pc' := 96) (v := 3) dX12_feed_95 (by decide) (by decide) rfl ?_
  refine ex_imul (pc' := 97) (v := 24) dX12_feed_96 (by decide) rfl ?_
  refine ex_isub (pc' := 98) (v := 0) dX12_feed_97 (by decide) rfl ?_
  refine ex_ishr (pc' := 99) (v := p5 >>> (0 &&& 31)) dX12_feed_98 rfl rfl ?_
  refine ex_sipush (v := 255) (pc' := 102) dX12_feed_99 (by decide) rfl ?_
  refine ex_iand (pc' := 103) (v := (p5 >>> (0 &&& 31)) &&& 255) dX12_feed_102 rfl rfl ?_
  refine ex_iast (pc' := 104) dX12_feed_103 (zsiI (zsiI (zsiI (zsiI (zsiI (zsiI (zsiI (zsiI (zsiI (zsiI (zsiI (zsiI (zsiI (zsiI (zsiI (zsiI (zsiI (zsiI (zsiI (zsiI (zsiI (zsiI (zsiI (zsiI (zsiI (zsiI (zsiI (zsiI (zsiI (zsiI (zsiI (zsiI (zsiI (zsiI (zsiI (zsiI (zsiI (zsiI (zsiI s197))))))))))))))))))))))))))))))))))))))) (by decide) rfl ?_
  refine ex_aload_n (pc' := 105) dX12_feed_104 rfl rfl ?_
  refine ex_dup (pc' := 106) dX12_feed_105 rfl rfl ?_
  refine ex_getI (pc' := 109) (v := 19) dX12_feed_106 fl_12_68 (zsiI (zsiI (zsiI (zsiI (zsiI (zsiI (zsiI (zsiI (zsiI (zsiI (zsiI (zsiI (zsiI (zsiI (zsiI (zsiI (zsiI (zsiI (zsiI (zsiI (zsiI (zsiI (zsiI (zsiI (zsiI (zsiI (zsiI (zsiI (zsiI (zsiI (zsiI (zsiI (zsiI (zsiI (zsiI (zsiI (zsiI (zsiI (zsiI (zsiI s196)))))))))))))))))))))))))))))))))))))))) (by decide) rfl rfl ?_
  refine ex_iconst (v := 1) (pc' := 110) dX12_feed_109 (by decide) rfl ?_
  refine ex_iadd (pc' := 111) (v := 20) dX12_feed_110 (by decide) rfl ?_
  refine ex_putI (pc' := 114) dX12_feed_111 fl_12_68 (zsiI (zsiI (zsiI (zsiI (zsiI (zsiI (zsiI (zsiI (zsiI (zsiI (zsiI (zsiI (zsiI (zsiI (zsiI (zsiI (zsiI (zsiI (zsiI (zsiI (zsiI (zsiI (zsiI (zsiI (zsiI (zsiI (zsiI (zsiI (zsiI (zsiI (zsiI (zsiI (zsiI (zsiI (zsiI (zsiI (zsiI (zsiI (zsiI (zsiI s196)))))))))))))))))))))))))))))))))))))))) (Or.inl rfl) (Or.inl rfl) rfl ?_
  refine ex_iinc (pc' := 117) (v := 20) (ls' := [(6, .inl 20), (7, .inl p5), (0, .inr (.inr (some 196))), (1, .inl p1), (2, .inl p2), (3, .inl p3), (4, .inl p4), (5, .inl p5)]) dX12_feed_114 rfl (by decide) (by decide) rfl rfl ?_
  refine ex_goto (pc' := 23) dX12_feed_117 (by decide) ?_
  refine ex_iload (pc' := 25) dX12_feed_23 rfl rfl ?_
  refine ex_bipush (v := 20) (pc' := 27) dX12_feed_25 (by decide) rfl ?_
  refine ex_icmp_t (pc' := 120) dX12_feed_27 (by decide) (by decide) ?_
  refine ex_aload_n (pc' := 121) dX12_feed_120 rfl rfl ?_
  refine ex_getI (pc' := 124) (v := 20) dX12_feed_121 fl_12_68 (zsiI (zsiI (zsiI (zsiI (zsiI (zsiI (zsiI (zsiI (zsiI (zsiI (zsiI (zsiI (zsiI (zsiI (zsiI (zsiI (zsiI (zsiI (zsiI (zsiI (zsiI (zsiI (zsiI (zsiI (zsiI (zsiI (zsiI (zsiI (zsiI (zsiI (zsiI (zsiI (zsiI (zsiI (zsiI (zsiI (zsiI (zsiI (zsiI (zsiI (zsiI s196))))))))))))))))))))))))))))))))))))))))) (by decide) rfl rfl ?_
  exact ex_iretI dX12_feed_124 rfl rfl ⟨rfl, rfl⟩
set_option maxRecDepth 10000 in
theorem kX11_refused_1 (d : Nat) (h : zH) (s0 : zsh h 0 = some (11, 16)) : zCi (d + 0) mX11_refused [.inr (.inr (some 0)), .inl 2] h (fun x h' => x = (-1) ∧ h' = zsI (h) 0 2 2) := by
  show zEx none (d + 0) mX11_refused (0, [(0, .inr (.inr (some 0))), (1, .inl 2)], [], h) _
  refine ex_aload_n (pc' := 1) dX11_refused_0 rfl rfl ?_
  refine ex_iload_n (pc' := 2) dX11_refused_1 rfl rfl ?_
  refine ex_putI (pc' := 5) dX11_refused_2 fl_11_17 s0 (Or.inl rfl) (Or.inl rfl) rfl ?_
  refine ex_iconst (v := (-1)) (pc' := 6) dX11_refused_5 (by decide) rfl ?_
  exact ex_iretI dX11_refused_6 rfl rfl ⟨rfl, rfl⟩
set_option maxRecDepth 10000 in
theorem kX11_post_1 (d : Nat) (h : zH) (p1 : Int32) (s0 : zsh h 0 = some (11, 16)) (a_lt_p1_0 : zcond .lt p1 0 = true) : zCi (d + 1) mX11_post [.inr (.inr (some 0)), .inl p1] h (fun x h' => x = (-1) ∧ h' = zsI (h) 0 2 2) := by
  show zEx none (d + 1) mX11_post (0, [(0, .inr (.inr (some 0))), (1, .inl p1)], [], h) _
  refine ex_iload_n (pc' := 1) dX11_post_0 rfl rfl ?_
  refine ex_if_t (pc' := 12) dX11_post_1 a_lt_p1_0 (by decide) ?_
  refine ex_aload_n (pc' := 13) dX11_post_12 rfl rfl ?_
  refine ex_iconst (v := 2) (pc' := 14) dX11_post_13 (by decide) rfl ?_
  refine en_callvI (pc' := 17) (vs := [.inl 2]) (rest := []) (h2 := zsI (h) 0 2 2) (v := (-1)) dX11_post_14 ml_11_98 ⟨zble rfl, zble rfl⟩ rfl rfl s0 (zblt rfl) (zble rfl) rfl (kX11_refused_1 _ h s0) ?_
  exact ex_iretI dX11_post_17 rfl rfl ⟨rfl, rfl⟩
set_option maxRecDepth 10000 in
theorem kX12_good_1 (d : Nat) (h : zH) (s196 : zsh h 196 = some (12, 39)) : zCv (d + 0) mX12_good [.inr (.inr (some 196))] h (fun h' => h' = zsI (zsI (h) 196 0 0) 196 11 0) := by
  show zEx none (d + 0) mX12_good (0, [(0, .inr (.inr (some 196)))], [], h) _
  refine ex_aload_n (pc' := 1) dX12_good_0 rfl rfl ?_
  refine ex_iconst (v := 0) (pc' := 2) dX12_good_1 (by decide) rfl ?_
  refine ex_putI (pc' := 5) dX12_good_2 fl_12_62 s196 (Or.inl rfl) (Or.inl rfl) rfl ?_
  refine ex_aload_n (pc' := 6) dX12_good_5 rfl rfl ?_
  refine ex_iconst (v := 0) (pc' := 7) dX12_good_6 (by decide) rfl ?_
  refine ex_putI (pc' := 10) dX12_good_7 fl_12_65 (zsiI s196) (Or.inl rfl) (Or.inl rfl) rfl ?_
  exact ex_vretV dX12_good_10 rfl rfl
set_option maxRecDepth 10000 in
theorem kX12_in_1 (d : Nat) (h : zH) (p1 : Int32) (a_lt_p1_0 : zcond .lt p1 0 = true) : zCi (d + 0) mX12_in [.inl p1, .inl 0, .inl 0] h (fun x h' => x = 0 ∧ h' = h) := by
  show zEx none (d + 0) mX12_in (0, [(0, .inl p1), (1, .inl 0), (2, .inl 0)], [], h) _
  refine ex_iload_n (pc' := 1) dX12_in_0 rfl rfl ?_
  refine ex_iload_n (pc' := 2) dX12_in_1 rfl rfl ?_
  refine ex_icmp_t (pc' := 14) dX12_in_2 a_lt_p1_0 (by decide) ?_
  refine ex_iconst (v := 0) (pc' := 15) dX12_in_14 (by decide) rfl ?_
  exact ex_iretI dX12_in_15 rfl (by decide) ⟨rfl, rfl⟩
set_option maxRecDepth 10000 in
theorem kX12_no_1 (d : Nat) (h : zH) (s196 : zsh h 196 = some (12, 39)) : zCi (d + 0) mX12_no [.inr (.inr (some 196)), .inl 2] h (fun x h' => x = (-1) ∧ h' = zsI (h) 196 11 2) := by
  show zEx none (d + 0) mX12_no (0, [(0, .inr (.inr (some 196))), (1, .inl 2)], [], h) _
  refine ex_aload_n (pc' := 1) dX12_no_0 rfl rfl ?_
  refine ex_iload_n (pc' := 2) dX12_no_1 rfl rfl ?_
  refine ex_putI (pc' := 5) dX12_no_2 fl_12_65 s196 (Or.inl rfl) (Or.inl rfl) rfl ?_
  refine ex_iconst (v := (-1)) (pc' := 6) dX12_no_5 (by decide) rfl ?_
  exact ex_iretI dX12_no_6 rfl rfl ⟨rfl, rfl⟩
set_option maxRecDepth 10000 in
theorem kX12_post_1 (d : Nat) (h : zH) (p1 : Int32) (s196 : zsh h 196 = some (12, 39)) (a_lt_p1_0 : zcond .lt p1 0 = true) (i196_2 : h.2.1 196 2 = 0) : zCi (d + 1) mX12_post [.inr (.inr (some 196)), .inl p1] h (fun x h' => x = (-1) ∧ h' = zsI (zsI (zsI (h) 196 0 0) 196 11 0) 196 11 2) := by
  show zEx none (d + 1) mX12_post (0, [(0, .inr (.inr (some 196))), (1, .inl p1)], [], h) _
  refine ex_aload_n (pc' := 1) dX12_post_0 rfl rfl ?_
  refine en_callvV (pc' := 4) (vs := []) (rest := []) (h2 := zsI (zsI (h) 196 0 0) 196 11 0) dX12_post_1 ml_12_167 ⟨zble rfl, zble rfl⟩ rfl rfl s196 (zblt rfl) (zble rfl) rfl (kX12_good_1 _ h s196) ?_
  refine ex_iload_n (pc' := 5) dX12_post_4 rfl rfl ?_
  refine ex_iconst (v := 0) (pc' := 6) dX12_post_5 (by decide) rfl ?_
  refine ex_aload_n (pc' := 7) dX12_post_6 rfl rfl ?_
  refine ex_getI (pc' := 10) (v := 0) dX12_post_7 fl_12_68 (zsiI (zsiI s196)) (by decide) i196_2 rfl ?_
  refine en_callsI (pc' := 13) (vs := [.inl p1, .inl 0, .inl 0]) (rest := []) (h2 := zsI (zsI (h) 196 0 0) 196 11 0) (v := 0) dX12_post_10 ml_12_149 (Or.inl rfl) ⟨zble rfl, zble rfl⟩ rfl rfl (zble rfl) rfl (kX12_in_1 _ (zsI (zsI (h) 196 0 0) 196 11 0) p1 a_lt_p1_0) ?_
  refine ex_if_f (pc' := 16) dX12_post_13 (by decide) (by decide) rfl ?_
  refine ex_aload_n (pc' := 17) dX12_post_16 rfl rfl ?_
  refine ex_iconst (v := 2) (pc' := 18) dX12_post_17 (by decide) rfl ?_
  refine en_callvI (pc' := 21) (vs := [.inl 2]) (rest := []) (h2 := zsI (zsI (zsI (h) 196 0 0) 196 11 0) 196 11 2) (v := (-1)) dX12_post_18 ml_12_170 ⟨zble rfl, zble rfl⟩ rfl rfl (zsiI (zsiI s196)) (zblt rfl) (zble rfl) rfl (kX12_no_1 _ (zsI (zsI (h) 196 0 0) 196 11 0) (zsiI (zsiI s196))) ?_
  exact ex_iretI dX12_post_21 rfl rfl ⟨rfl, rfl⟩
set_option maxRecDepth 10000 in
theorem kX11_post_2 (d : Nat) (h : zH) (p1 : Int32) (s0 : zsh h 0 = some (11, 16)) (a_lt_p1_0 : zcond .lt p1 0 = false) (a_gt_p1_0 : zcond .gt p1 0 = true) (i0_1 : h.2.1 0 1 = 0) : zCi (d + 1) mX11_post [.inr (.inr (some 0)), .inl p1] h (fun x h' => x = (-1) ∧ h' = zsI (h) 0 2 2) := by
  show zEx none (d + 1) mX11_post (0, [(0, .inr (.inr (some 0))), (1, .inl p1)], [], h) _
  refine ex_iload_n (pc' := 1) dX11_post_0 rfl rfl ?_
  refine ex_if_f (pc' := 4) dX11_post_1 a_lt_p1_0 (by decide) rfl ?_
  refine ex_iload_n (pc' := 5) dX11_post_4 rfl rfl ?_
  refine ex_aload_n (pc' := 6) dX11_post_5 rfl rfl ?_
  refine ex_getI (pc' := 9) (v := 0) dX11_post_6 fl_11_13 s0 (by decide) i0_1 rfl ?_
  refine ex_icmp_f (pc' := 12) dX11_post_9 (zk_gt_le a_gt_p1_0) (by decide) rfl ?_
  refine ex_aload_n (pc' := 13) dX11_post_12 rfl rfl ?_
  refine ex_iconst (v := 2) (pc' := 14) dX11_post_13 (by decide) rfl ?_
  refine en_callvI (pc' := 17) (vs := [.inl 2]) (rest := []) (h2 := zsI (h) 0 2 2) (v := (-1)) dX11_post_14 ml_11_98 ⟨zble rfl, zble rfl⟩ rfl rfl s0 (zblt rfl) (zble rfl) rfl (kX11_refused_1 _ h s0) ?_
  exact ex_iretI dX11_post_17 rfl rfl ⟨rfl, rfl⟩
set_option maxRecDepth 10000 in
theorem kX12_in_2 (d : Nat) (h : zH) (p1 : Int32) (a_lt_p1_0 : zcond .lt p1 0 = false) (a_gt_p1_0 : zcond .gt p1 0 = true) : zCi (d + 0) mX12_in [.inl p1, .inl 0, .inl 0] h (fun x h' => x = 0 ∧ h' = h) := by
  show zEx none (d + 0) mX12_in (0, [(0, .inl p1), (1, .inl 0), (2, .inl 0)], [], h) _
  refine ex_iload_n (pc' := 1) dX12_in_0 rfl rfl ?_
  refine ex_iload_n (pc' := 2) dX12_in_1 rfl rfl ?_
  refine ex_icmp_f (pc' := 5) dX12_in_2 a_lt_p1_0 (by decide) rfl ?_
  refine ex_iload_n (pc' := 6) dX12_in_5 rfl rfl ?_
  refine ex_iload_n (pc' := 7) dX12_in_6 rfl rfl ?_
  refine ex_icmp_t (pc' := 14) dX12_in_7 a_gt_p1_0 (by decide) ?_
  refine ex_iconst (v := 0) (pc' := 15) dX12_in_14 (by decide) rfl ?_
  exact ex_iretI dX12_in_15 rfl (by decide) ⟨rfl, rfl⟩
set_option maxRecDepth 10000 in
theorem kX12_post_2 (d : Nat) (h : zH) (p1 : Int32) (s196 : zsh h 196 = some (12, 39)) (a_lt_p1_0 : zcond .lt p1 0 = false) (a_gt_p1_0 : zcond .gt p1 0 = true) (i196_2 : h.2.1 196 2 = 0) : zCi (d + 1) mX12_post [.inr (.inr (some 196)), .inl p1] h (fun x h' => x = (-1) ∧ h' = zsI (zsI (zsI (h) 196 0 0) 196 11 0) 196 11 2) := by
  show zEx none (d + 1) mX12_post (0, [(0, .inr (.inr (some 196))), (1, .inl p1)], [], h) _
  refine ex_aload_n (pc' := 1) dX12_post_0 rfl rfl ?_
  refine en_callvV (pc' := 4) (vs := []) (rest := []) (h2 := zsI (zsI (h) 196 0 0) 196 11 0) dX12_post_1 ml_12_167 ⟨zble rfl, zble rfl⟩ rfl rfl s196 (zblt rfl) (zble rfl) rfl (kX12_good_1 _ h s196) ?_
  refine ex_iload_n (pc' := 5) dX12_post_4 rfl rfl ?_
  refine ex_iconst (v := 0) (pc' := 6) dX12_post_5 (by decide) rfl ?_
  refine ex_aload_n (pc' := 7) dX12_post_6 rfl rfl ?_
  refine ex_getI (pc' := 10) (v := 0) dX12_post_7 fl_12_68 (zsiI (zsiI s196)) (by decide) i196_2 rfl ?_
  refine en_callsI (pc' := 13) (vs := [.inl p1, .inl 0, .inl 0]) (rest := []) (h2 := zsI (zsI (h) 196 0 0) 196 11 0) (v := 0) dX12_post_10 ml_12_149 (Or.inl rfl) ⟨zble rfl, zble rfl⟩ rfl rfl (zble rfl) rfl (kX12_in_2 _ (zsI (zsI (h) 196 0 0) 196 11 0) p1 a_lt_p1_0 a_gt_p1_0) ?_
  refine ex_if_f (pc' := 16) dX12_post_13 (by decide) (by decide) rfl ?_
  refine ex_aload_n (pc' := 17) dX12_post_16 rfl rfl ?_
  refine ex_iconst (v := 2) (pc' := 18) dX12_post_17 (by decide) rfl ?_
  refine en_callvI (pc' := 21) (vs := [.inl 2]) (rest := []) (h2 := zsI (zsI (zsI (h) 196 0 0) 196 11 0) 196 11 2) (v := (-1)) dX12_post_18 ml_12_170 ⟨zble rfl, zble rfl⟩ rfl rfl (zsiI (zsiI s196)) (zblt rfl) (zble rfl) rfl (kX12_no_1 _ (zsI (zsI (h) 196 0 0) 196 11 0) (zsiI (zsiI s196))) ?_
  exact ex_iretI dX12_post_21 rfl rfl ⟨rfl, rfl⟩
set_option maxRecDepth 10000 in
theorem kX11_fault_1 (d : Nat) (h : zH) (s0 : zsh h 0 = some (11, 16)) (s82 : zsh h 82 = some (5, 13)) (i82_11 : h.2.1 82 11 = 0) (r0_5 : h.2.2.2.1 0 5 = some 82) : zCi (d + 0) mX11_fault [.inr (.inr (some 0))] h (fun x h' => x = 0 ∧ h' = h) := by
  show zEx none (d + 0) mX11_fault (0, [(0, .inr (.inr (some 0)))], [], h) _
  refine ex_aload_n (pc' := 1) dX11_fault_0 rfl rfl ?_
  refine ex_getR (pc' := 4) (r := 82) dX11_fault_1 fl_11_35 s0 (by decide) r0_5 rfl ?_
  refine ex_getI (pc' := 7) (v := 0) dX11_fault_4 fl_11_115 s82 (by decide) i82_11 rfl ?_
  exact ex_iretI dX11_fault_7 rfl rfl ⟨rfl, rfl⟩
set_option maxRecDepth 10000 in
theorem kX12_fault_1 (d : Nat) (h : zH) (s196 : zsh h 196 = some (12, 39)) (i196_9 : h.2.1 196 9 = 0) : zCi (d + 0) mX12_fault [.inr (.inr (some 196))] h (fun x h' => x = 0 ∧ h' = zsI (h) 196 0 0) := by
  show zEx none (d + 0) mX12_fault (0, [(0, .inr (.inr (some 196)))], [], h) _
  refine ex_aload_n (pc' := 1) dX12_fault_0 rfl rfl ?_
  refine ex_iconst (v := 0) (pc' := 2) dX12_fault_1 (by decide) rfl ?_
  refine ex_putI (pc' := 5) dX12_fault_2 fl_12_62 s196 (Or.inl rfl) (Or.inl rfl) rfl ?_
  refine ex_aload_n (pc' := 6) dX12_fault_5 rfl rfl ?_
  refine ex_getI (pc' := 9) (v := 0) dX12_fault_6 fl_12_104 (zsiI s196) (by decide) i196_9 rfl ?_
  exact ex_iretI dX12_fault_9 rfl rfl ⟨rfl, rfl⟩
set_option maxRecDepth 10000 in
theorem kX11_where_1 (d : Nat) (h : zH) (s0 : zsh h 0 = some (11, 16)) (i0_2 : h.2.1 0 2 = 0) : zCi (d + 0) mX11_where [.inr (.inr (some 0))] h (fun x h' => x = (-1) ∧ h' = h) := by
  show zEx none (d + 0) mX11_where (0, [(0, .inr (.inr (some 0)))], [], h) _
  refine ex_aload_n (pc' := 1) dX11_where_0 rfl rfl ?_
  refine ex_getI (pc' := 4) (v := 0) dX11_where_1 fl_11_17 s0 (by decide) i0_2 rfl ?_
  refine ex_iconst (v := 4) (pc' := 5) dX11_where_4 (by decide) rfl ?_
  refine ex_icmp_t (pc' := 18) dX11_where_5 (by decide) (by decide) ?_
  refine ex_iconst (v := (-1)) (pc' := 19) dX11_where_18 (by decide) rfl ?_
  exact ex_iretI dX11_where_19 rfl rfl ⟨rfl, rfl⟩
set_option maxRecDepth 10000 in
theorem kX12_where_1 (d : Nat) (h : zH) (s196 : zsh h 196 = some (12, 39)) (i196_11 : h.2.1 196 11 = 0) : zCi (d + 0) mX12_where [.inr (.inr (some 196))] h (fun x h' => x = (-1) ∧ h' = zsI (h) 196 0 0) := by
  show zEx none (d + 0) mX12_where (0, [(0, .inr (.inr (some 196)))], [], h) _
  refine ex_aload_n (pc' := 1) dX12_where_0 rfl rfl ?_
  refine ex_iconst (v := 0) (pc' := 2) dX12_where_1 (by decide) rfl ?_
  refine ex_putI (pc' := 5) dX12_where_2 fl_12_62 s196 (Or.inl rfl) (Or.inl rfl) rfl ?_
  refine ex_aload_n (pc' := 6) dX12_where_5 rfl rfl ?_
  refine ex_getI (pc' := 9) (v := 0) dX12_where_6 fl_12_65 (zsiI s196) (by decide) i196_11 rfl ?_
  refine ex_iconst (v := 4) (pc' := 10) dX12_where_9 (by decide) rfl ?_
  refine ex_icmp_t (pc' := 20) dX12_where_10 (by decide) (by decide) ?_
  refine ex_iconst (v := (-1)) (pc' := 21) dX12_where_20 (by decide) rfl ?_
  exact ex_iretI dX12_where_21 rfl rfl ⟨rfl, rfl⟩
set_option maxRecDepth 10000 in
theorem kX11_isWhale_1 (d : Nat) (h : zH) (p1 : Int32) (s0 : zsh h 0 = some (11, 16)) (s2 : zsh h 2 = some (4, 15)) (i2_6 : h.2.1 2 6 = 0) (r0_3 : h.2.2.2.1 0 3 = some 2) : zCi (d + 0) mX11_isWhale [.inr (.inr (some 0)), .inl p1] h (fun x h' => x = 0 ∧ h' = h) := by
  show zEx none (d + 0) mX11_isWhale (0, [(0, .inr (.inr (some 0))), (1, .inl p1)], [], h) _
  refine ex_iload_n (pc' := 1) dX11_isWhale_0 rfl rfl ?_
  refine ex_if (pc' := 19) (pc2 := 4) dX11_isWhale_1 (by decide) rfl (fun c70 => ?_) (fun c70 => ?_)
  · refine ex_iconst (v := 0) (pc' := 20) dX11_isWhale_19 (by decide) rfl ?_
    exact ex_iretI dX11_isWhale_20 rfl (by decide) ⟨rfl, rfl⟩
  · refine ex_iload_n (pc' := 5) dX11_isWhale_4 rfl rfl ?_
    refine ex_aload_n (pc' := 6) dX11_isWhale_5 rfl rfl ?_
    refine ex_getR (pc' := 9) (r := 2) dX11_isWhale_6 fl_11_23 s0 (by decide) r0_3 rfl ?_
    refine ex_getI (pc' := 12) (v := 0) dX11_isWhale_9 fl_11_382 s2 (by decide) i2_6 rfl ?_
    refine ex_icmp_t (pc' := 19) dX11_isWhale_12 (zk_lt_ge c70) (by decide) ?_
    refine ex_iconst (v := 0) (pc' := 20) dX11_isWhale_19 (by decide) rfl ?_
    exact ex_iretI dX11_isWhale_20 rfl (by decide) ⟨rfl, rfl⟩
set_option maxRecDepth 10000 in
theorem kX11_refused_2 (d : Nat) (h : zH) (s0 : zsh h 0 = some (11, 16)) : zCi (d + 0) mX11_refused [.inr (.inr (some 0)), .inl 1] h (fun x h' => x = (-1) ∧ h' = zsI (h) 0 2 1) := by
  show zEx none (d + 0) mX11_refused (0, [(0, .inr (.inr (some 0))), (1, .inl 1)], [], h) _
  refine ex_aload_n (pc' := 1) dX11_refused_0 rfl rfl ?_
  refine ex_iload_n (pc' := 2) dX11_refused_1 rfl rfl ?_
  refine ex_putI (pc' := 5) dX11_refused_2 fl_11_17 s0 (Or.inl rfl) (Or.inl rfl) rfl ?_
  refine ex_iconst (v := (-1)) (pc' := 6) dX11_refused_5 (by decide) rfl ?_
  exact ex_iretI dX11_refused_6 rfl rfl ⟨rfl, rfl⟩
set_option maxRecDepth 10000 in
theorem kX11_whale_1 (d : Nat) (h : zH) (p1 p2 : Int32) (s0 : zsh h 0 = some (11, 16)) (s2 : zsh h 2 = some (4, 15)) (i2_6 : h.2.1 2 6 = 0) (r0_3 : h.2.2.2.1 0 3 = some 2) : zCi (d + 1) mX11_whale [.inr (.inr (some 0)), .inl p1, .inl p2] h (fun x h' => x = (-1) ∧ h' = zsI (h) 0 2 1) := by
  show zEx none (d + 1) mX11_whale (0, [(0, .inr (.inr (some 0))), (1, .inl p1), (2, .inl p2)], [], h) _
  refine ex_aload_n (pc' := 1) dX11_whale_0 rfl rfl ?_
  refine ex_iload_n (pc' := 2) dX11_whale_1 rfl rfl ?_
  refine en_callvI (pc' := 5) (vs := [.inl p1]) (rest := []) (h2 := h) (v := 0) dX11_whale_2 ml_11_121 ⟨zble rfl, zble rfl⟩ rfl rfl s0 (zblt rfl) (zble rfl) rfl (kX11_isWhale_1 _ h p1 s0 s2 i2_6 r0_3) ?_
  refine ex_if_f (pc' := 8) dX11_whale_5 (by decide) (by decide) rfl ?_
  refine ex_aload_n (pc' := 9) dX11_whale_8 rfl rfl ?_
  refine ex_iconst (v := 1) (pc' := 10) dX11_whale_9 (by decide) rfl ?_
  refine en_callvI (pc' := 13) (vs := [.inl 1]) (rest := []) (h2 := zsI (h) 0 2 1) (v := (-1)) dX11_whale_10 ml_11_98 ⟨zble rfl, zble rfl⟩ rfl rfl s0 (zblt rfl) (zble rfl) rfl (kX11_refused_2 _ h s0) ?_
  exact ex_iretI dX11_whale_13 rfl rfl ⟨rfl, rfl⟩
set_option maxRecDepth 10000 in
theorem kX12_isWhale_1 (d : Nat) (h : zH) (p1 : Int32) (s196 : zsh h 196 = some (12, 39)) (i196_14 : h.2.1 196 14 = 0) : zCi (d + 0) mX12_isWhale [.inr (.inr (some 196)), .inl p1] h (fun x h' => x = 0 ∧ h' = h) := by
  show zEx none (d + 0) mX12_isWhale (0, [(0, .inr (.inr (some 196))), (1, .inl p1)], [], h) _
  refine ex_aload_n (pc' := 1) dX12_isWhale_0 rfl rfl ?_
  refine ex_getI (pc' := 4) (v := 0) dX12_isWhale_1 fl_12_180 s196 (by decide) i196_14 rfl ?_
  refine ex_if_t (pc' := 28) dX12_isWhale_4 (by decide) (by decide) ?_
  refine ex_iconst (v := 0) (pc' := 29) dX12_isWhale_28 (by decide) rfl ?_
  exact ex_iretI dX12_isWhale_29 rfl (by decide) ⟨rfl, rfl⟩
set_option maxRecDepth 10000 in
theorem kX12_no_2 (d : Nat) (h : zH) (s196 : zsh h 196 = some (12, 39)) : zCi (d + 0) mX12_no [.inr (.inr (some 196)), .inl 1] h (fun x h' => x = (-1) ∧ h' = zsI (h) 196 11 1) := by
  show zEx none (d + 0) mX12_no (0, [(0, .inr (.inr (some 196))), (1, .inl 1)], [], h) _
  refine ex_aload_n (pc' := 1) dX12_no_0 rfl rfl ?_
  refine ex_iload_n (pc' := 2) dX12_no_1 rfl rfl ?_
  refine ex_putI (pc' := 5) dX12_no_2 fl_12_65 s196 (Or.inl rfl) (Or.inl rfl) rfl ?_
  refine ex_iconst (v := (-1)) (pc' := 6) dX12_no_5 (by decide) rfl ?_
  exact ex_iretI dX12_no_6 rfl rfl ⟨rfl, rfl⟩
set_option maxRecDepth 10000 in
theorem kX12_whale_1 (d : Nat) (h : zH) (p1 p2 : Int32) (s196 : zsh h 196 = some (12, 39)) (i196_14 : h.2.1 196 14 = 0) : zCi (d + 1) mX12_whale [.inr (.inr (some 196)), .inl p1, .inl p2] h (fun x h' => x = (-1) ∧ h' = zsI (zsI (zsI (h) 196 0 0) 196 11 0) 196 11 1) := by
  show zEx none (d + 1) mX12_whale (0, [(0, .inr (.inr (some 196))), (1, .inl p1), (2, .inl p2)], [], h) _
  refine ex_aload_n (pc' := 1) dX12_whale_0 rfl rfl ?_
  refine en_callvV (pc' := 4) (vs := []) (rest := []) (h2 := zsI (zsI (h) 196 0 0) 196 11 0) dX12_whale_1 ml_12_167 ⟨zble rfl, zble rfl⟩ rfl rfl s196 (zblt rfl) (zble rfl) rfl (kX12_good_1 _ h s196) ?_
  refine ex_aload_n (pc' := 5) dX12_whale_4 rfl rfl ?_
  refine ex_iload_n (pc' := 6) dX12_whale_5 rfl rfl ?_
  refine en_callvI (pc' := 9) (vs := [.inl p1]) (rest := []) (h2 := zsI (zsI (h) 196 0 0) 196 11 0) (v := 0) dX12_whale_6 ml_12_268 ⟨zble rfl, zble rfl⟩ rfl rfl (zsiI (zsiI s196)) (zblt rfl) (zble rfl) rfl (kX12_isWhale_1 _ (zsI (zsI (h) 196 0 0) 196 11 0) p1 (zsiI (zsiI s196)) i196_14) ?_
  refine ex_if_t (pc' := 21) dX12_whale_9 (by decide) (by decide) ?_
  refine ex_aload_n (pc' := 22) dX12_whale_21 rfl rfl ?_
  refine ex_iconst (v := 1) (pc' := 23) dX12_whale_22 (by decide) rfl ?_
  refine en_callvI (pc' := 26) (vs := [.inl 1]) (rest := []) (h2 := zsI (zsI (zsI (h) 196 0 0) 196 11 0) 196 11 1) (v := (-1)) dX12_whale_23 ml_12_170 ⟨zble rfl, zble rfl⟩ rfl rfl (zsiI (zsiI s196)) (zblt rfl) (zble rfl) rfl (kX12_no_2 _ (zsI (zsI (h) 196 0 0) 196 11 0) (zsiI (zsiI s196))) ?_
  exact ex_iretI dX12_whale_26 rfl rfl ⟨rfl, rfl⟩
set_option maxRecDepth 10000 in
theorem kX11_isBox_1 (d : Nat) (h : zH) (p1 : Int32) (s0 : zsh h 0 = some (11, 16)) (s2 : zsh h 2 = some (4, 15)) (i2_7 : h.2.1 2 7 = 0) (r0_3 : h.2.2.2.1 0 3 = some 2) : zCi (d + 0) mX11_isBox [.inr (.inr (some 0)), .inl p1] h (fun x h' => x = 0 ∧ h' = h) := by
  show zEx none (d + 0) mX11_isBox (0, [(0, .inr (.inr (some 0))), (1, .inl p1)], [], h) _
  refine ex_iload_n (pc' := 1) dX11_isBox_0 rfl rfl ?_
  refine ex_if (pc' := 19) (pc2 := 4) dX11_isBox_1 (by decide) rfl (fun c92 => ?_) (fun c92 => ?_)
  · refine ex_iconst (v := 0) (pc' := 20) dX11_isBox_19 (by decide) rfl ?_
    exact ex_iretI dX11_isBox_20 rfl (by decide) ⟨rfl, rfl⟩
  · refine ex_iload_n (pc' := 5) dX11_isBox_4 rfl rfl ?_
    refine ex_aload_n (pc' := 6) dX11_isBox_5 rfl rfl ?_
    refine ex_getR (pc' := 9) (r := 2) dX11_isBox_6 fl_11_23 s0 (by decide) r0_3 rfl ?_
    refine ex_getI (pc' := 12) (v := 0) dX11_isBox_9 fl_11_239 s2 (by decide) i2_7 rfl ?_
    refine ex_icmp_t (pc' := 19) dX11_isBox_12 (zk_lt_ge c92) (by decide) ?_
    refine ex_iconst (v := 0) (pc' := 20) dX11_isBox_19 (by decide) rfl ?_
    exact ex_iretI dX11_isBox_20 rfl (by decide) ⟨rfl, rfl⟩
set_option maxRecDepth 10000 in
theorem kX11_box_1 (d : Nat) (h : zH) (p1 p2 : Int32) (s0 : zsh h 0 = some (11, 16)) (s2 : zsh h 2 = some (4, 15)) (i2_7 : h.2.1 2 7 = 0) (r0_3 : h.2.2.2.1 0 3 = some 2) : zCi (d + 1) mX11_box [.inr (.inr (some 0)), .inl p1, .inl p2] h (fun x h' => x = (-1) ∧ h' = zsI (h) 0 2 1) := by
  show zEx none (d + 1) mX11_box (0, [(0, .inr (.inr (some 0))), (1, .inl p1), (2, .inl p2)], [], h) _
  refine ex_aload_n (pc' := 1) dX11_box_0 rfl rfl ?_
  refine ex_iload_n (pc' := 2) dX11_box_1 rfl rfl ?_
  refine en_callvI (pc' := 5) (vs := [.inl p1]) (rest := []) (h2 := h) (v := 0) dX11_box_2 ml_11_147 ⟨zble rfl, zble rfl⟩ rfl rfl s0 (zblt rfl) (zble rfl) rfl (kX11_isBox_1 _ h p1 s0 s2 i2_7 r0_3) ?_
  refine ex_if_f (pc' := 8) dX11_box_5 (by decide) (by decide) rfl ?_
  refine ex_aload_n (pc' := 9) dX11_box_8 rfl rfl ?_
  refine ex_iconst (v := 1) (pc' := 10) dX11_box_9 (by decide) rfl ?_
  refine en_callvI (pc' := 13) (vs := [.inl 1]) (rest := []) (h2 := zsI (h) 0 2 1) (v := (-1)) dX11_box_10 ml_11_98 ⟨zble rfl, zble rfl⟩ rfl rfl s0 (zblt rfl) (zble rfl) rfl (kX11_refused_2 _ h s0) ?_
  exact ex_iretI dX11_box_13 rfl rfl ⟨rfl, rfl⟩
set_option maxRecDepth 10000 in
theorem kX12_isBox_1 (d : Nat) (h : zH) (p1 : Int32) (s196 : zsh h 196 = some (12, 39)) (i196_14 : h.2.1 196 14 = 0) : zCi (d + 0) mX12_isBox [.inr (.inr (some 196)), .inl p1] h (fun x h' => x = 0 ∧ h' = h) := by
  show zEx none (d + 0) mX12_isBox (0, [(0, .inr (.inr (some 196))), (1, .inl p1)], [], h) _
  refine ex_aload_n (pc' := 1) dX12_isBox_0 rfl rfl ?_
  refine ex_getI (pc' := 4) (v := 0) dX12_isBox_1 fl_12_180 s196 (by decide) i196_14 rfl ?_
  refine ex_if_t (pc' := 28) dX12_isBox_4 (by decide) (by decide) ?_
  refine ex_iconst (v := 0) (pc' := 29) dX12_isBox_28 (by decide) rfl ?_
  exact ex_iretI dX12_isBox_29 rfl (by decide) ⟨rfl, rfl⟩
set_option maxRecDepth 10000 in
theorem kX12_box_1 (d : Nat) (h : zH) (p1 p2 : Int32) (s196 : zsh h 196 = some (12, 39)) (i196_14 : h.2.1 196 14 = 0) : zCi (d + 1) mX12_box [.inr (.inr (some 196)), .inl p1, .inl p2] h (fun x h' => x = (-1) ∧ h' = zsI (zsI (zsI (h) 196 0 0) 196 11 0) 196 11 1) := by
  show zEx none (d + 1) mX12_box (0, [(0, .inr (.inr (some 196))), (1, .inl p1), (2, .inl p2)], [], h) _
  refine ex_aload_n (pc' := 1) dX12_box_0 rfl rfl ?_
  refine en_callvV (pc' := 4) (vs := []) (rest := []) (h2 := zsI (zsI (h) 196 0 0) 196 11 0) dX12_box_1 ml_12_167 ⟨zble rfl, zble rfl⟩ rfl rfl s196 (zblt rfl) (zble rfl) rfl (kX12_good_1 _ h s196) ?_
  refine ex_aload_n (pc' := 5) dX12_box_4 rfl rfl ?_
  refine ex_iload_n (pc' := 6) dX12_box_5 rfl rfl ?_
  refine en_callvI (pc' := 9) (vs := [.inl p1]) (rest := []) (h2 := zsI (zsI (h) 196 0 0) 196 11 0) (v := 0) dX12_box_6 ml_12_274 ⟨zble rfl, zble rfl⟩ rfl rfl (zsiI (zsiI s196)) (zblt rfl) (zble rfl) rfl (kX12_isBox_1 _ (zsI (zsI (h) 196 0 0) 196 11 0) p1 (zsiI (zsiI s196)) i196_14) ?_
  refine ex_if_t (pc' := 21) dX12_box_9 (by decide) (by decide) ?_
  refine ex_aload_n (pc' := 22) dX12_box_21 rfl rfl ?_
  refine ex_iconst (v := 1) (pc' := 23) dX12_box_22 (by decide) rfl ?_
  refine en_callvI (pc' := 26) (vs := [.inl 1]) (rest := []) (h2 := zsI (zsI (zsI (h) 196 0 0) 196 11 0) 196 11 1) (v := (-1)) dX12_box_23 ml_12_170 ⟨zble rfl, zble rfl⟩ rfl rfl (zsiI (zsiI s196)) (zblt rfl) (zble rfl) rfl (kX12_no_2 _ (zsI (zsI (h) 196 0 0) 196 11 0) (zsiI (zsiI s196))) ?_
  exact ex_iretI dX12_box_26 rfl rfl ⟨rfl, rfl⟩
set_option maxRecDepth 10000 in
theorem kX11_isIsland_1 (d : Nat) (h : zH) (p1 : Int32) (s0 : zsh h 0 = some (11, 16)) (s2 : zsh h 2 = some (4, 15)) (i2_4 : h.2.1 2 4 = 0) (r0_3 : h.2.2.2.1 0 3 = some 2) : zCi (d + 0) mX11_isIsland [.inr (.inr (some 0)), .inl p1] h (fun x h' => x = 0 ∧ h' = h) := by
  show zEx none (d + 0) mX11_isIsland (0, [(0, .inr (.inr (some 0))), (1, .inl p1)], [], h) _
  refine ex_iload_n (pc' := 1) dX11_isIsland_0 rfl rfl ?_
  refine ex_if (pc' := 19) (pc2 := 4) dX11_isIsland_1 (by decide) rfl (fun c114 => ?_) (fun c114 => ?_)
  · refine ex_iconst (v := 0) (pc' := 20) dX11_isIsland_19 (by decide) rfl ?_
    exact ex_iretI dX11_isIsland_20 rfl (by decide) ⟨rfl, rfl⟩
  · refine ex_iload_n (pc' := 5) dX11_isIsland_4 rfl rfl ?_
    refine ex_aload_n (pc' := 6) dX11_isIsland_5 rfl rfl ?_
    refine ex_getR (pc' := 9) (r := 2) dX11_isIsland_6 fl_11_23 s0 (by decide) r0_3 rfl ?_
    refine ex_getI (pc' := 12) (v := 0) dX11_isIsland_9 fl_11_109 s2 (by decide) i2_4 rfl ?_
    refine ex_icmp_t (pc' := 19) dX11_isIsland_12 (zk_lt_ge c114) (by decide) ?_
    refine ex_iconst (v := 0) (pc' := 20) dX11_isIsland_19 (by decide) rfl ?_
    exact ex_iretI dX11_isIsland_20 rfl (by decide) ⟨rfl, rfl⟩
set_option maxRecDepth 10000 in
theorem kX11_length_1 (d : Nat) (h : zH) (p1 : Int32) (s0 : zsh h 0 = some (11, 16)) (s2 : zsh h 2 = some (4, 15)) (i2_4 : h.2.1 2 4 = 0) (r0_3 : h.2.2.2.1 0 3 = some 2) : zCi (d + 1) mX11_length [.inr (.inr (some 0)), .inl p1] h (fun x h' => x = (-1) ∧ h' = zsI (h) 0 2 1) := by
  show zEx none (d + 1) mX11_length (0, [(0, .inr (.inr (some 0))), (1, .inl p1)], [], h) _
  refine ex_aload_n (pc' := 1) dX11_length_0 rfl rfl ?_
  refine ex_iload_n (pc' := 2) dX11_length_1 rfl rfl ?_
  refine en_callvI (pc' := 5) (vs := [.inl p1]) (rest := []) (h2 := h) (v := 0) dX11_length_2 ml_11_174 ⟨zble rfl, zble rfl⟩ rfl rfl s0 (zblt rfl) (zble rfl) rfl (kX11_isIsland_1 _ h p1 s0 s2 i2_4 r0_3) ?_
  refine ex_if_t (pc' := 24) dX11_length_5 (by decide) (by decide) ?_
  refine ex_aload_n (pc' := 25) dX11_length_24 rfl rfl ?_
  refine ex_iconst (v := 1) (pc' := 26) dX11_length_25 (by decide) rfl ?_
  refine en_callvI (pc' := 29) (vs := [.inl 1]) (rest := []) (h2 := zsI (h) 0 2 1) (v := (-1)) dX11_length_26 ml_11_98 ⟨zble rfl, zble rfl⟩ rfl rfl s0 (zblt rfl) (zble rfl) rfl (kX11_refused_2 _ h s0) ?_
  exact ex_iretI dX11_length_29 rfl rfl ⟨rfl, rfl⟩
set_option maxRecDepth 10000 in
theorem kX12_isIsland_1 (d : Nat) (h : zH) (p1 : Int32) (s196 : zsh h 196 = some (12, 39)) (i196_14 : h.2.1 196 14 = 0) : zCi (d + 0) mX12_isIsland [.inr (.inr (some 196)), .inl p1] h (fun x h' => x = 0 ∧ h' = h) := by
  show zEx none (d + 0) mX12_isIsland (0, [(0, .inr (.inr (some 196))), (1, .inl p1)], [], h) _
  refine ex_aload_n (pc' := 1) dX12_isIsland_0 rfl rfl ?_
  refine ex_getI (pc' := 4) (v := 0) dX12_isIsland_1 fl_12_180 s196 (by decide) i196_14 rfl ?_
  refine ex_if_t (pc' := 27) dX12_isIsland_4 (by decide) (by decide) ?_
  refine ex_iconst (v := 0) (pc' := 28) dX12_isIsland_27 (by decide) rfl ?_
  exact ex_iretI dX12_isIsland_28 rfl (by decide) ⟨rfl, rfl⟩
set_option maxRecDepth 10000 in
theorem kX12_length_1 (d : Nat) (h : zH) (p1 : Int32) (s196 : zsh h 196 = some (12, 39)) (i196_14 : h.2.1 196 14 = 0) : zCi (d + 1) mX12_length [.inr (.inr (some 196)), .inl p1] h (fun x h' => x = (-1) ∧ h' = zsI (zsI (zsI (h) 196 0 0) 196 11 0) 196 11 1) := by
  show zEx none (d + 1) mX12_length (0, [(0, .inr (.inr (some 196))), (1, .inl p1)], [], h) _
  refine ex_aload_n (pc' := 1) dX12_length_0 rfl rfl ?_
  refine en_callvV (pc' := 4) (vs := []) (rest := []) (h2 := zsI (zsI (h) 196 0 0) 196 11 0) dX12_length_1 ml_12_167 ⟨zble rfl, zble rfl⟩ rfl rfl s196 (zblt rfl) (zble rfl) rfl (kX12_good_1 _ h s196) ?_
  refine ex_aload_n (pc' := 5) dX12_length_4 rfl rfl ?_
  refine ex_iload_n (pc' := 6) dX12_length_5 rfl rfl ?_
  refine en_callvI (pc' := 9) (vs := [.inl p1]) (rest := []) (h2 := zsI (zsI (h) 196 0 0) 196 11 0) (v := 0) dX12_length_6 ml_12_277 ⟨zble rfl, zble rfl⟩ rfl rfl (zsiI (zsiI s196)) (zblt rfl) (zble rfl) rfl (kX12_isIsland_1 _ (zsI (zsI (h) 196 0 0) 196 11 0) p1 (zsiI (zsiI s196)) i196_14) ?_
  refine ex_if_t (pc' := 20) dX12_length_9 (by decide) (by decide) ?_
  refine ex_aload_n (pc' := 21) dX12_length_20 rfl rfl ?_
  refine ex_iconst (v := 1) (pc' := 22) dX12_length_21 (by decide) rfl ?_
  refine en_callvI (pc' := 25) (vs := [.inl 1]) (rest := []) (h2 := zsI (zsI (zsI (h) 196 0 0) 196 11 0) 196 11 1) (v := (-1)) dX12_length_22 ml_12_170 ⟨zble rfl, zble rfl⟩ rfl rfl (zsiI (zsiI s196)) (zblt rfl) (zble rfl) rfl (kX12_no_2 _ (zsI (zsI (h) 196 0 0) 196 11 0) (zsiI (zsiI s196))) ?_
  exact ex_iretI dX12_length_25 rfl rfl ⟨rfl, rfl⟩
set_option maxRecDepth 10000 in
theorem kX11_note_1 (d : Nat) (h : zH) (p1 p2 : Int32) (s0 : zsh h 0 = some (11, 16)) (s2 : zsh h 2 = some (4, 15)) (i2_4 : h.2.1 2 4 = 0) (r0_3 : h.2.2.2.1 0 3 = some 2) : zCi (d + 1) mX11_note [.inr (.inr (some 0)), .inl p1, .inl p2] h (fun x h' => x = (-1) ∧ h' = zsI (h) 0 2 1) := by
  show zEx none (d + 1) mX11_note (0, [(0, .inr (.inr (some 0))), (1, .inl p1), (2, .inl p2)], [], h) _
  refine ex_aload_n (pc' := 1) dX11_note_0 rfl rfl ?_
  refine ex_iload_n (pc' := 2) dX11_note_1 rfl rfl ?_
  refine en_callvI (pc' := 5) (vs := [.inl p1]) (rest := []) (h2 := h) (v := 0) dX11_note_2 ml_11_174 ⟨zble rfl, zble rfl⟩ rfl rfl s0 (zblt rfl) (zble rfl) rfl (kX11_isIsland_1 _ h p1 s0 s2 i2_4 r0_3) ?_
  refine ex_if_t (pc' := 25) dX11_note_5 (by decide) (by decide) ?_
  refine ex_aload_n (pc' := 26) dX11_note_25 rfl rfl ?_
  refine ex_iconst (v := 1) (pc' := 27) dX11_note_26 (by decide) rfl ?_
  refine en_callvI (pc' := 30) (vs := [.inl 1]) (rest := []) (h2 := zsI (h) 0 2 1) (v := (-1)) dX11_note_27 ml_11_98 ⟨zble rfl, zble rfl⟩ rfl rfl s0 (zblt rfl) (zble rfl) rfl (kX11_refused_2 _ h s0) ?_
  exact ex_iretI dX11_note_30 rfl rfl ⟨rfl, rfl⟩
set_option maxRecDepth 10000 in
theorem kX12_note_1 (d : Nat) (h : zH) (p1 p2 : Int32) (s196 : zsh h 196 = some (12, 39)) (i196_14 : h.2.1 196 14 = 0) : zCi (d + 1) mX12_note [.inr (.inr (some 196)), .inl p1, .inl p2] h (fun x h' => x = (-1) ∧ h' = zsI (zsI (zsI (h) 196 0 0) 196 11 0) 196 11 1) := by
  show zEx none (d + 1) mX12_note (0, [(0, .inr (.inr (some 196))), (1, .inl p1), (2, .inl p2)], [], h) _
  refine ex_aload_n (pc' := 1) dX12_note_0 rfl rfl ?_
  refine en_callvV (pc' := 4) (vs := []) (rest := []) (h2 := zsI (zsI (h) 196 0 0) 196 11 0) dX12_note_1 ml_12_167 ⟨zble rfl, zble rfl⟩ rfl rfl s196 (zblt rfl) (zble rfl) rfl (kX12_good_1 _ h s196) ?_
  refine ex_aload_n (pc' := 5) dX12_note_4 rfl rfl ?_
  refine ex_iload_n (pc' := 6) dX12_note_5 rfl rfl ?_
  refine en_callvI (pc' := 9) (vs := [.inl p1]) (rest := []) (h2 := zsI (zsI (h) 196 0 0) 196 11 0) (v := 0) dX12_note_6 ml_12_277 ⟨zble rfl, zble rfl⟩ rfl rfl (zsiI (zsiI s196)) (zblt rfl) (zble rfl) rfl (kX12_isIsland_1 _ (zsI (zsI (h) 196 0 0) 196 11 0) p1 (zsiI (zsiI s196)) i196_14) ?_
  refine ex_if_t (pc' := 42) dX12_note_9 (by decide) (by decide) ?_
  refine ex_aload_n (pc' := 43) dX12_note_42 rfl rfl ?_
  refine ex_iconst (v := 1) (pc' := 44) dX12_note_43 (by decide) rfl ?_
  refine en_callvI (pc' := 47) (vs := [.inl 1]) (rest := []) (h2 := zsI (zsI (zsI (h) 196 0 0) 196 11 0) 196 11 1) (v := (-1)) dX12_note_44 ml_12_170 ⟨zble rfl, zble rfl⟩ rfl rfl (zsiI (zsiI s196)) (zblt rfl) (zble rfl) rfl (kX12_no_2 _ (zsI (zsI (h) 196 0 0) 196 11 0) (zsiI (zsiI s196))) ?_
  exact ex_iretI dX12_note_47 rfl rfl ⟨rfl, rfl⟩
set_option maxRecDepth 10000 in
theorem kX11_isNoteOfBox_1 (d : Nat) (h : zH) (p1 p2 : Int32) (s0 : zsh h 0 = some (11, 16)) (s2 : zsh h 2 = some (4, 15)) (i2_7 : h.2.1 2 7 = 0) (r0_3 : h.2.2.2.1 0 3 = some 2) : zCi (d + 1) mX11_isNoteOfBox [.inr (.inr (some 0)), .inl p1, .inl p2] h (fun x h' => x = 0 ∧ h' = h) := by
  show zEx none (d + 1) mX11_isNoteOfBox (0, [(0, .inr (.inr (some 0))), (1, .inl p1), (2, .inl p2)], [], h) _
  refine ex_aload_n (pc' := 1) dX11_isNoteOfBox_0 rfl rfl ?_
  refine ex_iload_n (pc' := 2) dX11_isNoteOfBox_1 rfl rfl ?_
  refine en_callvI (pc' := 5) (vs := [.inl p1]) (rest := []) (h2 := h) (v := 0) dX11_isNoteOfBox_2 ml_11_147 ⟨zble rfl, zble rfl⟩ rfl rfl s0 (zblt rfl) (zble rfl) rfl (kX11_isBox_1 _ h p1 s0 s2 i2_7 r0_3) ?_
  refine ex_if_t (pc' := 28) dX11_isNoteOfBox_5 (by decide) (by decide) ?_
  refine ex_iconst (v := 0) (pc' := 29) dX11_isNoteOfBox_28 (by decide) rfl ?_
  exact ex_iretI dX11_isNoteOfBox_29 rfl (by decide) ⟨rfl, rfl⟩
set_option maxRecDepth 10000 in
theorem kX11_sung_1 (d : Nat) (h : zH) (p1 p2 : Int32) (s0 : zsh h 0 = some (11, 16)) (s2 : zsh h 2 = some (4, 15)) (i2_7 : h.2.1 2 7 = 0) (r0_3 : h.2.2.2.1 0 3 = some 2) : zCi (d + 2) mX11_sung [.inr (.inr (some 0)), .inl p1, .inl p2] h (fun x h' => x = (-1) ∧ h' = zsI (h) 0 2 1) := by
  show zEx none (d + 2) mX11_sung (0, [(0, .inr (.inr (some 0))), (1, .inl p1), (2, .inl p2)], [], h) _
  refine ex_aload_n (pc' := 1) dX11_sung_0 rfl rfl ?_
  refine ex_iload_n (pc' := 2) dX11_sung_1 rfl rfl ?_
  refine ex_iload_n (pc' := 3) dX11_sung_2 rfl rfl ?_
  refine en_callvI (pc' := 6) (vs := [.inl p1, .inl p2]) (rest := []) (h2 := h) (v := 0) dX11_sung_3 ml_11_191 ⟨zble rfl, zble rfl⟩ rfl rfl s0 (zblt rfl) (zble rfl) rfl (kX11_isNoteOfBox_1 _ h p1 p2 s0 s2 i2_7 r0_3) ?_
  refine ex_if_f (pc' := 9) dX11_sung_6 (by decide) (by decide) rfl ?_
  refine ex_aload_n (pc' := 10) dX11_sung_9 rfl rfl ?_
  refine ex_iconst (v := 1) (pc' := 11) dX11_sung_10 (by decide) rfl ?_
  refine en_callvI (pc' := 14) (vs := [.inl 1]) (rest := []) (h2 := zsI (h) 0 2 1) (v := (-1)) dX11_sung_11 ml_11_98 ⟨zble rfl, zble rfl⟩ rfl rfl s0 (zblt rfl) (zble rfl) rfl (kX11_refused_2 _ h s0) ?_
  exact ex_iretI dX11_sung_14 rfl rfl ⟨rfl, rfl⟩
set_option maxRecDepth 10000 in
theorem kX12_sung_1 (d : Nat) (h : zH) (p1 p2 : Int32) (s196 : zsh h 196 = some (12, 39)) (i196_14 : h.2.1 196 14 = 0) : zCi (d + 1) mX12_sung [.inr (.inr (some 196)), .inl p1, .inl p2] h (fun x h' => x = (-1) ∧ h' = zsI (zsI (zsI (h) 196 0 0) 196 11 0) 196 11 1) := by
  show zEx none (d + 1) mX12_sung (0, [(0, .inr (.inr (some 196))), (1, .inl p1), (2, .inl p2)], [], h) _
  refine ex_aload_n (pc' := 1) dX12_sung_0 rfl rfl ?_
  refine en_callvV (pc' := 4) (vs := []) (rest := []) (h2 := zsI (zsI (h) 196 0 0) 196 11 0) dX12_sung_1 ml_12_167 ⟨zble rfl, zble rfl⟩ rfl rfl s196 (zblt rfl) (zble rfl) rfl (kX12_good_1 _ h s196) ?_
  refine ex_aload_n (pc' := 5) dX12_sung_4 rfl rfl ?_
  refine ex_iload_n (pc' := 6) dX12_sung_5 rfl rfl ?_
  refine en_callvI (pc' := 9) (vs := [.inl p1]) (rest := []) (h2 := zsI (zsI (h) 196 0 0) 196 11 0) (v := 0) dX12_sung_6 ml_12_274 ⟨zble rfl, zble rfl⟩ rfl rfl (zsiI (zsiI s196)) (zblt rfl) (zble rfl) rfl (kX12_isBox_1 _ (zsI (zsI (h) 196 0 0) 196 11 0) p1 (zsiI (zsiI s196)) i196_14) ?_
  refine ex_if_t (pc' := 44) dX12_sung_9 (by decide) (by decide) ?_
  refine ex_aload_n (pc' := 45) dX12_sung_44 rfl rfl ?_
  refine ex_iconst (v := 1) (pc' := 46) dX12_sung_45 (by decide) rfl ?_
  refine en_callvI (pc' := 49) (vs := [.inl 1]) (rest := []) (h2 := zsI (zsI (zsI (h) 196 0 0) 196 11 0) 196 11 1) (v := (-1)) dX12_sung_46 ml_12_170 ⟨zble rfl, zble rfl⟩ rfl rfl (zsiI (zsiI s196)) (zblt rfl) (zble rfl) rfl (kX12_no_2 _ (zsI (zsI (h) 196 0 0) 196 11 0) (zsiI (zsiI s196))) ?_
  exact ex_iretI dX12_sung_49 rfl rfl ⟨rfl, rfl⟩
set_option maxRecDepth 10000 in
theorem kX11_heard_1 (d : Nat) (h : zH) (p1 : Int32) (s0 : zsh h 0 = some (11, 16)) (s2 : zsh h 2 = some (4, 15)) (i2_7 : h.2.1 2 7 = 0) (r0_3 : h.2.2.2.1 0 3 = some 2) : zCi (d + 1) mX11_heard [.inr (.inr (some 0)), .inl p1] h (fun x h' => x = (-1) ∧ h' = zsI (h) 0 2 1) := by
  show zEx none (d + 1) mX11_heard (0, [(0, .inr (.inr (some 0))), (1, .inl p1)], [], h) _
  refine ex_aload_n (pc' := 1) dX11_heard_0 rfl rfl ?_
  refine ex_iload_n (pc' := 2) dX11_heard_1 rfl rfl ?_
  refine en_callvI (pc' := 5) (vs := [.inl p1]) (rest := []) (h2 := h) (v := 0) dX11_heard_2 ml_11_147 ⟨zble rfl, zble rfl⟩ rfl rfl s0 (zblt rfl) (zble rfl) rfl (kX11_isBox_1 _ h p1 s0 s2 i2_7 r0_3) ?_
  refine ex_if_t (pc' := 27) dX11_heard_5 (by decide) (by decide) ?_
  refine ex_aload_n (pc' := 28) dX11_heard_27 rfl rfl ?_
  refine ex_iconst (v := 1) (pc' := 29) dX11_heard_28 (by decide) rfl ?_
  refine en_callvI (pc' := 32) (vs := [.inl 1]) (rest := []) (h2 := zsI (h) 0 2 1) (v := (-1)) dX11_heard_29 ml_11_98 ⟨zble rfl, zble rfl⟩ rfl rfl s0 (zblt rfl) (zble rfl) rfl (kX11_refused_2 _ h s0) ?_
  exact ex_iretI dX11_heard_32 rfl rfl ⟨rfl, rfl⟩
set_option maxRecDepth 10000 in
theorem kX12_heard_1 (d : Nat) (h : zH) (p1 : Int32) (s196 : zsh h 196 = some (12, 39)) (i196_14 : h.2.1 196 14 = 0) : zCi (d + 1) mX12_heard [.inr (.inr (some 196)), .inl p1] h (fun x h' => x = (-1) ∧ h' = zsI (zsI (zsI (h) 196 0 0) 196 11 0) 196 11 1) := by
  show zEx none (d + 1) mX12_heard (0, [(0, .inr (.inr (some 196))), (1, .inl p1)], [], h) _
  refine ex_aload_n (pc' := 1) dX12_heard_0 rfl rfl ?_
  refine en_callvV (pc' := 4) (vs := []) (rest := []) (h2 := zsI (zsI (h) 196 0 0) 196 11 0) dX12_heard_1 ml_12_167 ⟨zble rfl, zble rfl⟩ rfl rfl s196 (zblt rfl) (zble rfl) rfl (kX12_good_1 _ h s196) ?_
  refine ex_aload_n (pc' := 5) dX12_heard_4 rfl rfl ?_
  refine ex_iload_n (pc' := 6) dX12_heard_5 rfl rfl ?_
  refine en_callvI (pc' := 9) (vs := [.inl p1]) (rest := []) (h2 := zsI (zsI (h) 196 0 0) 196 11 0) (v := 0) dX12_heard_6 ml_12_274 ⟨zble rfl, zble rfl⟩ rfl rfl (zsiI (zsiI s196)) (zblt rfl) (zble rfl) rfl (kX12_isBox_1 _ (zsI (zsI (h) 196 0 0) 196 11 0) p1 (zsiI (zsiI s196)) i196_14) ?_
  refine ex_if_t (pc' := 20) dX12_heard_9 (by decide) (by decide) ?_
  refine ex_aload_n (pc' := 21) dX12_heard_20 rfl rfl ?_
  refine ex_iconst (v := 1) (pc' := 22) dX12_heard_21 (by decide) rfl ?_
  refine en_callvI (pc' := 25) (vs := [.inl 1]) (rest := []) (h2 := zsI (zsI (zsI (h) 196 0 0) 196 11 0) 196 11 1) (v := (-1)) dX12_heard_22 ml_12_170 ⟨zble rfl, zble rfl⟩ rfl rfl (zsiI (zsiI s196)) (zblt rfl) (zble rfl) rfl (kX12_no_2 _ (zsI (zsI (h) 196 0 0) 196 11 0) (zsiI (zsiI s196))) ?_
  exact ex_iretI dX12_heard_25 rfl rfl ⟨rfl, rfl⟩
set_option maxRecDepth 10000 in
theorem kX11_areTwoIslands_1 (d : Nat) (h : zH) (p1 p2 : Int32) (s0 : zsh h 0 = some (11, 16)) (s2 : zsh h 2 = some (4, 15)) (i2_4 : h.2.1 2 4 = 0) (r0_3 : h.2.2.2.1 0 3 = some 2) : zCi (d + 1) mX11_areTwoIslands [.inr (.inr (some 0)), .inl p1, .inl p2] h (fun x h' => x = 0 ∧ h' = h) := by
  show zEx none (d + 1) mX11_areTwoIslands (0, [(0, .inr (.inr (some 0))), (1, .inl p1), (2, .inl p2)], [], h) _
  refine ex_aload_n (pc' := 1) dX11_areTwoIslands_0 rfl rfl ?_
  refine ex_iload_n (pc' := 2) dX11_areTwoIslands_1 rfl rfl ?_
  refine en_callvI (pc' := 5) (vs := [.inl p1]) (rest := []) (h2 := h) (v := 0) dX11_areTwoIslands_2 ml_11_174 ⟨zble rfl, zble rfl⟩ rfl rfl s0 (zblt rfl) (zble rfl) rfl (kX11_isIsland_1 _ h p1 s0 s2 i2_4 r0_3) ?_
  refine ex_if_t (pc' := 25) dX11_areTwoIslands_5 (by decide) (by decide) ?_
  refine ex_iconst (v := 0) (pc' := 26) dX11_areTwoIslands_25 (by decide) rfl ?_
  exact ex_iretI dX11_areTwoIslands_26 rfl (by decide) ⟨rfl, rfl⟩
set_option maxRecDepth 10000 in
theorem kX11_way_1 (d : Nat) (h : zH) (p1 p2 : Int32) (s0 : zsh h 0 = some (11, 16)) (s2 : zsh h 2 = some (4, 15)) (i2_4 : h.2.1 2 4 = 0) (r0_3 : h.2.2.2.1 0 3 = some 2) : zCi (d + 2) mX11_way [.inr (.inr (some 0)), .inl p1, .inl p2] h (fun x h' => x = (-1) ∧ h' = zsI (h) 0 2 1) := by
  show zEx none (d + 2) mX11_way (0, [(0, .inr (.inr (some 0))), (1, .inl p1), (2, .inl p2)], [], h) _
  refine ex_aload_n (pc' := 1) dX11_way_0 rfl rfl ?_
  refine ex_iload_n (pc' := 2) dX11_way_1 rfl rfl ?_
  refine ex_iload_n (pc' := 3) dX11_way_2 rfl rfl ?_
  refine en_callvI (pc' := 6) (vs := [.inl p1, .inl p2]) (rest := []) (h2 := h) (v := 0) dX11_way_3 ml_11_204 ⟨zble rfl, zble rfl⟩ rfl rfl s0 (zblt rfl) (zble rfl) rfl (kX11_areTwoIslands_1 _ h p1 p2 s0 s2 i2_4 r0_3) ?_
  refine ex_if_f (pc' := 9) dX11_way_6 (by decide) (by decide) rfl ?_
  refine ex_aload_n (pc' := 10) dX11_way_9 rfl rfl ?_
  refine ex_iconst (v := 1) (pc' := 11) dX11_way_10 (by decide) rfl ?_
  refine en_callvI (pc' := 14) (vs := [.inl 1]) (rest := []) (h2 := zsI (h) 0 2 1) (v := (-1)) dX11_way_11 ml_11_98 ⟨zble rfl, zble rfl⟩ rfl rfl s0 (zblt rfl) (zble rfl) rfl (kX11_refused_2 _ h s0) ?_
  exact ex_iretI dX11_way_14 rfl rfl ⟨rfl, rfl⟩
set_option maxRecDepth 10000 in
theorem kX12_way_1 (d : Nat) (h : zH) (p1 p2 : Int32) (s196 : zsh h 196 = some (12, 39)) (i196_14 : h.2.1 196 14 = 0) : zCi (d + 1) mX12_way [.inr (.inr (some 196)), .inl p1, .inl p2] h (fun x h' => x = (-1) ∧ h' = zsI (zsI (zsI (h) 196 0 0) 196 11 0) 196 11 1) := by
  show zEx none (d + 1) mX12_way (0, [(0, .inr (.inr (some 196))), (1, .inl p1), (2, .inl p2)], [], h) _
  refine ex_aload_n (pc' := 1) dX12_way_0 rfl rfl ?_
  refine en_callvV (pc' := 4) (vs := []) (rest := []) (h2 := zsI (zsI (h) 196 0 0) 196 11 0) dX12_way_1 ml_12_167 ⟨zble rfl, zble rfl⟩ rfl rfl s196 (zblt rfl) (zble rfl) rfl (kX12_good_1 _ h s196) ?_
  refine ex_aload_n (pc' := 5) dX12_way_4 rfl rfl ?_
  refine ex_iload_n (pc' := 6) dX12_way_5 rfl rfl ?_
  refine en_callvI (pc' := 9) (vs := [.inl p1]) (rest := []) (h2 := zsI (zsI (h) 196 0 0) 196 11 0) (v := 0) dX12_way_6 ml_12_277 ⟨zble rfl, zble rfl⟩ rfl rfl (zsiI (zsiI s196)) (zblt rfl) (zble rfl) rfl (kX12_isIsland_1 _ (zsI (zsI (h) 196 0 0) 196 11 0) p1 (zsiI (zsiI s196)) i196_14) ?_
  refine ex_if_t (pc' := 25) dX12_way_9 (by decide) (by decide) ?_
  refine ex_aload_n (pc' := 26) dX12_way_25 rfl rfl ?_
  refine ex_iconst (v := 1) (pc' := 27) dX12_way_26 (by decide) rfl ?_
  refine en_callvI (pc' := 30) (vs := [.inl 1]) (rest := []) (h2 := zsI (zsI (zsI (h) 196 0 0) 196 11 0) 196 11 1) (v := (-1)) dX12_way_27 ml_12_170 ⟨zble rfl, zble rfl⟩ rfl rfl (zsiI (zsiI s196)) (zblt rfl) (zble rfl) rfl (kX12_no_2 _ (zsI (zsI (h) 196 0 0) 196 11 0) (zsiI (zsiI s196))) ?_
  exact ex_iretI dX12_way_30 rfl rfl ⟨rfl, rfl⟩
set_option maxRecDepth 10000 in
theorem kX11_hasPost_1 (d : Nat) (h : zH) (s0 : zsh h 0 = some (11, 16)) (s2 : zsh h 2 = some (4, 15)) (i2_4 : h.2.1 2 4 = 0) (r0_3 : h.2.2.2.1 0 3 = some 2) : zCi (d + 0) mX11_hasPost [.inr (.inr (some 0))] h (fun x h' => x = 0 ∧ h' = h) := by
  show zEx none (d + 0) mX11_hasPost (0, [(0, .inr (.inr (some 0)))], [], h) _
  refine ex_aload_n (pc' := 1) dX11_hasPost_0 rfl rfl ?_
  refine ex_getR (pc' := 4) (r := 2) dX11_hasPost_1 fl_11_23 s0 (by decide) r0_3 rfl ?_
  refine ex_getI (pc' := 7) (v := 0) dX11_hasPost_4 fl_11_109 s2 (by decide) i2_4 rfl ?_
  refine ex_if_t (pc' := 14) dX11_hasPost_7 (by decide) (by decide) ?_
  refine ex_iconst (v := 0) (pc' := 15) dX11_hasPost_14 (by decide) rfl ?_
  exact ex_iretI dX11_hasPost_15 rfl (by decide) ⟨rfl, rfl⟩
set_option maxRecDepth 10000 in
theorem kX11_season_1 (d : Nat) (h : zH) (p1 : Int32) (s0 : zsh h 0 = some (11, 16)) (s2 : zsh h 2 = some (4, 15)) (i2_4 : h.2.1 2 4 = 0) (r0_3 : h.2.2.2.1 0 3 = some 2) : zCi (d + 1) mX11_season [.inr (.inr (some 0)), .inl p1] h (fun x h' => x = (-1) ∧ h' = zsI (h) 0 2 1) := by
  show zEx none (d + 1) mX11_season (0, [(0, .inr (.inr (some 0))), (1, .inl p1)], [], h) _
  refine ex_aload_n (pc' := 1) dX11_season_0 rfl rfl ?_
  refine en_callvI (pc' := 4) (vs := []) (rest := []) (h2 := h) (v := 0) dX11_season_1 ml_11_222 ⟨zble rfl, zble rfl⟩ rfl rfl s0 (zblt rfl) (zble rfl) rfl (kX11_hasPost_1 _ h s0 s2 i2_4 r0_3) ?_
  refine ex_if_f (pc' := 7) dX11_season_4 (by decide) (by decide) rfl ?_
  refine ex_aload_n (pc' := 8) dX11_season_7 rfl rfl ?_
  refine ex_iconst (v := 1) (pc' := 9) dX11_season_8 (by decide) rfl ?_
  refine en_callvI (pc' := 12) (vs := [.inl 1]) (rest := []) (h2 := zsI (h) 0 2 1) (v := (-1)) dX11_season_9 ml_11_98 ⟨zble rfl, zble rfl⟩ rfl rfl s0 (zblt rfl) (zble rfl) rfl (kX11_refused_2 _ h s0) ?_
  exact ex_iretI dX11_season_12 rfl rfl ⟨rfl, rfl⟩
set_option maxRecDepth 10000 in
theorem kX12_season_1 (d : Nat) (h : zH) (p1 : Int32) (s196 : zsh h 196 = some (12, 39)) (i196_14 : h.2.1 196 14 = 0) : zCi (d + 1) mX12_season [.inr (.inr (some 196)), .inl p1] h (fun x h' => x = (-1) ∧ h' = zsI (zsI (zsI (h) 196 0 0) 196 11 0) 196 11 1) := by
  show zEx none (d + 1) mX12_season (0, [(0, .inr (.inr (some 196))), (1, .inl p1)], [], h) _
  refine ex_aload_n (pc' := 1) dX12_season_0 rfl rfl ?_
  refine en_callvV (pc' := 4) (vs := []) (rest := []) (h2 := zsI (zsI (h) 196 0 0) 196 11 0) dX12_season_1 ml_12_167 ⟨zble rfl, zble rfl⟩ rfl rfl s196 (zblt rfl) (zble rfl) rfl (kX12_good_1 _ h s196) ?_
  refine ex_aload_n (pc' := 5) dX12_season_4 rfl rfl ?_
  refine ex_getI (pc' := 8) (v := 0) dX12_season_5 fl_12_180 (zsiI (zsiI s196)) (by decide) i196_14 rfl ?_
  refine ex_if_f (pc' := 11) dX12_season_8 (by decide) (by decide) rfl ?_
  refine ex_aload_n (pc' := 12) dX12_season_11 rfl rfl ?_
  refine ex_iconst (v := 1) (pc' := 13) dX12_season_12 (by decide) rfl ?_
  refine en_callvI (pc' := 16) (vs := [.inl 1]) (rest := []) (h2 := zsI (zsI (zsI (h) 196 0 0) 196 11 0) 196 11 1) (v := (-1)) dX12_season_13 ml_12_170 ⟨zble rfl, zble rfl⟩ rfl rfl (zsiI (zsiI s196)) (zblt rfl) (zble rfl) rfl (kX12_no_2 _ (zsI (zsI (h) 196 0 0) 196 11 0) (zsiI (zsiI s196))) ?_
  exact ex_iretI dX12_season_16 rfl rfl ⟨rfl, rfl⟩
set_option maxRecDepth 10000 in
theorem kX11_sets_1 (d : Nat) (h : zH) (p1 p2 p3 : Int32) (s0 : zsh h 0 = some (11, 16)) (s2 : zsh h 2 = some (4, 15)) (i2_6 : h.2.1 2 6 = 0) (r0_3 : h.2.2.2.1 0 3 = some 2) : zCi (d + 1) mX11_sets [.inr (.inr (some 0)), .inl p1, .inl p2, .inl p3] h (fun x h' => x = (-1) ∧ h' = zsI (h) 0 2 1) := by
  show zEx none (d + 1) mX11_sets (0, [(0, .inr (.inr (some 0))), (1, .inl p1), (2, .inl p2), (3, .inl p3)], [], h) _
  refine ex_aload_n (pc' := 1) dX11_sets_0 rfl rfl ?_
  refine ex_iload_n (pc' := 2) dX11_sets_1 rfl rfl ?_
  refine en_callvI (pc' := 5) (vs := [.inl p1]) (rest := []) (h2 := h) (v := 0) dX11_sets_2 ml_11_121 ⟨zble rfl, zble rfl⟩ rfl rfl s0 (zblt rfl) (zble rfl) rfl (kX11_isWhale_1 _ h p1 s0 s2 i2_6 r0_3) ?_
  refine ex_if_t (pc' := 16) dX11_sets_5 (by decide) (by decide) ?_
  refine ex_aload_n (pc' := 17) dX11_sets_16 rfl rfl ?_
  refine ex_iconst (v := 1) (pc' := 18) dX11_sets_17 (by decide) rfl ?_
  refine en_callvI (pc' := 21) (vs := [.inl 1]) (rest := []) (h2 := zsI (h) 0 2 1) (v := (-1)) dX11_sets_18 ml_11_98 ⟨zble rfl, zble rfl⟩ rfl rfl s0 (zblt rfl) (zble rfl) rfl (kX11_refused_2 _ h s0) ?_
  exact ex_iretI dX11_sets_21 rfl rfl ⟨rfl, rfl⟩
set_option maxRecDepth 10000 in
theorem kX12_sets_1 (d : Nat) (h : zH) (p1 p2 p3 : Int32) (s196 : zsh h 196 = some (12, 39)) (i196_14 : h.2.1 196 14 = 0) : zCi (d + 1) mX12_sets [.inr (.inr (some 196)), .inl p1, .inl p2, .inl p3] h (fun x h' => x = (-1) ∧ h' = zsI (zsI (zsI (h) 196 0 0) 196 11 0) 196 11 1) := by
  show zEx none (d + 1) mX12_sets (0, [(0, .inr (.inr (some 196))), (1, .inl p1), (2, .inl p2), (3, .inl p3)], [], h) _
  refine ex_aload_n (pc' := 1) dX12_sets_0 rfl rfl ?_
  refine en_callvV (pc' := 4) (vs := []) (rest := []) (h2 := zsI (zsI (h) 196 0 0) 196 11 0) dX12_sets_1 ml_12_167 ⟨zble rfl, zble rfl⟩ rfl rfl s196 (zblt rfl) (zble rfl) rfl (kX12_good_1 _ h s196) ?_
  refine ex_aload_n (pc' := 5) dX12_sets_4 rfl rfl ?_
  refine ex_iload_n (pc' := 6) dX12_sets_5 rfl rfl ?_
  refine en_callvI (pc' := 9) (vs := [.inl p1]) (rest := []) (h2 := zsI (zsI (h) 196 0 0) 196 11 0) (v := 0) dX12_sets_6 ml_12_268 ⟨zble rfl, zble rfl⟩ rfl rfl (zsiI (zsiI s196)) (zblt rfl) (zble rfl) rfl (kX12_isWhale_1 _ (zsI (zsI (h) 196 0 0) 196 11 0) p1 (zsiI (zsiI s196)) i196_14) ?_
  refine ex_if_t (pc' := 28) dX12_sets_9 (by decide) (by decide) ?_
  refine ex_aload_n (pc' := 29) dX12_sets_28 rfl rfl ?_
  refine ex_iconst (v := 1) (pc' := 30) dX12_sets_29 (by decide) rfl ?_
  refine en_callvI (pc' := 33) (vs := [.inl 1]) (rest := []) (h2 := zsI (zsI (zsI (h) 196 0 0) 196 11 0) 196 11 1) (v := (-1)) dX12_sets_30 ml_12_170 ⟨zble rfl, zble rfl⟩ rfl rfl (zsiI (zsiI s196)) (zblt rfl) (zble rfl) rfl (kX12_no_2 _ (zsI (zsI (h) 196 0 0) 196 11 0) (zsiI (zsiI s196))) ?_
  exact ex_iretI dX12_sets_33 rfl rfl ⟨rfl, rfl⟩
set_option maxRecDepth 10000 in
theorem kX11_sent_1 (d : Nat) (h : zH) (p1 : Int32) (s0 : zsh h 0 = some (11, 16)) (s2 : zsh h 2 = some (4, 15)) (i2_4 : h.2.1 2 4 = 0) (r0_3 : h.2.2.2.1 0 3 = some 2) : zCi (d + 1) mX11_sent [.inr (.inr (some 0)), .inl p1] h (fun x h' => x = (-1) ∧ h' = zsI (h) 0 2 1) := by
  show zEx none (d + 1) mX11_sent (0, [(0, .inr (.inr (some 0))), (1, .inl p1)], [], h) _
  refine ex_aload_n (pc' := 1) dX11_sent_0 rfl rfl ?_
  refine en_callvI (pc' := 4) (vs := []) (rest := []) (h2 := h) (v := 0) dX11_sent_1 ml_11_222 ⟨zble rfl, zble rfl⟩ rfl rfl s0 (zblt rfl) (zble rfl) rfl (kX11_hasPost_1 _ h s0 s2 i2_4 r0_3) ?_
  refine ex_if_t (pc' := 16) dX11_sent_4 (by decide) (by decide) ?_
  refine ex_aload_n (pc' := 17) dX11_sent_16 rfl rfl ?_
  refine ex_iconst (v := 1) (pc' := 18) dX11_sent_17 (by decide) rfl ?_
  refine en_callvI (pc' := 21) (vs := [.inl 1]) (rest := []) (h2 := zsI (h) 0 2 1) (v := (-1)) dX11_sent_18 ml_11_98 ⟨zble rfl, zble rfl⟩ rfl rfl s0 (zblt rfl) (zble rfl) rfl (kX11_refused_2 _ h s0) ?_
  exact ex_iretI dX11_sent_21 rfl rfl ⟨rfl, rfl⟩
set_option maxRecDepth 10000 in
theorem kX12_sent_1 (d : Nat) (h : zH) (p1 : Int32) (s196 : zsh h 196 = some (12, 39)) (i196_14 : h.2.1 196 14 = 0) : zCi (d + 1) mX12_sent [.inr (.inr (some 196)), .inl p1] h (fun x h' => x = (-1) ∧ h' = zsI (zsI (zsI (h) 196 0 0) 196 11 0) 196 11 1) := by
  show zEx none (d + 1) mX12_sent (0, [(0, .inr (.inr (some 196))), (1, .inl p1)], [], h) _
  refine ex_aload_n (pc' := 1) dX12_sent_0 rfl rfl ?_
  refine en_callvV (pc' := 4) (vs := []) (rest := []) (h2 := zsI (zsI (h) 196 0 0) 196 11 0) dX12_sent_1 ml_12_167 ⟨zble rfl, zble rfl⟩ rfl rfl s196 (zblt rfl) (zble rfl) rfl (kX12_good_1 _ h s196) ?_
  refine ex_aload_n (pc' := 5) dX12_sent_4 rfl rfl ?_
  refine ex_getI (pc' := 8) (v := 0) dX12_sent_5 fl_12_180 (zsiI (zsiI s196)) (by decide) i196_14 rfl ?_
  refine ex_if_t (pc' := 20) dX12_sent_8 (by decide) (by decide) ?_
  refine ex_aload_n (pc' := 21) dX12_sent_20 rfl rfl ?_
  refine ex_iconst (v := 1) (pc' := 22) dX12_sent_21 (by decide) rfl ?_
  refine en_callvI (pc' := 25) (vs := [.inl 1]) (rest := []) (h2 := zsI (zsI (zsI (h) 196 0 0) 196 11 0) 196 11 1) (v := (-1)) dX12_sent_22 ml_12_170 ⟨zble rfl, zble rfl⟩ rfl rfl (zsiI (zsiI s196)) (zblt rfl) (zble rfl) rfl (kX12_no_2 _ (zsI (zsI (h) 196 0 0) 196 11 0) (zsiI (zsiI s196))) ?_
  exact ex_iretI dX12_sent_25 rfl rfl ⟨rfl, rfl⟩
set_option maxRecDepth 10000 in
theorem kX11_apart_1 (d : Nat) (h : zH) (p1 p2 : Int32) (s0 : zsh h 0 = some (11, 16)) (s2 : zsh h 2 = some (4, 15)) (i2_4 : h.2.1 2 4 = 0) (r0_3 : h.2.2.2.1 0 3 = some 2) : zCi (d + 1) mX11_apart [.inr (.inr (some 0)), .inl p1, .inl p2] h (fun x h' => x = (-1) ∧ h' = zsI (h) 0 2 1) := by
  show zEx none (d + 1) mX11_apart (0, [(0, .inr (.inr (some 0))), (1, .inl p1), (2, .inl p2)], [], h) _
  refine ex_aload_n (pc' := 1) dX11_apart_0 rfl rfl ?_
  refine ex_iload_n (pc' := 2) dX11_apart_1 rfl rfl ?_
  refine en_callvI (pc' := 5) (vs := [.inl p1]) (rest := []) (h2 := h) (v := 0) dX11_apart_2 ml_11_174 ⟨zble rfl, zble rfl⟩ rfl rfl s0 (zblt rfl) (zble rfl) rfl (kX11_isIsland_1 _ h p1 s0 s2 i2_4 r0_3) ?_
  refine ex_if_t (pc' := 32) dX11_apart_5 (by decide) (by decide) ?_
  refine ex_aload_n (pc' := 33) dX11_apart_32 rfl rfl ?_
  refine ex_iconst (v := 1) (pc' := 34) dX11_apart_33 (by decide) rfl ?_
  refine en_callvI (pc' := 37) (vs := [.inl 1]) (rest := []) (h2 := zsI (h) 0 2 1) (v := (-1)) dX11_apart_34 ml_11_98 ⟨zble rfl, zble rfl⟩ rfl rfl s0 (zblt rfl) (zble rfl) rfl (kX11_refused_2 _ h s0) ?_
  exact ex_iretI dX11_apart_37 rfl rfl ⟨rfl, rfl⟩
set_option maxRecDepth 10000 in
theorem kX12_apart_1 (d : Nat) (h : zH) (p1 p2 : Int32) (s196 : zsh h 196 = some (12, 39)) (i196_14 : h.2.1 196 14 = 0) : zCi (d + 1) mX12_apart [.inr (.inr (some 196)), .inl p1, .inl p2] h (fun x h' => x = (-1) ∧ h' = zsI (zsI (zsI (h) 196 0 0) 196 11 0) 196 11 1) := by
  show zEx none (d + 1) mX12_apart (0, [(0, .inr (.inr (some 196))), (1, .inl p1), (2, .inl p2)], [], h) _
  refine ex_aload_n (pc' := 1) dX12_apart_0 rfl rfl ?_
  refine en_callvV (pc' := 4) (vs := []) (rest := []) (h2 := zsI (zsI (h) 196 0 0) 196 11 0) dX12_apart_1 ml_12_167 ⟨zble rfl, zble rfl⟩ rfl rfl s196 (zblt rfl) (zble rfl) rfl (kX12_good_1 _ h s196) ?_
  refine ex_aload_n (pc' := 5) dX12_apart_4 rfl rfl ?_
  refine ex_iload_n (pc' := 6) dX12_apart_5 rfl rfl ?_
  refine en_callvI (pc' := 9) (vs := [.inl p1]) (rest := []) (h2 := zsI (zsI (h) 196 0 0) 196 11 0) (v := 0) dX12_apart_6 ml_12_277 ⟨zble rfl, zble rfl⟩ rfl rfl (zsiI (zsiI s196)) (zblt rfl) (zble rfl) rfl (kX12_isIsland_1 _ (zsI (zsI (h) 196 0 0) 196 11 0) p1 (zsiI (zsiI s196)) i196_14) ?_
  refine ex_if_t (pc' := 29) dX12_apart_9 (by decide) (by decide) ?_
  refine ex_aload_n (pc' := 30) dX12_apart_29 rfl rfl ?_
  refine ex_iconst (v := 1) (pc' := 31) dX12_apart_30 (by decide) rfl ?_
  refine en_callvI (pc' := 34) (vs := [.inl 1]) (rest := []) (h2 := zsI (zsI (zsI (h) 196 0 0) 196 11 0) 196 11 1) (v := (-1)) dX12_apart_31 ml_12_170 ⟨zble rfl, zble rfl⟩ rfl rfl (zsiI (zsiI s196)) (zblt rfl) (zble rfl) rfl (kX12_no_2 _ (zsI (zsI (h) 196 0 0) 196 11 0) (zsiI (zsiI s196))) ?_
  exact ex_iretI dX12_apart_34 rfl rfl ⟨rfl, rfl⟩
set_option maxRecDepth 10000 in
theorem kX11_bear_1 (d : Nat) (h : zH) (s0 : zsh h 0 = some (11, 16)) (s2 : zsh h 2 = some (4, 15)) (i2_4 : h.2.1 2 4 = 0) (r0_3 : h.2.2.2.1 0 3 = some 2) : zCi (d + 1) mX11_bear [.inr (.inr (some 0))] h (fun x h' => x = (-1) ∧ h' = zsI (h) 0 2 1) := by
  show zEx none (d + 1) mX11_bear (0, [(0, .inr (.inr (some 0)))], [], h) _
  refine ex_aload_n (pc' := 1) dX11_bear_0 rfl rfl ?_
  refine en_callvI (pc' := 4) (vs := []) (rest := []) (h2 := h) (v := 0) dX11_bear_1 ml_11_222 ⟨zble rfl, zble rfl⟩ rfl rfl s0 (zblt rfl) (zble rfl) rfl (kX11_hasPost_1 _ h s0 s2 i2_4 r0_3) ?_
  refine ex_if_t (pc' := 21) dX11_bear_4 (by decide) (by decide) ?_
  refine ex_aload_n (pc' := 22) dX11_bear_21 rfl rfl ?_
  refine ex_iconst (v := 1) (pc' := 23) dX11_bear_22 (by decide) rfl ?_
  refine en_callvI (pc' := 26) (vs := [.inl 1]) (rest := []) (h2 := zsI (h) 0 2 1) (v := (-1)) dX11_bear_23 ml_11_98 ⟨zble rfl, zble rfl⟩ rfl rfl s0 (zblt rfl) (zble rfl) rfl (kX11_refused_2 _ h s0) ?_
  exact ex_iretI dX11_bear_26 rfl rfl ⟨rfl, rfl⟩
set_option maxRecDepth 10000 in
theorem kX12_bear_1 (d : Nat) (h : zH) (s196 : zsh h 196 = some (12, 39)) (i196_14 : h.2.1 196 14 = 0) : zCi (d + 1) mX12_bear [.inr (.inr (some 196))] h (fun x h' => x = (-1) ∧ h' = zsI (zsI (zsI (h) 196 0 0) 196 11 0) 196 11 1) := by
  show zEx none (d + 1) mX12_bear (0, [(0, .inr (.inr (some 196)))], [], h) _
  refine ex_aload_n (pc' := 1) dX12_bear_0 rfl rfl ?_
  refine en_callvV (pc' := 4) (vs := []) (rest := []) (h2 := zsI (zsI (h) 196 0 0) 196 11 0) dX12_bear_1 ml_12_167 ⟨zble rfl, zble rfl⟩ rfl rfl s196 (zblt rfl) (zble rfl) rfl (kX12_good_1 _ h s196) ?_
  refine ex_aload_n (pc' := 5) dX12_bear_4 rfl rfl ?_
  refine ex_getI (pc' := 8) (v := 0) dX12_bear_5 fl_12_180 (zsiI (zsiI s196)) (by decide) i196_14 rfl ?_
  refine ex_if_f (pc' := 11) dX12_bear_8 (by decide) (by decide) rfl ?_
  refine ex_aload_n (pc' := 12) dX12_bear_11 rfl rfl ?_
  refine ex_iconst (v := 1) (pc' := 13) dX12_bear_12 (by decide) rfl ?_
  refine en_callvI (pc' := 16) (vs := [.inl 1]) (rest := []) (h2 := zsI (zsI (zsI (h) 196 0 0) 196 11 0) 196 11 1) (v := (-1)) dX12_bear_13 ml_12_170 ⟨zble rfl, zble rfl⟩ rfl rfl (zsiI (zsiI s196)) (zblt rfl) (zble rfl) rfl (kX12_no_2 _ (zsI (zsI (h) 196 0 0) 196 11 0) (zsiI (zsiI s196))) ?_
  exact ex_iretI dX12_bear_16 rfl rfl ⟨rfl, rfl⟩
set_option maxRecDepth 10000 in
theorem kX11_mixed_1 (d : Nat) (h : zH) (s0 : zsh h 0 = some (11, 16)) (s2 : zsh h 2 = some (4, 15)) (i2_4 : h.2.1 2 4 = 0) (r0_3 : h.2.2.2.1 0 3 = some 2) : zCi (d + 1) mX11_mixed [.inr (.inr (some 0))] h (fun x h' => x = (-1) ∧ h' = zsI (h) 0 2 1) := by
  show zEx none (d + 1) mX11_mixed (0, [(0, .inr (.inr (some 0)))], [], h) _
  refine ex_aload_n (pc' := 1) dX11_mixed_0 rfl rfl ?_
  refine en_callvI (pc' := 4) (vs := []) (rest := []) (h2 := h) (v := 0) dX11_mixed_1 ml_11_222 ⟨zble rfl, zble rfl⟩ rfl rfl s0 (zblt rfl) (zble rfl) rfl (kX11_hasPost_1 _ h s0 s2 i2_4 r0_3) ?_
  refine ex_if_t (pc' := 21) dX11_mixed_4 (by decide) (by decide) ?_
  refine ex_aload_n (pc' := 22) dX11_mixed_21 rfl rfl ?_
  refine ex_iconst (v := 1) (pc' := 23) dX11_mixed_22 (by decide) rfl ?_
  refine en_callvI (pc' := 26) (vs := [.inl 1]) (rest := []) (h2 := zsI (h) 0 2 1) (v := (-1)) dX11_mixed_23 ml_11_98 ⟨zble rfl, zble rfl⟩ rfl rfl s0 (zblt rfl) (zble rfl) rfl (kX11_refused_2 _ h s0) ?_
  exact ex_iretI dX11_mixed_26 rfl rfl ⟨rfl, rfl⟩
set_option maxRecDepth 10000 in
theorem kX12_mixed_1 (d : Nat) (h : zH) (s196 : zsh h 196 = some (12, 39)) (i196_14 : h.2.1 196 14 = 0) : zCi (d + 1) mX12_mixed [.inr (.inr (some 196))] h (fun x h' => x = (-1) ∧ h' = zsI (zsI (zsI (h) 196 0 0) 196 11 0) 196 11 1) := by
  show zEx none (d + 1) mX12_mixed (0, [(0, .inr (.inr (some 196)))], [], h) _
  refine ex_aload_n (pc' := 1) dX12_mixed_0 rfl rfl ?_
  refine en_callvV (pc' := 4) (vs := []) (rest := []) (h2 := zsI (zsI (h) 196 0 0) 196 11 0) dX12_mixed_1 ml_12_167 ⟨zble rfl, zble rfl⟩ rfl rfl s196 (zblt rfl) (zble rfl) rfl (kX12_good_1 _ h s196) ?_
  refine ex_aload_n (pc' := 5) dX12_mixed_4 rfl rfl ?_
  refine ex_getI (pc' := 8) (v := 0) dX12_mixed_5 fl_12_180 (zsiI (zsiI s196)) (by decide) i196_14 rfl ?_
  refine ex_if_f (pc' := 11) dX12_mixed_8 (by decide) (by decide) rfl ?_
  refine ex_aload_n (pc' := 12) dX12_mixed_11 rfl rfl ?_
  refine ex_iconst (v := 1) (pc' := 13) dX12_mixed_12 (by decide) rfl ?_
  refine en_callvI (pc' := 16) (vs := [.inl 1]) (rest := []) (h2 := zsI (zsI (zsI (h) 196 0 0) 196 11 0) 196 11 1) (v := (-1)) dX12_mixed_13 ml_12_170 ⟨zble rfl, zble rfl⟩ rfl rfl (zsiI (zsiI s196)) (zblt rfl) (zble rfl) rfl (kX12_no_2 _ (zsI (zsI (h) 196 0 0) 196 11 0) (zsiI (zsiI s196))) ?_
  exact ex_iretI dX12_mixed_16 rfl rfl ⟨rfl, rfl⟩
set_option maxRecDepth 10000 in
theorem kX11_refusalOfNewSong_1 (d : Nat) (h : zH) (p1 p2 : Int32) (s0 : zsh h 0 = some (11, 16)) (s2 : zsh h 2 = some (4, 15)) (i2_4 : h.2.1 2 4 = 0) (r0_3 : h.2.2.2.1 0 3 = some 2) : zCi (d + 1) mX11_refusalOfNewSong [.inr (.inr (some 0)), .inl p1, .inl p2] h (fun x h' => x = 1 ∧ h' = h) := by
  show zEx none (d + 1) mX11_refusalOfNewSong (0, [(0, .inr (.inr (some 0))), (1, .inl p1), (2, .inl p2)], [], h) _
  refine ex_aload_n (pc' := 1) dX11_refusalOfNewSong_0 rfl rfl ?_
  refine en_callvI (pc' := 4) (vs := []) (rest := []) (h2 := h) (v := 0) dX11_refusalOfNewSong_1 ml_11_222 ⟨zble rfl, zble rfl⟩ rfl rfl s0 (zblt rfl) (zble rfl) rfl (kX11_hasPost_1 _ h s0 s2 i2_4 r0_3) ?_
  refine ex_if_f (pc' := 7) dX11_refusalOfNewSong_4 (by decide) (by decide) rfl ?_
  refine ex_iconst (v := 1) (pc' := 8) dX11_refusalOfNewSong_7 (by decide) rfl ?_
  exact ex_iretI dX11_refusalOfNewSong_8 rfl rfl ⟨rfl, rfl⟩
set_option maxRecDepth 10000 in
theorem kX11_fresh_1 (d : Nat) (h : zH) (p1 p2 : Int32) (s0 : zsh h 0 = some (11, 16)) (s2 : zsh h 2 = some (4, 15)) (i2_4 : h.2.1 2 4 = 0) (r0_3 : h.2.2.2.1 0 3 = some 2) : zCi (d + 2) mX11_fresh [.inr (.inr (some 0)), .inl p1, .inl p2] h (fun x h' => x = (-1) ∧ h' = zsI (h) 0 2 1) := by
  show zEx none (d + 2) mX11_fresh (0, [(0, .inr (.inr (some 0))), (1, .inl p1), (2, .inl p2)], [], h) _
  refine ex_aload_n (pc' := 1) dX11_fresh_0 rfl rfl ?_
  refine ex_iload_n (pc' := 2) dX11_fresh_1 rfl rfl ?_
  refine ex_iload_n (pc' := 3) dX11_fresh_2 rfl rfl ?_
  refine en_callvI (pc' := 6) (vs := [.inl p1, .inl p2]) (rest := []) (h2 := h) (v := 1) dX11_fresh_3 ml_11_258 ⟨zble rfl, zble rfl⟩ rfl rfl s0 (zblt rfl) (zble rfl) rfl (kX11_refusalOfNewSong_1 _ h p1 p2 s0 s2 i2_4 r0_3) ?_
  refine ex_istore_n (pc' := 7) (ls' := [(3, .inl 1), (0, .inr (.inr (some 0))), (1, .inl p1), (2, .inl p2)]) dX11_fresh_6 (by decide) rfl rfl ?_
  refine ex_iload_n (pc' := 8) dX11_fresh_7 rfl rfl ?_
  refine ex_if_f (pc' := 11) dX11_fresh_8 (by decide) (by decide) rfl ?_
  refine ex_aload_n (pc' := 12) dX11_fresh_11 rfl rfl ?_
  refine ex_iload_n (pc' := 13) dX11_fresh_12 rfl rfl ?_
  refine en_callvI (pc' := 16) (vs := [.inl 1]) (rest := []) (h2 := zsI (h) 0 2 1) (v := (-1)) dX11_fresh_13 ml_11_98 ⟨zble rfl, zble rfl⟩ rfl rfl s0 (zblt rfl) (zble rfl) rfl (kX11_refused_2 _ h s0) ?_
  exact ex_iretI dX11_fresh_16 rfl rfl ⟨rfl, rfl⟩
set_option maxRecDepth 10000 in
theorem kX12_songWhy_1 (d : Nat) (h : zH) (p1 p2 : Int32) (s196 : zsh h 196 = some (12, 39)) (i196_14 : h.2.1 196 14 = 0) : zCi (d + 0) mX12_songWhy [.inr (.inr (some 196)), .inl p1, .inl p2] h (fun x h' => x = 1 ∧ h' = h) := by
  show zEx none (d + 0) mX12_songWhy (0, [(0, .inr (.inr (some 196))), (1, .inl p1), (2, .inl p2)], [], h) _
  refine ex_aload_n (pc' := 1) dX12_songWhy_0 rfl rfl ?_
  refine ex_getI (pc' := 4) (v := 0) dX12_songWhy_1 fl_12_180 s196 (by decide) i196_14 rfl ?_
  refine ex_if_f (pc' := 7) dX12_songWhy_4 (by decide) (by decide) rfl ?_
  refine ex_iconst (v := 1) (pc' := 8) dX12_songWhy_7 (by decide) rfl ?_
  refine ex_goto (pc' := 34) dX12_songWhy_8 (by decide) ?_
  exact ex_iretI dX12_songWhy_34 rfl rfl ⟨rfl, rfl⟩
set_option maxRecDepth 10000 in
theorem kX12_fresh_1 (d : Nat) (h : zH) (p1 p2 : Int32) (s196 : zsh h 196 = some (12, 39)) (i196_14 : h.2.1 196 14 = 0) : zCi (d + 1) mX12_fresh [.inr (.inr (some 196)), .inl p1, .inl p2] h (fun x h' => x = (-1) ∧ h' = zsI (zsI (zsI (h) 196 0 0) 196 11 0) 196 11 1) := by
  show zEx none (d + 1) mX12_fresh (0, [(0, .inr (.inr (some 196))), (1, .inl p1), (2, .inl p2)], [], h) _
  refine ex_aload_n (pc' := 1) dX12_fresh_0 rfl rfl ?_
  refine en_callvV (pc' := 4) (vs := []) (rest := []) (h2 := zsI (zsI (h) 196 0 0) 196 11 0) dX12_fresh_1 ml_12_167 ⟨zble rfl, zble rfl⟩ rfl rfl s196 (zblt rfl) (zble rfl) rfl (kX12_good_1 _ h s196) ?_
  refine ex_aload_n (pc' := 5) dX12_fresh_4 rfl rfl ?_
  refine ex_iload_n (pc' := 6) dX12_fresh_5 rfl rfl ?_
  refine ex_iload_n (pc' := 7) dX12_fresh_6 rfl rfl ?_
  refine en_callvI (pc' := 10) (vs := [.inl p1, .inl p2]) (rest := []) (h2 := zsI (zsI (h) 196 0 0) 196 11 0) (v := 1) dX12_fresh_7 ml_12_324 ⟨zble rfl, zble rfl⟩ rfl rfl (zsiI (zsiI s196)) (zblt rfl) (zble rfl) rfl (kX12_songWhy_1 _ (zsI (zsI (h) 196 0 0) 196 11 0) p1 p2 (zsiI (zsiI s196)) i196_14) ?_
  refine ex_istore_n (pc' := 11) (ls' := [(3, .inl 1), (0, .inr (.inr (some 196))), (1, .inl p1), (2, .inl p2)]) dX12_fresh_10 (by decide) rfl rfl ?_
  refine ex_iload_n (pc' := 12) dX12_fresh_11 rfl rfl ?_
  refine ex_if_f (pc' := 15) dX12_fresh_12 (by decide) (by decide) rfl ?_
  refine ex_aload_n (pc' := 16) dX12_fresh_15 rfl rfl ?_
  refine ex_iload_n (pc' := 17) dX12_fresh_16 rfl rfl ?_
  refine en_callvI (pc' := 20) (vs := [.inl 1]) (rest := []) (h2 := zsI (zsI (zsI (h) 196 0 0) 196 11 0) 196 11 1) (v := (-1)) dX12_fresh_17 ml_12_170 ⟨zble rfl, zble rfl⟩ rfl rfl (zsiI (zsiI s196)) (zblt rfl) (zble rfl) rfl (kX12_no_2 _ (zsI (zsI (h) 196 0 0) 196 11 0) (zsiI (zsiI s196))) ?_
  refine ex_goto (pc' := 30) dX12_fresh_20 (by decide) ?_
  exact ex_iretI dX12_fresh_30 rfl rfl ⟨rfl, rfl⟩
set_option maxRecDepth 10000 in
theorem kX11_byTurns_1 (d : Nat) (h : zH) (p1 p2 : Int32) (s0 : zsh h 0 = some (11, 16)) (s2 : zsh h 2 = some (4, 15)) (i2_4 : h.2.1 2 4 = 0) (r0_3 : h.2.2.2.1 0 3 = some 2) : zCi (d + 2) mX11_byTurns [.inr (.inr (some 0)), .inl p1, .inl p2] h (fun x h' => x = (-1) ∧ h' = zsI (h) 0 2 1) := by
  show zEx none (d + 2) mX11_byTurns (0, [(0, .inr (.inr (some 0))), (1, .inl p1), (2, .inl p2)], [], h) _
  refine ex_aload_n (pc' := 1) dX11_byTurns_0 rfl rfl ?_
  refine ex_iload_n (pc' := 2) dX11_byTurns_1 rfl rfl ?_
  refine ex_iload_n (pc' := 3) dX11_byTurns_2 rfl rfl ?_
  refine en_callvI (pc' := 6) (vs := [.inl p1, .inl p2]) (rest := []) (h2 := h) (v := 1) dX11_byTurns_3 ml_11_258 ⟨zble rfl, zble rfl⟩ rfl rfl s0 (zblt rfl) (zble rfl) rfl (kX11_refusalOfNewSong_1 _ h p1 p2 s0 s2 i2_4 r0_3) ?_
  refine ex_istore_n (pc' := 7) (ls' := [(3, .inl 1), (0, .inr (.inr (some 0))), (1, .inl p1), (2, .inl p2)]) dX11_byTurns_6 (by decide) rfl rfl ?_
  refine ex_iload_n (pc' := 8) dX11_byTurns_7 rfl rfl ?_
  refine ex_if_f (pc' := 11) dX11_byTurns_8 (by decide) (by decide) rfl ?_
  refine ex_aload_n (pc' := 12) dX11_byTurns_11 rfl rfl ?_
  refine ex_iload_n (pc' := 13) dX11_byTurns_12 rfl rfl ?_
  refine en_callvI (pc' := 16) (vs := [.inl 1]) (rest := []) (h2 := zsI (h) 0 2 1) (v := (-1)) dX11_byTurns_13 ml_11_98 ⟨zble rfl, zble rfl⟩ rfl rfl s0 (zblt rfl) (zble rfl) rfl (kX11_refused_2 _ h s0) ?_
  exact ex_iretI dX11_byTurns_16 rfl rfl ⟨rfl, rfl⟩
set_option maxRecDepth 10000 in
theorem kX12_byTurns_1 (d : Nat) (h : zH) (p1 p2 : Int32) (s196 : zsh h 196 = some (12, 39)) (i196_14 : h.2.1 196 14 = 0) : zCi (d + 1) mX12_byTurns [.inr (.inr (some 196)), .inl p1, .inl p2] h (fun x h' => x = (-1) ∧ h' = zsI (zsI (zsI (h) 196 0 0) 196 11 0) 196 11 1) := by
  show zEx none (d + 1) mX12_byTurns (0, [(0, .inr (.inr (some 196))), (1, .inl p1), (2, .inl p2)], [], h) _
  refine ex_aload_n (pc' := 1) dX12_byTurns_0 rfl rfl ?_
  refine en_callvV (pc' := 4) (vs := []) (rest := []) (h2 := zsI (zsI (h) 196 0 0) 196 11 0) dX12_byTurns_1 ml_12_167 ⟨zble rfl, zble rfl⟩ rfl rfl s196 (zblt rfl) (zble rfl) rfl (kX12_good_1 _ h s196) ?_
  refine ex_aload_n (pc' := 5) dX12_byTurns_4 rfl rfl ?_
  refine ex_iload_n (pc' := 6) dX12_byTurns_5 rfl rfl ?_
  refine ex_iload_n (pc' := 7) dX12_byTurns_6 rfl rfl ?_
  refine en_callvI (pc' := 10) (vs := [.inl p1, .inl p2]) (rest := []) (h2 := zsI (zsI (h) 196 0 0) 196 11 0) (v := 1) dX12_byTurns_7 ml_12_324 ⟨zble rfl, zble rfl⟩ rfl rfl (zsiI (zsiI s196)) (zblt rfl) (zble rfl) rfl (kX12_songWhy_1 _ (zsI (zsI (h) 196 0 0) 196 11 0) p1 p2 (zsiI (zsiI s196)) i196_14) ?_
  refine ex_istore_n (pc' := 11) (ls' := [(3, .inl 1), (0, .inr (.inr (some 196))), (1, .inl p1), (2, .inl p2)]) dX12_byTurns_10 (by decide) rfl rfl ?_
  refine ex_iload_n (pc' := 12) dX12_byTurns_11 rfl rfl ?_
  refine ex_if_f (pc' := 15) dX12_byTurns_12 (by decide) (by decide) rfl ?_
  refine ex_aload_n (pc' := 16) dX12_byTurns_15 rfl rfl ?_
  refine ex_iload_n (pc' := 17) dX12_byTurns_16 rfl rfl ?_
  refine en_callvI (pc' := 20) (vs := [.inl 1]) (rest := []) (h2 := zsI (zsI (zsI (h) 196 0 0) 196 11 0) 196 11 1) (v := (-1)) dX12_byTurns_17 ml_12_170 ⟨zble rfl, zble rfl⟩ rfl rfl (zsiI (zsiI s196)) (zblt rfl) (zble rfl) rfl (kX12_no_2 _ (zsI (zsI (h) 196 0 0) 196 11 0) (zsiI (zsiI s196))) ?_
  refine ex_goto (pc' := 30) dX12_byTurns_20 (by decide) ?_
  exact ex_iretI dX12_byTurns_30 rfl rfl ⟨rfl, rfl⟩
set_option maxRecDepth 10000 in
theorem kX11_near_1 (d : Nat) (h : zH) (p1 : Int32) (s0 : zsh h 0 = some (11, 16)) (s2 : zsh h 2 = some (4, 15)) (i2_7 : h.2.1 2 7 = 0) (r0_3 : h.2.2.2.1 0 3 = some 2) : zCi (d + 1) mX11_near [.inr (.inr (some 0)), .inl p1] h (fun x h' => x = (-1) ∧ h' = zsI (h) 0 2 1) := by
  show zEx none (d + 1) mX11_near (0, [(0, .inr (.inr (some 0))), (1, .inl p1)], [], h) _
  refine ex_aload_n (pc' := 1) dX11_near_0 rfl rfl ?_
  refine ex_iload_n (pc' := 2) dX11_near_1 rfl rfl ?_
  refine en_callvI (pc' := 5) (vs := [.inl p1]) (rest := []) (h2 := h) (v := 0) dX11_near_2 ml_11_147 ⟨zble rfl, zble rfl⟩ rfl rfl s0 (zblt rfl) (zble rfl) rfl (kX11_isBox_1 _ h p1 s0 s2 i2_7 r0_3) ?_
  refine ex_if_f (pc' := 8) dX11_near_5 (by decide) (by decide) rfl ?_
  refine ex_aload_n (pc' := 9) dX11_near_8 rfl rfl ?_
  refine ex_iconst (v := 1) (pc' := 10) dX11_near_9 (by decide) rfl ?_
  refine en_callvI (pc' := 13) (vs := [.inl 1]) (rest := []) (h2 := zsI (h) 0 2 1) (v := (-1)) dX11_near_10 ml_11_98 ⟨zble rfl, zble rfl⟩ rfl rfl s0 (zblt rfl) (zble rfl) rfl (kX11_refused_2 _ h s0) ?_
  exact ex_iretI dX11_near_13 rfl rfl ⟨rfl, rfl⟩
set_option maxRecDepth 10000 in
theorem kX12_near_1 (d : Nat) (h : zH) (p1 : Int32) (s196 : zsh h 196 = some (12, 39)) (i196_14 : h.2.1 196 14 = 0) : zCi (d + 1) mX12_near [.inr (.inr (some 196)), .inl p1] h (fun x h' => x = (-1) ∧ h' = zsI (zsI (zsI (h) 196 0 0) 196 11 0) 196 11 1) := by
  show zEx none (d + 1) mX12_near (0, [(0, .inr (.inr (some 196))), (1, .inl p1)], [], h) _
  refine ex_aload_n (pc' := 1) dX12_near_0 rfl rfl ?_
  refine en_callvV (pc' := 4) (vs := []) (rest := []) (h2 := zsI (zsI (h) 196 0 0) 196 11 0) dX12_near_1 ml_12_167 ⟨zble rfl, zble rfl⟩ rfl rfl s196 (zblt rfl) (zble rfl) rfl (kX12_good_1 _ h s196) ?_
  refine ex_aload_n (pc' := 5) dX12_near_4 rfl rfl ?_
  refine ex_iload_n (pc' := 6) dX12_near_5 rfl rfl ?_
  refine en_callvI (pc' := 9) (vs := [.inl p1]) (rest := []) (h2 := zsI (zsI (h) 196 0 0) 196 11 0) (v := 0) dX12_near_6 ml_12_274 ⟨zble rfl, zble rfl⟩ rfl rfl (zsiI (zsiI s196)) (zblt rfl) (zble rfl) rfl (kX12_isBox_1 _ (zsI (zsI (h) 196 0 0) 196 11 0) p1 (zsiI (zsiI s196)) i196_14) ?_
  refine ex_if_t (pc' := 21) dX12_near_9 (by decide) (by decide) ?_
  refine ex_aload_n (pc' := 22) dX12_near_21 rfl rfl ?_
  refine ex_iconst (v := 1) (pc' := 23) dX12_near_22 (by decide) rfl ?_
  refine en_callvI (pc' := 26) (vs := [.inl 1]) (rest := []) (h2 := zsI (zsI (zsI (h) 196 0 0) 196 11 0) 196 11 1) (v := (-1)) dX12_near_23 ml_12_170 ⟨zble rfl, zble rfl⟩ rfl rfl (zsiI (zsiI s196)) (zblt rfl) (zble rfl) rfl (kX12_no_2 _ (zsI (zsI (h) 196 0 0) 196 11 0) (zsiI (zsiI s196))) ?_
  exact ex_iretI dX12_near_26 rfl rfl ⟨rfl, rfl⟩
set_option maxRecDepth 10000 in
theorem kX11_asNear_1 (d : Nat) (h : zH) (p1 : Int32) (s0 : zsh h 0 = some (11, 16)) (s2 : zsh h 2 = some (4, 15)) (i2_7 : h.2.1 2 7 = 0) (r0_3 : h.2.2.2.1 0 3 = some 2) : zCi (d + 1) mX11_asNear [.inr (.inr (some 0)), .inl p1] h (fun x h' => x = (-1) ∧ h' = zsI (h) 0 2 1) := by
  show zEx none (d + 1) mX11_asNear (0, [(0, .inr (.inr (some 0))), (1, .inl p1)], [], h) _
  refine ex_aload_n (pc' := 1) dX11_asNear_0 rfl rfl ?_
  refine ex_iload_n (pc' := 2) dX11_asNear_1 rfl rfl ?_
  refine en_callvI (pc' := 5) (vs := [.inl p1]) (rest := []) (h2 := h) (v := 0) dX11_asNear_2 ml_11_147 ⟨zble rfl, zble rfl⟩ rfl rfl s0 (zblt rfl) (zble rfl) rfl (kX11_isBox_1 _ h p1 s0 s2 i2_7 r0_3) ?_
  refine ex_if_f (pc' := 8) dX11_asNear_5 (by decide) (by decide) rfl ?_
  refine ex_aload_n (pc' := 9) dX11_asNear_8 rfl rfl ?_
  refine ex_iconst (v := 1) (pc' := 10) dX11_asNear_9 (by decide) rfl ?_
  refine en_callvI (pc' := 13) (vs := [.inl 1]) (rest := []) (h2 := zsI (h) 0 2 1) (v := (-1)) dX11_asNear_10 ml_11_98 ⟨zble rfl, zble rfl⟩ rfl rfl s0 (zblt rfl) (zble rfl) rfl (kX11_refused_2 _ h s0) ?_
  exact ex_iretI dX11_asNear_13 rfl rfl ⟨rfl, rfl⟩
set_option maxRecDepth 10000 in
theorem kX12_asNear_1 (d : Nat) (h : zH) (p1 : Int32) (s196 : zsh h 196 = some (12, 39)) (i196_14 : h.2.1 196 14 = 0) : zCi (d + 1) mX12_asNear [.inr (.inr (some 196)), .inl p1] h (fun x h' => x = (-1) ∧ h' = zsI (zsI (zsI (h) 196 0 0) 196 11 0) 196 11 1) := by
  show zEx none (d + 1) mX12_asNear (0, [(0, .inr (.inr (some 196))), (1, .inl p1)], [], h) _
  refine ex_aload_n (pc' := 1) dX12_asNear_0 rfl rfl ?_
  refine en_callvV (pc' := 4) (vs := []) (rest := []) (h2 := zsI (zsI (h) 196 0 0) 196 11 0) dX12_asNear_1 ml_12_167 ⟨zble rfl, zble rfl⟩ rfl rfl s196 (zblt rfl) (zble rfl) rfl (kX12_good_1 _ h s196) ?_
  refine ex_aload_n (pc' := 5) dX12_asNear_4 rfl rfl ?_
  refine ex_iload_n (pc' := 6) dX12_asNear_5 rfl rfl ?_
  refine en_callvI (pc' := 9) (vs := [.inl p1]) (rest := []) (h2 := zsI (zsI (h) 196 0 0) 196 11 0) (v := 0) dX12_asNear_6 ml_12_274 ⟨zble rfl, zble rfl⟩ rfl rfl (zsiI (zsiI s196)) (zblt rfl) (zble rfl) rfl (kX12_isBox_1 _ (zsI (zsI (h) 196 0 0) 196 11 0) p1 (zsiI (zsiI s196)) i196_14) ?_
  refine ex_if_t (pc' := 21) dX12_asNear_9 (by decide) (by decide) ?_
  refine ex_aload_n (pc' := 22) dX12_asNear_21 rfl rfl ?_
  refine ex_iconst (v := 1) (pc' := 23) dX12_asNear_22 (by decide) rfl ?_
  refine en_callvI (pc' := 26) (vs := [.inl 1]) (rest := []) (h2 := zsI (zsI (zsI (h) 196 0 0) 196 11 0) 196 11 1) (v := (-1)) dX12_asNear_23 ml_12_170 ⟨zble rfl, zble rfl⟩ rfl rfl (zsiI (zsiI s196)) (zblt rfl) (zble rfl) rfl (kX12_no_2 _ (zsI (zsI (h) 196 0 0) 196 11 0) (zsiI (zsiI s196))) ?_
  exact ex_iretI dX12_asNear_26 rfl rfl ⟨rfl, rfl⟩
set_option maxRecDepth 10000 in
theorem kX11_heardIn_1 (d : Nat) (h : zH) (p1 p2 : Int32) (s0 : zsh h 0 = some (11, 16)) (s2 : zsh h 2 = some (4, 15)) (i2_7 : h.2.1 2 7 = 0) (r0_3 : h.2.2.2.1 0 3 = some 2) : zCi (d + 1) mX11_heardIn [.inr (.inr (some 0)), .inl p1, .inl p2] h (fun x h' => x = (-1) ∧ h' = zsI (h) 0 2 1) := by
  show zEx none (d + 1) mX11_heardIn (0, [(0, .inr (.inr (some 0))), (1, .inl p1), (2, .inl p2)], [], h) _
  refine ex_aload_n (pc' := 1) dX11_heardIn_0 rfl rfl ?_
  refine ex_iload_n (pc' := 2) dX11_heardIn_1 rfl rfl ?_
  refine en_callvI (pc' := 5) (vs := [.inl p1]) (rest := []) (h2 := h) (v := 0) dX11_heardIn_2 ml_11_147 ⟨zble rfl, zble rfl⟩ rfl rfl s0 (zblt rfl) (zble rfl) rfl (kX11_isBox_1 _ h p1 s0 s2 i2_7 r0_3) ?_
  refine ex_if_f (pc' := 8) dX11_heardIn_5 (by decide) (by decide) rfl ?_
  refine ex_aload_n (pc' := 9) dX11_heardIn_8 rfl rfl ?_
  refine ex_iconst (v := 1) (pc' := 10) dX11_heardIn_9 (by decide) rfl ?_
  refine en_callvI (pc' := 13) (vs := [.inl 1]) (rest := []) (h2 := zsI (h) 0 2 1) (v := (-1)) dX11_heardIn_10 ml_11_98 ⟨zble rfl, zble rfl⟩ rfl rfl s0 (zblt rfl) (zble rfl) rfl (kX11_refused_2 _ h s0) ?_
  exact ex_iretI dX11_heardIn_13 rfl rfl ⟨rfl, rfl⟩
set_option maxRecDepth 10000 in
theorem kX12_heardIn_1 (d : Nat) (h : zH) (p1 p2 : Int32) (s196 : zsh h 196 = some (12, 39)) (i196_14 : h.2.1 196 14 = 0) : zCi (d + 1) mX12_heardIn [.inr (.inr (some 196)), .inl p1, .inl p2] h (fun x h' => x = (-1) ∧ h' = zsI (zsI (zsI (h) 196 0 0) 196 11 0) 196 11 1) := by
  show zEx none (d + 1) mX12_heardIn (0, [(0, .inr (.inr (some 196))), (1, .inl p1), (2, .inl p2)], [], h) _
  refine ex_aload_n (pc' := 1) dX12_heardIn_0 rfl rfl ?_
  refine en_callvV (pc' := 4) (vs := []) (rest := []) (h2 := zsI (zsI (h) 196 0 0) 196 11 0) dX12_heardIn_1 ml_12_167 ⟨zble rfl, zble rfl⟩ rfl rfl s196 (zblt rfl) (zble rfl) rfl (kX12_good_1 _ h s196) ?_
  refine ex_aload_n (pc' := 5) dX12_heardIn_4 rfl rfl ?_
  refine ex_iload_n (pc' := 6) dX12_heardIn_5 rfl rfl ?_
  refine en_callvI (pc' := 9) (vs := [.inl p1]) (rest := []) (h2 := zsI (zsI (h) 196 0 0) 196 11 0) (v := 0) dX12_heardIn_6 ml_12_274 ⟨zble rfl, zble rfl⟩ rfl rfl (zsiI (zsiI s196)) (zblt rfl) (zble rfl) rfl (kX12_isBox_1 _ (zsI (zsI (h) 196 0 0) 196 11 0) p1 (zsiI (zsiI s196)) i196_14) ?_
  refine ex_if_f (pc' := 12) dX12_heardIn_9 (by decide) (by decide) rfl ?_
  refine ex_aload_n (pc' := 13) dX12_heardIn_12 rfl rfl ?_
  refine ex_iconst (v := 1) (pc' := 14) dX12_heardIn_13 (by decide) rfl ?_
  refine en_callvI (pc' := 17) (vs := [.inl 1]) (rest := []) (h2 := zsI (zsI (zsI (h) 196 0 0) 196 11 0) 196 11 1) (v := (-1)) dX12_heardIn_14 ml_12_170 ⟨zble rfl, zble rfl⟩ rfl rfl (zsiI (zsiI s196)) (zblt rfl) (zble rfl) rfl (kX12_no_2 _ (zsI (zsI (h) 196 0 0) 196 11 0) (zsiI (zsiI s196))) ?_
  exact ex_iretI dX12_heardIn_17 rfl rfl ⟨rfl, rfl⟩
set_option maxRecDepth 10000 in
theorem kX11_strange_1 (d : Nat) (h : zH) (p1 : Int32) (s0 : zsh h 0 = some (11, 16)) (s2 : zsh h 2 = some (4, 15)) (i2_4 : h.2.1 2 4 = 0) (r0_3 : h.2.2.2.1 0 3 = some 2) : zCi (d + 1) mX11_strange [.inr (.inr (some 0)), .inl p1] h (fun x h' => x = (-1) ∧ h' = zsI (h) 0 2 1) := by
  show zEx none (d + 1) mX11_strange (0, [(0, .inr (.inr (some 0))), (1, .inl p1)], [], h) _
  refine ex_aload_n (pc' := 1) dX11_strange_0 rfl rfl ?_
  refine ex_iload_n (pc' := 2) dX11_strange_1 rfl rfl ?_
  refine en_callvI (pc' := 5) (vs := [.inl p1]) (rest := []) (h2 := h) (v := 0) dX11_strange_2 ml_11_174 ⟨zble rfl, zble rfl⟩ rfl rfl s0 (zblt rfl) (zble rfl) rfl (kX11_isIsland_1 _ h p1 s0 s2 i2_4 r0_3) ?_
  refine ex_if_f (pc' := 8) dX11_strange_5 (by decide) (by decide) rfl ?_
  refine ex_aload_n (pc' := 9) dX11_strange_8 rfl rfl ?_
  refine ex_iconst (v := 1) (pc' := 10) dX11_strange_9 (by decide) rfl ?_
  refine en_callvI (pc' := 13) (vs := [.inl 1]) (rest := []) (h2 := zsI (h) 0 2 1) (v := (-1)) dX11_strange_10 ml_11_98 ⟨zble rfl, zble rfl⟩ rfl rfl s0 (zblt rfl) (zble rfl) rfl (kX11_refused_2 _ h s0) ?_
  exact ex_iretI dX11_strange_13 rfl rfl ⟨rfl, rfl⟩
set_option maxRecDepth 10000 in
theorem kX12_strange_1 (d : Nat) (h : zH) (p1 : Int32) (s196 : zsh h 196 = some (12, 39)) (i196_14 : h.2.1 196 14 = 0) : zCi (d + 1) mX12_strange [.inr (.inr (some 196)), .inl p1] h (fun x h' => x = (-1) ∧ h' = zsI (zsI (zsI (h) 196 0 0) 196 11 0) 196 11 1) := by
  show zEx none (d + 1) mX12_strange (0, [(0, .inr (.inr (some 196))), (1, .inl p1)], [], h) _
  refine ex_aload_n (pc' := 1) dX12_strange_0 rfl rfl ?_
  refine en_callvV (pc' := 4) (vs := []) (rest := []) (h2 := zsI (zsI (h) 196 0 0) 196 11 0) dX12_strange_1 ml_12_167 ⟨zble rfl, zble rfl⟩ rfl rfl s196 (zblt rfl) (zble rfl) rfl (kX12_good_1 _ h s196) ?_
  refine ex_aload_n (pc' := 5) dX12_strange_4 rfl rfl ?_
  refine ex_iload_n (pc' := 6) dX12_strange_5 rfl rfl ?_
  refine en_callvI (pc' := 9) (vs := [.inl p1]) (rest := []) (h2 := zsI (zsI (h) 196 0 0) 196 11 0) (v := 0) dX12_strange_6 ml_12_277 ⟨zble rfl, zble rfl⟩ rfl rfl (zsiI (zsiI s196)) (zblt rfl) (zble rfl) rfl (kX12_isIsland_1 _ (zsI (zsI (h) 196 0 0) 196 11 0) p1 (zsiI (zsiI s196)) i196_14) ?_
  refine ex_if_f (pc' := 12) dX12_strange_9 (by decide) (by decide) rfl ?_
  refine ex_aload_n (pc' := 13) dX12_strange_12 rfl rfl ?_
  refine ex_iconst (v := 1) (pc' := 14) dX12_strange_13 (by decide) rfl ?_
  refine en_callvI (pc' := 17) (vs := [.inl 1]) (rest := []) (h2 := zsI (zsI (zsI (h) 196 0 0) 196 11 0) 196 11 1) (v := (-1)) dX12_strange_14 ml_12_170 ⟨zble rfl, zble rfl⟩ rfl rfl (zsiI (zsiI s196)) (zblt rfl) (zble rfl) rfl (kX12_no_2 _ (zsI (zsI (h) 196 0 0) 196 11 0) (zsiI (zsiI s196))) ?_
  exact ex_iretI dX12_strange_17 rfl rfl ⟨rfl, rfl⟩
set_option maxRecDepth 10000 in
theorem kX11_arrival_1 (d : Nat) (h : zH) (p1 p2 p3 p4 : Int32) (s0 : zsh h 0 = some (11, 16)) (s2 : zsh h 2 = some (4, 15)) (i2_6 : h.2.1 2 6 = 0) (r0_3 : h.2.2.2.1 0 3 = some 2) : zCi (d + 1) mX11_arrival [.inr (.inr (some 0)), .inl p1, .inl p2, .inl p3, .inl p4] h (fun x h' => x = (-1) ∧ h' = zsI (h) 0 2 1) := by
  show zEx none (d + 1) mX11_arrival (0, [(0, .inr (.inr (some 0))), (1, .inl p1), (2, .inl p2), (3, .inl p3), (4, .inl p4)], [], h) _
  refine ex_aload_n (pc' := 1) dX11_arrival_0 rfl rfl ?_
  refine ex_iload_n (pc' := 2) dX11_arrival_1 rfl rfl ?_
  refine en_callvI (pc' := 5) (vs := [.inl p1]) (rest := []) (h2 := h) (v := 0) dX11_arrival_2 ml_11_121 ⟨zble rfl, zble rfl⟩ rfl rfl s0 (zblt rfl) (zble rfl) rfl (kX11_isWhale_1 _ h p1 s0 s2 i2_6 r0_3) ?_
  refine ex_if_t (pc' := 24) dX11_arrival_5 (by decide) (by decide) ?_
  refine ex_aload_n (pc' := 25) dX11_arrival_24 rfl rfl ?_
  refine ex_iconst (v := 1) (pc' := 26) dX11_arrival_25 (by decide) rfl ?_
  refine en_callvI (pc' := 29) (vs := [.inl 1]) (rest := []) (h2 := zsI (h) 0 2 1) (v := (-1)) dX11_arrival_26 ml_11_98 ⟨zble rfl, zble rfl⟩ rfl rfl s0 (zblt rfl) (zble rfl) rfl (kX11_refused_2 _ h s0) ?_
  exact ex_iretI dX11_arrival_29 rfl rfl ⟨rfl, rfl⟩
set_option maxRecDepth 10000 in
theorem kX12_arrival_1 (d : Nat) (h : zH) (p1 p2 p3 p4 : Int32) (s196 : zsh h 196 = some (12, 39)) (i196_14 : h.2.1 196 14 = 0) : zCi (d + 1) mX12_arrival [.inr (.inr (some 196)), .inl p1, .inl p2, .inl p3, .inl p4] h (fun x h' => x = (-1) ∧ h' = zsI (zsI (zsI (h) 196 0 0) 196 11 0) 196 11 1) := by
  show zEx none (d + 1) mX12_arrival (0, [(0, .inr (.inr (some 196))), (1, .inl p1), (2, .inl p2), (3, .inl p3), (4, .inl p4)], [], h) _
  refine ex_aload_n (pc' := 1) dX12_arrival_0 rfl rfl ?_
  refine en_callvV (pc' := 4) (vs := []) (rest := []) (h2 := zsI (zsI (h) 196 0 0) 196 11 0) dX12_arrival_1 ml_12_167 ⟨zble rfl, zble rfl⟩ rfl rfl s196 (zblt rfl) (zble rfl) rfl (kX12_good_1 _ h s196) ?_
  refine ex_aload_n (pc' := 5) dX12_arrival_4 rfl rfl ?_
  refine ex_iload_n (pc' := 6) dX12_arrival_5 rfl rfl ?_
  refine en_callvI (pc' := 9) (vs := [.inl p1]) (rest := []) (h2 := zsI (zsI (h) 196 0 0) 196 11 0) (v := 0) dX12_arrival_6 ml_12_268 ⟨zble rfl, zble rfl⟩ rfl rfl (zsiI (zsiI s196)) (zblt rfl) (zble rfl) rfl (kX12_isWhale_1 _ (zsI (zsI (h) 196 0 0) 196 11 0) p1 (zsiI (zsiI s196)) i196_14) ?_
  refine ex_if_t (pc' := 28) dX12_arrival_9 (by decide) (by decide) ?_
  refine ex_aload_n (pc' := 29) dX12_arrival_28 rfl rfl ?_
  refine ex_iconst (v := 1) (pc' := 30) dX12_arrival_29 (by decide) rfl ?_
  refine en_callvI (pc' := 33) (vs := [.inl 1]) (rest := []) (h2 := zsI (zsI (zsI (h) 196 0 0) 196 11 0) 196 11 1) (v := (-1)) dX12_arrival_30 ml_12_170 ⟨zble rfl, zble rfl⟩ rfl rfl (zsiI (zsiI s196)) (zblt rfl) (zble rfl) rfl (kX12_no_2 _ (zsI (zsI (h) 196 0 0) 196 11 0) (zsiI (zsiI s196))) ?_
  exact ex_iretI dX12_arrival_33 rfl rfl ⟨rfl, rfl⟩
set_option maxRecDepth 10000 in
theorem kX11_brings_1 (d : Nat) (h : zH) (p1 p2 : Int32) (s0 : zsh h 0 = some (11, 16)) (s2 : zsh h 2 = some (4, 15)) (i2_6 : h.2.1 2 6 = 0) (r0_3 : h.2.2.2.1 0 3 = some 2) : zCi (d + 1) mX11_brings [.inr (.inr (some 0)), .inl p1, .inl p2] h (fun x h' => x = (-1) ∧ h' = zsI (h) 0 2 1) := by
  show zEx none (d + 1) mX11_brings (0, [(0, .inr (.inr (some 0))), (1, .inl p1), (2, .inl p2)], [], h) _
  refine ex_aload_n (pc' := 1) dX11_brings_0 rfl rfl ?_
  refine ex_iload_n (pc' := 2) dX11_brings_1 rfl rfl ?_
  refine en_callvI (pc' := 5) (vs := [.inl p1]) (rest := []) (h2 := h) (v := 0) dX11_brings_2 ml_11_121 ⟨zble rfl, zble rfl⟩ rfl rfl s0 (zblt rfl) (zble rfl) rfl (kX11_isWhale_1 _ h p1 s0 s2 i2_6 r0_3) ?_
  refine ex_if_t (pc' := 32) dX11_brings_5 (by decide) (by decide) ?_
  refine ex_aload_n (pc' := 33) dX11_brings_32 rfl rfl ?_
  refine ex_iconst (v := 1) (pc' := 34) dX11_brings_33 (by decide) rfl ?_
  refine en_callvI (pc' := 37) (vs := [.inl 1]) (rest := []) (h2 := zsI (h) 0 2 1) (v := (-1)) dX11_brings_34 ml_11_98 ⟨zble rfl, zble rfl⟩ rfl rfl s0 (zblt rfl) (zble rfl) rfl (kX11_refused_2 _ h s0) ?_
  exact ex_iretI dX11_brings_37 rfl rfl ⟨rfl, rfl⟩
set_option maxRecDepth 10000 in
theorem kX12_brings_1 (d : Nat) (h : zH) (p1 p2 : Int32) (s196 : zsh h 196 = some (12, 39)) (i196_14 : h.2.1 196 14 = 0) : zCi (d + 1) mX12_brings [.inr (.inr (some 196)), .inl p1, .inl p2] h (fun x h' => x = (-1) ∧ h' = zsI (zsI (zsI (h) 196 0 0) 196 11 0) 196 11 1) := by
  show zEx none (d + 1) mX12_brings (0, [(0, .inr (.inr (some 196))), (1, .inl p1), (2, .inl p2)], [], h) _
  refine ex_aload_n (pc' := 1) dX12_brings_0 rfl rfl ?_
  refine en_callvV (pc' := 4) (vs := []) (rest := []) (h2 := zsI (zsI (h) 196 0 0) 196 11 0) dX12_brings_1 ml_12_167 ⟨zble rfl, zble rfl⟩ rfl rfl s196 (zblt rfl) (zble rfl) rfl (kX12_good_1 _ h s196) ?_
  refine ex_aload_n (pc' := 5) dX12_brings_4 rfl rfl ?_
  refine ex_iload_n (pc' := 6) dX12_brings_5 rfl rfl ?_
  refine en_callvI (pc' := 9) (vs := [.inl p1]) (rest := []) (h2 := zsI (zsI (h) 196 0 0) 196 11 0) (v := 0) dX12_brings_6 ml_12_268 ⟨zble rfl, zble rfl⟩ rfl rfl (zsiI (zsiI s196)) (zblt rfl) (zble rfl) rfl (kX12_isWhale_1 _ (zsI (zsI (h) 196 0 0) 196 11 0) p1 (zsiI (zsiI s196)) i196_14) ?_
  refine ex_if_t (pc' := 29) dX12_brings_9 (by decide) (by decide) ?_
  refine ex_aload_n (pc' := 30) dX12_brings_29 rfl rfl ?_
  refine ex_iconst (v := 1) (pc' := 31) dX12_brings_30 (by decide) rfl ?_
  refine en_callvI (pc' := 34) (vs := [.inl 1]) (rest := []) (h2 := zsI (zsI (zsI (h) 196 0 0) 196 11 0) 196 11 1) (v := (-1)) dX12_brings_31 ml_12_170 ⟨zble rfl, zble rfl⟩ rfl rfl (zsiI (zsiI s196)) (zblt rfl) (zble rfl) rfl (kX12_no_2 _ (zsI (zsI (h) 196 0 0) 196 11 0) (zsiI (zsiI s196))) ?_
  exact ex_iretI dX12_brings_34 rfl rfl ⟨rfl, rfl⟩
set_option maxRecDepth 10000 in
theorem kX11_soonest_1 (d : Nat) (h : zH) (p1 : Int32) (s0 : zsh h 0 = some (11, 16)) (s2 : zsh h 2 = some (4, 15)) (i2_7 : h.2.1 2 7 = 0) (r0_3 : h.2.2.2.1 0 3 = some 2) : zCi (d + 1) mX11_soonest [.inr (.inr (some 0)), .inl p1] h (fun x h' => x = (-1) ∧ h' = zsI (h) 0 2 1) := by
  show zEx none (d + 1) mX11_soonest (0, [(0, .inr (.inr (some 0))), (1, .inl p1)], [], h) _
  refine ex_aload_n (pc' := 1) dX11_soonest_0 rfl rfl ?_
  refine ex_iload_n (pc' := 2) dX11_soonest_1 rfl rfl ?_
  refine en_callvI (pc' := 5) (vs := [.inl p1]) (rest := []) (h2 := h) (v := 0) dX11_soonest_2 ml_11_147 ⟨zble rfl, zble rfl⟩ rfl rfl s0 (zblt rfl) (zble rfl) rfl (kX11_isBox_1 _ h p1 s0 s2 i2_7 r0_3) ?_
  refine ex_if_t (pc' := 23) dX11_soonest_5 (by decide) (by decide) ?_
  refine ex_aload_n (pc' := 24) dX11_soonest_23 rfl rfl ?_
  refine ex_iconst (v := 1) (pc' := 25) dX11_soonest_24 (by decide) rfl ?_
  refine en_callvI (pc' := 28) (vs := [.inl 1]) (rest := []) (h2 := zsI (h) 0 2 1) (v := (-1)) dX11_soonest_25 ml_11_98 ⟨zble rfl, zble rfl⟩ rfl rfl s0 (zblt rfl) (zble rfl) rfl (kX11_refused_2 _ h s0) ?_
  exact ex_iretI dX11_soonest_28 rfl rfl ⟨rfl, rfl⟩
set_option maxRecDepth 10000 in
theorem kX12_soonest_1 (d : Nat) (h : zH) (p1 : Int32) (s196 : zsh h 196 = some (12, 39)) (i196_14 : h.2.1 196 14 = 0) : zCi (d + 1) mX12_soonest [.inr (.inr (some 196)), .inl p1] h (fun x h' => x = (-1) ∧ h' = zsI (zsI (zsI (h) 196 0 0) 196 11 0) 196 11 1) := by
  show zEx none (d + 1) mX12_soonest (0, [(0, .inr (.inr (some 196))), (1, .inl p1)], [], h) _
  refine ex_aload_n (pc' := 1) dX12_soonest_0 rfl rfl ?_
  refine en_callvV (pc' := 4) (vs := []) (rest := []) (h2 := zsI (zsI (h) 196 0 0) 196 11 0) dX12_soonest_1 ml_12_167 ⟨zble rfl, zble rfl⟩ rfl rfl s196 (zblt rfl) (zble rfl) rfl (kX12_good_1 _ h s196) ?_
  refine ex_aload_n (pc' := 5) dX12_soonest_4 rfl rfl ?_
  refine ex_iload_n (pc' := 6) dX12_soonest_5 rfl rfl ?_
  refine en_callvI (pc' := 9) (vs := [.inl p1]) (rest := []) (h2 := zsI (zsI (h) 196 0 0) 196 11 0) (v := 0) dX12_soonest_6 ml_12_274 ⟨zble rfl, zble rfl⟩ rfl rfl (zsiI (zsiI s196)) (zblt rfl) (zble rfl) rfl (kX12_isBox_1 _ (zsI (zsI (h) 196 0 0) 196 11 0) p1 (zsiI (zsiI s196)) i196_14) ?_
  refine ex_if_f (pc' := 12) dX12_soonest_9 (by decide) (by decide) rfl ?_
  refine ex_aload_n (pc' := 13) dX12_soonest_12 rfl rfl ?_
  refine ex_iconst (v := 1) (pc' := 14) dX12_soonest_13 (by decide) rfl ?_
  refine en_callvI (pc' := 17) (vs := [.inl 1]) (rest := []) (h2 := zsI (zsI (zsI (h) 196 0 0) 196 11 0) 196 11 1) (v := (-1)) dX12_soonest_14 ml_12_170 ⟨zble rfl, zble rfl⟩ rfl rfl (zsiI (zsiI s196)) (zblt rfl) (zble rfl) rfl (kX12_no_2 _ (zsI (zsI (h) 196 0 0) 196 11 0) (zsiI (zsiI s196))) ?_
  exact ex_iretI dX12_soonest_17 rfl rfl ⟨rfl, rfl⟩
set_option maxRecDepth 10000 in
theorem kX11_surest_1 (d : Nat) (h : zH) (p1 : Int32) (s0 : zsh h 0 = some (11, 16)) (s2 : zsh h 2 = some (4, 15)) (i2_7 : h.2.1 2 7 = 0) (r0_3 : h.2.2.2.1 0 3 = some 2) : zCi (d + 1) mX11_surest [.inr (.inr (some 0)), .inl p1] h (fun x h' => x = (-1) ∧ h' = zsI (h) 0 2 1) := by
  show zEx none (d + 1) mX11_surest (0, [(0, .inr (.inr (some 0))), (1, .inl p1)], [], h) _
  refine ex_aload_n (pc' := 1) dX11_surest_0 rfl rfl ?_
  refine ex_iload_n (pc' := 2) dX11_surest_1 rfl rfl ?_
  refine en_callvI (pc' := 5) (vs := [.inl p1]) (rest := []) (h2 := h) (v := 0) dX11_surest_2 ml_11_147 ⟨zble rfl, zble rfl⟩ rfl rfl s0 (zblt rfl) (zble rfl) rfl (kX11_isBox_1 _ h p1 s0 s2 i2_7 r0_3) ?_
  refine ex_if_t (pc' := 25) dX11_surest_5 (by decide) (by decide) ?_
  refine ex_aload_n (pc' := 26) dX11_surest_25 rfl rfl ?_
  refine ex_iconst (v := 1) (pc' := 27) dX11_surest_26 (by decide) rfl ?_
  refine en_callvI (pc' := 30) (vs := [.inl 1]) (rest := []) (h2 := zsI (h) 0 2 1) (v := (-1)) dX11_surest_27 ml_11_98 ⟨zble rfl, zble rfl⟩ rfl rfl s0 (zblt rfl) (zble rfl) rfl (kX11_refused_2 _ h s0) ?_
  exact ex_iretI dX11_surest_30 rfl rfl ⟨rfl, rfl⟩
set_option maxRecDepth 10000 in
theorem kX12_surest_1 (d : Nat) (h : zH) (p1 : Int32) (s196 : zsh h 196 = some (12, 39)) (i196_14 : h.2.1 196 14 = 0) : zCi (d + 1) mX12_surest [.inr (.inr (some 196)), .inl p1] h (fun x h' => x = (-1) ∧ h' = zsI (zsI (zsI (h) 196 0 0) 196 11 0) 196 11 1) := by
  show zEx none (d + 1) mX12_surest (0, [(0, .inr (.inr (some 196))), (1, .inl p1)], [], h) _
  refine ex_aload_n (pc' := 1) dX12_surest_0 rfl rfl ?_
  refine en_callvV (pc' := 4) (vs := []) (rest := []) (h2 := zsI (zsI (h) 196 0 0) 196 11 0) dX12_surest_1 ml_12_167 ⟨zble rfl, zble rfl⟩ rfl rfl s196 (zblt rfl) (zble rfl) rfl (kX12_good_1 _ h s196) ?_
  refine ex_aload_n (pc' := 5) dX12_surest_4 rfl rfl ?_
  refine ex_iload_n (pc' := 6) dX12_surest_5 rfl rfl ?_
  refine en_callvI (pc' := 9) (vs := [.inl p1]) (rest := []) (h2 := zsI (zsI (h) 196 0 0) 196 11 0) (v := 0) dX12_surest_6 ml_12_274 ⟨zble rfl, zble rfl⟩ rfl rfl (zsiI (zsiI s196)) (zblt rfl) (zble rfl) rfl (kX12_isBox_1 _ (zsI (zsI (h) 196 0 0) 196 11 0) p1 (zsiI (zsiI s196)) i196_14) ?_
  refine ex_if_t (pc' := 21) dX12_surest_9 (by decide) (by decide) ?_
  refine ex_aload_n (pc' := 22) dX12_surest_21 rfl rfl ?_
  refine ex_iconst (v := 1) (pc' := 23) dX12_surest_22 (by decide) rfl ?_
  refine en_callvI (pc' := 26) (vs := [.inl 1]) (rest := []) (h2 := zsI (zsI (zsI (h) 196 0 0) 196 11 0) 196 11 1) (v := (-1)) dX12_surest_23 ml_12_170 ⟨zble rfl, zble rfl⟩ rfl rfl (zsiI (zsiI s196)) (zblt rfl) (zble rfl) rfl (kX12_no_2 _ (zsI (zsI (h) 196 0 0) 196 11 0) (zsiI (zsiI s196))) ?_
  exact ex_iretI dX12_surest_26 rfl rfl ⟨rfl, rfl⟩
set_option maxRecDepth 10000 in
theorem kX11_by_1 (d : Nat) (h : zH) (p1 p2 : Int32) (s0 : zsh h 0 = some (11, 16)) (s2 : zsh h 2 = some (4, 15)) (i2_7 : h.2.1 2 7 = 0) (r0_3 : h.2.2.2.1 0 3 = some 2) : zCi (d + 1) mX11_by [.inr (.inr (some 0)), .inl p1, .inl p2] h (fun x h' => x = (-1) ∧ h' = zsI (h) 0 2 1) := by
  show zEx none (d + 1) mX11_by (0, [(0, .inr (.inr (some 0))), (1, .inl p1), (2, .inl p2)], [], h) _
  refine ex_aload_n (pc' := 1) dX11_by_0 rfl rfl ?_
  refine ex_iload_n (pc' := 2) dX11_by_1 rfl rfl ?_
  refine en_callvI (pc' := 5) (vs := [.inl p1]) (rest := []) (h2 := h) (v := 0) dX11_by_2 ml_11_147 ⟨zble rfl, zble rfl⟩ rfl rfl s0 (zblt rfl) (zble rfl) rfl (kX11_isBox_1 _ h p1 s0 s2 i2_7 r0_3) ?_
  refine ex_if_f (pc' := 8) dX11_by_5 (by decide) (by decide) rfl ?_
  refine ex_aload_n (pc' := 9) dX11_by_8 rfl rfl ?_
  refine ex_iconst (v := 1) (pc' := 10) dX11_by_9 (by decide) rfl ?_
  refine en_callvI (pc' := 13) (vs := [.inl 1]) (rest := []) (h2 := zsI (h) 0 2 1) (v := (-1)) dX11_by_10 ml_11_98 ⟨zble rfl, zble rfl⟩ rfl rfl s0 (zblt rfl) (zble rfl) rfl (kX11_refused_2 _ h s0) ?_
  exact ex_iretI dX11_by_13 rfl rfl ⟨rfl, rfl⟩
set_option maxRecDepth 10000 in
theorem kX12_by_1 (d : Nat) (h : zH) (p1 p2 : Int32) (s196 : zsh h 196 = some (12, 39)) (i196_14 : h.2.1 196 14 = 0) : zCi (d + 1) mX12_by [.inr (.inr (some 196)), .inl p1, .inl p2] h (fun x h' => x = (-1) ∧ h' = zsI (zsI (zsI (h) 196 0 0) 196 11 0) 196 11 1) := by
  show zEx none (d + 1) mX12_by (0, [(0, .inr (.inr (some 196))), (1, .inl p1), (2, .inl p2)], [], h) _
  refine ex_aload_n (pc' := 1) dX12_by_0 rfl rfl ?_
  refine en_callvV (pc' := 4) (vs := []) (rest := []) (h2 := zsI (zsI (h) 196 0 0) 196 11 0) dX12_by_1 ml_12_167 ⟨zble rfl, zble rfl⟩ rfl rfl s196 (zblt rfl) (zble rfl) rfl (kX12_good_1 _ h s196) ?_
  refine ex_aload_n (pc' := 5) dX12_by_4 rfl rfl ?_
  refine ex_iload_n (pc' := 6) dX12_by_5 rfl rfl ?_
  refine en_callvI (pc' := 9) (vs := [.inl p1]) (rest := []) (h2 := zsI (zsI (h) 196 0 0) 196 11 0) (v := 0) dX12_by_6 ml_12_274 ⟨zble rfl, zble rfl⟩ rfl rfl (zsiI (zsiI s196)) (zblt rfl) (zble rfl) rfl (kX12_isBox_1 _ (zsI (zsI (h) 196 0 0) 196 11 0) p1 (zsiI (zsiI s196)) i196_14) ?_
  refine ex_if_f (pc' := 12) dX12_by_9 (by decide) (by decide) rfl ?_
  refine ex_aload_n (pc' := 13) dX12_by_12 rfl rfl ?_
  refine ex_iconst (v := 1) (pc' := 14) dX12_by_13 (by decide) rfl ?_
  refine en_callvI (pc' := 17) (vs := [.inl 1]) (rest := []) (h2 := zsI (zsI (zsI (h) 196 0 0) 196 11 0) 196 11 1) (v := (-1)) dX12_by_14 ml_12_170 ⟨zble rfl, zble rfl⟩ rfl rfl (zsiI (zsiI s196)) (zblt rfl) (zble rfl) rfl (kX12_no_2 _ (zsI (zsI (h) 196 0 0) 196 11 0) (zsiI (zsiI s196))) ?_
  exact ex_iretI dX12_by_17 rfl rfl ⟨rfl, rfl⟩
set_option maxRecDepth 10000 in
theorem kX11_registered_1 (d : Nat) (h : zH) (p1 : Int32) (s0 : zsh h 0 = some (11, 16)) (s2 : zsh h 2 = some (4, 15)) (i2_7 : h.2.1 2 7 = 0) (r0_3 : h.2.2.2.1 0 3 = some 2) : zCl (d + 1) mX11_registered [.inr (.inr (some 0)), .inl p1, .inl 0] h (fun x h' => x = (-1) ∧ h' = zsI (h) 0 2 1) := by
  show zEx none (d + 1) mX11_registered (0, [(0, .inr (.inr (some 0))), (1, .inl p1), (2, .inl 0)], [], h) _
  refine ex_aload_n (pc' := 1) dX11_registered_0 rfl rfl ?_
  refine ex_iload_n (pc' := 2) dX11_registered_1 rfl rfl ?_
  refine en_callvI (pc' := 5) (vs := [.inl p1]) (rest := []) (h2 := h) (v := 0) dX11_registered_2 ml_11_147 ⟨zble rfl, zble rfl⟩ rfl rfl s0 (zblt rfl) (zble rfl) rfl (kX11_isBox_1 _ h p1 s0 s2 i2_7 r0_3) ?_
  refine ex_if_f (pc' := 8) dX11_registered_5 (by decide) (by decide) rfl ?_
  refine ex_aload_n (pc' := 9) dX11_registered_8 rfl rfl ?_
  refine ex_iconst (v := 1) (pc' := 10) dX11_registered_9 (by decide) rfl ?_
  refine en_callvI (pc' := 13) (vs := [.inl 1]) (rest := []) (h2 := zsI (h) 0 2 1) (v := (-1)) dX11_registered_10 ml_11_98 ⟨zble rfl, zble rfl⟩ rfl rfl s0 (zblt rfl) (zble rfl) rfl (kX11_refused_2 _ h s0) ?_
  refine ex_i2l (pc' := 14) (v := (-1)) dX11_registered_13 (by decide) rfl ?_
  exact ex_lretL dX11_registered_14 rfl ⟨rfl, rfl⟩
set_option maxRecDepth 10000 in
theorem kX12_registered_1 (d : Nat) (h : zH) (p1 : Int32) (s196 : zsh h 196 = some (12, 39)) (i196_14 : h.2.1 196 14 = 0) : zCl (d + 1) mX12_registered [.inr (.inr (some 196)), .inl p1, .inl 0] h (fun x h' => x = (-1) ∧ h' = zsI (zsI (zsI (h) 196 0 0) 196 11 0) 196 11 1) := by
  show zEx none (d + 1) mX12_registered (0, [(0, .inr (.inr (some 196))), (1, .inl p1), (2, .inl 0)], [], h) _
  refine ex_aload_n (pc' := 1) dX12_registered_0 rfl rfl ?_
  refine en_callvV (pc' := 4) (vs := []) (rest := []) (h2 := zsI (zsI (h) 196 0 0) 196 11 0) dX12_registered_1 ml_12_167 ⟨zble rfl, zble rfl⟩ rfl rfl s196 (zblt rfl) (zble rfl) rfl (kX12_good_1 _ h s196) ?_
  refine ex_aload_n (pc' := 5) dX12_registered_4 rfl rfl ?_
  refine ex_iload_n (pc' := 6) dX12_registered_5 rfl rfl ?_
  refine en_callvI (pc' := 9) (vs := [.inl p1]) (rest := []) (h2 := zsI (zsI (h) 196 0 0) 196 11 0) (v := 0) dX12_registered_6 ml_12_274 ⟨zble rfl, zble rfl⟩ rfl rfl (zsiI (zsiI s196)) (zblt rfl) (zble rfl) rfl (kX12_isBox_1 _ (zsI (zsI (h) 196 0 0) 196 11 0) p1 (zsiI (zsiI s196)) i196_14) ?_
  refine ex_if_f (pc' := 12) dX12_registered_9 (by decide) (by decide) rfl ?_
  refine ex_aload_n (pc' := 13) dX12_registered_12 rfl rfl ?_
  refine ex_iconst (v := 1) (pc' := 14) dX12_registered_13 (by decide) rfl ?_
  refine en_callvI (pc' := 17) (vs := [.inl 1]) (rest := []) (h2 := zsI (zsI (zsI (h) 196 0 0) 196 11 0) 196 11 1) (v := (-1)) dX12_registered_14 ml_12_170 ⟨zble rfl, zble rfl⟩ rfl rfl (zsiI (zsiI s196)) (zblt rfl) (zble rfl) rfl (kX12_no_2 _ (zsI (zsI (h) 196 0 0) 196 11 0) (zsiI (zsiI s196))) ?_
  refine ex_i2l (pc' := 18) (v := (-1)) dX12_registered_17 (by decide) rfl ?_
  exact ex_lretL dX12_registered_18 rfl ⟨rfl, rfl⟩
set_option maxRecDepth 10000 in
theorem kX11_registered_2 (d : Nat) (h : zH) (p1 : Int32) (s0 : zsh h 0 = some (11, 16)) (s2 : zsh h 2 = some (4, 15)) (i2_7 : h.2.1 2 7 = 0) (r0_3 : h.2.2.2.1 0 3 = some 2) : zCl (d + 1) mX11_registered [.inr (.inr (some 0)), .inl p1, .inl 1] h (fun x h' => x = (-1) ∧ h' = zsI (h) 0 2 1) := by
  show zEx none (d + 1) mX11_registered (0, [(0, .inr (.inr (some 0))), (1, .inl p1), (2, .inl 1)], [], h) _
  refine ex_aload_n (pc' := 1) dX11_registered_0 rfl rfl ?_
  refine ex_iload_n (pc' := 2) dX11_registered_1 rfl rfl ?_
  refine en_callvI (pc' := 5) (vs := [.inl p1]) (rest := []) (h2 := h) (v := 0) dX11_registered_2 ml_11_147 ⟨zble rfl, zble rfl⟩ rfl rfl s0 (zblt rfl) (zble rfl) rfl (kX11_isBox_1 _ h p1 s0 s2 i2_7 r0_3) ?_
  refine ex_if_f (pc' := 8) dX11_registered_5 (by decide) (by decide) rfl ?_
  refine ex_aload_n (pc' := 9) dX11_registered_8 rfl rfl ?_
  refine ex_iconst (v := 1) (pc' := 10) dX11_registered_9 (by decide) rfl ?_
  refine en_callvI (pc' := 13) (vs := [.inl 1]) (rest := []) (h2 := zsI (h) 0 2 1) (v := (-1)) dX11_registered_10 ml_11_98 ⟨zble rfl, zble rfl⟩ rfl rfl s0 (zblt rfl) (zble rfl) rfl (kX11_refused_2 _ h s0) ?_
  refine ex_i2l (pc' := 14) (v := (-1)) dX11_registered_13 (by decide) rfl ?_
  exact ex_lretL dX11_registered_14 rfl ⟨rfl, rfl⟩
set_option maxRecDepth 10000 in
theorem kX12_registered_2 (d : Nat) (h : zH) (p1 : Int32) (s196 : zsh h 196 = some (12, 39)) (i196_14 : h.2.1 196 14 = 0) : zCl (d + 1) mX12_registered [.inr (.inr (some 196)), .inl p1, .inl 1] h (fun x h' => x = (-1) ∧ h' = zsI (zsI (zsI (h) 196 0 0) 196 11 0) 196 11 1) := by
  show zEx none (d + 1) mX12_registered (0, [(0, .inr (.inr (some 196))), (1, .inl p1), (2, .inl 1)], [], h) _
  refine ex_aload_n (pc' := 1) dX12_registered_0 rfl rfl ?_
  refine en_callvV (pc' := 4) (vs := []) (rest := []) (h2 := zsI (zsI (h) 196 0 0) 196 11 0) dX12_registered_1 ml_12_167 ⟨zble rfl, zble rfl⟩ rfl rfl s196 (zblt rfl) (zble rfl) rfl (kX12_good_1 _ h s196) ?_
  refine ex_aload_n (pc' := 5) dX12_registered_4 rfl rfl ?_
  refine ex_iload_n (pc' := 6) dX12_registered_5 rfl rfl ?_
  refine en_callvI (pc' := 9) (vs := [.inl p1]) (rest := []) (h2 := zsI (zsI (h) 196 0 0) 196 11 0) (v := 0) dX12_registered_6 ml_12_274 ⟨zble rfl, zble rfl⟩ rfl rfl (zsiI (zsiI s196)) (zblt rfl) (zble rfl) rfl (kX12_isBox_1 _ (zsI (zsI (h) 196 0 0) 196 11 0) p1 (zsiI (zsiI s196)) i196_14) ?_
  refine ex_if_f (pc' := 12) dX12_registered_9 (by decide) (by decide) rfl ?_
  refine ex_aload_n (pc' := 13) dX12_registered_12 rfl rfl ?_
  refine ex_iconst (v := 1) (pc' := 14) dX12_registered_13 (by decide) rfl ?_
  refine en_callvI (pc' := 17) (vs := [.inl 1]) (rest := []) (h2 := zsI (zsI (zsI (h) 196 0 0) 196 11 0) 196 11 1) (v := (-1)) dX12_registered_14 ml_12_170 ⟨zble rfl, zble rfl⟩ rfl rfl (zsiI (zsiI s196)) (zblt rfl) (zble rfl) rfl (kX12_no_2 _ (zsI (zsI (h) 196 0 0) 196 11 0) (zsiI (zsiI s196))) ?_
  refine ex_i2l (pc' := 18) (v := (-1)) dX12_registered_17 (by decide) rfl ?_
  exact ex_lretL dX12_registered_18 rfl ⟨rfl, rfl⟩
set_option maxRecDepth 10000 in
theorem kX11_match_1 (d : Nat) (h : zH) (s0 : zsh h 0 = some (11, 16)) (s2 : zsh h 2 = some (4, 15)) (i2_4 : h.2.1 2 4 = 0) (r0_3 : h.2.2.2.1 0 3 = some 2) : zCi (d + 1) mX11_match [.inr (.inr (some 0))] h (fun x h' => x = (-1) ∧ h' = zsI (h) 0 2 1) := by
  show zEx none (d + 1) mX11_match (0, [(0, .inr (.inr (some 0)))], [], h) _
  refine ex_aload_n (pc' := 1) dX11_match_0 rfl rfl ?_
  refine en_callvI (pc' := 4) (vs := []) (rest := []) (h2 := h) (v := 0) dX11_match_1 ml_11_222 ⟨zble rfl, zble rfl⟩ rfl rfl s0 (zblt rfl) (zble rfl) rfl (kX11_hasPost_1 _ h s0 s2 i2_4 r0_3) ?_
  refine ex_if_f (pc' := 7) dX11_match_4 (by decide) (by decide) rfl ?_
  refine ex_aload_n (pc' := 8) dX11_match_7 rfl rfl ?_
  refine ex_iconst (v := 1) (pc' := 9) dX11_match_8 (by decide) rfl ?_
  refine en_callvI (pc' := 12) (vs := [.inl 1]) (rest := []) (h2 := zsI (h) 0 2 1) (v := (-1)) dX11_match_9 ml_11_98 ⟨zble rfl, zble rfl⟩ rfl rfl s0 (zblt rfl) (zble rfl) rfl (kX11_refused_2 _ h s0) ?_
  exact ex_iretI dX11_match_12 rfl rfl ⟨rfl, rfl⟩
set_option maxRecDepth 10000 in
theorem kX12_match_1 (d : Nat) (h : zH) (s196 : zsh h 196 = some (12, 39)) (i196_14 : h.2.1 196 14 = 0) : zCi (d + 1) mX12_match [.inr (.inr (some 196))] h (fun x h' => x = (-1) ∧ h' = zsI (zsI (zsI (h) 196 0 0) 196 11 0) 196 11 1) := by
  show zEx none (d + 1) mX12_match (0, [(0, .inr (.inr (some 196)))], [], h) _
  refine ex_aload_n (pc' := 1) dX12_match_0 rfl rfl ?_
  refine en_callvV (pc' := 4) (vs := []) (rest := []) (h2 := zsI (zsI (h) 196 0 0) 196 11 0) dX12_match_1 ml_12_167 ⟨zble rfl, zble rfl⟩ rfl rfl s196 (zblt rfl) (zble rfl) rfl (kX12_good_1 _ h s196) ?_
  refine ex_aload_n (pc' := 5) dX12_match_4 rfl rfl ?_
  refine ex_getI (pc' := 8) (v := 0) dX12_match_5 fl_12_180 (zsiI (zsiI s196)) (by decide) i196_14 rfl ?_
  refine ex_if_f (pc' := 11) dX12_match_8 (by decide) (by decide) rfl ?_
  refine ex_aload_n (pc' := 12) dX12_match_11 rfl rfl ?_
  refine ex_iconst (v := 1) (pc' := 13) dX12_match_12 (by decide) rfl ?_
  refine en_callvI (pc' := 16) (vs := [.inl 1]) (rest := []) (h2 := zsI (zsI (zsI (h) 196 0 0) 196 11 0) 196 11 1) (v := (-1)) dX12_match_13 ml_12_170 ⟨zble rfl, zble rfl⟩ rfl rfl (zsiI (zsiI s196)) (zblt rfl) (zble rfl) rfl (kX12_no_2 _ (zsI (zsI (h) 196 0 0) 196 11 0) (zsiI (zsiI s196))) ?_
  exact ex_iretI dX12_match_16 rfl rfl ⟨rfl, rfl⟩
set_option maxRecDepth 10000 in
theorem kX11_matchDays_1 (d : Nat) (h : zH) (s0 : zsh h 0 = some (11, 16)) (s2 : zsh h 2 = some (4, 15)) (i2_4 : h.2.1 2 4 = 0) (r0_3 : h.2.2.2.1 0 3 = some 2) : zCi (d + 1) mX11_matchDays [.inr (.inr (some 0))] h (fun x h' => x = (-1) ∧ h' = zsI (h) 0 2 1) := by
  show zEx none (d + 1) mX11_matchDays (0, [(0, .inr (.inr (some 0)))], [], h) _
  refine ex_aload_n (pc' := 1) dX11_matchDays_0 rfl rfl ?_
  refine en_callvI (pc' := 4) (vs := []) (rest := []) (h2 := h) (v := 0) dX11_matchDays_1 ml_11_222 ⟨zble rfl, zble rfl⟩ rfl rfl s0 (zblt rfl) (zble rfl) rfl (kX11_hasPost_1 _ h s0 s2 i2_4 r0_3) ?_
  refine ex_if_f (pc' := 7) dX11_matchDays_4 (by decide) (by decide) rfl ?_
  refine ex_aload_n (pc' := 8) dX11_matchDays_7 rfl rfl ?_
  refine ex_iconst (v := 1) (pc' := 9) dX11_matchDays_8 (by decide) rfl ?_
  refine en_callvI (pc' := 12) (vs := [.inl 1]) (rest := []) (h2 := zsI (h) 0 2 1) (v := (-1)) dX11_matchDays_9 ml_11_98 ⟨zble rfl, zble rfl⟩ rfl rfl s0 (zblt rfl) (zble rfl) rfl (kX11_refused_2 _ h s0) ?_
  exact ex_iretI dX11_matchDays_12 rfl rfl ⟨rfl, rfl⟩
set_option maxRecDepth 10000 in
theorem kX12_matchDays_1 (d : Nat) (h : zH) (s196 : zsh h 196 = some (12, 39)) (i196_14 : h.2.1 196 14 = 0) : zCi (d + 1) mX12_matchDays [.inr (.inr (some 196))] h (fun x h' => x = (-1) ∧ h' = zsI (zsI (zsI (h) 196 0 0) 196 11 0) 196 11 1) := by
  show zEx none (d + 1) mX12_matchDays (0, [(0, .inr (.inr (some 196)))], [], h) _
  refine ex_aload_n (pc' := 1) dX12_matchDays_0 rfl rfl ?_
  refine en_callvV (pc' := 4) (vs := []) (rest := []) (h2 := zsI (zsI (h) 196 0 0) 196 11 0) dX12_matchDays_1 ml_12_167 ⟨zble rfl, zble rfl⟩ rfl rfl s196 (zblt rfl) (zble rfl) rfl (kX12_good_1 _ h s196) ?_
  refine ex_aload_n (pc' := 5) dX12_matchDays_4 rfl rfl ?_
  refine ex_getI (pc' := 8) (v := 0) dX12_matchDays_5 fl_12_180 (zsiI (zsiI s196)) (by decide) i196_14 rfl ?_
  refine ex_if_f (pc' := 11) dX12_matchDays_8 (by decide) (by decide) rfl ?_
  refine ex_aload_n (pc' := 12) dX12_matchDays_11 rfl rfl ?_
  refine ex_iconst (v := 1) (pc' := 13) dX12_matchDays_12 (by decide) rfl ?_
  refine en_callvI (pc' := 16) (vs := [.inl 1]) (rest := []) (h2 := zsI (zsI (zsI (h) 196 0 0) 196 11 0) 196 11 1) (v := (-1)) dX12_matchDays_13 ml_12_170 ⟨zble rfl, zble rfl⟩ rfl rfl (zsiI (zsiI s196)) (zblt rfl) (zble rfl) rfl (kX12_no_2 _ (zsI (zsI (h) 196 0 0) 196 11 0) (zsiI (zsiI s196))) ?_
  exact ex_iretI dX12_matchDays_16 rfl rfl ⟨rfl, rfl⟩
set_option maxRecDepth 10000 in
theorem kX11_matchOf_1 (d : Nat) (h : zH) (p1 : Int32) (s0 : zsh h 0 = some (11, 16)) (s2 : zsh h 2 = some (4, 15)) (i2_7 : h.2.1 2 7 = 0) (r0_3 : h.2.2.2.1 0 3 = some 2) : zCi (d + 1) mX11_matchOf [.inr (.inr (some 0)), .inl p1] h (fun x h' => x = (-1) ∧ h' = zsI (h) 0 2 1) := by
  show zEx none (d + 1) mX11_matchOf (0, [(0, .inr (.inr (some 0))), (1, .inl p1)], [], h) _
  refine ex_aload_n (pc' := 1) dX11_matchOf_0 rfl rfl ?_
  refine ex_iload_n (pc' := 2) dX11_matchOf_1 rfl rfl ?_
  refine en_callvI (pc' := 5) (vs := [.inl p1]) (rest := []) (h2 := h) (v := 0) dX11_matchOf_2 ml_11_147 ⟨zble rfl, zble rfl⟩ rfl rfl s0 (zblt rfl) (zble rfl) rfl (kX11_isBox_1 _ h p1 s0 s2 i2_7 r0_3) ?_
  refine ex_if_f (pc' := 8) dX11_matchOf_5 (by decide) (by decide) rfl ?_
  refine ex_aload_n (pc' := 9) dX11_matchOf_8 rfl rfl ?_
  refine ex_iconst (v := 1) (pc' := 10) dX11_matchOf_9 (by decide) rfl ?_
  refine en_callvI (pc' := 13) (vs := [.inl 1]) (rest := []) (h2 := zsI (h) 0 2 1) (v := (-1)) dX11_matchOf_10 ml_11_98 ⟨zble rfl, zble rfl⟩ rfl rfl s0 (zblt rfl) (zble rfl) rfl (kX11_refused_2 _ h s0) ?_
  exact ex_iretI dX11_matchOf_13 rfl rfl ⟨rfl, rfl⟩
set_option maxRecDepth 10000 in
theorem kX12_matchOf_1 (d : Nat) (h : zH) (p1 : Int32) (s196 : zsh h 196 = some (12, 39)) (i196_14 : h.2.1 196 14 = 0) : zCi (d + 1) mX12_matchOf [.inr (.inr (some 196)), .inl p1] h (fun x h' => x = (-1) ∧ h' = zsI (zsI (zsI (h) 196 0 0) 196 11 0) 196 11 1) := by
  show zEx none (d + 1) mX12_matchOf (0, [(0, .inr (.inr (some 196))), (1, .inl p1)], [], h) _
  refine ex_aload_n (pc' := 1) dX12_matchOf_0 rfl rfl ?_
  refine en_callvV (pc' := 4) (vs := []) (rest := []) (h2 := zsI (zsI (h) 196 0 0) 196 11 0) dX12_matchOf_1 ml_12_167 ⟨zble rfl, zble rfl⟩ rfl rfl s196 (zblt rfl) (zble rfl) rfl (kX12_good_1 _ h s196) ?_
  refine ex_aload_n (pc' := 5) dX12_matchOf_4 rfl rfl ?_
  refine ex_iload_n (pc' := 6) dX12_matchOf_5 rfl rfl ?_
  refine en_callvI (pc' := 9) (vs := [.inl p1]) (rest := []) (h2 := zsI (zsI (h) 196 0 0) 196 11 0) (v := 0) dX12_matchOf_6 ml_12_274 ⟨zble rfl, zble rfl⟩ rfl rfl (zsiI (zsiI s196)) (zblt rfl) (zble rfl) rfl (kX12_isBox_1 _ (zsI (zsI (h) 196 0 0) 196 11 0) p1 (zsiI (zsiI s196)) i196_14) ?_
  refine ex_if_f (pc' := 12) dX12_matchOf_9 (by decide) (by decide) rfl ?_
  refine ex_aload_n (pc' := 13) dX12_matchOf_12 rfl rfl ?_
  refine ex_iconst (v := 1) (pc' := 14) dX12_matchOf_13 (by decide) rfl ?_
  refine en_callvI (pc' := 17) (vs := [.inl 1]) (rest := []) (h2 := zsI (zsI (zsI (h) 196 0 0) 196 11 0) 196 11 1) (v := (-1)) dX12_matchOf_14 ml_12_170 ⟨zble rfl, zble rfl⟩ rfl rfl (zsiI (zsiI s196)) (zblt rfl) (zble rfl) rfl (kX12_no_2 _ (zsI (zsI (h) 196 0 0) 196 11 0) (zsiI (zsiI s196))) ?_
  exact ex_iretI dX12_matchOf_17 rfl rfl ⟨rfl, rfl⟩
set_option maxRecDepth 10000 in
theorem kX11_meet_1 (d : Nat) (h : zH) (p1 p2 p3 p4 : Int32) (s0 : zsh h 0 = some (11, 16)) (s2 : zsh h 2 = some (4, 15)) (i2_7 : h.2.1 2 7 = 0) (r0_3 : h.2.2.2.1 0 3 = some 2) : zCi (d + 1) mX11_meet [.inr (.inr (some 0)), .inl p1, .inl p2, .inl p3, .inl p4] h (fun x h' => x = (-1) ∧ h' = zsI (h) 0 2 1) := by
  show zEx none (d + 1) mX11_meet (0, [(0, .inr (.inr (some 0))), (1, .inl p1), (2, .inl p2), (3, .inl p3), (4, .inl p4)], [], h) _
  refine ex_aload_n (pc' := 1) dX11_meet_0 rfl rfl ?_
  refine ex_iload_n (pc' := 2) dX11_meet_1 rfl rfl ?_
  refine en_callvI (pc' := 5) (vs := [.inl p1]) (rest := []) (h2 := h) (v := 0) dX11_meet_2 ml_11_147 ⟨zble rfl, zble rfl⟩ rfl rfl s0 (zblt rfl) (zble rfl) rfl (kX11_isBox_1 _ h p1 s0 s2 i2_7 r0_3) ?_
  refine ex_if_t (pc' := 44) dX11_meet_5 (by decide) (by decide) ?_
  refine ex_aload_n (pc' := 45) dX11_meet_44 rfl rfl ?_
  refine ex_iconst (v := 1) (pc' := 46) dX11_meet_45 (by decide) rfl ?_
  refine en_callvI (pc' := 49) (vs := [.inl 1]) (rest := []) (h2 := zsI (h) 0 2 1) (v := (-1)) dX11_meet_46 ml_11_98 ⟨zble rfl, zble rfl⟩ rfl rfl s0 (zblt rfl) (zble rfl) rfl (kX11_refused_2 _ h s0) ?_
  exact ex_iretI dX11_meet_49 rfl rfl ⟨rfl, rfl⟩
set_option maxRecDepth 10000 in
theorem kX12_meet_1 (d : Nat) (h : zH) (p1 p2 p3 p4 : Int32) (s196 : zsh h 196 = some (12, 39)) (i196_14 : h.2.1 196 14 = 0) : zCi (d + 1) mX12_meet [.inr (.inr (some 196)), .inl p1, .inl p2, .inl p3, .inl p4] h (fun x h' => x = (-1) ∧ h' = zsI (zsI (zsI (h) 196 0 0) 196 11 0) 196 11 1) := by
  show zEx none (d + 1) mX12_meet (0, [(0, .inr (.inr (some 196))), (1, .inl p1), (2, .inl p2), (3, .inl p3), (4, .inl p4)], [], h) _
  refine ex_aload_n (pc' := 1) dX12_meet_0 rfl rfl ?_
  refine en_callvV (pc' := 4) (vs := []) (rest := []) (h2 := zsI (zsI (h) 196 0 0) 196 11 0) dX12_meet_1 ml_12_167 ⟨zble rfl, zble rfl⟩ rfl rfl s196 (zblt rfl) (zble rfl) rfl (kX12_good_1 _ h s196) ?_
  refine ex_aload_n (pc' := 5) dX12_meet_4 rfl rfl ?_
  refine ex_iload_n (pc' := 6) dX12_meet_5 rfl rfl ?_
  refine en_callvI (pc' := 9) (vs := [.inl p1]) (rest := []) (h2 := zsI (zsI (h) 196 0 0) 196 11 0) (v := 0) dX12_meet_6 ml_12_274 ⟨zble rfl, zble rfl⟩ rfl rfl (zsiI (zsiI s196)) (zblt rfl) (zble rfl) rfl (kX12_isBox_1 _ (zsI (zsI (h) 196 0 0) 196 11 0) p1 (zsiI (zsiI s196)) i196_14) ?_
  refine ex_if_t (pc' := 48) dX12_meet_9 (by decide) (by decide) ?_
  refine ex_aload_n (pc' := 49) dX12_meet_48 rfl rfl ?_
  refine ex_iconst (v := 1) (pc' := 50) dX12_meet_49 (by decide) rfl ?_
  refine en_callvI (pc' := 53) (vs := [.inl 1]) (rest := []) (h2 := zsI (zsI (zsI (h) 196 0 0) 196 11 0) 196 11 1) (v := (-1)) dX12_meet_50 ml_12_170 ⟨zble rfl, zble rfl⟩ rfl rfl (zsiI (zsiI s196)) (zblt rfl) (zble rfl) rfl (kX12_no_2 _ (zsI (zsI (h) 196 0 0) 196 11 0) (zsiI (zsiI s196))) ?_
  exact ex_iretI dX12_meet_53 rfl rfl ⟨rfl, rfl⟩
set_option maxRecDepth 10000 in
theorem kX11_fits_1 (d : Nat) (h : zH) (s0 : zsh h 0 = some (11, 16)) (s2 : zsh h 2 = some (4, 15)) (i2_4 : h.2.1 2 4 = 0) (r0_3 : h.2.2.2.1 0 3 = some 2) : zCi (d + 1) mX11_fits [.inr (.inr (some 0))] h (fun x h' => x = (-1) ∧ h' = zsI (h) 0 2 1) := by
  show zEx none (d + 1) mX11_fits (0, [(0, .inr (.inr (some 0)))], [], h) _
  refine ex_aload_n (pc' := 1) dX11_fits_0 rfl rfl ?_
  refine en_callvI (pc' := 4) (vs := []) (rest := []) (h2 := h) (v := 0) dX11_fits_1 ml_11_222 ⟨zble rfl, zble rfl⟩ rfl rfl s0 (zblt rfl) (zble rfl) rfl (kX11_hasPost_1 _ h s0 s2 i2_4 r0_3) ?_
  refine ex_if_t (pc' := 21) dX11_fits_4 (by decide) (by decide) ?_
  refine ex_aload_n (pc' := 22) dX11_fits_21 rfl rfl ?_
  refine ex_iconst (v := 1) (pc' := 23) dX11_fits_22 (by decide) rfl ?_
  refine en_callvI (pc' := 26) (vs := [.inl 1]) (rest := []) (h2 := zsI (h) 0 2 1) (v := (-1)) dX11_fits_23 ml_11_98 ⟨zble rfl, zble rfl⟩ rfl rfl s0 (zblt rfl) (zble rfl) rfl (kX11_refused_2 _ h s0) ?_
  exact ex_iretI dX11_fits_26 rfl rfl ⟨rfl, rfl⟩
set_option maxRecDepth 10000 in
theorem kX12_fits_1 (d : Nat) (h : zH) (s196 : zsh h 196 = some (12, 39)) (i196_14 : h.2.1 196 14 = 0) : zCi (d + 1) mX12_fits [.inr (.inr (some 196))] h (fun x h' => x = (-1) ∧ h' = zsI (zsI (zsI (h) 196 0 0) 196 11 0) 196 11 1) := by
  show zEx none (d + 1) mX12_fits (0, [(0, .inr (.inr (some 196)))], [], h) _
  refine ex_aload_n (pc' := 1) dX12_fits_0 rfl rfl ?_
  refine en_callvV (pc' := 4) (vs := []) (rest := []) (h2 := zsI (zsI (h) 196 0 0) 196 11 0) dX12_fits_1 ml_12_167 ⟨zble rfl, zble rfl⟩ rfl rfl s196 (zblt rfl) (zble rfl) rfl (kX12_good_1 _ h s196) ?_
  refine ex_aload_n (pc' := 5) dX12_fits_4 rfl rfl ?_
  refine ex_getI (pc' := 8) (v := 0) dX12_fits_5 fl_12_180 (zsiI (zsiI s196)) (by decide) i196_14 rfl ?_
  refine ex_if_f (pc' := 11) dX12_fits_8 (by decide) (by decide) rfl ?_
  refine ex_aload_n (pc' := 12) dX12_fits_11 rfl rfl ?_
  refine ex_iconst (v := 1) (pc' := 13) dX12_fits_12 (by decide) rfl ?_
  refine en_callvI (pc' := 16) (vs := [.inl 1]) (rest := []) (h2 := zsI (zsI (zsI (h) 196 0 0) 196 11 0) 196 11 1) (v := (-1)) dX12_fits_13 ml_12_170 ⟨zble rfl, zble rfl⟩ rfl rfl (zsiI (zsiI s196)) (zblt rfl) (zble rfl) rfl (kX12_no_2 _ (zsI (zsI (h) 196 0 0) 196 11 0) (zsiI (zsiI s196))) ?_
  exact ex_iretI dX12_fits_16 rfl rfl ⟨rfl, rfl⟩
set_option maxRecDepth 10000 in
theorem kX11_reach_1 (d : Nat) (h : zH) (p1 p2 : Int32) (s0 : zsh h 0 = some (11, 16)) (s2 : zsh h 2 = some (4, 15)) (i2_6 : h.2.1 2 6 = 0) (r0_3 : h.2.2.2.1 0 3 = some 2) : zCi (d + 1) mX11_reach [.inr (.inr (some 0)), .inl p1, .inl p2] h (fun x h' => x = (-1) ∧ h' = zsI (h) 0 2 1) := by
  show zEx none (d + 1) mX11_reach (0, [(0, .inr (.inr (some 0))), (1, .inl p1), (2, .inl p2)], [], h) _
  refine ex_aload_n (pc' := 1) dX11_reach_0 rfl rfl ?_
  refine ex_iload_n (pc' := 2) dX11_reach_1 rfl rfl ?_
  refine en_callvI (pc' := 5) (vs := [.inl p1]) (rest := []) (h2 := h) (v := 0) dX11_reach_2 ml_11_121 ⟨zble rfl, zble rfl⟩ rfl rfl s0 (zblt rfl) (zble rfl) rfl (kX11_isWhale_1 _ h p1 s0 s2 i2_6 r0_3) ?_
  refine ex_if_f (pc' := 8) dX11_reach_5 (by decide) (by decide) rfl ?_
  refine ex_aload_n (pc' := 9) dX11_reach_8 rfl rfl ?_
  refine ex_iconst (v := 1) (pc' := 10) dX11_reach_9 (by decide) rfl ?_
  refine en_callvI (pc' := 13) (vs := [.inl 1]) (rest := []) (h2 := zsI (h) 0 2 1) (v := (-1)) dX11_reach_10 ml_11_98 ⟨zble rfl, zble rfl⟩ rfl rfl s0 (zblt rfl) (zble rfl) rfl (kX11_refused_2 _ h s0) ?_
  exact ex_iretI dX11_reach_13 rfl rfl ⟨rfl, rfl⟩
set_option maxRecDepth 10000 in
theorem kX12_reach_1 (d : Nat) (h : zH) (p1 p2 : Int32) (s196 : zsh h 196 = some (12, 39)) (i196_14 : h.2.1 196 14 = 0) : zCi (d + 1) mX12_reach [.inr (.inr (some 196)), .inl p1, .inl p2] h (fun x h' => x = (-1) ∧ h' = zsI (zsI (zsI (h) 196 0 0) 196 11 0) 196 11 1) := by
  show zEx none (d + 1) mX12_reach (0, [(0, .inr (.inr (some 196))), (1, .inl p1), (2, .inl p2)], [], h) _
  refine ex_aload_n (pc' := 1) dX12_reach_0 rfl rfl ?_
  refine en_callvV (pc' := 4) (vs := []) (rest := []) (h2 := zsI (zsI (h) 196 0 0) 196 11 0) dX12_reach_1 ml_12_167 ⟨zble rfl, zble rfl⟩ rfl rfl s196 (zblt rfl) (zble rfl) rfl (kX12_good_1 _ h s196) ?_
  refine ex_aload_n (pc' := 5) dX12_reach_4 rfl rfl ?_
  refine ex_iload_n (pc' := 6) dX12_reach_5 rfl rfl ?_
  refine en_callvI (pc' := 9) (vs := [.inl p1]) (rest := []) (h2 := zsI (zsI (h) 196 0 0) 196 11 0) (v := 0) dX12_reach_6 ml_12_268 ⟨zble rfl, zble rfl⟩ rfl rfl (zsiI (zsiI s196)) (zblt rfl) (zble rfl) rfl (kX12_isWhale_1 _ (zsI (zsI (h) 196 0 0) 196 11 0) p1 (zsiI (zsiI s196)) i196_14) ?_
  refine ex_if_f (pc' := 12) dX12_reach_9 (by decide) (by decide) rfl ?_
  refine ex_aload_n (pc' := 13) dX12_reach_12 rfl rfl ?_
  refine ex_iconst (v := 1) (pc' := 14) dX12_reach_13 (by decide) rfl ?_
  refine en_callvI (pc' := 17) (vs := [.inl 1]) (rest := []) (h2 := zsI (zsI (zsI (h) 196 0 0) 196 11 0) 196 11 1) (v := (-1)) dX12_reach_14 ml_12_170 ⟨zble rfl, zble rfl⟩ rfl rfl (zsiI (zsiI s196)) (zblt rfl) (zble rfl) rfl (kX12_no_2 _ (zsI (zsI (h) 196 0 0) 196 11 0) (zsiI (zsiI s196))) ?_
  exact ex_iretI dX12_reach_17 rfl rfl ⟨rfl, rfl⟩
set_option maxRecDepth 10000 in
theorem kX11_pier_1 (d : Nat) (h : zH) (p1 : Int32) (s0 : zsh h 0 = some (11, 16)) (s2 : zsh h 2 = some (4, 15)) (i2_4 : h.2.1 2 4 = 0) (r0_3 : h.2.2.2.1 0 3 = some 2) : zCi (d + 1) mX11_pier [.inr (.inr (some 0)), .inl p1] h (fun x h' => x = (-1) ∧ h' = zsI (h) 0 2 1) := by
  show zEx none (d + 1) mX11_pier (0, [(0, .inr (.inr (some 0))), (1, .inl p1)], [], h) _
  refine ex_aload_n (pc' := 1) dX11_pier_0 rfl rfl ?_
  refine en_callvI (pc' := 4) (vs := []) (rest := []) (h2 := h) (v := 0) dX11_pier_1 ml_11_222 ⟨zble rfl, zble rfl⟩ rfl rfl s0 (zblt rfl) (zble rfl) rfl (kX11_hasPost_1 _ h s0 s2 i2_4 r0_3) ?_
  refine ex_if_f (pc' := 7) dX11_pier_4 (by decide) (by decide) rfl ?_
  refine ex_aload_n (pc' := 8) dX11_pier_7 rfl rfl ?_
  refine ex_iconst (v := 1) (pc' := 9) dX11_pier_8 (by decide) rfl ?_
  refine en_callvI (pc' := 12) (vs := [.inl 1]) (rest := []) (h2 := zsI (h) 0 2 1) (v := (-1)) dX11_pier_9 ml_11_98 ⟨zble rfl, zble rfl⟩ rfl rfl s0 (zblt rfl) (zble rfl) rfl (kX11_refused_2 _ h s0) ?_
  exact ex_iretI dX11_pier_12 rfl rfl ⟨rfl, rfl⟩
set_option maxRecDepth 10000 in
theorem kX12_pier_1 (d : Nat) (h : zH) (p1 : Int32) (s196 : zsh h 196 = some (12, 39)) (i196_14 : h.2.1 196 14 = 0) : zCi (d + 1) mX12_pier [.inr (.inr (some 196)), .inl p1] h (fun x h' => x = (-1) ∧ h' = zsI (zsI (zsI (h) 196 0 0) 196 11 0) 196 11 1) := by
  show zEx none (d + 1) mX12_pier (0, [(0, .inr (.inr (some 196))), (1, .inl p1)], [], h) _
  refine ex_aload_n (pc' := 1) dX12_pier_0 rfl rfl ?_
  refine en_callvV (pc' := 4) (vs := []) (rest := []) (h2 := zsI (zsI (h) 196 0 0) 196 11 0) dX12_pier_1 ml_12_167 ⟨zble rfl, zble rfl⟩ rfl rfl s196 (zblt rfl) (zble rfl) rfl (kX12_good_1 _ h s196) ?_
  refine ex_aload_n (pc' := 5) dX12_pier_4 rfl rfl ?_
  refine ex_getI (pc' := 8) (v := 0) dX12_pier_5 fl_12_180 (zsiI (zsiI s196)) (by decide) i196_14 rfl ?_
  refine ex_if_f (pc' := 11) dX12_pier_8 (by decide) (by decide) rfl ?_
  refine ex_aload_n (pc' := 12) dX12_pier_11 rfl rfl ?_
  refine ex_iconst (v := 1) (pc' := 13) dX12_pier_12 (by decide) rfl ?_
  refine en_callvI (pc' := 16) (vs := [.inl 1]) (rest := []) (h2 := zsI (zsI (zsI (h) 196 0 0) 196 11 0) 196 11 1) (v := (-1)) dX12_pier_13 ml_12_170 ⟨zble rfl, zble rfl⟩ rfl rfl (zsiI (zsiI s196)) (zblt rfl) (zble rfl) rfl (kX12_no_2 _ (zsI (zsI (h) 196 0 0) 196 11 0) (zsiI (zsiI s196))) ?_
  exact ex_iretI dX12_pier_16 rfl rfl ⟨rfl, rfl⟩
set_option maxRecDepth 10000 in
theorem kX11_watch_1 (d : Nat) (h : zH) (p1 p2 : Int32) (s0 : zsh h 0 = some (11, 16)) (s2 : zsh h 2 = some (4, 15)) (i2_4 : h.2.1 2 4 = 0) (r0_3 : h.2.2.2.1 0 3 = some 2) : zCi (d + 2) mX11_watch [.inr (.inr (some 0)), .inl p1, .inl p2] h (fun x h' => x = (-1) ∧ h' = zsI (h) 0 2 1) := by
  show zEx none (d + 2) mX11_watch (0, [(0, .inr (.inr (some 0))), (1, .inl p1), (2, .inl p2)], [], h) _
  refine ex_aload_n (pc' := 1) dX11_watch_0 rfl rfl ?_
  refine ex_iload_n (pc' := 2) dX11_watch_1 rfl rfl ?_
  refine ex_iload_n (pc' := 3) dX11_watch_2 rfl rfl ?_
  refine en_callvI (pc' := 6) (vs := [.inl p1, .inl p2]) (rest := []) (h2 := h) (v := 0) dX11_watch_3 ml_11_204 ⟨zble rfl, zble rfl⟩ rfl rfl s0 (zblt rfl) (zble rfl) rfl (kX11_areTwoIslands_1 _ h p1 p2 s0 s2 i2_4 r0_3) ?_
  refine ex_if_t (pc' := 32) dX11_watch_6 (by decide) (by decide) ?_
  refine ex_aload_n (pc' := 33) dX11_watch_32 rfl rfl ?_
  refine ex_iconst (v := 1) (pc' := 34) dX11_watch_33 (by decide) rfl ?_
  refine en_callvI (pc' := 37) (vs := [.inl 1]) (rest := []) (h2 := zsI (h) 0 2 1) (v := (-1)) dX11_watch_34 ml_11_98 ⟨zble rfl, zble rfl⟩ rfl rfl s0 (zblt rfl) (zble rfl) rfl (kX11_refused_2 _ h s0) ?_
  exact ex_iretI dX11_watch_37 rfl rfl ⟨rfl, rfl⟩
set_option maxRecDepth 10000 in
theorem kX12_watch_1 (d : Nat) (h : zH) (p1 p2 : Int32) (s196 : zsh h 196 = some (12, 39)) (i196_14 : h.2.1 196 14 = 0) : zCi (d + 1) mX12_watch [.inr (.inr (some 196)), .inl p1, .inl p2] h (fun x h' => x = (-1) ∧ h' = zsI (zsI (zsI (h) 196 0 0) 196 11 0) 196 11 1) := by
  show zEx none (d + 1) mX12_watch (0, [(0, .inr (.inr (some 196))), (1, .inl p1), (2, .inl p2)], [], h) _
  refine ex_aload_n (pc' := 1) dX12_watch_0 rfl rfl ?_
  refine en_callvV (pc' := 4) (vs := []) (rest := []) (h2 := zsI (zsI (h) 196 0 0) 196 11 0) dX12_watch_1 ml_12_167 ⟨zble rfl, zble rfl⟩ rfl rfl s196 (zblt rfl) (zble rfl) rfl (kX12_good_1 _ h s196) ?_
  refine ex_aload_n (pc' := 5) dX12_watch_4 rfl rfl ?_
  refine ex_iload_n (pc' := 6) dX12_watch_5 rfl rfl ?_
  refine en_callvI (pc' := 9) (vs := [.inl p1]) (rest := []) (h2 := zsI (zsI (h) 196 0 0) 196 11 0) (v := 0) dX12_watch_6 ml_12_277 ⟨zble rfl, zble rfl⟩ rfl rfl (zsiI (zsiI s196)) (zblt rfl) (zble rfl) rfl (kX12_isIsland_1 _ (zsI (zsI (h) 196 0 0) 196 11 0) p1 (zsiI (zsiI s196)) i196_14) ?_
  refine ex_if_t (pc' := 25) dX12_watch_9 (by decide) (by decide) ?_
  refine ex_aload_n (pc' := 26) dX12_watch_25 rfl rfl ?_
  refine ex_iconst (v := 1) (pc' := 27) dX12_watch_26 (by decide) rfl ?_
  refine en_callvI (pc' := 30) (vs := [.inl 1]) (rest := []) (h2 := zsI (zsI (zsI (h) 196 0 0) 196 11 0) 196 11 1) (v := (-1)) dX12_watch_27 ml_12_170 ⟨zble rfl, zble rfl⟩ rfl rfl (zsiI (zsiI s196)) (zblt rfl) (zble rfl) rfl (kX12_no_2 _ (zsI (zsI (h) 196 0 0) 196 11 0) (zsiI (zsiI s196))) ?_
  exact ex_iretI dX12_watch_30 rfl rfl ⟨rfl, rfl⟩
set_option maxRecDepth 10000 in
theorem kX11_round_1 (d : Nat) (h : zH) (p1 : Int32) (s0 : zsh h 0 = some (11, 16)) (s2 : zsh h 2 = some (4, 15)) (i2_4 : h.2.1 2 4 = 0) (r0_3 : h.2.2.2.1 0 3 = some 2) : zCi (d + 1) mX11_round [.inr (.inr (some 0)), .inl p1] h (fun x h' => x = (-1) ∧ h' = zsI (h) 0 2 1) := by
  show zEx none (d + 1) mX11_round (0, [(0, .inr (.inr (some 0))), (1, .inl p1)], [], h) _
  refine ex_aload_n (pc' := 1) dX11_round_0 rfl rfl ?_
  refine ex_iload_n (pc' := 2) dX11_round_1 rfl rfl ?_
  refine en_callvI (pc' := 5) (vs := [.inl p1]) (rest := []) (h2 := h) (v := 0) dX11_round_2 ml_11_174 ⟨zble rfl, zble rfl⟩ rfl rfl s0 (zblt rfl) (zble rfl) rfl (kX11_isIsland_1 _ h p1 s0 s2 i2_4 r0_3) ?_
  refine ex_if_t (pc' := 30) dX11_round_5 (by decide) (by decide) ?_
  refine ex_aload_n (pc' := 31) dX11_round_30 rfl rfl ?_
  refine ex_iconst (v := 1) (pc' := 32) dX11_round_31 (by decide) rfl ?_
  refine en_callvI (pc' := 35) (vs := [.inl 1]) (rest := []) (h2 := zsI (h) 0 2 1) (v := (-1)) dX11_round_32 ml_11_98 ⟨zble rfl, zble rfl⟩ rfl rfl s0 (zblt rfl) (zble rfl) rfl (kX11_refused_2 _ h s0) ?_
  exact ex_iretI dX11_round_35 rfl rfl ⟨rfl, rfl⟩
set_option maxRecDepth 10000 in
theorem kX12_round_1 (d : Nat) (h : zH) (p1 : Int32) (s196 : zsh h 196 = some (12, 39)) (i196_14 : h.2.1 196 14 = 0) : zCi (d + 1) mX12_round [.inr (.inr (some 196)), .inl p1] h (fun x h' => x = (-1) ∧ h' = zsI (zsI (zsI (h) 196 0 0) 196 11 0) 196 11 1) := by
  show zEx none (d + 1) mX12_round (0, [(0, .inr (.inr (some 196))), (1, .inl p1)], [], h) _
  refine ex_aload_n (pc' := 1) dX12_round_0 rfl rfl ?_
  refine en_callvV (pc' := 4) (vs := []) (rest := []) (h2 := zsI (zsI (h) 196 0 0) 196 11 0) dX12_round_1 ml_12_167 ⟨zble rfl, zble rfl⟩ rfl rfl s196 (zblt rfl) (zble rfl) rfl (kX12_good_1 _ h s196) ?_
  refine ex_aload_n (pc' := 5) dX12_round_4 rfl rfl ?_
  refine ex_iload_n (pc' := 6) dX12_round_5 rfl rfl ?_
  refine en_callvI (pc' := 9) (vs := [.inl p1]) (rest := []) (h2 := zsI (zsI (h) 196 0 0) 196 11 0) (v := 0) dX12_round_6 ml_12_277 ⟨zble rfl, zble rfl⟩ rfl rfl (zsiI (zsiI s196)) (zblt rfl) (zble rfl) rfl (kX12_isIsland_1 _ (zsI (zsI (h) 196 0 0) 196 11 0) p1 (zsiI (zsiI s196)) i196_14) ?_
  refine ex_if_t (pc' := 20) dX12_round_9 (by decide) (by decide) ?_
  refine ex_aload_n (pc' := 21) dX12_round_20 rfl rfl ?_
  refine ex_iconst (v := 1) (pc' := 22) dX12_round_21 (by decide) rfl ?_
  refine en_callvI (pc' := 25) (vs := [.inl 1]) (rest := []) (h2 := zsI (zsI (zsI (h) 196 0 0) 196 11 0) 196 11 1) (v := (-1)) dX12_round_22 ml_12_170 ⟨zble rfl, zble rfl⟩ rfl rfl (zsiI (zsiI s196)) (zblt rfl) (zble rfl) rfl (kX12_no_2 _ (zsI (zsI (h) 196 0 0) 196 11 0) (zsiI (zsiI s196))) ?_
  exact ex_iretI dX12_round_25 rfl rfl ⟨rfl, rfl⟩
set_option maxRecDepth 10000 in
theorem kX11_roundAt_1 (d : Nat) (h : zH) (p1 p2 : Int32) (s0 : zsh h 0 = some (11, 16)) (s2 : zsh h 2 = some (4, 15)) (i2_4 : h.2.1 2 4 = 0) (r0_3 : h.2.2.2.1 0 3 = some 2) : zCi (d + 1) mX11_roundAt [.inr (.inr (some 0)), .inl p1, .inl p2] h (fun x h' => x = (-1) ∧ h' = zsI (h) 0 2 1) := by
  show zEx none (d + 1) mX11_roundAt (0, [(0, .inr (.inr (some 0))), (1, .inl p1), (2, .inl p2)], [], h) _
  refine ex_aload_n (pc' := 1) dX11_roundAt_0 rfl rfl ?_
  refine ex_iload_n (pc' := 2) dX11_roundAt_1 rfl rfl ?_
  refine en_callvI (pc' := 5) (vs := [.inl p1]) (rest := []) (h2 := h) (v := 0) dX11_roundAt_2 ml_11_174 ⟨zble rfl, zble rfl⟩ rfl rfl s0 (zblt rfl) (zble rfl) rfl (kX11_isIsland_1 _ h p1 s0 s2 i2_4 r0_3) ?_
  refine ex_if_t (pc' := 16) dX11_roundAt_5 (by decide) (by decide) ?_
  refine ex_aload_n (pc' := 17) dX11_roundAt_16 rfl rfl ?_
  refine ex_iconst (v := 1) (pc' := 18) dX11_roundAt_17 (by decide) rfl ?_
  refine en_callvI (pc' := 21) (vs := [.inl 1]) (rest := []) (h2 := zsI (h) 0 2 1) (v := (-1)) dX11_roundAt_18 ml_11_98 ⟨zble rfl, zble rfl⟩ rfl rfl s0 (zblt rfl) (zble rfl) rfl (kX11_refused_2 _ h s0) ?_
  exact ex_iretI dX11_roundAt_21 rfl rfl ⟨rfl, rfl⟩
set_option maxRecDepth 10000 in
theorem kX12_roundAt_1 (d : Nat) (h : zH) (p1 p2 : Int32) (s196 : zsh h 196 = some (12, 39)) (i196_14 : h.2.1 196 14 = 0) : zCi (d + 1) mX12_roundAt [.inr (.inr (some 196)), .inl p1, .inl p2] h (fun x h' => x = (-1) ∧ h' = zsI (zsI (zsI (h) 196 0 0) 196 11 0) 196 11 1) := by
  show zEx none (d + 1) mX12_roundAt (0, [(0, .inr (.inr (some 196))), (1, .inl p1), (2, .inl p2)], [], h) _
  refine ex_aload_n (pc' := 1) dX12_roundAt_0 rfl rfl ?_
  refine en_callvV (pc' := 4) (vs := []) (rest := []) (h2 := zsI (zsI (h) 196 0 0) 196 11 0) dX12_roundAt_1 ml_12_167 ⟨zble rfl, zble rfl⟩ rfl rfl s196 (zblt rfl) (zble rfl) rfl (kX12_good_1 _ h s196) ?_
  refine ex_aload_n (pc' := 5) dX12_roundAt_4 rfl rfl ?_
  refine ex_iload_n (pc' := 6) dX12_roundAt_5 rfl rfl ?_
  refine en_callvI (pc' := 9) (vs := [.inl p1]) (rest := []) (h2 := zsI (zsI (h) 196 0 0) 196 11 0) (v := 0) dX12_roundAt_6 ml_12_277 ⟨zble rfl, zble rfl⟩ rfl rfl (zsiI (zsiI s196)) (zblt rfl) (zble rfl) rfl (kX12_isIsland_1 _ (zsI (zsI (h) 196 0 0) 196 11 0) p1 (zsiI (zsiI s196)) i196_14) ?_
  refine ex_if_t (pc' := 28) dX12_roundAt_9 (by decide) (by decide) ?_
  refine ex_aload_n (pc' := 29) dX12_roundAt_28 rfl rfl ?_
  refine ex_iconst (v := 1) (pc' := 30) dX12_roundAt_29 (by decide) rfl ?_
  refine en_callvI (pc' := 33) (vs := [.inl 1]) (rest := []) (h2 := zsI (zsI (zsI (h) 196 0 0) 196 11 0) 196 11 1) (v := (-1)) dX12_roundAt_30 ml_12_170 ⟨zble rfl, zble rfl⟩ rfl rfl (zsiI (zsiI s196)) (zblt rfl) (zble rfl) rfl (kX12_no_2 _ (zsI (zsI (h) 196 0 0) 196 11 0) (zsiI (zsiI s196))) ?_
  exact ex_iretI dX12_roundAt_33 rfl rfl ⟨rfl, rfl⟩
set_option maxRecDepth 10000 in
theorem kX11_decade_1 (d : Nat) (h : zH) (p1 p2 : Int32) (s0 : zsh h 0 = some (11, 16)) (s2 : zsh h 2 = some (4, 15)) (i2_4 : h.2.1 2 4 = 0) (r0_3 : h.2.2.2.1 0 3 = some 2) : zCi (d + 1) mX11_decade [.inr (.inr (some 0)), .inl p1, .inl p2] h (fun x h' => x = (-1) ∧ h' = zsI (h) 0 2 1) := by
  show zEx none (d + 1) mX11_decade (0, [(0, .inr (.inr (some 0))), (1, .inl p1), (2, .inl p2)], [], h) _
  refine ex_aload_n (pc' := 1) dX11_decade_0 rfl rfl ?_
  refine en_callvI (pc' := 4) (vs := []) (rest := []) (h2 := h) (v := 0) dX11_decade_1 ml_11_222 ⟨zble rfl, zble rfl⟩ rfl rfl s0 (zblt rfl) (zble rfl) rfl (kX11_hasPost_1 _ h s0 s2 i2_4 r0_3) ?_
  refine ex_if_f (pc' := 7) dX11_decade_4 (by decide) (by decide) rfl ?_
  refine ex_aload_n (pc' := 8) dX11_decade_7 rfl rfl ?_
  refine ex_iconst (v := 1) (pc' := 9) dX11_decade_8 (by decide) rfl ?_
  refine en_callvI (pc' := 12) (vs := [.inl 1]) (rest := []) (h2 := zsI (h) 0 2 1) (v := (-1)) dX11_decade_9 ml_11_98 ⟨zble rfl, zble rfl⟩ rfl rfl s0 (zblt rfl) (zble rfl) rfl (kX11_refused_2 _ h s0) ?_
  exact ex_iretI dX11_decade_12 rfl rfl ⟨rfl, rfl⟩
set_option maxRecDepth 10000 in
theorem kX12_decade_1 (d : Nat) (h : zH) (p1 p2 : Int32) (s196 : zsh h 196 = some (12, 39)) (i196_14 : h.2.1 196 14 = 0) : zCi (d + 1) mX12_decade [.inr (.inr (some 196)), .inl p1, .inl p2] h (fun x h' => x = (-1) ∧ h' = zsI (zsI (zsI (h) 196 0 0) 196 11 0) 196 11 1) := by
  show zEx none (d + 1) mX12_decade (0, [(0, .inr (.inr (some 196))), (1, .inl p1), (2, .inl p2)], [], h) _
  refine ex_aload_n (pc' := 1) dX12_decade_0 rfl rfl ?_
  refine en_callvV (pc' := 4) (vs := []) (rest := []) (h2 := zsI (zsI (h) 196 0 0) 196 11 0) dX12_decade_1 ml_12_167 ⟨zble rfl, zble rfl⟩ rfl rfl s196 (zblt rfl) (zble rfl) rfl (kX12_good_1 _ h s196) ?_
  refine ex_aload_n (pc' := 5) dX12_decade_4 rfl rfl ?_
  refine ex_getI (pc' := 8) (v := 0) dX12_decade_5 fl_12_180 (zsiI (zsiI s196)) (by decide) i196_14 rfl ?_
  refine ex_if_f (pc' := 11) dX12_decade_8 (by decide) (by decide) rfl ?_
  refine ex_aload_n (pc' := 12) dX12_decade_11 rfl rfl ?_
  refine ex_iconst (v := 1) (pc' := 13) dX12_decade_12 (by decide) rfl ?_
  refine en_callvI (pc' := 16) (vs := [.inl 1]) (rest := []) (h2 := zsI (zsI (zsI (h) 196 0 0) 196 11 0) 196 11 1) (v := (-1)) dX12_decade_13 ml_12_170 ⟨zble rfl, zble rfl⟩ rfl rfl (zsiI (zsiI s196)) (zblt rfl) (zble rfl) rfl (kX12_no_2 _ (zsI (zsI (h) 196 0 0) 196 11 0) (zsiI (zsiI s196))) ?_
  exact ex_iretI dX12_decade_16 rfl rfl ⟨rfl, rfl⟩
set_option maxRecDepth 10000 in
theorem kX11_send_1 (d : Nat) (h : zH) (p1 p2 : Int32) (s0 : zsh h 0 = some (11, 16)) (s2 : zsh h 2 = some (4, 15)) (i2_6 : h.2.1 2 6 = 0) (r0_3 : h.2.2.2.1 0 3 = some 2) : zCi (d + 1) mX11_send [.inr (.inr (some 0)), .inl p1, .inl p2] h (fun x h' => x = (-1) ∧ h' = zsI (h) 0 2 1) := by
  show zEx none (d + 1) mX11_send (0, [(0, .inr (.inr (some 0))), (1, .inl p1), (2, .inl p2)], [], h) _
  refine ex_aload_n (pc' := 1) dX11_send_0 rfl rfl ?_
  refine ex_iload_n (pc' := 2) dX11_send_1 rfl rfl ?_
  refine en_callvI (pc' := 5) (vs := [.inl p1]) (rest := []) (h2 := h) (v := 0) dX11_send_2 ml_11_121 ⟨zble rfl, zble rfl⟩ rfl rfl s0 (zblt rfl) (zble rfl) rfl (kX11_isWhale_1 _ h p1 s0 s2 i2_6 r0_3) ?_
  refine ex_if_t (pc' := 16) dX11_send_5 (by decide) (by decide) ?_
  refine ex_aload_n (pc' := 17) dX11_send_16 rfl rfl ?_
  refine ex_iconst (v := 1) (pc' := 18) dX11_send_17 (by decide) rfl ?_
  refine en_callvI (pc' := 21) (vs := [.inl 1]) (rest := []) (h2 := zsI (h) 0 2 1) (v := (-1)) dX11_send_18 ml_11_98 ⟨zble rfl, zble rfl⟩ rfl rfl s0 (zblt rfl) (zble rfl) rfl (kX11_refused_2 _ h s0) ?_
  exact ex_iretI dX11_send_21 rfl rfl ⟨rfl, rfl⟩
set_option maxRecDepth 10000 in
theorem kX12_send_1 (d : Nat) (h : zH) (p1 p2 : Int32) (s196 : zsh h 196 = some (12, 39)) (i196_14 : h.2.1 196 14 = 0) : zCi (d + 1) mX12_send [.inr (.inr (some 196)), .inl p1, .inl p2] h (fun x h' => x = (-1) ∧ h' = zsI (zsI (zsI (h) 196 0 0) 196 11 0) 196 11 1) := by
  show zEx none (d + 1) mX12_send (0, [(0, .inr (.inr (some 196))), (1, .inl p1), (2, .inl p2)], [], h) _
  refine ex_aload_n (pc' := 1) dX12_send_0 rfl rfl ?_
  refine en_callvV (pc' := 4) (vs := []) (rest := []) (h2 := zsI (zsI (h) 196 0 0) 196 11 0) dX12_send_1 ml_12_167 ⟨zble rfl, zble rfl⟩ rfl rfl s196 (zblt rfl) (zble rfl) rfl (kX12_good_1 _ h s196) ?_
  refine ex_aload_n (pc' := 5) dX12_send_4 rfl rfl ?_
  refine ex_iload_n (pc' := 6) dX12_send_5 rfl rfl ?_
  refine en_callvI (pc' := 9) (vs := [.inl p1]) (rest := []) (h2 := zsI (zsI (h) 196 0 0) 196 11 0) (v := 0) dX12_send_6 ml_12_268 ⟨zble rfl, zble rfl⟩ rfl rfl (zsiI (zsiI s196)) (zblt rfl) (zble rfl) rfl (kX12_isWhale_1 _ (zsI (zsI (h) 196 0 0) 196 11 0) p1 (zsiI (zsiI s196)) i196_14) ?_
  refine ex_if_t (pc' := 20) dX12_send_9 (by decide) (by decide) ?_
  refine ex_aload_n (pc' := 21) dX12_send_20 rfl rfl ?_
  refine ex_iconst (v := 1) (pc' := 22) dX12_send_21 (by decide) rfl ?_
  refine en_callvI (pc' := 25) (vs := [.inl 1]) (rest := []) (h2 := zsI (zsI (zsI (h) 196 0 0) 196 11 0) 196 11 1) (v := (-1)) dX12_send_22 ml_12_170 ⟨zble rfl, zble rfl⟩ rfl rfl (zsiI (zsiI s196)) (zblt rfl) (zble rfl) rfl (kX12_no_2 _ (zsI (zsI (h) 196 0 0) 196 11 0) (zsiI (zsiI s196))) ?_
  exact ex_iretI dX12_send_25 rfl rfl ⟨rfl, rfl⟩
set_option maxRecDepth 10000 in
theorem kX11_hasRefused_1 (d : Nat) (h : zH) (s0 : zsh h 0 = some (11, 16)) : zCi (d + 0) mX11_hasRefused [.inr (.inr (some 0)), .inl 1] h (fun x h' => x = 0 ∧ h' = zsI (h) 0 2 1) := by
  show zEx none (d + 0) mX11_hasRefused (0, [(0, .inr (.inr (some 0))), (1, .inl 1)], [], h) _
  refine ex_aload_n (pc' := 1) dX11_hasRefused_0 rfl rfl ?_
  refine ex_iload_n (pc' := 2) dX11_hasRefused_1 rfl rfl ?_
  refine ex_putI (pc' := 5) dX11_hasRefused_2 fl_11_17 s0 (Or.inl rfl) (Or.inl rfl) rfl ?_
  refine ex_iconst (v := 0) (pc' := 6) dX11_hasRefused_5 (by decide) rfl ?_
  exact ex_iretI dX11_hasRefused_6 rfl (by decide) ⟨rfl, rfl⟩
set_option maxRecDepth 10000 in
theorem kX11_tune_1 (d : Nat) (h : zH) (p1 p2 p3 : Int32) (s0 : zsh h 0 = some (11, 16)) (s2 : zsh h 2 = some (4, 15)) (i2_7 : h.2.1 2 7 = 0) (r0_3 : h.2.2.2.1 0 3 = some 2) : zCi (d + 2) mX11_tune [.inr (.inr (some 0)), .inl p1, .inl p2, .inl p3] h (fun x h' => x = 0 ∧ h' = zsI (h) 0 2 1) := by
  show zEx none (d + 2) mX11_tune (0, [(0, .inr (.inr (some 0))), (1, .inl p1), (2, .inl p2), (3, .inl p3)], [], h) _
  refine ex_aload_n (pc' := 1) dX11_tune_0 rfl rfl ?_
  refine ex_iload_n (pc' := 2) dX11_tune_1 rfl rfl ?_
  refine ex_iload_n (pc' := 3) dX11_tune_2 rfl rfl ?_
  refine en_callvI (pc' := 6) (vs := [.inl p1, .inl p2]) (rest := []) (h2 := h) (v := 0) dX11_tune_3 ml_11_191 ⟨zble rfl, zble rfl⟩ rfl rfl s0 (zblt rfl) (zble rfl) rfl (kX11_isNoteOfBox_1 _ h p1 p2 s0 s2 i2_7 r0_3) ?_
  refine ex_if_f (pc' := 9) dX11_tune_6 (by decide) (by decide) rfl ?_
  refine ex_aload_n (pc' := 10) dX11_tune_9 rfl rfl ?_
  refine ex_iconst (v := 1) (pc' := 11) dX11_tune_10 (by decide) rfl ?_
  refine en_callvI (pc' := 14) (vs := [.inl 1]) (rest := []) (h2 := zsI (h) 0 2 1) (v := 0) dX11_tune_11 ml_11_347 ⟨zble rfl, zble rfl⟩ rfl rfl s0 (zblt rfl) (zble rfl) rfl (kX11_hasRefused_1 _ h s0) ?_
  exact ex_iretI dX11_tune_14 rfl (by decide) ⟨rfl, rfl⟩
set_option maxRecDepth 10000 in
theorem kX12_isNot_1 (d : Nat) (h : zH) (s196 : zsh h 196 = some (12, 39)) : zCi (d + 0) mX12_isNot [.inr (.inr (some 196)), .inl 1] h (fun x h' => x = 0 ∧ h' = zsI (h) 196 11 1) := by
  show zEx none (d + 0) mX12_isNot (0, [(0, .inr (.inr (some 196))), (1, .inl 1)], [], h) _
  refine ex_aload_n (pc' := 1) dX12_isNot_0 rfl rfl ?_
  refine ex_iload_n (pc' := 2) dX12_isNot_1 rfl rfl ?_
  refine ex_putI (pc' := 5) dX12_isNot_2 fl_12_65 s196 (Or.inl rfl) (Or.inl rfl) rfl ?_
  refine ex_iconst (v := 0) (pc' := 6) dX12_isNot_5 (by decide) rfl ?_
  exact ex_iretI dX12_isNot_6 rfl (by decide) ⟨rfl, rfl⟩
set_option maxRecDepth 10000 in
theorem kX12_tune_1 (d : Nat) (h : zH) (p1 p2 p3 : Int32) (s196 : zsh h 196 = some (12, 39)) (i196_14 : h.2.1 196 14 = 0) : zCi (d + 1) mX12_tune [.inr (.inr (some 196)), .inl p1, .inl p2, .inl p3] h (fun x h' => x = 0 ∧ h' = zsI (zsI (zsI (h) 196 0 0) 196 11 0) 196 11 1) := by
  show zEx none (d + 1) mX12_tune (0, [(0, .inr (.inr (some 196))), (1, .inl p1), (2, .inl p2), (3, .inl p3)], [], h) _
  refine ex_aload_n (pc' := 1) dX12_tune_0 rfl rfl ?_
  refine en_callvV (pc' := 4) (vs := []) (rest := []) (h2 := zsI (zsI (h) 196 0 0) 196 11 0) dX12_tune_1 ml_12_167 ⟨zble rfl, zble rfl⟩ rfl rfl s196 (zblt rfl) (zble rfl) rfl (kX12_good_1 _ h s196) ?_
  refine ex_aload_n (pc' := 5) dX12_tune_4 rfl rfl ?_
  refine ex_iload_n (pc' := 6) dX12_tune_5 rfl rfl ?_
  refine en_callvI (pc' := 9) (vs := [.inl p1]) (rest := []) (h2 := zsI (zsI (h) 196 0 0) 196 11 0) (v := 0) dX12_tune_6 ml_12_274 ⟨zble rfl, zble rfl⟩ rfl rfl (zsiI (zsiI s196)) (zblt rfl) (zble rfl) rfl (kX12_isBox_1 _ (zsI (zsI (h) 196 0 0) 196 11 0) p1 (zsiI (zsiI s196)) i196_14) ?_
  refine ex_if_t (pc' := 27) dX12_tune_9 (by decide) (by decide) ?_
  refine ex_aload_n (pc' := 28) dX12_tune_27 rfl rfl ?_
  refine ex_iconst (v := 1) (pc' := 29) dX12_tune_28 (by decide) rfl ?_
  refine en_callvI (pc' := 32) (vs := [.inl 1]) (rest := []) (h2 := zsI (zsI (zsI (h) 196 0 0) 196 11 0) 196 11 1) (v := 0) dX12_tune_29 ml_12_427 ⟨zble rfl, zble rfl⟩ rfl rfl (zsiI (zsiI s196)) (zblt rfl) (zble rfl) rfl (kX12_isNot_1 _ (zsI (zsI (h) 196 0 0) 196 11 0) (zsiI (zsiI s196))) ?_
  exact ex_iretI dX12_tune_32 rfl (by decide) ⟨rfl, rfl⟩
set_option maxRecDepth 10000 in
theorem kX11_years_1 (d : Nat) (h : zH) (p1 : Int32) (s0 : zsh h 0 = some (11, 16)) (s2 : zsh h 2 = some (4, 15)) (i2_4 : h.2.1 2 4 = 0) (r0_3 : h.2.2.2.1 0 3 = some 2) : zCi (d + 1) mX11_years [.inr (.inr (some 0)), .inl p1] h (fun x h' => x = (-1) ∧ h' = zsI (h) 0 2 1) := by
  show zEx none (d + 1) mX11_years (0, [(0, .inr (.inr (some 0))), (1, .inl p1)], [], h) _
  refine ex_aload_n (pc' := 1) dX11_years_0 rfl rfl ?_
  refine en_callvI (pc' := 4) (vs := []) (rest := []) (h2 := h) (v := 0) dX11_years_1 ml_11_222 ⟨zble rfl, zble rfl⟩ rfl rfl s0 (zblt rfl) (zble rfl) rfl (kX11_hasPost_1 _ h s0 s2 i2_4 r0_3) ?_
  refine ex_if_f (pc' := 7) dX11_years_4 (by decide) (by decide) rfl ?_
  refine ex_aload_n (pc' := 8) dX11_years_7 rfl rfl ?_
  refine ex_iconst (v := 1) (pc' := 9) dX11_years_8 (by decide) rfl ?_
  refine en_callvI (pc' := 12) (vs := [.inl 1]) (rest := []) (h2 := zsI (h) 0 2 1) (v := (-1)) dX11_years_9 ml_11_98 ⟨zble rfl, zble rfl⟩ rfl rfl s0 (zblt rfl) (zble rfl) rfl (kX11_refused_2 _ h s0) ?_
  exact ex_iretI dX11_years_12 rfl rfl ⟨rfl, rfl⟩
set_option maxRecDepth 10000 in
theorem kX12_years_1 (d : Nat) (h : zH) (p1 : Int32) (s196 : zsh h 196 = some (12, 39)) (i196_14 : h.2.1 196 14 = 0) : zCi (d + 1) mX12_years [.inr (.inr (some 196)), .inl p1] h (fun x h' => x = (-1) ∧ h' = zsI (zsI (zsI (h) 196 0 0) 196 11 0) 196 11 1) := by
  show zEx none (d + 1) mX12_years (0, [(0, .inr (.inr (some 196))), (1, .inl p1)], [], h) _
  refine ex_aload_n (pc' := 1) dX12_years_0 rfl rfl ?_
  refine en_callvV (pc' := 4) (vs := []) (rest := []) (h2 := zsI (zsI (h) 196 0 0) 196 11 0) dX12_years_1 ml_12_167 ⟨zble rfl, zble rfl⟩ rfl rfl s196 (zblt rfl) (zble rfl) rfl (kX12_good_1 _ h s196) ?_
  refine ex_aload_n (pc' := 5) dX12_years_4 rfl rfl ?_
  refine ex_getI (pc' := 8) (v := 0) dX12_years_5 fl_12_180 (zsiI (zsiI s196)) (by decide) i196_14 rfl ?_
  refine ex_if_f (pc' := 11) dX12_years_8 (by decide) (by decide) rfl ?_
  refine ex_aload_n (pc' := 12) dX12_years_11 rfl rfl ?_
  refine ex_iconst (v := 1) (pc' := 13) dX12_years_12 (by decide) rfl ?_
  refine en_callvI (pc' := 16) (vs := [.inl 1]) (rest := []) (h2 := zsI (zsI (zsI (h) 196 0 0) 196 11 0) 196 11 1) (v := (-1)) dX12_years_13 ml_12_170 ⟨zble rfl, zble rfl⟩ rfl rfl (zsiI (zsiI s196)) (zblt rfl) (zble rfl) rfl (kX12_no_2 _ (zsI (zsI (h) 196 0 0) 196 11 0) (zsiI (zsiI s196))) ?_
  exact ex_iretI dX12_years_16 rfl rfl ⟨rfl, rfl⟩
set_option maxRecDepth 10000 in
theorem kX11_isWay_1 (d : Nat) (h : zH) (p1 : Int32) (s0 : zsh h 0 = some (11, 16)) (s2 : zsh h 2 = some (4, 15)) (i2_5 : h.2.1 2 5 = 0) (r0_3 : h.2.2.2.1 0 3 = some 2) : zCi (d + 0) mX11_isWay [.inr (.inr (some 0)), .inl p1] h (fun x h' => x = 0 ∧ h' = h) := by
  show zEx none (d + 0) mX11_isWay (0, [(0, .inr (.inr (some 0))), (1, .inl p1)], [], h) _
  refine ex_iload_n (pc' := 1) dX11_isWay_0 rfl rfl ?_
  refine ex_if (pc' := 19) (pc2 := 4) dX11_isWay_1 (by decide) rfl (fun c894 => ?_) (fun c894 => ?_)
  · refine ex_iconst (v := 0) (pc' := 20) dX11_isWay_19 (by decide) rfl ?_
    exact ex_iretI dX11_isWay_20 rfl (by decide) ⟨rfl, rfl⟩
  · refine ex_iload_n (pc' := 5) dX11_isWay_4 rfl rfl ?_
    refine ex_aload_n (pc' := 6) dX11_isWay_5 rfl rfl ?_
    refine ex_getR (pc' := 9) (r := 2) dX11_isWay_6 fl_11_23 s0 (by decide) r0_3 rfl ?_
    refine ex_getI (pc' := 12) (v := 0) dX11_isWay_9 fl_11_379 s2 (by decide) i2_5 rfl ?_
    refine ex_icmp_t (pc' := 19) dX11_isWay_12 (zk_lt_ge c894) (by decide) ?_
    refine ex_iconst (v := 0) (pc' := 20) dX11_isWay_19 (by decide) rfl ?_
    exact ex_iretI dX11_isWay_20 rfl (by decide) ⟨rfl, rfl⟩
set_option maxRecDepth 10000 in
theorem kX11_close_1 (d : Nat) (h : zH) (p1 : Int32) (s0 : zsh h 0 = some (11, 16)) (s2 : zsh h 2 = some (4, 15)) (i2_5 : h.2.1 2 5 = 0) (r0_3 : h.2.2.2.1 0 3 = some 2) : zCi (d + 1) mX11_close [.inr (.inr (some 0)), .inl p1, .inl 0] h (fun x h' => x = 0 ∧ h' = zsI (h) 0 2 1) := by
  show zEx none (d + 1) mX11_close (0, [(0, .inr (.inr (some 0))), (1, .inl p1), (2, .inl 0)], [], h) _
  refine ex_aload_n (pc' := 1) dX11_close_0 rfl rfl ?_
  refine ex_iload_n (pc' := 2) dX11_close_1 rfl rfl ?_
  refine en_callvI (pc' := 5) (vs := [.inl p1]) (rest := []) (h2 := h) (v := 0) dX11_close_2 ml_11_230 ⟨zble rfl, zble rfl⟩ rfl rfl s0 (zblt rfl) (zble rfl) rfl (kX11_isWay_1 _ h p1 s0 s2 i2_5 r0_3) ?_
  refine ex_if_f (pc' := 8) dX11_close_5 (by decide) (by decide) rfl ?_
  refine ex_aload_n (pc' := 9) dX11_close_8 rfl rfl ?_
  refine ex_iconst (v := 1) (pc' := 10) dX11_close_9 (by decide) rfl ?_
  refine en_callvI (pc' := 13) (vs := [.inl 1]) (rest := []) (h2 := zsI (h) 0 2 1) (v := 0) dX11_close_10 ml_11_347 ⟨zble rfl, zble rfl⟩ rfl rfl s0 (zblt rfl) (zble rfl) rfl (kX11_hasRefused_1 _ h s0) ?_
  exact ex_iretI dX11_close_13 rfl (by decide) ⟨rfl, rfl⟩
set_option maxRecDepth 10000 in
theorem kX12_close_1 (d : Nat) (h : zH) (p1 : Int32) (s196 : zsh h 196 = some (12, 39)) (i196_14 : h.2.1 196 14 = 0) : zCi (d + 1) mX12_close [.inr (.inr (some 196)), .inl p1, .inl 0] h (fun x h' => x = 0 ∧ h' = zsI (zsI (zsI (h) 196 0 0) 196 11 0) 196 11 1) := by
  show zEx none (d + 1) mX12_close (0, [(0, .inr (.inr (some 196))), (1, .inl p1), (2, .inl 0)], [], h) _
  refine ex_aload_n (pc' := 1) dX12_close_0 rfl rfl ?_
  refine en_callvV (pc' := 4) (vs := []) (rest := []) (h2 := zsI (zsI (h) 196 0 0) 196 11 0) dX12_close_1 ml_12_167 ⟨zble rfl, zble rfl⟩ rfl rfl s196 (zblt rfl) (zble rfl) rfl (kX12_good_1 _ h s196) ?_
  refine ex_aload_n (pc' := 5) dX12_close_4 rfl rfl ?_
  refine ex_getI (pc' := 8) (v := 0) dX12_close_5 fl_12_180 (zsiI (zsiI s196)) (by decide) i196_14 rfl ?_
  refine ex_if_t (pc' := 27) dX12_close_8 (by decide) (by decide) ?_
  refine ex_aload_n (pc' := 28) dX12_close_27 rfl rfl ?_
  refine ex_iconst (v := 1) (pc' := 29) dX12_close_28 (by decide) rfl ?_
  refine en_callvI (pc' := 32) (vs := [.inl 1]) (rest := []) (h2 := zsI (zsI (zsI (h) 196 0 0) 196 11 0) 196 11 1) (v := 0) dX12_close_29 ml_12_427 ⟨zble rfl, zble rfl⟩ rfl rfl (zsiI (zsiI s196)) (zblt rfl) (zble rfl) rfl (kX12_isNot_1 _ (zsI (zsI (h) 196 0 0) 196 11 0) (zsiI (zsiI s196))) ?_
  exact ex_iretI dX12_close_32 rfl (by decide) ⟨rfl, rfl⟩
set_option maxRecDepth 10000 in
theorem kX11_close_2 (d : Nat) (h : zH) (p1 : Int32) (s0 : zsh h 0 = some (11, 16)) (s2 : zsh h 2 = some (4, 15)) (i2_5 : h.2.1 2 5 = 0) (r0_3 : h.2.2.2.1 0 3 = some 2) : zCi (d + 1) mX11_close [.inr (.inr (some 0)), .inl p1, .inl 1] h (fun x h' => x = 0 ∧ h' = zsI (h) 0 2 1) := by
  show zEx none (d + 1) mX11_close (0, [(0, .inr (.inr (some 0))), (1, .inl p1), (2, .inl 1)], [], h) _
  refine ex_aload_n (pc' := 1) dX11_close_0 rfl rfl ?_
  refine ex_iload_n (pc' := 2) dX11_close_1 rfl rfl ?_
  refine en_callvI (pc' := 5) (vs := [.inl p1]) (rest := []) (h2 := h) (v := 0) dX11_close_2 ml_11_230 ⟨zble rfl, zble rfl⟩ rfl rfl s0 (zblt rfl) (zble rfl) rfl (kX11_isWay_1 _ h p1 s0 s2 i2_5 r0_3) ?_
  refine ex_if_f (pc' := 8) dX11_close_5 (by decide) (by decide) rfl ?_
  refine ex_aload_n (pc' := 9) dX11_close_8 rfl rfl ?_
  refine ex_iconst (v := 1) (pc' := 10) dX11_close_9 (by decide) rfl ?_
  refine en_callvI (pc' := 13) (vs := [.inl 1]) (rest := []) (h2 := zsI (h) 0 2 1) (v := 0) dX11_close_10 ml_11_347 ⟨zble rfl, zble rfl⟩ rfl rfl s0 (zblt rfl) (zble rfl) rfl (kX11_hasRefused_1 _ h s0) ?_
  exact ex_iretI dX11_close_13 rfl (by decide) ⟨rfl, rfl⟩
set_option maxRecDepth 10000 in
theorem kX12_close_2 (d : Nat) (h : zH) (p1 : Int32) (s196 : zsh h 196 = some (12, 39)) (i196_14 : h.2.1 196 14 = 0) : zCi (d + 1) mX12_close [.inr (.inr (some 196)), .inl p1, .inl 1] h (fun x h' => x = 0 ∧ h' = zsI (zsI (zsI (h) 196 0 0) 196 11 0) 196 11 1) := by
  show zEx none (d + 1) mX12_close (0, [(0, .inr (.inr (some 196))), (1, .inl p1), (2, .inl 1)], [], h) _
  refine ex_aload_n (pc' := 1) dX12_close_0 rfl rfl ?_
  refine en_callvV (pc' := 4) (vs := []) (rest := []) (h2 := zsI (zsI (h) 196 0 0) 196 11 0) dX12_close_1 ml_12_167 ⟨zble rfl, zble rfl⟩ rfl rfl s196 (zblt rfl) (zble rfl) rfl (kX12_good_1 _ h s196) ?_
  refine ex_aload_n (pc' := 5) dX12_close_4 rfl rfl ?_
  refine ex_getI (pc' := 8) (v := 0) dX12_close_5 fl_12_180 (zsiI (zsiI s196)) (by decide) i196_14 rfl ?_
  refine ex_if_t (pc' := 27) dX12_close_8 (by decide) (by decide) ?_
  refine ex_aload_n (pc' := 28) dX12_close_27 rfl rfl ?_
  refine ex_iconst (v := 1) (pc' := 29) dX12_close_28 (by decide) rfl ?_
  refine en_callvI (pc' := 32) (vs := [.inl 1]) (rest := []) (h2 := zsI (zsI (zsI (h) 196 0 0) 196 11 0) 196 11 1) (v := 0) dX12_close_29 ml_12_427 ⟨zble rfl, zble rfl⟩ rfl rfl (zsiI (zsiI s196)) (zblt rfl) (zble rfl) rfl (kX12_isNot_1 _ (zsI (zsI (h) 196 0 0) 196 11 0) (zsiI (zsiI s196))) ?_
  exact ex_iretI dX12_close_32 rfl (by decide) ⟨rfl, rfl⟩
set_option maxRecDepth 10000 in
theorem kX11_hasRefused_2 (d : Nat) (h : zH) (s0 : zsh h 0 = some (11, 16)) : zCi (d + 0) mX11_hasRefused [.inr (.inr (some 0)), .inl 6] h (fun x h' => x = 0 ∧ h' = zsI (h) 0 2 6) := by
  show zEx none (d + 0) mX11_hasRefused (0, [(0, .inr (.inr (some 0))), (1, .inl 6)], [], h) _
  refine ex_aload_n (pc' := 1) dX11_hasRefused_0 rfl rfl ?_
  refine ex_iload_n (pc' := 2) dX11_hasRefused_1 rfl rfl ?_
  refine ex_putI (pc' := 5) dX11_hasRefused_2 fl_11_17 s0 (Or.inl rfl) (Or.inl rfl) rfl ?_
  refine ex_iconst (v := 0) (pc' := 6) dX11_hasRefused_5 (by decide) rfl ?_
  exact ex_iretI dX11_hasRefused_6 rfl (by decide) ⟨rfl, rfl⟩
set_option maxRecDepth 10000 in
theorem kX11_undo_1 (d : Nat) (h : zH) (s0 : zsh h 0 = some (11, 16)) (i0_13 : h.2.1 0 13 = 0) : zCi (d + 1) mX11_undo [.inr (.inr (some 0))] h (fun x h' => x = 0 ∧ h' = zsI (h) 0 2 6) := by
  show zEx none (d + 1) mX11_undo (0, [(0, .inr (.inr (some 0)))], [], h) _
  refine ex_aload_n (pc' := 1) dX11_undo_0 rfl rfl ?_
  refine ex_getI (pc' := 4) (v := 0) dX11_undo_1 fl_11_85 s0 (by decide) i0_13 rfl ?_
  refine ex_if_f (pc' := 7) dX11_undo_4 (by decide) (by decide) rfl ?_
  refine ex_aload_n (pc' := 8) dX11_undo_7 rfl rfl ?_
  refine ex_bipush (v := 6) (pc' := 10) dX11_undo_8 (by decide) rfl ?_
  refine en_callvI (pc' := 13) (vs := [.inl 6]) (rest := []) (h2 := zsI (h) 0 2 6) (v := 0) dX11_undo_10 ml_11_347 ⟨zble rfl, zble rfl⟩ rfl rfl s0 (zblt rfl) (zble rfl) rfl (kX11_hasRefused_2 _ h s0) ?_
  exact ex_iretI dX11_undo_13 rfl (by decide) ⟨rfl, rfl⟩
set_option maxRecDepth 10000 in
theorem kX12_isNot_2 (d : Nat) (h : zH) (s196 : zsh h 196 = some (12, 39)) : zCi (d + 0) mX12_isNot [.inr (.inr (some 196)), .inl 6] h (fun x h' => x = 0 ∧ h' = zsI (h) 196 11 6) := by
  show zEx none (d + 0) mX12_isNot (0, [(0, .inr (.inr (some 196))), (1, .inl 6)], [], h) _
  refine ex_aload_n (pc' := 1) dX12_isNot_0 rfl rfl ?_
  refine ex_iload_n (pc' := 2) dX12_isNot_1 rfl rfl ?_
  refine ex_putI (pc' := 5) dX12_isNot_2 fl_12_65 s196 (Or.inl rfl) (Or.inl rfl) rfl ?_
  refine ex_iconst (v := 0) (pc' := 6) dX12_isNot_5 (by decide) rfl ?_
  exact ex_iretI dX12_isNot_6 rfl (by decide) ⟨rfl, rfl⟩
set_option maxRecDepth 10000 in
theorem kX12_undo_1 (d : Nat) (h : zH) (s196 : zsh h 196 = some (12, 39)) (i196_20 : h.2.1 196 20 = 0) : zCi (d + 1) mX12_undo [.inr (.inr (some 196))] h (fun x h' => x = 0 ∧ h' = zsI (zsI (zsI (h) 196 0 0) 196 11 0) 196 11 6) := by
  show zEx none (d + 1) mX12_undo (0, [(0, .inr (.inr (some 196)))], [], h) _
  refine ex_aload_n (pc' := 1) dX12_undo_0 rfl rfl ?_
  refine en_callvV (pc' := 4) (vs := []) (rest := []) (h2 := zsI (zsI (h) 196 0 0) 196 11 0) dX12_undo_1 ml_12_167 ⟨zble rfl, zble rfl⟩ rfl rfl s196 (zblt rfl) (zble rfl) rfl (kX12_good_1 _ h s196) ?_
  refine ex_aload_n (pc' := 5) dX12_undo_4 rfl rfl ?_
  refine ex_getI (pc' := 8) (v := 0) dX12_undo_5 fl_12_183 (zsiI (zsiI s196)) (by decide) i196_20 rfl ?_
  refine ex_if_f (pc' := 11) dX12_undo_8 (by decide) (by decide) rfl ?_
  refine ex_aload_n (pc' := 12) dX12_undo_11 rfl rfl ?_
  refine ex_bipush (v := 6) (pc' := 14) dX12_undo_12 (by decide) rfl ?_
  refine en_callvI (pc' := 17) (vs := [.inl 6]) (rest := []) (h2 := zsI (zsI (zsI (h) 196 0 0) 196 11 0) 196 11 6) (v := 0) dX12_undo_14 ml_12_427 ⟨zble rfl, zble rfl⟩ rfl rfl (zsiI (zsiI s196)) (zblt rfl) (zble rfl) rfl (kX12_isNot_2 _ (zsI (zsI (h) 196 0 0) 196 11 0) (zsiI (zsiI s196))) ?_
  exact ex_iretI dX12_undo_17 rfl (by decide) ⟨rfl, rfl⟩
set_option maxRecDepth 10000 in
theorem kX11_image_1 (d : Nat) (h : zH) (s0 : zsh h 0 = some (11, 16)) (s2 : zsh h 2 = some (4, 15)) (i2_4 : h.2.1 2 4 = 0) (r0_3 : h.2.2.2.1 0 3 = some 2) : zCi (d + 1) mX11_image [.inr (.inr (some 0))] h (fun x h' => x = (-1) ∧ h' = zsI (h) 0 2 1) := by
  show zEx none (d + 1) mX11_image (0, [(0, .inr (.inr (some 0)))], [], h) _
  refine ex_aload_n (pc' := 1) dX11_image_0 rfl rfl ?_
  refine en_callvI (pc' := 4) (vs := []) (rest := []) (h2 := h) (v := 0) dX11_image_1 ml_11_222 ⟨zble rfl, zble rfl⟩ rfl rfl s0 (zblt rfl) (zble rfl) rfl (kX11_hasPost_1 _ h s0 s2 i2_4 r0_3) ?_
  refine ex_if_f (pc' := 7) dX11_image_4 (by decide) (by decide) rfl ?_
  refine ex_aload_n (pc' := 8) dX11_image_7 rfl rfl ?_
  refine ex_iconst (v := 1) (pc' := 9) dX11_image_8 (by decide) rfl ?_
  refine en_callvI (pc' := 12) (vs := [.inl 1]) (rest := []) (h2 := zsI (h) 0 2 1) (v := (-1)) dX11_image_9 ml_11_98 ⟨zble rfl, zble rfl⟩ rfl rfl s0 (zblt rfl) (zble rfl) rfl (kX11_refused_2 _ h s0) ?_
  exact ex_iretI dX11_image_12 rfl rfl ⟨rfl, rfl⟩
set_option maxRecDepth 10000 in
theorem kX12_image_1 (d : Nat) (h : zH) (s196 : zsh h 196 = some (12, 39)) (i196_14 : h.2.1 196 14 = 0) : zCi (d + 1) mX12_image [.inr (.inr (some 196))] h (fun x h' => x = (-1) ∧ h' = zsI (zsI (zsI (h) 196 0 0) 196 11 0) 196 11 1) := by
  show zEx none (d + 1) mX12_image (0, [(0, .inr (.inr (some 196)))], [], h) _
  refine ex_aload_n (pc' := 1) dX12_image_0 rfl rfl ?_
  refine en_callvV (pc' := 4) (vs := []) (rest := []) (h2 := zsI (zsI (h) 196 0 0) 196 11 0) dX12_image_1 ml_12_167 ⟨zble rfl, zble rfl⟩ rfl rfl s196 (zblt rfl) (zble rfl) rfl (kX12_good_1 _ h s196) ?_
  refine ex_aload_n (pc' := 5) dX12_image_4 rfl rfl ?_
  refine ex_getI (pc' := 8) (v := 0) dX12_image_5 fl_12_180 (zsiI (zsiI s196)) (by decide) i196_14 rfl ?_
  refine ex_if_f (pc' := 11) dX12_image_8 (by decide) (by decide) rfl ?_
  refine ex_aload_n (pc' := 12) dX12_image_11 rfl rfl ?_
  refine ex_iconst (v := 1) (pc' := 13) dX12_image_12 (by decide) rfl ?_
  refine en_callvI (pc' := 16) (vs := [.inl 1]) (rest := []) (h2 := zsI (zsI (zsI (h) 196 0 0) 196 11 0) 196 11 1) (v := (-1)) dX12_image_13 ml_12_170 ⟨zble rfl, zble rfl⟩ rfl rfl (zsiI (zsiI s196)) (zblt rfl) (zble rfl) rfl (kX12_no_2 _ (zsI (zsI (h) 196 0 0) 196 11 0) (zsiI (zsiI s196))) ?_
  exact ex_iretI dX12_image_16 rfl rfl ⟨rfl, rfl⟩
set_option maxRecDepth 10000 in
theorem kX11_back_1 (d : Nat) (h : zH) (p1 : Int32) (s0 : zsh h 0 = some (11, 16)) (a_lt_p1_0 : zcond .lt p1 0 = true) : zCi (d + 1) mX11_back [.inr (.inr (some 0)), .inl p1] h (fun x h' => x = 0 ∧ h' = zsI (h) 0 2 1) := by
  show zEx none (d + 1) mX11_back (0, [(0, .inr (.inr (some 0))), (1, .inl p1)], [], h) _
  refine ex_iload_n (pc' := 1) dX11_back_0 rfl rfl ?_
  refine ex_if_t (pc' := 12) dX11_back_1 a_lt_p1_0 (by decide) ?_
  refine ex_aload_n (pc' := 13) dX11_back_12 rfl rfl ?_
  refine ex_iconst (v := 1) (pc' := 14) dX11_back_13 (by decide) rfl ?_
  refine en_callvI (pc' := 17) (vs := [.inl 1]) (rest := []) (h2 := zsI (h) 0 2 1) (v := 0) dX11_back_14 ml_11_347 ⟨zble rfl, zble rfl⟩ rfl rfl s0 (zblt rfl) (zble rfl) rfl (kX11_hasRefused_1 _ h s0) ?_
  exact ex_iretI dX11_back_17 rfl (by decide) ⟨rfl, rfl⟩
set_option maxRecDepth 10000 in
theorem kX12_in_3 (d : Nat) (h : zH) (p1 : Int32) (a_lt_p1_0 : zcond .lt p1 0 = true) : zCi (d + 0) mX12_in [.inl p1, .inl 0, .inl (-1)] h (fun x h' => x = 0 ∧ h' = h) := by
  show zEx none (d + 0) mX12_in (0, [(0, .inl p1), (1, .inl 0), (2, .inl (-1))], [], h) _
  refine ex_iload_n (pc' := 1) dX12_in_0 rfl rfl ?_
  refine ex_iload_n (pc' := 2) dX12_in_1 rfl rfl ?_
  refine ex_icmp_t (pc' := 14) dX12_in_2 a_lt_p1_0 (by decide) ?_
  refine ex_iconst (v := 0) (pc' := 15) dX12_in_14 (by decide) rfl ?_
  exact ex_iretI dX12_in_15 rfl (by decide) ⟨rfl, rfl⟩
set_option maxRecDepth 10000 in
theorem kX12_back_1 (d : Nat) (h : zH) (p1 : Int32) (s196 : zsh h 196 = some (12, 39)) (a_lt_p1_0 : zcond .lt p1 0 = true) (i196_21 : h.2.1 196 21 = 0) : zCi (d + 1) mX12_back [.inr (.inr (some 196)), .inl p1] h (fun x h' => x = 0 ∧ h' = zsI (zsI (zsI (h) 196 0 0) 196 11 0) 196 11 1) := by
  show zEx none (d + 1) mX12_back (0, [(0, .inr (.inr (some 196))), (1, .inl p1)], [], h) _
  refine ex_aload_n (pc' := 1) dX12_back_0 rfl rfl ?_
  refine en_callvV (pc' := 4) (vs := []) (rest := []) (h2 := zsI (zsI (h) 196 0 0) 196 11 0) dX12_back_1 ml_12_167 ⟨zble rfl, zble rfl⟩ rfl rfl s196 (zblt rfl) (zble rfl) rfl (kX12_good_1 _ h s196) ?_
  refine ex_iload_n (pc' := 5) dX12_back_4 rfl rfl ?_
  refine ex_iconst (v := 0) (pc' := 6) dX12_back_5 (by decide) rfl ?_
  refine ex_aload_n (pc' := 7) dX12_back_6 rfl rfl ?_
  refine ex_getI (pc' := 10) (v := 0) dX12_back_7 fl_12_186 (zsiI (zsiI s196)) (by decide) i196_21 rfl ?_
  refine ex_iconst (v := 1) (pc' := 11) dX12_back_10 (by decide) rfl ?_
  refine ex_isub (pc' := 12) (v := (-1)) dX12_back_11 (by decide) rfl ?_
  refine en_callsI (pc' := 15) (vs := [.inl p1, .inl 0, .inl (-1)]) (rest := []) (h2 := zsI (zsI (h) 196 0 0) 196 11 0) (v := 0) dX12_back_12 ml_12_149 (Or.inl rfl) ⟨zble rfl, zble rfl⟩ rfl rfl (zble rfl) rfl (kX12_in_3 _ (zsI (zsI (h) 196 0 0) 196 11 0) p1 a_lt_p1_0) ?_
  refine ex_if_f (pc' := 18) dX12_back_15 (by decide) (by decide) rfl ?_
  refine ex_aload_n (pc' := 19) dX12_back_18 rfl rfl ?_
  refine ex_iconst (v := 1) (pc' := 20) dX12_back_19 (by decide) rfl ?_
  refine en_callvI (pc' := 23) (vs := [.inl 1]) (rest := []) (h2 := zsI (zsI (zsI (h) 196 0 0) 196 11 0) 196 11 1) (v := 0) dX12_back_20 ml_12_427 ⟨zble rfl, zble rfl⟩ rfl rfl (zsiI (zsiI s196)) (zblt rfl) (zble rfl) rfl (kX12_isNot_1 _ (zsI (zsI (h) 196 0 0) 196 11 0) (zsiI (zsiI s196))) ?_
  exact ex_iretI dX12_back_23 rfl (by decide) ⟨rfl, rfl⟩
set_option maxRecDepth 10000 in
theorem kX11_back_2 (d : Nat) (h : zH) (p1 : Int32) (s0 : zsh h 0 = some (11, 16)) (a_lt_p1_0 : zcond .lt p1 0 = false) (i0_15 : h.2.1 0 15 = 0) : zCi (d + 1) mX11_back [.inr (.inr (some 0)), .inl p1] h (fun x h' => x = 0 ∧ h' = zsI (h) 0 2 1) := by
  show zEx none (d + 1) mX11_back (0, [(0, .inr (.inr (some 0))), (1, .inl p1)], [], h) _
  refine ex_iload_n (pc' := 1) dX11_back_0 rfl rfl ?_
  refine ex_if_f (pc' := 4) dX11_back_1 a_lt_p1_0 (by decide) rfl ?_
  refine ex_iload_n (pc' := 5) dX11_back_4 rfl rfl ?_
  refine ex_aload_n (pc' := 6) dX11_back_5 rfl rfl ?_
  refine ex_getI (pc' := 9) (v := 0) dX11_back_6 fl_11_91 s0 (by decide) i0_15 rfl ?_
  refine ex_icmp_f (pc' := 12) dX11_back_9 a_lt_p1_0 (by decide) rfl ?_
  refine ex_aload_n (pc' := 13) dX11_back_12 rfl rfl ?_
  refine ex_iconst (v := 1) (pc' := 14) dX11_back_13 (by decide) rfl ?_
  refine en_callvI (pc' := 17) (vs := [.inl 1]) (rest := []) (h2 := zsI (h) 0 2 1) (v := 0) dX11_back_14 ml_11_347 ⟨zble rfl, zble rfl⟩ rfl rfl s0 (zblt rfl) (zble rfl) rfl (kX11_hasRefused_1 _ h s0) ?_
  exact ex_iretI dX11_back_17 rfl (by decide) ⟨rfl, rfl⟩
set_option maxRecDepth 10000 in
theorem kX12_in_4 (d : Nat) (h : zH) (p1 : Int32) (a_lt_p1_0 : zcond .lt p1 0 = false) (a_gt_p1_m1 : zcond .gt p1 (-1) = true) : zCi (d + 0) mX12_in [.inl p1, .inl 0, .inl (-1)] h (fun x h' => x = 0 ∧ h' = h) := by
  show zEx none (d + 0) mX12_in (0, [(0, .inl p1), (1, .inl 0), (2, .inl (-1))], [], h) _
  refine ex_iload_n (pc' := 1) dX12_in_0 rfl rfl ?_
  refine ex_iload_n (pc' := 2) dX12_in_1 rfl rfl ?_
  refine ex_icmp_f (pc' := 5) dX12_in_2 a_lt_p1_0 (by decide) rfl ?_
  refine ex_iload_n (pc' := 6) dX12_in_5 rfl rfl ?_
  refine ex_iload_n (pc' := 7) dX12_in_6 rfl rfl ?_
  refine ex_icmp_t (pc' := 14) dX12_in_7 a_gt_p1_m1 (by decide) ?_
  refine ex_iconst (v := 0) (pc' := 15) dX12_in_14 (by decide) rfl ?_
  exact ex_iretI dX12_in_15 rfl (by decide) ⟨rfl, rfl⟩
set_option maxRecDepth 10000 in
theorem kX12_back_2 (d : Nat) (h : zH) (p1 : Int32) (s196 : zsh h 196 = some (12, 39)) (a_lt_p1_0 : zcond .lt p1 0 = false) (a_gt_p1_m1 : zcond .gt p1 (-1) = true) (i196_21 : h.2.1 196 21 = 0) : zCi (d + 1) mX12_back [.inr (.inr (some 196)), .inl p1] h (fun x h' => x = 0 ∧ h' = zsI (zsI (zsI (h) 196 0 0) 196 11 0) 196 11 1) := by
  show zEx none (d + 1) mX12_back (0, [(0, .inr (.inr (some 196))), (1, .inl p1)], [], h) _
  refine ex_aload_n (pc' := 1) dX12_back_0 rfl rfl ?_
  refine en_callvV (pc' := 4) (vs := []) (rest := []) (h2 := zsI (zsI (h) 196 0 0) 196 11 0) dX12_back_1 ml_12_167 ⟨zble rfl, zble rfl⟩ rfl rfl s196 (zblt rfl) (zble rfl) rfl (kX12_good_1 _ h s196) ?_
  refine ex_iload_n (pc' := 5) dX12_back_4 rfl rfl ?_
  refine ex_iconst (v := 0) (pc' := 6) dX12_back_5 (by decide) rfl ?_
  refine ex_aload_n (pc' := 7) dX12_back_6 rfl rfl ?_
  refine ex_getI (pc' := 10) (v := 0) dX12_back_7 fl_12_186 (zsiI (zsiI s196)) (by decide) i196_21 rfl ?_
  refine ex_iconst (v := 1) (pc' := 11) dX12_back_10 (by decide) rfl ?_
  refine ex_isub (pc' := 12) (v := (-1)) dX12_back_11 (by decide) rfl ?_
  refine en_callsI (pc' := 15) (vs := [.inl p1, .inl 0, .inl (-1)]) (rest := []) (h2 := zsI (zsI (h) 196 0 0) 196 11 0) (v := 0) dX12_back_12 ml_12_149 (Or.inl rfl) ⟨zble rfl, zble rfl⟩ rfl rfl (zble rfl) rfl (kX12_in_4 _ (zsI (zsI (h) 196 0 0) 196 11 0) p1 a_lt_p1_0 a_gt_p1_m1) ?_
  refine ex_if_f (pc' := 18) dX12_back_15 (by decide) (by decide) rfl ?_
  refine ex_aload_n (pc' := 19) dX12_back_18 rfl rfl ?_
  refine ex_iconst (v := 1) (pc' := 20) dX12_back_19 (by decide) rfl ?_
  refine en_callvI (pc' := 23) (vs := [.inl 1]) (rest := []) (h2 := zsI (zsI (zsI (h) 196 0 0) 196 11 0) 196 11 1) (v := 0) dX12_back_20 ml_12_427 ⟨zble rfl, zble rfl⟩ rfl rfl (zsiI (zsiI s196)) (zblt rfl) (zble rfl) rfl (kX12_isNot_1 _ (zsI (zsI (h) 196 0 0) 196 11 0) (zsiI (zsiI s196))) ?_
  exact ex_iretI dX12_back_23 rfl (by decide) ⟨rfl, rfl⟩
set_option maxRecDepth 10000 in
theorem kX11_led_1 (d : Nat) (h : zH) (p1 : Int32) (s0 : zsh h 0 = some (11, 16)) (s2 : zsh h 2 = some (4, 15)) (i2_7 : h.2.1 2 7 = 0) (r0_3 : h.2.2.2.1 0 3 = some 2) (t0 : h.2.2.2.2 < 1000) : zCl (d + 0) mX11_led [.inr (.inr (some 0)), .inl p1] h (fun x h' => x = (-1) ∧ h' = zthr (h)) := by
  show zEx none (d + 0) mX11_led (0, [(0, .inr (.inr (some 0))), (1, .inl p1)], [], h) _
  refine ex_iload_n (pc' := 1) dX11_led_0 rfl rfl ?_
  refine ex_istore_n (pc' := 2) (ls' := [(2, .inl p1), (0, .inr (.inr (some 0))), (1, .inl p1)]) dX11_led_1 (by decide) rfl rfl ?_
  refine ex_iconst (v := 0) (pc' := 3) dX11_led_2 (by decide) rfl ?_
  refine ex_istore_n (pc' := 4) (ls' := [(3, .inl 0), (2, .inl p1), (0, .inr (.inr (some 0))), (1, .inl p1)]) dX11_led_3 (by decide) rfl rfl ?_
  refine ex_iload_n (pc' := 5) dX11_led_4 rfl rfl ?_
  refine ex_aload_n (pc' := 6) dX11_led_5 rfl rfl ?_
  refine ex_getR (pc' := 9) (r := 2) dX11_led_6 fl_11_23 s0 (by decide) r0_3 rfl ?_
  refine ex_getI (pc' := 12) (v := 0) dX11_led_9 fl_11_239 s2 (by decide) i2_7 rfl ?_
  refine ex_icmp_t (pc' := 45) dX11_led_12 (by decide) (by decide) ?_
  exact ex_thr dX11_led_45 kl_11_363 (by decide) rfl t0 ⟨_, rfl, ⟨rfl, rfl⟩⟩
set_option maxRecDepth 10000 in
theorem kX12_led_1 (d : Nat) (h : zH) (p1 : Int32) (s196 : zsh h 196 = some (12, 39)) (i196_14 : h.2.1 196 14 = 0) : zCi (d + 0) mX12_led [.inr (.inr (some 196)), .inl p1] h (fun x h' => x = 0 ∧ h' = zsI (h) 196 0 1) := by
  show zEx none (d + 0) mX12_led (0, [(0, .inr (.inr (some 196))), (1, .inl p1)], [], h) _
  refine ex_iconst (v := 0) (pc' := 1) dX12_led_0 (by decide) rfl ?_
  refine ex_istore_n (pc' := 2) (ls' := [(2, .inl 0), (0, .inr (.inr (some 196))), (1, .inl p1)]) dX12_led_1 (by decide) rfl rfl ?_
  refine ex_iconst (v := 0) (pc' := 3) dX12_led_2 (by decide) rfl ?_
  refine ex_istore_n (pc' := 4) (ls' := [(3, .inl 0), (2, .inl 0), (0, .inr (.inr (some 196))), (1, .inl p1)]) dX12_led_3 (by decide) rfl rfl ?_
  refine ex_aload_n (pc' := 5) dX12_led_4 rfl rfl ?_
  refine ex_getI (pc' := 8) (v := 0) dX12_led_5 fl_12_180 s196 (by decide) i196_14 rfl ?_
  refine ex_if_t (pc' := 58) dX12_led_8 (by decide) (by decide) ?_
  refine ex_aload_n (pc' := 59) dX12_led_58 rfl rfl ?_
  refine ex_iconst (v := 1) (pc' := 60) dX12_led_59 (by decide) rfl ?_
  refine ex_putI (pc' := 63) dX12_led_60 fl_12_62 s196 (Or.inl rfl) (Or.inl rfl) rfl ?_
  refine ex_iconst (v := 0) (pc' := 64) dX12_led_63 (by decide) rfl ?_
  exact ex_iretI dX12_led_64 rfl rfl ⟨rfl, rfl⟩
set_option maxRecDepth 10000 in
theorem kX12_thrown_1 (d : Nat) (h : zH) (s196 : zsh h 196 = some (12, 39)) (i196_0 : h.2.1 196 0 = 1) : zCi (d + 0) mX12_thrown [.inr (.inr (some 196))] h (fun x h' => x = 1 ∧ h' = h) := by
  show zEx none (d + 0) mX12_thrown (0, [(0, .inr (.inr (some 196)))], [], h) _
  refine ex_aload_n (pc' := 1) dX12_thrown_0 rfl rfl ?_
  refine ex_getI (pc' := 4) (v := 1) dX12_thrown_1 fl_12_62 s196 (by decide) i196_0 rfl ?_
  exact ex_iretI dX12_thrown_4 rfl rfl ⟨rfl, rfl⟩
set_option maxRecDepth 10000 in
theorem kX11_size_1 (d : Nat) (h : zH) (p1 : Int32) (a_lt_p1_0 : zcond .lt p1 0 = true) : zCi (d + 0) mX11_size [.inr (.inr (some 0)), .inl p1] h (fun x h' => x = (-1) ∧ h' = h) := by
  show zEx none (d + 0) mX11_size (0, [(0, .inr (.inr (some 0))), (1, .inl p1)], [], h) _
  refine ex_iload_n (pc' := 1) dX11_size_0 rfl rfl ?_
  refine ex_switch (pc' := 163) dX11_size_1 (fun _ => by decide) (fun hb => absurd (Or.inl (zi_lt a_lt_p1_0)) hb) ?_
  refine ex_iconst (v := (-1)) (pc' := 164) dX11_size_163 (by decide) rfl ?_
  exact ex_iretI dX11_size_164 rfl rfl ⟨rfl, rfl⟩
set_option maxRecDepth 10000 in
theorem kX12_in_5 (d : Nat) (h : zH) (p1 : Int32) (a_lt_p1_0 : zcond .lt p1 0 = true) : zCi (d + 0) mX12_in [.inl p1, .inl 0, .inl 11] h (fun x h' => x = 0 ∧ h' = h) := by
  show zEx none (d + 0) mX12_in (0, [(0, .inl p1), (1, .inl 0), (2, .inl 11)], [], h) _
  refine ex_iload_n (pc' := 1) dX12_in_0 rfl rfl ?_
  refine ex_iload_n (pc' := 2) dX12_in_1 rfl rfl ?_
  refine ex_icmp_t (pc' := 14) dX12_in_2 a_lt_p1_0 (by decide) ?_
  refine ex_iconst (v := 0) (pc' := 15) dX12_in_14 (by decide) rfl ?_
  exact ex_iretI dX12_in_15 rfl (by decide) ⟨rfl, rfl⟩
set_option maxRecDepth 10000 in
theorem kX12_size_1 (d : Nat) (h : zH) (p1 : Int32) (s196 : zsh h 196 = some (12, 39)) (a_ne_p1_12 : zcond .ne p1 12 = true) (a_lt_p1_0 : zcond .lt p1 0 = true) (i196_14 : h.2.1 196 14 = 0) : zCi (d + 1) mX12_size [.inr (.inr (some 196)), .inl p1] h (fun x h' => x = (-1) ∧ h' = zsI (h) 196 0 0) := by
  show zEx none (d + 1) mX12_size (0, [(0, .inr (.inr (some 196))), (1, .inl p1)], [], h) _
  refine ex_aload_n (pc' := 1) dX12_size_0 rfl rfl ?_
  refine ex_iconst (v := 0) (pc' := 2) dX12_size_1 (by decide) rfl ?_
  refine ex_putI (pc' := 5) dX12_size_2 fl_12_62 s196 (Or.inl rfl) (Or.inl rfl) rfl ?_
  refine ex_iload_n (pc' := 6) dX12_size_5 rfl rfl ?_
  refine ex_bipush (v := 12) (pc' := 8) dX12_size_6 (by decide) rfl ?_
  refine ex_icmp_t (pc' := 16) dX12_size_8 a_ne_p1_12 (by decide) ?_
  refine ex_aload_n (pc' := 17) dX12_size_16 rfl rfl ?_
  refine ex_getI (pc' := 20) (v := 0) dX12_size_17 fl_12_180 (zsiI s196) (by decide) i196_14 rfl ?_
  refine ex_if_f (pc' := 23) dX12_size_20 (by decide) (by decide) rfl ?_
  refine ex_iload_n (pc' := 24) dX12_size_23 rfl rfl ?_
  refine ex_iconst (v := 0) (pc' := 25) dX12_size_24 (by decide) rfl ?_
  refine ex_bipush (v := 11) (pc' := 27) dX12_size_25 (by decide) rfl ?_
  refine en_callsI (pc' := 30) (vs := [.inl p1, .inl 0, .inl 11]) (rest := []) (h2 := zsI (h) 196 0 0) (v := 0) dX12_size_27 ml_12_149 (Or.inl rfl) ⟨zble rfl, zble rfl⟩ rfl rfl (zble rfl) rfl (kX12_in_5 _ (zsI (h) 196 0 0) p1 a_lt_p1_0) ?_
  refine ex_if_t (pc' := 37) dX12_size_30 (by decide) (by decide) ?_
  refine ex_iconst (v := (-1)) (pc' := 38) dX12_size_37 (by decide) rfl ?_
  exact ex_iretI dX12_size_38 rfl rfl ⟨rfl, rfl⟩
set_option maxRecDepth 10000 in
theorem kX11_size_2 (d : Nat) (h : zH) (p1 : Int32) (a_lt_p1_0 : zcond .lt p1 0 = false) (a_gt_p1_12 : zcond .gt p1 12 = true) : zCi (d + 0) mX11_size [.inr (.inr (some 0)), .inl p1] h (fun x h' => x = (-1) ∧ h' = h) := by
  show zEx none (d + 0) mX11_size (0, [(0, .inr (.inr (some 0))), (1, .inl p1)], [], h) _
  refine ex_iload_n (pc' := 1) dX11_size_0 rfl rfl ?_
  refine ex_switch (pc' := 163) dX11_size_1 (fun _ => by decide) (fun hb => absurd (Or.inr (zi_gt a_gt_p1_12)) hb) ?_
  refine ex_iconst (v := (-1)) (pc' := 164) dX11_size_163 (by decide) rfl ?_
  exact ex_iretI dX11_size_164 rfl rfl ⟨rfl, rfl⟩
set_option maxRecDepth 10000 in
theorem kX12_in_6 (d : Nat) (h : zH) (p1 : Int32) (a_lt_p1_0 : zcond .lt p1 0 = false) (a_gt_p1_11 : zcond .gt p1 11 = true) : zCi (d + 0) mX12_in [.inl p1, .inl 0, .inl 11] h (fun x h' => x = 0 ∧ h' = h) := by
  show zEx none (d + 0) mX12_in (0, [(0, .inl p1), (1, .inl 0), (2, .inl 11)], [], h) _
  refine ex_iload_n (pc' := 1) dX12_in_0 rfl rfl ?_
  refine ex_iload_n (pc' := 2) dX12_in_1 rfl rfl ?_
  refine ex_icmp_f (pc' := 5) dX12_in_2 a_lt_p1_0 (by decide) rfl ?_
  refine ex_iload_n (pc' := 6) dX12_in_5 rfl rfl ?_
  refine ex_iload_n (pc' := 7) dX12_in_6 rfl rfl ?_
  refine ex_icmp_t (pc' := 14) dX12_in_7 a_gt_p1_11 (by decide) ?_
  refine ex_iconst (v := 0) (pc' := 15) dX12_in_14 (by decide) rfl ?_
  exact ex_iretI dX12_in_15 rfl (by decide) ⟨rfl, rfl⟩
set_option maxRecDepth 10000 in
theorem kX12_size_2 (d : Nat) (h : zH) (p1 : Int32) (s196 : zsh h 196 = some (12, 39)) (a_ne_p1_12 : zcond .ne p1 12 = true) (a_lt_p1_0 : zcond .lt p1 0 = false) (a_gt_p1_11 : zcond .gt p1 11 = true) (i196_14 : h.2.1 196 14 = 0) : zCi (d + 1) mX12_size [.inr (.inr (some 196)), .inl p1] h (fun x h' => x = (-1) ∧ h' = zsI (h) 196 0 0) := by
  show zEx none (d + 1) mX12_size (0, [(0, .inr (.inr (some 196))), (1, .inl p1)], [], h) _
  refine ex_aload_n (pc' := 1) dX12_size_0 rfl rfl ?_
  refine ex_iconst (v := 0) (pc' := 2) dX12_size_1 (by decide) rfl ?_
  refine ex_putI (pc' := 5) dX12_size_2 fl_12_62 s196 (Or.inl rfl) (Or.inl rfl) rfl ?_
  refine ex_iload_n (pc' := 6) dX12_size_5 rfl rfl ?_
  refine ex_bipush (v := 12) (pc' := 8) dX12_size_6 (by decide) rfl ?_
  refine ex_icmp_t (pc' := 16) dX12_size_8 a_ne_p1_12 (by decide) ?_
  refine ex_aload_n (pc' := 17) dX12_size_16 rfl rfl ?_
  refine ex_getI (pc' := 20) (v := 0) dX12_size_17 fl_12_180 (zsiI s196) (by decide) i196_14 rfl ?_
  refine ex_if_f (pc' := 23) dX12_size_20 (by decide) (by decide) rfl ?_
  refine ex_iload_n (pc' := 24) dX12_size_23 rfl rfl ?_
  refine ex_iconst (v := 0) (pc' := 25) dX12_size_24 (by decide) rfl ?_
  refine ex_bipush (v := 11) (pc' := 27) dX12_size_25 (by decide) rfl ?_
  refine en_callsI (pc' := 30) (vs := [.inl p1, .inl 0, .inl 11]) (rest := []) (h2 := zsI (h) 196 0 0) (v := 0) dX12_size_27 ml_12_149 (Or.inl rfl) ⟨zble rfl, zble rfl⟩ rfl rfl (zble rfl) rfl (kX12_in_6 _ (zsI (h) 196 0 0) p1 a_lt_p1_0 a_gt_p1_11) ?_
  refine ex_if_t (pc' := 37) dX12_size_30 (by decide) (by decide) ?_
  refine ex_iconst (v := (-1)) (pc' := 38) dX12_size_37 (by decide) rfl ?_
  exact ex_iretI dX12_size_38 rfl rfl ⟨rfl, rfl⟩
set_option maxRecDepth 10000 in
theorem kX11_size_3 (d : Nat) (h : zH) (s0 : zsh h 0 = some (11, 16)) (s2 : zsh h 2 = some (4, 15)) (i2_0 : h.2.1 2 0 = 0) (r0_3 : h.2.2.2.1 0 3 = some 2) : zCi (d + 0) mX11_size [.inr (.inr (some 0)), .inl 0] h (fun x h' => x = 0 ∧ h' = h) := by
  show zEx none (d + 0) mX11_size (0, [(0, .inr (.inr (some 0))), (1, .inl 0)], [], h) _
  refine ex_iload_n (pc' := 1) dX11_size_0 rfl rfl ?_
  refine ex_switch (pc' := 68) dX11_size_1 (fun hb => absurd hb (by decide)) (fun _ => ⟨67, by decide, by decide⟩) ?_
  refine ex_aload_n (pc' := 69) dX11_size_68 rfl rfl ?_
  refine ex_getR (pc' := 72) (r := 2) dX11_size_69 fl_11_23 s0 (by decide) r0_3 rfl ?_
  refine ex_getI (pc' := 75) (v := 0) dX11_size_72 fl_11_350 s2 (by decide) i2_0 rfl ?_
  exact ex_iretI dX11_size_75 rfl rfl ⟨rfl, rfl⟩
set_option maxRecDepth 10000 in
theorem kX12_in_7 (d : Nat) (h : zH) : zCi (d + 0) mX12_in [.inl 0, .inl 0, .inl 11] h (fun x h' => x = 1 ∧ h' = h) := by
  show zEx none (d + 0) mX12_in (0, [(0, .inl 0), (1, .inl 0), (2, .inl 11)], [], h) _
  refine ex_iload_n (pc' := 1) dX12_in_0 rfl rfl ?_
  refine ex_iload_n (pc' := 2) dX12_in_1 rfl rfl ?_
  refine ex_icmp_f (pc' := 5) dX12_in_2 (by decide) (by decide) rfl ?_
  refine ex_iload_n (pc' := 6) dX12_in_5 rfl rfl ?_
  refine ex_iload_n (pc' := 7) dX12_in_6 rfl rfl ?_
  refine ex_icmp_f (pc' := 10) dX12_in_7 (by decide) (by decide) rfl ?_
  refine ex_iconst (v := 1) (pc' := 11) dX12_in_10 (by decide) rfl ?_
  refine ex_goto (pc' := 15) dX12_in_11 (by decide) ?_
  exact ex_iretI dX12_in_15 rfl (by decide) ⟨rfl, rfl⟩
set_option maxRecDepth 10000 in
theorem kX12_size_3 (d : Nat) (h : zH) (s196 : zsh h 196 = some (12, 39)) (i196_14 : h.2.1 196 14 = 0) : zCi (d + 1) mX12_size [.inr (.inr (some 196)), .inl 0] h (fun x h' => x = 0 ∧ h' = zsI (h) 196 0 0) := by
  show zEx none (d + 1) mX12_size (0, [(0, .inr (.inr (some 196))), (1, .inl 0)], [], h) _
  refine ex_aload_n (pc' := 1) dX12_size_0 rfl rfl ?_
  refine ex_iconst (v := 0) (pc' := 2) dX12_size_1 (by decide) rfl ?_
  refine ex_putI (pc' := 5) dX12_size_2 fl_12_62 s196 (Or.inl rfl) (Or.inl rfl) rfl ?_
  refine ex_iload_n (pc' := 6) dX12_size_5 rfl rfl ?_
  refine ex_bipush (v := 12) (pc' := 8) dX12_size_6 (by decide) rfl ?_
  refine ex_icmp_t (pc' := 16) dX12_size_8 (by decide) (by decide) ?_
  refine ex_aload_n (pc' := 17) dX12_size_16 rfl rfl ?_
  refine ex_getI (pc' := 20) (v := 0) dX12_size_17 fl_12_180 (zsiI s196) (by decide) i196_14 rfl ?_
  refine ex_if_f (pc' := 23) dX12_size_20 (by decide) (by decide) rfl ?_
  refine ex_iload_n (pc' := 24) dX12_size_23 rfl rfl ?_
  refine ex_iconst (v := 0) (pc' := 25) dX12_size_24 (by decide) rfl ?_
  refine ex_bipush (v := 11) (pc' := 27) dX12_size_25 (by decide) rfl ?_
  refine en_callsI (pc' := 30) (vs := [.inl 0, .inl 0, .inl 11]) (rest := []) (h2 := zsI (h) 196 0 0) (v := 1) dX12_size_27 ml_12_149 (Or.inl rfl) ⟨zble rfl, zble rfl⟩ rfl rfl (zble rfl) rfl (kX12_in_7 _ (zsI (h) 196 0 0)) ?_
  refine ex_if_f (pc' := 33) dX12_size_30 (by decide) (by decide) rfl ?_
  refine ex_iconst (v := 0) (pc' := 34) dX12_size_33 (by decide) rfl ?_
  refine ex_goto (pc' := 38) dX12_size_34 (by decide) ?_
  exact ex_iretI dX12_size_38 rfl rfl ⟨rfl, rfl⟩
set_option maxRecDepth 10000 in
theorem kX11_size_4 (d : Nat) (h : zH) (s0 : zsh h 0 = some (11, 16)) (s2 : zsh h 2 = some (4, 15)) (i2_1 : h.2.1 2 1 = 0) (r0_3 : h.2.2.2.1 0 3 = some 2) : zCi (d + 0) mX11_size [.inr (.inr (some 0)), .inl 1] h (fun x h' => x = 0 ∧ h' = h) := by
  show zEx none (d + 0) mX11_size (0, [(0, .inr (.inr (some 0))), (1, .inl 1)], [], h) _
  refine ex_iload_n (pc' := 1) dX11_size_0 rfl rfl ?_
  refine ex_switch (pc' := 76) dX11_size_1 (fun hb => absurd hb (by decide)) (fun _ => ⟨75, by decide, by decide⟩) ?_
  refine ex_aload_n (pc' := 77) dX11_size_76 rfl rfl ?_
  refine ex_getR (pc' := 80) (r := 2) dX11_size_77 fl_11_23 s0 (by decide) r0_3 rfl ?_
  refine ex_getI (pc' := 83) (v := 0) dX11_size_80 fl_11_370 s2 (by decide) i2_1 rfl ?_
  exact ex_iretI dX11_size_83 rfl rfl ⟨rfl, rfl⟩
set_option maxRecDepth 10000 in
theorem kX12_in_8 (d : Nat) (h : zH) : zCi (d + 0) mX12_in [.inl 1, .inl 0, .inl 11] h (fun x h' => x = 1 ∧ h' = h) := by
  show zEx none (d + 0) mX12_in (0, [(0, .inl 1), (1, .inl 0), (2, .inl 11)], [], h) _
  refine ex_iload_n (pc' := 1) dX12_in_0 rfl rfl ?_
  refine ex_iload_n (pc' := 2) dX12_in_1 rfl rfl ?_
  refine ex_icmp_f (pc' := 5) dX12_in_2 (by decide) (by decide) rfl ?_
  refine ex_iload_n (pc' := 6) dX12_in_5 rfl rfl ?_
  refine ex_iload_n (pc' := 7) dX12_in_6 rfl rfl ?_
  refine ex_icmp_f (pc' := 10) dX12_in_7 (by decide) (by decide) rfl ?_
  refine ex_iconst (v := 1) (pc' := 11) dX12_in_10 (by decide) rfl ?_
  refine ex_goto (pc' := 15) dX12_in_11 (by decide) ?_
  exact ex_iretI dX12_in_15 rfl (by decide) ⟨rfl, rfl⟩
set_option maxRecDepth 10000 in
theorem kX12_size_4 (d : Nat) (h : zH) (s196 : zsh h 196 = some (12, 39)) (i196_14 : h.2.1 196 14 = 0) : zCi (d + 1) mX12_size [.inr (.inr (some 196)), .inl 1] h (fun x h' => x = 0 ∧ h' = zsI (h) 196 0 0) := by
  show zEx none (d + 1) mX12_size (0, [(0, .inr (.inr (some 196))), (1, .inl 1)], [], h) _
  refine ex_aload_n (pc' := 1) dX12_size_0 rfl rfl ?_
  refine ex_iconst (v := 0) (pc' := 2) dX12_size_1 (by decide) rfl ?_
  refine ex_putI (pc' := 5) dX12_size_2 fl_12_62 s196 (Or.inl rfl) (Or.inl rfl) rfl ?_
  refine ex_iload_n (pc' := 6) dX12_size_5 rfl rfl ?_
  refine ex_bipush (v := 12) (pc' := 8) dX12_size_6 (by decide) rfl ?_
  refine ex_icmp_t (pc' := 16) dX12_size_8 (by decide) (by decide) ?_
  refine ex_aload_n (pc' := 17) dX12_size_16 rfl rfl ?_
  refine ex_getI (pc' := 20) (v := 0) dX12_size_17 fl_12_180 (zsiI s196) (by decide) i196_14 rfl ?_
  refine ex_if_f (pc' := 23) dX12_size_20 (by decide) (by decide) rfl ?_
  refine ex_iload_n (pc' := 24) dX12_size_23 rfl rfl ?_
  refine ex_iconst (v := 0) (pc' := 25) dX12_size_24 (by decide) rfl ?_
  refine ex_bipush (v := 11) (pc' := 27) dX12_size_25 (by decide) rfl ?_
  refine en_callsI (pc' := 30) (vs := [.inl 1, .inl 0, .inl 11]) (rest := []) (h2 := zsI (h) 196 0 0) (v := 1) dX12_size_27 ml_12_149 (Or.inl rfl) ⟨zble rfl, zble rfl⟩ rfl rfl (zble rfl) rfl (kX12_in_8 _ (zsI (h) 196 0 0)) ?_
  refine ex_if_f (pc' := 33) dX12_size_30 (by decide) (by decide) rfl ?_
  refine ex_iconst (v := 0) (pc' := 34) dX12_size_33 (by decide) rfl ?_
  refine ex_goto (pc' := 38) dX12_size_34 (by decide) ?_
  exact ex_iretI dX12_size_38 rfl rfl ⟨rfl, rfl⟩
set_option maxRecDepth 10000 in
theorem kX11_size_5 (d : Nat) (h : zH) (s0 : zsh h 0 = some (11, 16)) (s2 : zsh h 2 = some (4, 15)) (i2_2 : h.2.1 2 2 = 0) (r0_3 : h.2.2.2.1 0 3 = some 2) : zCi (d + 0) mX11_size [.inr (.inr (some 0)), .inl 2] h (fun x h' => x = 0 ∧ h' = h) := by
  show zEx none (d + 0) mX11_size (0, [(0, .inr (.inr (some 0))), (1, .inl 2)], [], h) _
  refine ex_iload_n (pc' := 1) dX11_size_0 rfl rfl ?_
  refine ex_switch (pc' := 84) dX11_size_1 (fun hb => absurd hb (by decide)) (fun _ => ⟨83, by decide, by decide⟩) ?_
  refine ex_aload_n (pc' := 85) dX11_size_84 rfl rfl ?_
  refine ex_getR (pc' := 88) (r := 2) dX11_size_85 fl_11_23 s0 (by decide) r0_3 rfl ?_
  refine ex_getI (pc' := 91) (v := 0) dX11_size_88 fl_11_373 s2 (by decide) i2_2 rfl ?_
  exact ex_iretI dX11_size_91 rfl rfl ⟨rfl, rfl⟩
set_option maxRecDepth 10000 in
theorem kX12_in_9 (d : Nat) (h : zH) : zCi (d + 0) mX12_in [.inl 2, .inl 0, .inl 11] h (fun x h' => x = 1 ∧ h' = h) := by
  show zEx none (d + 0) mX12_in (0, [(0, .inl 2), (1, .inl 0), (2, .inl 11)], [], h) _
  refine ex_iload_n (pc' := 1) dX12_in_0 rfl rfl ?_
  refine ex_iload_n (pc' := 2) dX12_in_1 rfl rfl ?_
  refine ex_icmp_f (pc' := 5) dX12_in_2 (by decide) (by decide) rfl ?_
  refine ex_iload_n (pc' := 6) dX12_in_5 rfl rfl ?_
  refine ex_iload_n (pc' := 7) dX12_in_6 rfl rfl ?_
  refine ex_icmp_f (pc' := 10) dX12_in_7 (by decide) (by decide) rfl ?_
  refine ex_iconst (v := 1) (pc' := 11) dX12_in_10 (by decide) rfl ?_
  refine ex_goto (pc' := 15) dX12_in_11 (by decide) ?_
  exact ex_iretI dX12_in_15 rfl (by decide) ⟨rfl, rfl⟩
set_option maxRecDepth 10000 in
theorem kX12_size_5 (d : Nat) (h : zH) (s196 : zsh h 196 = some (12, 39)) (i196_14 : h.2.1 196 14 = 0) : zCi (d + 1) mX12_size [.inr (.inr (some 196)), .inl 2] h (fun x h' => x = 0 ∧ h' = zsI (h) 196 0 0) := by
  show zEx none (d + 1) mX12_size (0, [(0, .inr (.inr (some 196))), (1, .inl 2)], [], h) _
  refine ex_aload_n (pc' := 1) dX12_size_0 rfl rfl ?_
  refine ex_iconst (v := 0) (pc' := 2) dX12_size_1 (by decide) rfl ?_
  refine ex_putI (pc' := 5) dX12_size_2 fl_12_62 s196 (Or.inl rfl) (Or.inl rfl) rfl ?_
  refine ex_iload_n (pc' := 6) dX12_size_5 rfl rfl ?_
  refine ex_bipush (v := 12) (pc' := 8) dX12_size_6 (by decide) rfl ?_
  refine ex_icmp_t (pc' := 16) dX12_size_8 (by decide) (by decide) ?_
  refine ex_aload_n (pc' := 17) dX12_size_16 rfl rfl ?_
  refine ex_getI (pc' := 20) (v := 0) dX12_size_17 fl_12_180 (zsiI s196) (by decide) i196_14 rfl ?_
  refine ex_if_f (pc' := 23) dX12_size_20 (by decide) (by decide) rfl ?_
  refine ex_iload_n (pc' := 24) dX12_size_23 rfl rfl ?_
  refine ex_iconst (v := 0) (pc' := 25) dX12_size_24 (by decide) rfl ?_
  refine ex_bipush (v := 11) (pc' := 27) dX12_size_25 (by decide) rfl ?_
  refine en_callsI (pc' := 30) (vs := [.inl 2, .inl 0, .inl 11]) (rest := []) (h2 := zsI (h) 196 0 0) (v := 1) dX12_size_27 ml_12_149 (Or.inl rfl) ⟨zble rfl, zble rfl⟩ rfl rfl (zble rfl) rfl (kX12_in_9 _ (zsI (h) 196 0 0)) ?_
  refine ex_if_f (pc' := 33) dX12_size_30 (by decide) (by decide) rfl ?_
  refine ex_iconst (v := 0) (pc' := 34) dX12_size_33 (by decide) rfl ?_
  refine ex_goto (pc' := 38) dX12_size_34 (by decide) ?_
  exact ex_iretI dX12_size_38 rfl rfl ⟨rfl, rfl⟩
set_option maxRecDepth 10000 in
theorem kX11_size_6 (d : Nat) (h : zH) (s0 : zsh h 0 = some (11, 16)) (s2 : zsh h 2 = some (4, 15)) (i2_3 : h.2.1 2 3 = 0) (r0_3 : h.2.2.2.1 0 3 = some 2) : zCi (d + 0) mX11_size [.inr (.inr (some 0)), .inl 3] h (fun x h' => x = 0 ∧ h' = h) := by
  show zEx none (d + 0) mX11_size (0, [(0, .inr (.inr (some 0))), (1, .inl 3)], [], h) _
  refine ex_iload_n (pc' := 1) dX11_size_0 rfl rfl ?_
  refine ex_switch (pc' := 92) dX11_size_1 (fun hb => absurd hb (by decide)) (fun _ => ⟨91, by decide, by decide⟩) ?_
  refine ex_aload_n (pc' := 93) dX11_size_92 rfl rfl ?_
  refine ex_getR (pc' := 96) (r := 2) dX11_size_93 fl_11_23 s0 (by decide) r0_3 rfl ?_
  refine ex_getI (pc' := 99) (v := 0) dX11_size_96 fl_11_376 s2 (by decide) i2_3 rfl ?_
  exact ex_iretI dX11_size_99 rfl rfl ⟨rfl, rfl⟩
set_option maxRecDepth 10000 in
theorem kX12_in_10 (d : Nat) (h : zH) : zCi (d + 0) mX12_in [.inl 3, .inl 0, .inl 11] h (fun x h' => x = 1 ∧ h' = h) := by
  show zEx none (d + 0) mX12_in (0, [(0, .inl 3), (1, .inl 0), (2, .inl 11)], [], h) _
  refine ex_iload_n (pc' := 1) dX12_in_0 rfl rfl ?_
  refine ex_iload_n (pc' := 2) dX12_in_1 rfl rfl ?_
  refine ex_icmp_f (pc' := 5) dX12_in_2 (by decide) (by decide) rfl ?_
  refine ex_iload_n (pc' := 6) dX12_in_5 rfl rfl ?_
  refine ex_iload_n (pc' := 7) dX12_in_6 rfl rfl ?_
  refine ex_icmp_f (pc' := 10) dX12_in_7 (by decide) (by decide) rfl ?_
  refine ex_iconst (v := 1) (pc' := 11) dX12_in_10 (by decide) rfl ?_
  refine ex_goto (pc' := 15) dX12_in_11 (by decide) ?_
  exact ex_iretI dX12_in_15 rfl (by decide) ⟨rfl, rfl⟩
set_option maxRecDepth 10000 in
theorem kX12_size_6 (d : Nat) (h : zH) (s196 : zsh h 196 = some (12, 39)) (i196_14 : h.2.1 196 14 = 0) : zCi (d + 1) mX12_size [.inr (.inr (some 196)), .inl 3] h (fun x h' => x = 0 ∧ h' = zsI (h) 196 0 0) := by
  show zEx none (d + 1) mX12_size (0, [(0, .inr (.inr (some 196))), (1, .inl 3)], [], h) _
  refine ex_aload_n (pc' := 1) dX12_size_0 rfl rfl ?_
  refine ex_iconst (v := 0) (pc' := 2) dX12_size_1 (by decide) rfl ?_
  refine ex_putI (pc' := 5) dX12_size_2 fl_12_62 s196 (Or.inl rfl) (Or.inl rfl) rfl ?_
  refine ex_iload_n (pc' := 6) dX12_size_5 rfl rfl ?_
  refine ex_bipush (v := 12) (pc' := 8) dX12_size_6 (by decide) rfl ?_
  refine ex_icmp_t (pc' := 16) dX12_size_8 (by decide) (by decide) ?_
  refine ex_aload_n (pc' := 17) dX12_size_16 rfl rfl ?_
  refine ex_getI (pc' := 20) (v := 0) dX12_size_17 fl_12_180 (zsiI s196) (by decide) i196_14 rfl ?_
  refine ex_if_f (pc' := 23) dX12_size_20 (by decide) (by decide) rfl ?_
  refine ex_iload_n (pc' := 24) dX12_size_23 rfl rfl ?_
  refine ex_iconst (v := 0) (pc' := 25) dX12_size_24 (by decide) rfl ?_
  refine ex_bipush (v := 11) (pc' := 27) dX12_size_25 (by decide) rfl ?_
  refine en_callsI (pc' := 30) (vs := [.inl 3, .inl 0, .inl 11]) (rest := []) (h2 := zsI (h) 196 0 0) (v := 1) dX12_size_27 ml_12_149 (Or.inl rfl) ⟨zble rfl, zble rfl⟩ rfl rfl (zble rfl) rfl (kX12_in_10 _ (zsI (h) 196 0 0)) ?_
  refine ex_if_f (pc' := 33) dX12_size_30 (by decide) (by decide) rfl ?_
  refine ex_iconst (v := 0) (pc' := 34) dX12_size_33 (by decide) rfl ?_
  refine ex_goto (pc' := 38) dX12_size_34 (by decide) ?_
  exact ex_iretI dX12_size_38 rfl rfl ⟨rfl, rfl⟩
set_option maxRecDepth 10000 in
theorem kX11_size_7 (d : Nat) (h : zH) (s0 : zsh h 0 = some (11, 16)) (s2 : zsh h 2 = some (4, 15)) (i2_4 : h.2.1 2 4 = 0) (r0_3 : h.2.2.2.1 0 3 = some 2) : zCi (d + 0) mX11_size [.inr (.inr (some 0)), .inl 4] h (fun x h' => x = 0 ∧ h' = h) := by
  show zEx none (d + 0) mX11_size (0, [(0, .inr (.inr (some 0))), (1, .inl 4)], [], h) _
  refine ex_iload_n (pc' := 1) dX11_size_0 rfl rfl ?_
  refine ex_switch (pc' := 100) dX11_size_1 (fun hb => absurd hb (by decide)) (fun _ => ⟨99, by decide, by decide⟩) ?_
  refine ex_aload_n (pc' := 101) dX11_size_100 rfl rfl ?_
  refine ex_getR (pc' := 104) (r := 2) dX11_size_101 fl_11_23 s0 (by decide) r0_3 rfl ?_
  refine ex_getI (pc' := 107) (v := 0) dX11_size_104 fl_11_109 s2 (by decide) i2_4 rfl ?_
  exact ex_iretI dX11_size_107 rfl rfl ⟨rfl, rfl⟩
set_option maxRecDepth 10000 in
theorem kX12_in_11 (d : Nat) (h : zH) : zCi (d + 0) mX12_in [.inl 4, .inl 0, .inl 11] h (fun x h' => x = 1 ∧ h' = h) := by
  show zEx none (d + 0) mX12_in (0, [(0, .inl 4), (1, .inl 0), (2, .inl 11)], [], h) _
  refine ex_iload_n (pc' := 1) dX12_in_0 rfl rfl ?_
  refine ex_iload_n (pc' := 2) dX12_in_1 rfl rfl ?_
  refine ex_icmp_f (pc' := 5) dX12_in_2 (by decide) (by decide) rfl ?_
  refine ex_iload_n (pc' := 6) dX12_in_5 rfl rfl ?_
  refine ex_iload_n (pc' := 7) dX12_in_6 rfl rfl ?_
  refine ex_icmp_f (pc' := 10) dX12_in_7 (by decide) (by decide) rfl ?_
  refine ex_iconst (v := 1) (pc' := 11) dX12_in_10 (by decide) rfl ?_
  refine ex_goto (pc' := 15) dX12_in_11 (by decide) ?_
  exact ex_iretI dX12_in_15 rfl (by decide) ⟨rfl, rfl⟩
set_option maxRecDepth 10000 in
theorem kX12_size_7 (d : Nat) (h : zH) (s196 : zsh h 196 = some (12, 39)) (i196_14 : h.2.1 196 14 = 0) : zCi (d + 1) mX12_size [.inr (.inr (some 196)), .inl 4] h (fun x h' => x = 0 ∧ h' = zsI (h) 196 0 0) := by
  show zEx none (d + 1) mX12_size (0, [(0, .inr (.inr (some 196))), (1, .inl 4)], [], h) _
  refine ex_aload_n (pc' := 1) dX12_size_0 rfl rfl ?_
  refine ex_iconst (v := 0) (pc' := 2) dX12_size_1 (by decide) rfl ?_
  refine ex_putI (pc' := 5) dX12_size_2 fl_12_62 s196 (Or.inl rfl) (Or.inl rfl) rfl ?_
  refine ex_iload_n (pc' := 6) dX12_size_5 rfl rfl ?_
  refine ex_bipush (v := 12) (pc' := 8) dX12_size_6 (by decide) rfl ?_
  refine ex_icmp_t (pc' := 16) dX12_size_8 (by decide) (by decide) ?_
  refine ex_aload_n (pc' := 17) dX12_size_16 rfl rfl ?_
  refine ex_getI (pc' := 20) (v := 0) dX12_size_17 fl_12_180 (zsiI s196) (by decide) i196_14 rfl ?_
  refine ex_if_f (pc' := 23) dX12_size_20 (by decide) (by decide) rfl ?_
  refine ex_iload_n (pc' := 24) dX12_size_23 rfl rfl ?_
  refine ex_iconst (v := 0) (pc' := 25) dX12_size_24 (by decide) rfl ?_
  refine ex_bipush (v := 11) (pc' := 27) dX12_size_25 (by decide) rfl ?_
  refine en_callsI (pc' := 30) (vs := [.inl 4, .inl 0, .inl 11]) (rest := []) (h2 := zsI (h) 196 0 0) (v := 1) dX12_size_27 ml_12_149 (Or.inl rfl) ⟨zble rfl, zble rfl⟩ rfl rfl (zble rfl) rfl (kX12_in_11 _ (zsI (h) 196 0 0)) ?_
  refine ex_if_f (pc' := 33) dX12_size_30 (by decide) (by decide) rfl ?_
  refine ex_iconst (v := 0) (pc' := 34) dX12_size_33 (by decide) rfl ?_
  refine ex_goto (pc' := 38) dX12_size_34 (by decide) ?_
  exact ex_iretI dX12_size_38 rfl rfl ⟨rfl, rfl⟩
set_option maxRecDepth 10000 in
theorem kX11_size_8 (d : Nat) (h : zH) (s0 : zsh h 0 = some (11, 16)) (s2 : zsh h 2 = some (4, 15)) (i2_5 : h.2.1 2 5 = 0) (r0_3 : h.2.2.2.1 0 3 = some 2) : zCi (d + 0) mX11_size [.inr (.inr (some 0)), .inl 5] h (fun x h' => x = 0 ∧ h' = h) := by
  show zEx none (d + 0) mX11_size (0, [(0, .inr (.inr (some 0))), (1, .inl 5)], [], h) _
  refine ex_iload_n (pc' := 1) dX11_size_0 rfl rfl ?_
  refine ex_switch (pc' := 108) dX11_size_1 (fun hb => absurd hb (by decide)) (fun _ => ⟨107, by decide, by decide⟩) ?_
  refine ex_aload_n (pc' := 109) dX11_size_108 rfl rfl ?_
  refine ex_getR (pc' := 112) (r := 2) dX11_size_109 fl_11_23 s0 (by decide) r0_3 rfl ?_
  refine ex_getI (pc' := 115) (v := 0) dX11_size_112 fl_11_379 s2 (by decide) i2_5 rfl ?_
  exact ex_iretI dX11_size_115 rfl rfl ⟨rfl, rfl⟩
set_option maxRecDepth 10000 in
theorem kX12_in_12 (d : Nat) (h : zH) : zCi (d + 0) mX12_in [.inl 5, .inl 0, .inl 11] h (fun x h' => x = 1 ∧ h' = h) := by
  show zEx none (d + 0) mX12_in (0, [(0, .inl 5), (1, .inl 0), (2, .inl 11)], [], h) _
  refine ex_iload_n (pc' := 1) dX12_in_0 rfl rfl ?_
  refine ex_iload_n (pc' := 2) dX12_in_1 rfl rfl ?_
  refine ex_icmp_f (pc' := 5) dX12_in_2 (by decide) (by decide) rfl ?_
  refine ex_iload_n (pc' := 6) dX12_in_5 rfl rfl ?_
  refine ex_iload_n (pc' := 7) dX12_in_6 rfl rfl ?_
  refine ex_icmp_f (pc' := 10) dX12_in_7 (by decide) (by decide) rfl ?_
  refine ex_iconst (v := 1) (pc' := 11) dX12_in_10 (by decide) rfl ?_
  refine ex_goto (pc' := 15) dX12_in_11 (by decide) ?_
  exact ex_iretI dX12_in_15 rfl (by decide) ⟨rfl, rfl⟩
set_option maxRecDepth 10000 in
theorem kX12_size_8 (d : Nat) (h : zH) (s196 : zsh h 196 = some (12, 39)) (i196_14 : h.2.1 196 14 = 0) : zCi (d + 1) mX12_size [.inr (.inr (some 196)), .inl 5] h (fun x h' => x = 0 ∧ h' = zsI (h) 196 0 0) := by
  show zEx none (d + 1) mX12_size (0, [(0, .inr (.inr (some 196))), (1, .inl 5)], [], h) _
  refine ex_aload_n (pc' := 1) dX12_size_0 rfl rfl ?_
  refine ex_iconst (v := 0) (pc' := 2) dX12_size_1 (by decide) rfl ?_
  refine ex_putI (pc' := 5) dX12_size_2 fl_12_62 s196 (Or.inl rfl) (Or.inl rfl) rfl ?_
  refine ex_iload_n (pc' := 6) dX12_size_5 rfl rfl ?_
  refine ex_bipush (v := 12) (pc' := 8) dX12_size_6 (by decide) rfl ?_
  refine ex_icmp_t (pc' := 16) dX12_size_8 (by decide) (by decide) ?_
  refine ex_aload_n (pc' := 17) dX12_size_16 rfl rfl ?_
  refine ex_getI (pc' := 20) (v := 0) dX12_size_17 fl_12_180 (zsiI s196) (by decide) i196_14 rfl ?_
  refine ex_if_f (pc' := 23) dX12_size_20 (by decide) (by decide) rfl ?_
  refine ex_iload_n (pc' := 24) dX12_size_23 rfl rfl ?_
  refine ex_iconst (v := 0) (pc' := 25) dX12_size_24 (by decide) rfl ?_
  refine ex_bipush (v := 11) (pc' := 27) dX12_size_25 (by decide) rfl ?_
  refine en_callsI (pc' := 30) (vs := [.inl 5, .inl 0, .inl 11]) (rest := []) (h2 := zsI (h) 196 0 0) (v := 1) dX12_size_27 ml_12_149 (Or.inl rfl) ⟨zble rfl, zble rfl⟩ rfl rfl (zble rfl) rfl (kX12_in_12 _ (zsI (h) 196 0 0)) ?_
  refine ex_if_f (pc' := 33) dX12_size_30 (by decide) (by decide) rfl ?_
  refine ex_iconst (v := 0) (pc' := 34) dX12_size_33 (by decide) rfl ?_
  refine ex_goto (pc' := 38) dX12_size_34 (by decide) ?_
  exact ex_iretI dX12_size_38 rfl rfl ⟨rfl, rfl⟩
set_option maxRecDepth 10000 in
theorem kX11_size_9 (d : Nat) (h : zH) (s0 : zsh h 0 = some (11, 16)) (s2 : zsh h 2 = some (4, 15)) (i2_6 : h.2.1 2 6 = 0) (r0_3 : h.2.2.2.1 0 3 = some 2) : zCi (d + 0) mX11_size [.inr (.inr (some 0)), .inl 6] h (fun x h' => x = 0 ∧ h' = h) := by
  show zEx none (d + 0) mX11_size (0, [(0, .inr (.inr (some 0))), (1, .inl 6)], [], h) _
  refine ex_iload_n (pc' := 1) dX11_size_0 rfl rfl ?_
  refine ex_switch (pc' := 116) dX11_size_1 (fun hb => absurd hb (by decide)) (fun _ => ⟨115, by decide, by decide⟩) ?_
  refine ex_aload_n (pc' := 117) dX11_size_116 rfl rfl ?_
  refine ex_getR (pc' := 120) (r := 2) dX11_size_117 fl_11_23 s0 (by decide) r0_3 rfl ?_
  refine ex_getI (pc' := 123) (v := 0) dX11_size_120 fl_11_382 s2 (by decide) i2_6 rfl ?_
  exact ex_iretI dX11_size_123 rfl rfl ⟨rfl, rfl⟩
set_option maxRecDepth 10000 in
theorem kX12_in_13 (d : Nat) (h : zH) : zCi (d + 0) mX12_in [.inl 6, .inl 0, .inl 11] h (fun x h' => x = 1 ∧ h' = h) := by
  show zEx none (d + 0) mX12_in (0, [(0, .inl 6), (1, .inl 0), (2, .inl 11)], [], h) _
  refine ex_iload_n (pc' := 1) dX12_in_0 rfl rfl ?_
  refine ex_iload_n (pc' := 2) dX12_in_1 rfl rfl ?_
  refine ex_icmp_f (pc' := 5) dX12_in_2 (by decide) (by decide) rfl ?_
  refine ex_iload_n (pc' := 6) dX12_in_5 rfl rfl ?_
  refine ex_iload_n (pc' := 7) dX12_in_6 rfl rfl ?_
  refine ex_icmp_f (pc' := 10) dX12_in_7 (by decide) (by decide) rfl ?_
  refine ex_iconst (v := 1) (pc' := 11) dX12_in_10 (by decide) rfl ?_
  refine ex_goto (pc' := 15) dX12_in_11 (by decide) ?_
  exact ex_iretI dX12_in_15 rfl (by decide) ⟨rfl, rfl⟩
set_option maxRecDepth 10000 in
theorem kX12_size_9 (d : Nat) (h : zH) (s196 : zsh h 196 = some (12, 39)) (i196_14 : h.2.1 196 14 = 0) : zCi (d + 1) mX12_size [.inr (.inr (some 196)), .inl 6] h (fun x h' => x = 0 ∧ h' = zsI (h) 196 0 0) := by
  show zEx none (d + 1) mX12_size (0, [(0, .inr (.inr (some 196))), (1, .inl 6)], [], h) _
  refine ex_aload_n (pc' := 1) dX12_size_0 rfl rfl ?_
  refine ex_iconst (v := 0) (pc' := 2) dX12_size_1 (by decide) rfl ?_
  refine ex_putI (pc' := 5) dX12_size_2 fl_12_62 s196 (Or.inl rfl) (Or.inl rfl) rfl ?_
  refine ex_iload_n (pc' := 6) dX12_size_5 rfl rfl ?_
  refine ex_bipush (v := 12) (pc' := 8) dX12_size_6 (by decide) rfl ?_
  refine ex_icmp_t (pc' := 16) dX12_size_8 (by decide) (by decide) ?_
  refine ex_aload_n (pc' := 17) dX12_size_16 rfl rfl ?_
  refine ex_getI (pc' := 20) (v := 0) dX12_size_17 fl_12_180 (zsiI s196) (by decide) i196_14 rfl ?_
  refine ex_if_f (pc' := 23) dX12_size_20 (by decide) (by decide) rfl ?_
  refine ex_iload_n (pc' := 24) dX12_size_23 rfl rfl ?_
  refine ex_iconst (v := 0) (pc' := 25) dX12_size_24 (by decide) rfl ?_
  refine ex_bipush (v := 11) (pc' := 27) dX12_size_25 (by decide) rfl ?_
  refine en_callsI (pc' := 30) (vs := [.inl 6, .inl 0, .inl 11]) (rest := []) (h2 := zsI (h) 196 0 0) (v := 1) dX12_size_27 ml_12_149 (Or.inl rfl) ⟨zble rfl, zble rfl⟩ rfl rfl (zble rfl) rfl (kX12_in_13 _ (zsI (h) 196 0 0)) ?_
  refine ex_if_f (pc' := 33) dX12_size_30 (by decide) (by decide) rfl ?_
  refine ex_iconst (v := 0) (pc' := 34) dX12_size_33 (by decide) rfl ?_
  refine ex_goto (pc' := 38) dX12_size_34 (by decide) ?_
  exact ex_iretI dX12_size_38 rfl rfl ⟨rfl, rfl⟩
set_option maxRecDepth 10000 in
theorem kX11_size_10 (d : Nat) (h : zH) (s0 : zsh h 0 = some (11, 16)) (s2 : zsh h 2 = some (4, 15)) (i2_7 : h.2.1 2 7 = 0) (r0_3 : h.2.2.2.1 0 3 = some 2) : zCi (d + 0) mX11_size [.inr (.inr (some 0)), .inl 7] h (fun x h' => x = 0 ∧ h' = h) := by
  show zEx none (d + 0) mX11_size (0, [(0, .inr (.inr (some 0))), (1, .inl 7)], [], h) _
  refine ex_iload_n (pc' := 1) dX11_size_0 rfl rfl ?_
  refine ex_switch (pc' := 124) dX11_size_1 (fun hb => absurd hb (by decide)) (fun _ => ⟨123, by decide, by decide⟩) ?_
  refine ex_aload_n (pc' := 125) dX11_size_124 rfl rfl ?_
  refine ex_getR (pc' := 128) (r := 2) dX11_size_125 fl_11_23 s0 (by decide) r0_3 rfl ?_
  refine ex_getI (pc' := 131) (v := 0) dX11_size_128 fl_11_239 s2 (by decide) i2_7 rfl ?_
  exact ex_iretI dX11_size_131 rfl rfl ⟨rfl, rfl⟩
set_option maxRecDepth 10000 in
theorem kX12_in_14 (d : Nat) (h : zH) : zCi (d + 0) mX12_in [.inl 7, .inl 0, .inl 11] h (fun x h' => x = 1 ∧ h' = h) := by
  show zEx none (d + 0) mX12_in (0, [(0, .inl 7), (1, .inl 0), (2, .inl 11)], [], h) _
  refine ex_iload_n (pc' := 1) dX12_in_0 rfl rfl ?_
  refine ex_iload_n (pc' := 2) dX12_in_1 rfl rfl ?_
  refine ex_icmp_f (pc' := 5) dX12_in_2 (by decide) (by decide) rfl ?_
  refine ex_iload_n (pc' := 6) dX12_in_5 rfl rfl ?_
  refine ex_iload_n (pc' := 7) dX12_in_6 rfl rfl ?_
  refine ex_icmp_f (pc' := 10) dX12_in_7 (by decide) (by decide) rfl ?_
  refine ex_iconst (v := 1) (pc' := 11) dX12_in_10 (by decide) rfl ?_
  refine ex_goto (pc' := 15) dX12_in_11 (by decide) ?_
  exact ex_iretI dX12_in_15 rfl (by decide) ⟨rfl, rfl⟩
set_option maxRecDepth 10000 in
theorem kX12_size_10 (d : Nat) (h : zH) (s196 : zsh h 196 = some (12, 39)) (i196_14 : h.2.1 196 14 = 0) : zCi (d + 1) mX12_size [.inr (.inr (some 196)), .inl 7] h (fun x h' => x = 0 ∧ h' = zsI (h) 196 0 0) := by
  show zEx none (d + 1) mX12_size (0, [(0, .inr (.inr (some 196))), (1, .inl 7)], [], h) _
  refine ex_aload_n (pc' := 1) dX12_size_0 rfl rfl ?_
  refine ex_iconst (v := 0) (pc' := 2) dX12_size_1 (by decide) rfl ?_
  refine ex_putI (pc' := 5) dX12_size_2 fl_12_62 s196 (Or.inl rfl) (Or.inl rfl) rfl ?_
  refine ex_iload_n (pc' := 6) dX12_size_5 rfl rfl ?_
  refine ex_bipush (v := 12) (pc' := 8) dX12_size_6 (by decide) rfl ?_
  refine ex_icmp_t (pc' := 16) dX12_size_8 (by decide) (by decide) ?_
  refine ex_aload_n (pc' := 17) dX12_size_16 rfl rfl ?_
  refine ex_getI (pc' := 20) (v := 0) dX12_size_17 fl_12_180 (zsiI s196) (by decide) i196_14 rfl ?_
  refine ex_if_f (pc' := 23) dX12_size_20 (by decide) (by decide) rfl ?_
  refine ex_iload_n (pc' := 24) dX12_size_23 rfl rfl ?_
  refine ex_iconst (v := 0) (pc' := 25) dX12_size_24 (by decide) rfl ?_
  refine ex_bipush (v := 11) (pc' := 27) dX12_size_25 (by decide) rfl ?_
  refine en_callsI (pc' := 30) (vs := [.inl 7, .inl 0, .inl 11]) (rest := []) (h2 := zsI (h) 196 0 0) (v := 1) dX12_size_27 ml_12_149 (Or.inl rfl) ⟨zble rfl, zble rfl⟩ rfl rfl (zble rfl) rfl (kX12_in_14 _ (zsI (h) 196 0 0)) ?_
  refine ex_if_f (pc' := 33) dX12_size_30 (by decide) (by decide) rfl ?_
  refine ex_iconst (v := 0) (pc' := 34) dX12_size_33 (by decide) rfl ?_
  refine ex_goto (pc' := 38) dX12_size_34 (by decide) ?_
  exact ex_iretI dX12_size_38 rfl rfl ⟨rfl, rfl⟩
set_option maxRecDepth 10000 in
theorem kX11_size_11 (d : Nat) (h : zH) (s0 : zsh h 0 = some (11, 16)) (s2 : zsh h 2 = some (4, 15)) (i2_8 : h.2.1 2 8 = 0) (r0_3 : h.2.2.2.1 0 3 = some 2) : zCi (d + 0) mX11_size [.inr (.inr (some 0)), .inl 8] h (fun x h' => x = 0 ∧ h' = h) := by
  show zEx none (d + 0) mX11_size (0, [(0, .inr (.inr (some 0))), (1, .inl 8)], [], h) _
  refine ex_iload_n (pc' := 1) dX11_size_0 rfl rfl ?_
  refine ex_switch (pc' := 132) dX11_size_1 (fun hb => absurd hb (by decide)) (fun _ => ⟨131, by decide, by decide⟩) ?_
  refine ex_aload_n (pc' := 133) dX11_size_132 rfl rfl ?_
  refine ex_getR (pc' := 136) (r := 2) dX11_size_133 fl_11_23 s0 (by decide) r0_3 rfl ?_
  refine ex_getI (pc' := 139) (v := 0) dX11_size_136 fl_11_385 s2 (by decide) i2_8 rfl ?_
  exact ex_iretI dX11_size_139 rfl rfl ⟨rfl, rfl⟩
set_option maxRecDepth 10000 in
theorem kX12_in_15 (d : Nat) (h : zH) : zCi (d + 0) mX12_in [.inl 8, .inl 0, .inl 11] h (fun x h' => x = 1 ∧ h' = h) := by
  show zEx none (d + 0) mX12_in (0, [(0, .inl 8), (1, .inl 0), (2, .inl 11)], [], h) _
  refine ex_iload_n (pc' := 1) dX12_in_0 rfl rfl ?_
  refine ex_iload_n (pc' := 2) dX12_in_1 rfl rfl ?_
  refine ex_icmp_f (pc' := 5) dX12_in_2 (by decide) (by decide) rfl ?_
  refine ex_iload_n (pc' := 6) dX12_in_5 rfl rfl ?_
  refine ex_iload_n (pc' := 7) dX12_in_6 rfl rfl ?_
  refine ex_icmp_f (pc' := 10) dX12_in_7 (by decide) (by decide) rfl ?_
  refine ex_iconst (v := 1) (pc' := 11) dX12_in_10 (by decide) rfl ?_
  refine ex_goto (pc' := 15) dX12_in_11 (by decide) ?_
  exact ex_iretI dX12_in_15 rfl (by decide) ⟨rfl, rfl⟩
set_option maxRecDepth 10000 in
theorem kX12_size_11 (d : Nat) (h : zH) (s196 : zsh h 196 = some (12, 39)) (i196_14 : h.2.1 196 14 = 0) : zCi (d + 1) mX12_size [.inr (.inr (some 196)), .inl 8] h (fun x h' => x = 0 ∧ h' = zsI (h) 196 0 0) := by
  show zEx none (d + 1) mX12_size (0, [(0, .inr (.inr (some 196))), (1, .inl 8)], [], h) _
  refine ex_aload_n (pc' := 1) dX12_size_0 rfl rfl ?_
  refine ex_iconst (v := 0) (pc' := 2) dX12_size_1 (by decide) rfl ?_
  refine ex_putI (pc' := 5) dX12_size_2 fl_12_62 s196 (Or.inl rfl) (Or.inl rfl) rfl ?_
  refine ex_iload_n (pc' := 6) dX12_size_5 rfl rfl ?_
  refine ex_bipush (v := 12) (pc' := 8) dX12_size_6 (by decide) rfl ?_
  refine ex_icmp_t (pc' := 16) dX12_size_8 (by decide) (by decide) ?_
  refine ex_aload_n (pc' := 17) dX12_size_16 rfl rfl ?_
  refine ex_getI (pc' := 20) (v := 0) dX12_size_17 fl_12_180 (zsiI s196) (by decide) i196_14 rfl ?_
  refine ex_if_f (pc' := 23) dX12_size_20 (by decide) (by decide) rfl ?_
  refine ex_iload_n (pc' := 24) dX12_size_23 rfl rfl ?_
  refine ex_iconst (v := 0) (pc' := 25) dX12_size_24 (by decide) rfl ?_
  refine ex_bipush (v := 11) (pc' := 27) dX12_size_25 (by decide) rfl ?_
  refine en_callsI (pc' := 30) (vs := [.inl 8, .inl 0, .inl 11]) (rest := []) (h2 := zsI (h) 196 0 0) (v := 1) dX12_size_27 ml_12_149 (Or.inl rfl) ⟨zble rfl, zble rfl⟩ rfl rfl (zble rfl) rfl (kX12_in_15 _ (zsI (h) 196 0 0)) ?_
  refine ex_if_f (pc' := 33) dX12_size_30 (by decide) (by decide) rfl ?_
  refine ex_iconst (v := 0) (pc' := 34) dX12_size_33 (by decide) rfl ?_
  refine ex_goto (pc' := 38) dX12_size_34 (by decide) ?_
  exact ex_iretI dX12_size_38 rfl rfl ⟨rfl, rfl⟩
set_option maxRecDepth 10000 in
theorem kX11_size_12 (d : Nat) (h : zH) (s0 : zsh h 0 = some (11, 16)) (s86 : zsh h 86 = some (2, 7)) (i86_0 : h.2.1 86 0 = 0) (r0_6 : h.2.2.2.1 0 6 = some 86) : zCi (d + 0) mX11_size [.inr (.inr (some 0)), .inl 9] h (fun x h' => x = 0 ∧ h' = h) := by
  show zEx none (d + 0) mX11_size (0, [(0, .inr (.inr (some 0))), (1, .inl 9)], [], h) _
  refine ex_iload_n (pc' := 1) dX11_size_0 rfl rfl ?_
  refine ex_switch (pc' := 140) dX11_size_1 (fun hb => absurd hb (by decide)) (fun _ => ⟨139, by decide, by decide⟩) ?_
  refine ex_aload_n (pc' := 141) dX11_size_140 rfl rfl ?_
  refine ex_getR (pc' := 144) (r := 86) dX11_size_141 fl_11_42 s0 (by decide) r0_6 rfl ?_
  refine ex_getI (pc' := 147) (v := 0) dX11_size_144 fl_11_180 s86 (by decide) i86_0 rfl ?_
  exact ex_iretI dX11_size_147 rfl rfl ⟨rfl, rfl⟩
set_option maxRecDepth 10000 in
theorem kX12_in_16 (d : Nat) (h : zH) : zCi (d + 0) mX12_in [.inl 9, .inl 0, .inl 11] h (fun x h' => x = 1 ∧ h' = h) := by
  show zEx none (d + 0) mX12_in (0, [(0, .inl 9), (1, .inl 0), (2, .inl 11)], [], h) _
  refine ex_iload_n (pc' := 1) dX12_in_0 rfl rfl ?_
  refine ex_iload_n (pc' := 2) dX12_in_1 rfl rfl ?_
  refine ex_icmp_f (pc' := 5) dX12_in_2 (by decide) (by decide) rfl ?_
  refine ex_iload_n (pc' := 6) dX12_in_5 rfl rfl ?_
  refine ex_iload_n (pc' := 7) dX12_in_6 rfl rfl ?_
  refine ex_icmp_f (pc' := 10) dX12_in_7 (by decide) (by decide) rfl ?_
  refine ex_iconst (v := 1) (pc' := 11) dX12_in_10 (by decide) rfl ?_
  refine ex_goto (pc' := 15) dX12_in_11 (by decide) ?_
  exact ex_iretI dX12_in_15 rfl (by decide) ⟨rfl, rfl⟩
set_option maxRecDepth 10000 in
theorem kX12_size_12 (d : Nat) (h : zH) (s196 : zsh h 196 = some (12, 39)) (i196_14 : h.2.1 196 14 = 0) : zCi (d + 1) mX12_size [.inr (.inr (some 196)), .inl 9] h (fun x h' => x = 0 ∧ h' = zsI (h) 196 0 0) := by
  show zEx none (d + 1) mX12_size (0, [(0, .inr (.inr (some 196))), (1, .inl 9)], [], h) _
  refine ex_aload_n (pc' := 1) dX12_size_0 rfl rfl ?_
  refine ex_iconst (v := 0) (pc' := 2) dX12_size_1 (by decide) rfl ?_
  refine ex_putI (pc' := 5) dX12_size_2 fl_12_62 s196 (Or.inl rfl) (Or.inl rfl) rfl ?_
  refine ex_iload_n (pc' := 6) dX12_size_5 rfl rfl ?_
  refine ex_bipush (v := 12) (pc' := 8) dX12_size_6 (by decide) rfl ?_
  refine ex_icmp_t (pc' := 16) dX12_size_8 (by decide) (by decide) ?_
  refine ex_aload_n (pc' := 17) dX12_size_16 rfl rfl ?_
  refine ex_getI (pc' := 20) (v := 0) dX12_size_17 fl_12_180 (zsiI s196) (by decide) i196_14 rfl ?_
  refine ex_if_f (pc' := 23) dX12_size_20 (by decide) (by decide) rfl ?_
  refine ex_iload_n (pc' := 24) dX12_size_23 rfl rfl ?_
  refine ex_iconst (v := 0) (pc' := 25) dX12_size_24 (by decide) rfl ?_
  refine ex_bipush (v := 11) (pc' := 27) dX12_size_25 (by decide) rfl ?_
  refine en_callsI (pc' := 30) (vs := [.inl 9, .inl 0, .inl 11]) (rest := []) (h2 := zsI (h) 196 0 0) (v := 1) dX12_size_27 ml_12_149 (Or.inl rfl) ⟨zble rfl, zble rfl⟩ rfl rfl (zble rfl) rfl (kX12_in_16 _ (zsI (h) 196 0 0)) ?_
  refine ex_if_f (pc' := 33) dX12_size_30 (by decide) (by decide) rfl ?_
  refine ex_iconst (v := 0) (pc' := 34) dX12_size_33 (by decide) rfl ?_
  refine ex_goto (pc' := 38) dX12_size_34 (by decide) ?_
  exact ex_iretI dX12_size_38 rfl rfl ⟨rfl, rfl⟩
set_option maxRecDepth 10000 in
theorem kX11_size_13 (d : Nat) (h : zH) (s0 : zsh h 0 = some (11, 16)) (i0_13 : h.2.1 0 13 = 0) : zCi (d + 0) mX11_size [.inr (.inr (some 0)), .inl 10] h (fun x h' => x = 0 ∧ h' = h) := by
  show zEx none (d + 0) mX11_size (0, [(0, .inr (.inr (some 0))), (1, .inl 10)], [], h) _
  refine ex_iload_n (pc' := 1) dX11_size_0 rfl rfl ?_
  refine ex_switch (pc' := 148) dX11_size_1 (fun hb => absurd hb (by decide)) (fun _ => ⟨147, by decide, by decide⟩) ?_
  refine ex_aload_n (pc' := 149) dX11_size_148 rfl rfl ?_
  refine ex_getI (pc' := 152) (v := 0) dX11_size_149 fl_11_85 s0 (by decide) i0_13 rfl ?_
  exact ex_iretI dX11_size_152 rfl rfl ⟨rfl, rfl⟩
set_option maxRecDepth 10000 in
theorem kX12_in_17 (d : Nat) (h : zH) : zCi (d + 0) mX12_in [.inl 10, .inl 0, .inl 11] h (fun x h' => x = 1 ∧ h' = h) := by
  show zEx none (d + 0) mX12_in (0, [(0, .inl 10), (1, .inl 0), (2, .inl 11)], [], h) _
  refine ex_iload_n (pc' := 1) dX12_in_0 rfl rfl ?_
  refine ex_iload_n (pc' := 2) dX12_in_1 rfl rfl ?_
  refine ex_icmp_f (pc' := 5) dX12_in_2 (by decide) (by decide) rfl ?_
  refine ex_iload_n (pc' := 6) dX12_in_5 rfl rfl ?_
  refine ex_iload_n (pc' := 7) dX12_in_6 rfl rfl ?_
  refine ex_icmp_f (pc' := 10) dX12_in_7 (by decide) (by decide) rfl ?_
  refine ex_iconst (v := 1) (pc' := 11) dX12_in_10 (by decide) rfl ?_
  refine ex_goto (pc' := 15) dX12_in_11 (by decide) ?_
  exact ex_iretI dX12_in_15 rfl (by decide) ⟨rfl, rfl⟩
set_option maxRecDepth 10000 in
theorem kX12_size_13 (d : Nat) (h : zH) (s196 : zsh h 196 = some (12, 39)) (i196_14 : h.2.1 196 14 = 0) : zCi (d + 1) mX12_size [.inr (.inr (some 196)), .inl 10] h (fun x h' => x = 0 ∧ h' = zsI (h) 196 0 0) := by
  show zEx none (d + 1) mX12_size (0, [(0, .inr (.inr (some 196))), (1, .inl 10)], [], h) _
  refine ex_aload_n (pc' := 1) dX12_size_0 rfl rfl ?_
  refine ex_iconst (v := 0) (pc' := 2) dX12_size_1 (by decide) rfl ?_
  refine ex_putI (pc' := 5) dX12_size_2 fl_12_62 s196 (Or.inl rfl) (Or.inl rfl) rfl ?_
  refine ex_iload_n (pc' := 6) dX12_size_5 rfl rfl ?_
  refine ex_bipush (v := 12) (pc' := 8) dX12_size_6 (by decide) rfl ?_
  refine ex_icmp_t (pc' := 16) dX12_size_8 (by decide) (by decide) ?_
  refine ex_aload_n (pc' := 17) dX12_size_16 rfl rfl ?_
  refine ex_getI (pc' := 20) (v := 0) dX12_size_17 fl_12_180 (zsiI s196) (by decide) i196_14 rfl ?_
  refine ex_if_f (pc' := 23) dX12_size_20 (by decide) (by decide) rfl ?_
  refine ex_iload_n (pc' := 24) dX12_size_23 rfl rfl ?_
  refine ex_iconst (v := 0) (pc' := 25) dX12_size_24 (by decide) rfl ?_
  refine ex_bipush (v := 11) (pc' := 27) dX12_size_25 (by decide) rfl ?_
  refine en_callsI (pc' := 30) (vs := [.inl 10, .inl 0, .inl 11]) (rest := []) (h2 := zsI (h) 196 0 0) (v := 1) dX12_size_27 ml_12_149 (Or.inl rfl) ⟨zble rfl, zble rfl⟩ rfl rfl (zble rfl) rfl (kX12_in_17 _ (zsI (h) 196 0 0)) ?_
  refine ex_if_f (pc' := 33) dX12_size_30 (by decide) (by decide) rfl ?_
  refine ex_iconst (v := 0) (pc' := 34) dX12_size_33 (by decide) rfl ?_
  refine ex_goto (pc' := 38) dX12_size_34 (by decide) ?_
  exact ex_iretI dX12_size_38 rfl rfl ⟨rfl, rfl⟩
set_option maxRecDepth 10000 in
theorem kX11_size_14 (d : Nat) (h : zH) (s0 : zsh h 0 = some (11, 16)) (i0_15 : h.2.1 0 15 = 0) : zCi (d + 0) mX11_size [.inr (.inr (some 0)), .inl 11] h (fun x h' => x = 0 ∧ h' = h) := by
  show zEx none (d + 0) mX11_size (0, [(0, .inr (.inr (some 0))), (1, .inl 11)], [], h) _
  refine ex_iload_n (pc' := 1) dX11_size_0 rfl rfl ?_
  refine ex_switch (pc' := 153) dX11_size_1 (fun hb => absurd hb (by decide)) (fun _ => ⟨152, by decide, by decide⟩) ?_
  refine ex_aload_n (pc' := 154) dX11_size_153 rfl rfl ?_
  refine ex_getI (pc' := 157) (v := 0) dX11_size_154 fl_11_91 s0 (by decide) i0_15 rfl ?_
  exact ex_iretI dX11_size_157 rfl rfl ⟨rfl, rfl⟩
set_option maxRecDepth 10000 in
theorem kX12_in_18 (d : Nat) (h : zH) : zCi (d + 0) mX12_in [.inl 11, .inl 0, .inl 11] h (fun x h' => x = 1 ∧ h' = h) := by
  show zEx none (d + 0) mX12_in (0, [(0, .inl 11), (1, .inl 0), (2, .inl 11)], [], h) _
  refine ex_iload_n (pc' := 1) dX12_in_0 rfl rfl ?_
  refine ex_iload_n (pc' := 2) dX12_in_1 rfl rfl ?_
  refine ex_icmp_f (pc' := 5) dX12_in_2 (by decide) (by decide) rfl ?_
  refine ex_iload_n (pc' := 6) dX12_in_5 rfl rfl ?_
  refine ex_iload_n (pc' := 7) dX12_in_6 rfl rfl ?_
  refine ex_icmp_f (pc' := 10) dX12_in_7 (by decide) (by decide) rfl ?_
  refine ex_iconst (v := 1) (pc' := 11) dX12_in_10 (by decide) rfl ?_
  refine ex_goto (pc' := 15) dX12_in_11 (by decide) ?_
  exact ex_iretI dX12_in_15 rfl (by decide) ⟨rfl, rfl⟩
set_option maxRecDepth 10000 in
theorem kX12_size_14 (d : Nat) (h : zH) (s196 : zsh h 196 = some (12, 39)) (i196_14 : h.2.1 196 14 = 0) : zCi (d + 1) mX12_size [.inr (.inr (some 196)), .inl 11] h (fun x h' => x = 0 ∧ h' = zsI (h) 196 0 0) := by
  show zEx none (d + 1) mX12_size (0, [(0, .inr (.inr (some 196))), (1, .inl 11)], [], h) _
  refine ex_aload_n (pc' := 1) dX12_size_0 rfl rfl ?_
  refine ex_iconst (v := 0) (pc' := 2) dX12_size_1 (by decide) rfl ?_
  refine ex_putI (pc' := 5) dX12_size_2 fl_12_62 s196 (Or.inl rfl) (Or.inl rfl) rfl ?_
  refine ex_iload_n (pc' := 6) dX12_size_5 rfl rfl ?_
  refine ex_bipush (v := 12) (pc' := 8) dX12_size_6 (by decide) rfl ?_
  refine ex_icmp_t (pc' := 16) dX12_size_8 (by decide) (by decide) ?_
  refine ex_aload_n (pc' := 17) dX12_size_16 rfl rfl ?_
  refine ex_getI (pc' := 20) (v := 0) dX12_size_17 fl_12_180 (zsiI s196) (by decide) i196_14 rfl ?_
  refine ex_if_f (pc' := 23) dX12_size_20 (by decide) (by decide) rfl ?_
  refine ex_iload_n (pc' := 24) dX12_size_23 rfl rfl ?_
  refine ex_iconst (v := 0) (pc' := 25) dX12_size_24 (by decide) rfl ?_
  refine ex_bipush (v := 11) (pc' := 27) dX12_size_25 (by decide) rfl ?_
  refine en_callsI (pc' := 30) (vs := [.inl 11, .inl 0, .inl 11]) (rest := []) (h2 := zsI (h) 196 0 0) (v := 1) dX12_size_27 ml_12_149 (Or.inl rfl) ⟨zble rfl, zble rfl⟩ rfl rfl (zble rfl) rfl (kX12_in_18 _ (zsI (h) 196 0 0)) ?_
  refine ex_if_f (pc' := 33) dX12_size_30 (by decide) (by decide) rfl ?_
  refine ex_iconst (v := 0) (pc' := 34) dX12_size_33 (by decide) rfl ?_
  refine ex_goto (pc' := 38) dX12_size_34 (by decide) ?_
  exact ex_iretI dX12_size_38 rfl rfl ⟨rfl, rfl⟩
set_option maxRecDepth 10000 in
theorem kX11_size_15 (d : Nat) (h : zH) (s0 : zsh h 0 = some (11, 16)) (i0_1 : h.2.1 0 1 = 0) : zCi (d + 0) mX11_size [.inr (.inr (some 0)), .inl 12] h (fun x h' => x = 0 ∧ h' = h) := by
  show zEx none (d + 0) mX11_size (0, [(0, .inr (.inr (some 0))), (1, .inl 12)], [], h) _
  refine ex_iload_n (pc' := 1) dX11_size_0 rfl rfl ?_
  refine ex_switch (pc' := 158) dX11_size_1 (fun hb => absurd hb (by decide)) (fun _ => ⟨157, by decide, by decide⟩) ?_
  refine ex_aload_n (pc' := 159) dX11_size_158 rfl rfl ?_
  refine ex_getI (pc' := 162) (v := 0) dX11_size_159 fl_11_13 s0 (by decide) i0_1 rfl ?_
  exact ex_iretI dX11_size_162 rfl rfl ⟨rfl, rfl⟩
set_option maxRecDepth 10000 in
theorem kX12_size_15 (d : Nat) (h : zH) (s196 : zsh h 196 = some (12, 39)) (i196_2 : h.2.1 196 2 = 0) : zCi (d + 0) mX12_size [.inr (.inr (some 196)), .inl 12] h (fun x h' => x = 0 ∧ h' = zsI (h) 196 0 0) := by
  show zEx none (d + 0) mX12_size (0, [(0, .inr (.inr (some 196))), (1, .inl 12)], [], h) _
  refine ex_aload_n (pc' := 1) dX12_size_0 rfl rfl ?_
  refine ex_iconst (v := 0) (pc' := 2) dX12_size_1 (by decide) rfl ?_
  refine ex_putI (pc' := 5) dX12_size_2 fl_12_62 s196 (Or.inl rfl) (Or.inl rfl) rfl ?_
  refine ex_iload_n (pc' := 6) dX12_size_5 rfl rfl ?_
  refine ex_bipush (v := 12) (pc' := 8) dX12_size_6 (by decide) rfl ?_
  refine ex_icmp_f (pc' := 11) dX12_size_8 (by decide) (by decide) rfl ?_
  refine ex_aload_n (pc' := 12) dX12_size_11 rfl rfl ?_
  refine ex_getI (pc' := 15) (v := 0) dX12_size_12 fl_12_68 (zsiI s196) (by decide) i196_2 rfl ?_
  exact ex_iretI dX12_size_15 rfl rfl ⟨rfl, rfl⟩
set_option maxRecDepth 10000 in
theorem kX11_trouble_1 (d : Nat) (h : zH) (s0 : zsh h 0 = some (11, 16)) (i0_2 : h.2.1 0 2 = 0) : zCi (d + 0) mX11_trouble [.inr (.inr (some 0))] h (fun x h' => x = 0 ∧ h' = h) := by
  show zEx none (d + 0) mX11_trouble (0, [(0, .inr (.inr (some 0)))], [], h) _
  refine ex_aload_n (pc' := 1) dX11_trouble_0 rfl rfl ?_
  refine ex_getI (pc' := 4) (v := 0) dX11_trouble_1 fl_11_17 s0 (by decide) i0_2 rfl ?_
  exact ex_iretI dX11_trouble_4 rfl rfl ⟨rfl, rfl⟩
set_option maxRecDepth 10000 in
theorem kX12_trouble_1 (d : Nat) (h : zH) (s196 : zsh h 196 = some (12, 39)) (i196_11 : h.2.1 196 11 = 0) : zCi (d + 0) mX12_trouble [.inr (.inr (some 196))] h (fun x h' => x = 0 ∧ h' = zsI (h) 196 0 0) := by
  show zEx none (d + 0) mX12_trouble (0, [(0, .inr (.inr (some 196)))], [], h) _
  refine ex_aload_n (pc' := 1) dX12_trouble_0 rfl rfl ?_
  refine ex_iconst (v := 0) (pc' := 2) dX12_trouble_1 (by decide) rfl ?_
  refine ex_putI (pc' := 5) dX12_trouble_2 fl_12_62 s196 (Or.inl rfl) (Or.inl rfl) rfl ?_
  refine ex_aload_n (pc' := 6) dX12_trouble_5 rfl rfl ?_
  refine ex_getI (pc' := 9) (v := 0) dX12_trouble_6 fl_12_65 (zsiI s196) (by decide) i196_11 rfl ?_
  exact ex_iretI dX12_trouble_9 rfl rfl ⟨rfl, rfl⟩
