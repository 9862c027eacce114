section MDA
variable {R0 : Nat → Nat → Int32} {y : Nat → Int32} {n d N p k s : Nat} {h h' g : zH} {A : pA} {nm : Nat → List Int32} {e : sF} {r : sF ⊕ Nat}
set_option maxRecDepth 8000 in
theorem M_whale (hI : pI A) (hH : cH A < 5) (K : mS R0 y n A A.2.1 p h) : zPa d mX12_whaleLine [.inr (.inr (some 196))] h (lnM R0 y n (sWhale y n A p)) := by
  intro N
  have hx := K.1.1
  have s196 := hx.sh sh_196
  have s200 := hx.sh sh_200
  have r196_16 := hx.2.1 _ _ _ rf_196_16
  have hf := K.2.1
  have k6 := K.2.2.1.2.2.2.2.1
  have hn := hI.2.2.2.2.1
  show zPn N none d mX12_whaleLine (0, [(0, .inr (.inr (some 196)))], [], h) _
  refine pa_aload_n (pc' := 1) dX12_whaleLine_0 rfl rfl ?_
  refine pa_getI (pc' := 4) (n := 39) dX12_whaleLine_1 fl_12_100 s196 (by decide) hf rfl ?_
  refine pa_if_t (pc' := 8) dX12_whaleLine_4 (by decide) (by decide) ?_
  refine pa_bipush (v := nI 107) (pc' := 10) dX12_whaleLine_8 (by decide) rfl ?_
  refine pa_iconst (v := nI 4) (pc' := 11) dX12_whaleLine_10 (by decide) rfl ?_
  refine pa_aload_n (pc' := 12) dX12_whaleLine_11 rfl rfl ?_
  refine pa_getR (pc' := 15) (n := 39) (r := 200) dX12_whaleLine_12 fl_12_23 s196 (by decide) r196_16 rfl ?_
  refine pa_bipush (v := nI 6) (pc' := 17) dX12_whaleLine_15 (by decide) rfl ?_
  refine pa_iald (pc' := 18) (n := 363) dX12_whaleLine_17 s200 rfl (fun _ => ?_)
  rw [nI_clamp (by omega), k6]
  refine pa_imul (pc' := 19) (v := nI (4 * cH A)) dX12_whaleLine_18 (nI_mul _ _) rfl ?_
  refine pa_iadd (pc' := 20) (v := nI (107 + 4 * cH A)) dX12_whaleLine_19 (nI_add _ _) rfl ?_
  refine pa_istore_n (pc' := 21) (ls' := [(1, .inl (nI (107 + 4 * cH A))), (0, .inr (.inr (some 196)))]) dX12_whaleLine_20 (by decide) rfl rfl ?_
  refine pa_aload_n (pc' := 22) dX12_whaleLine_21 rfl rfl ?_
  refine pa_bipush (v := nI 7) (pc' := 24) dX12_whaleLine_22 (by decide) rfl ?_
  refine pa_aload_n (pc' := 25) dX12_whaleLine_24 rfl rfl ?_
  refine pa_getR (pc' := 28) (n := 39) (r := 200) dX12_whaleLine_25 fl_12_23 s196 (by decide) r196_16 rfl ?_
  refine pa_bipush (v := nI 6) (pc' := 30) dX12_whaleLine_28 (by decide) rfl ?_
  refine pa_iald (pc' := 31) (n := 363) dX12_whaleLine_30 s200 rfl (fun _ => ?_)
  rw [nI_clamp (by omega), k6]
  refine pa_iadd (pc' := 32) (v := nI (7 + cH A)) dX12_whaleLine_31 (nI_add _ _) rfl ?_
  refine pa_callv (pc' := 35) (vs := [.inl (nI (7 + cH A))]) (rest := []) dX12_whaleLine_32 ml_12_223 (by decide) rfl rfl rfl (fun d' _ => M_new (r := .inr p) (by omega) hI hn K) (fun v g1 hq => ?_)
  obtain ⟨er, hfr0, K1, hn⟩ := hq.E hn
  subst er
  show zPn N none d mX12_whaleLine (35, [(1, .inl (nI (107 + 4 * cH A))), (0, .inr (.inr (some 196)))], [], g1) _
  have endF : ∀ {e : sF} {g : zH} {x : Int32}, mF R0 y n e g → sWhale y n A p = .inl e → zPn N none d mX12_whaleLine (102, [(2, .inl x), (1, .inl (nI (107 + 4 * cH A))), (0, .inr (.inr (some 196)))], [], g) (lnM R0 y n (sWhale y n A p)) := by
    intro e g x hF he
    have s196 := hF.1.sh sh_196
    have hf := hF.2.1
    refine pa_aload_n (pc' := 103) dX12_whaleLine_102 rfl rfl ?_
    refine pa_getI (pc' := 106) (n := 39) dX12_whaleLine_103 fl_12_100 s196 (by decide) hf rfl ?_
    refine pa_if_f (pc' := 109) dX12_whaleLine_106 (by decide) (by decide) rfl ?_
    refine pa_vret dX12_whaleLine_109 rfl ⟨rfl, ?_⟩
    rw [he]
    exact hF
  clear hq hfr0 K
  cases e0 : sNew y n A.2.1 p with
  | inl e =>
    have hF : mF R0 y n e g1 := by simp only [e0] at K1; exact K1
    have hxF := hF.1
    have hfF := hF.2.1
    refine pa_aload_n (pc' := 36) dX12_whaleLine_35 rfl rfl ?_
    refine pa_ldc (pc' := 38) dX12_whaleLine_36 cl_12_237 rfl rfl ?_
    refine pa_callv (pc' := 41) (vs := [.inr (.inr (some 1000046))]) (rest := []) dX12_whaleLine_38 ml_12_117 (by decide) rfl rfl rfl (fun d' _ => m_isWF hxF hfF) (fun v g2 hq => ?_)
    obtain ⟨eg, er⟩ := hq
    subst eg
    subst er
    refine pa_if_t (x := 0) (pc' := 48) dX12_whaleLine_41 (by decide) (by decide) ?_
    refine pa_aload_n (pc' := 49) dX12_whaleLine_48 rfl rfl ?_
    refine pa_ldc (pc' := 51) dX12_whaleLine_49 cl_12_239 rfl rfl ?_
    refine pa_callv (pc' := 54) (vs := [.inr (.inr (some 1000047))]) (rest := []) dX12_whaleLine_51 ml_12_117 (by decide) rfl rfl rfl (fun d' _ => m_isWF hxF hfF) (fun v g2 hq => ?_)
    obtain ⟨eg, er⟩ := hq
    subst eg
    subst er
    refine pa_if_t (x := 0) (pc' := 61) dX12_whaleLine_54 (by decide) (by decide) ?_
    refine pa_aload_n (pc' := 62) dX12_whaleLine_61 rfl rfl ?_
    refine pa_ldc (pc' := 64) dX12_whaleLine_62 cl_12_241 rfl rfl ?_
    refine pa_callv (pc' := 67) (vs := [.inr (.inr (some 1000048))]) (rest := []) dX12_whaleLine_64 ml_12_117 (by decide) rfl rfl rfl (fun d' _ => m_isWF hxF hfF) (fun v g2 hq => ?_)
    obtain ⟨eg, er⟩ := hq
    subst eg
    subst er
    refine pa_if_t (x := 0) (pc' := 74) dX12_whaleLine_67 (by decide) (by decide) ?_
    refine pa_aload_n (pc' := 75) dX12_whaleLine_74 rfl rfl ?_
    refine pa_ldc (pc' := 77) dX12_whaleLine_75 cl_12_243 rfl rfl ?_
    refine pa_callv (pc' := 80) (vs := [.inr (.inr (some 1000049))]) (rest := []) dX12_whaleLine_77 ml_12_117 (by decide) rfl rfl rfl (fun d' _ => m_isWF hxF hfF) (fun v g2 hq => ?_)
    obtain ⟨eg, er⟩ := hq
    subst eg
    subst er
    refine pa_if_t (x := 0) (pc' := 87) dX12_whaleLine_80 (by decide) (by decide) ?_
    refine pa_iconst (v := (-1)) (pc' := 88) dX12_whaleLine_87 (by decide) rfl ?_
    refine pa_istore_n (pc' := 89) (ls' := [(2, .inl (-1)), (1, .inl (nI (107 + 4 * cH A))), (0, .inr (.inr (some 196)))]) dX12_whaleLine_88 (by decide) rfl rfl ?_
    refine pa_iload_n (pc' := 90) dX12_whaleLine_89 rfl rfl ?_
    refine pa_if_f (pc' := 93) dX12_whaleLine_90 (by decide) (by decide) rfl ?_
    refine pa_aload_n (pc' := 94) dX12_whaleLine_93 rfl rfl ?_
    refine pa_iconst (v := 1) (pc' := 95) dX12_whaleLine_94 (by decide) rfl ?_
    refine pa_aload_n (pc' := 96) dX12_whaleLine_95 rfl rfl ?_
    refine pa_getI (pc' := 99) (n := 39) dX12_whaleLine_96 fl_12_81 (hxF.sh sh_196) (by decide) rfl rfl ?_
    refine pa_callv (pc' := 102) (vs := [.inl 1, .inl _]) (rest := []) dX12_whaleLine_99 ml_12_127 (by decide) rfl rfl rfl (fun d' _ => m_wrongF hxF hfF) (fun v g2 hq => ?_)
    obtain ⟨er, hq⟩ := hq
    subst er; subst hq
    exact endF hF (by simp only [sWhale, e0])
  | inr q0 =>
    simp only [e0, nmX] at K1 hn
    have K1 : mS R0 y n A (upA A.2.1 (7 + cH A) (tW y n p)) q0 g1 := K1
    have hx1 := K1.1.1
    have hf1 := K1.2.1
    have hq0 := K1.1.2.1
    have k41 := K1.1.2.2.1
    have no : isKind y n q0 = false → zPn N none d mX12_whaleLine (87, [(1, .inl (nI (107 + 4 * cH A))), (0, .inr (.inr (some 196)))], [], g1) (lnM R0 y n (sWhale y n A p)) := by
      intro z
      refine pa_iconst (v := (-1)) (pc' := 88) dX12_whaleLine_87 (by decide) rfl ?_
      refine pa_istore_n (pc' := 89) (ls' := [(2, .inl (-1)), (1, .inl (nI (107 + 4 * cH A))), (0, .inr (.inr (some 196)))]) dX12_whaleLine_88 (by decide) rfl rfl ?_
      refine pa_iload_n (pc' := 90) dX12_whaleLine_89 rfl rfl ?_
      refine pa_if_f (pc' := 93) dX12_whaleLine_90 (by decide) (by decide) rfl ?_
      refine pa_aload_n (pc' := 94) dX12_whaleLine_93 rfl rfl ?_
      refine pa_iconst (v := 1) (pc' := 95) dX12_whaleLine_94 (by decide) rfl ?_
      refine pa_aload_n (pc' := 96) dX12_whaleLine_95 rfl rfl ?_
      refine pa_getI (pc' := 99) (n := 39) dX12_whaleLine_96 fl_12_81 (hx1.sh sh_196) (by decide) k41 rfl ?_
      refine pa_callv (pc' := 102) (vs := [.inl 1, .inl (nI (tS y n q0))]) (rest := []) dX12_whaleLine_99 ml_12_127 (by decide) rfl rfl rfl (fun d' _ => m_wrong hx1 hf1 rfl) (fun v g2 hq => ?_)
      obtain ⟨er, hq⟩ := hq
      subst er; subst hq
      exact endF (wrg_mF hx1) (by simp only [sWhale, e0]; rw [if_neg (by rw [z]; decide)])
    have yes : ∀ (x : Int32), 0 ≤ x.toInt → x = kdV y n q0 → isKind y n q0 = true → zPn N none d mX12_whaleLine (88, [(1, .inl (nI (107 + 4 * cH A))), (0, .inr (.inr (some 196)))], [.inl x], g1) (lnM R0 y n (sWhale y n A p)) := by
      intro x hx0 hk z
      refine pa_istore_n (pc' := 89) (ls' := [(2, .inl x), (1, .inl (nI (107 + 4 * cH A))), (0, .inr (.inr (some 196)))]) dX12_whaleLine_88 (by decide) rfl rfl ?_
      refine pa_iload_n (pc' := 90) dX12_whaleLine_89 rfl rfl ?_
      refine pa_if_t (pc' := 102) dX12_whaleLine_90 (zk_lt_ge (zj_nlt (by rw [show (0 : Int32).toInt = 0 by decide]; exact hx0))) (by decide) ?_
      have s196 := hx1.sh sh_196
      refine pa_aload_n (pc' := 103) dX12_whaleLine_102 rfl rfl ?_
      refine pa_getI (pc' := 106) (n := 39) dX12_whaleLine_103 fl_12_100 s196 (by decide) hf1 rfl ?_
      refine pa_if_t (pc' := 110) dX12_whaleLine_106 (by decide) (by decide) ?_
      refine pa_aload_n (pc' := 111) dX12_whaleLine_110 rfl rfl ?_
      refine pa_callv (pc' := 114) (vs := []) (rest := []) dX12_whaleLine_111 ml_12_121 (by decide) rfl rfl rfl (fun d' _ => m_next hx1 K1.1.2.2.2.1 (tE_sp hq0).2.1) (fun v g2 hq => ?_)
      obtain ⟨er, hq⟩ := hq
      subst er
      have K1 : mE R0 y n A (upA A.2.1 (7 + cH A) (tW y n p)) (.inr (tE y n q0)) g2 := K1.nx hq (tE_sp hq0).2.1
      show zPn N none d mX12_whaleLine (114, [(2, .inl x), (1, .inl (nI (107 + 4 * cH A))), (0, .inr (.inr (some 196)))], [], g2) _
      refine pa_aload_n (pc' := 115) dX12_whaleLine_114 rfl rfl ?_
      refine pa_getR (pc' := 118) (n := 39) (r := 200) dX12_whaleLine_115 fl_12_23 (K1.mx.sh sh_196) (by decide) (K1.mx.2.1 _ _ _ rf_196_16) rfl ?_
      refine pa_iload_n (pc' := 119) dX12_whaleLine_118 rfl rfl ?_
      refine pa_iload_n (pc' := 120) dX12_whaleLine_119 rfl rfl ?_
      refine pa_iast (pc' := 121) (n := 363) dX12_whaleLine_120 (K1.mx.sh sh_200) rfl (fun _ => ?_)
      rw [nI_clamp (by omega)]
      have K1 := K1.zs (j := 107 + 4 * cH A) (v := x) hI (wr_wh hI (by omega))
      have w0 : (zsI g2 200 (107 + 4 * cH A) x).2.1 200 (107 + 4 * cH A) = kdV y n q0 := zsI_eq.trans hk
      refine pa_aload_n (pc' := 122) dX12_whaleLine_121 rfl rfl ?_
      refine pa_getR (pc' := 125) (n := 39) (r := 200) dX12_whaleLine_122 fl_12_23 (K1.mx.sh sh_196) (by decide) (K1.mx.2.1 _ _ _ rf_196_16) rfl ?_
      refine pa_iload_n (pc' := 126) dX12_whaleLine_125 rfl rfl ?_
      refine pa_iconst (v := nI 1) (pc' := 127) dX12_whaleLine_126 (by decide) rfl ?_
      refine pa_iadd (pc' := 128) (v := nI (107 + 4 * cH A + 1)) dX12_whaleLine_127 (nI_add _ _) rfl ?_
      refine pa_aload_n (pc' := 129) dX12_whaleLine_128 rfl rfl ?_
      refine pa_ldc (pc' := 131) dX12_whaleLine_129 cl_12_245 rfl rfl ?_
      refine pa_callv (pc' := 134) (vs := [.inr (.inr (some 1000050))]) (rest := [.inl (nI (107 + 4 * cH A + 1)), .inr (.inr (some 200))]) dX12_whaleLine_131 ml_12_246 (by decide) rfl rfl rfl (fun d' _ => M_behind hn K1 (bs := wAt) rfl) (fun v f1 hq => ?_)
      obtain ⟨v1, er, K2, hfr1, c1⟩ := hq.E
      subst er
      refine pa_iast (pc' := 135) (n := 363) (v := v1) dX12_whaleLine_134 (K2.mx.sh sh_200) rfl (fun _ => ?_)
      rw [nI_clamp (by omega)]
      have K1 := K2.zs (j := 107 + 4 * cH A + 1) (v := v1) hI (wr_wh hI (by omega))
      clear K2
      have w0 := (zsI_no (h := f1) (a := 200) (k := 107 + 4 * cH A + 1) (x := v1) (by omega)).trans ((hfr1 200 _ (by omega) (by omega)).trans w0)
      have w1 : (zsI f1 200 (107 + 4 * cH A + 1) v1).2.1 200 (107 + 4 * cH A + 1) = v1 := zsI_eq
      refine pa_aload_n (pc' := 136) dX12_whaleLine_135 rfl rfl ?_
      refine pa_getR (pc' := 139) (n := 39) (r := 200) dX12_whaleLine_136 fl_12_23 (K1.mx.sh sh_196) (by decide) (K1.mx.2.1 _ _ _ rf_196_16) rfl ?_
      refine pa_iload_n (pc' := 140) dX12_whaleLine_139 rfl rfl ?_
      refine pa_iconst (v := nI 2) (pc' := 141) dX12_whaleLine_140 (by decide) rfl ?_
      refine pa_iadd (pc' := 142) (v := nI (107 + 4 * cH A + 2)) dX12_whaleLine_141 (nI_add _ _) rfl ?_
      refine pa_aload_n (pc' := 143) dX12_whaleLine_142 rfl rfl ?_
      refine pa_ldc (pc' := 145) dX12_whaleLine_143 cl_12_250 rfl rfl ?_
      refine pa_iconst (v := 0) (pc' := 146) dX12_whaleLine_145 (by decide) rfl ?_
      refine pa_bipush (v := 99) (pc' := 148) dX12_whaleLine_146 (by decide) rfl ?_
      refine pa_callv (pc' := 151) (vs := [.inr (.inr (some 1000051)), .inl 0, .inl 99]) (rest := [.inl (nI (107 + 4 * cH A + 2)), .inr (.inr (some 200))]) dX12_whaleLine_148 ml_12_213 (by decide) rfl rfl rfl (fun d' _ => M_after K1 (bs := wKeeps) rfl) (fun v f2 hq => ?_)
      obtain ⟨v2, er, K2, hfr2, c2⟩ := hq.E
      subst er
      refine pa_iast (pc' := 152) (n := 363) (v := v2) dX12_whaleLine_151 (K2.mx.sh sh_200) rfl (fun _ => ?_)
      rw [nI_clamp (by omega)]
      have K1 := K2.zs (j := 107 + 4 * cH A + 2) (v := v2) hI (wr_wh hI (by omega))
      clear K2
      have w0 := (zsI_no (h := f2) (a := 200) (k := 107 + 4 * cH A + 2) (x := v2) (by omega)).trans ((hfr2 200 _ (by omega) (by omega)).trans w0)
      have w1 := (zsI_no (h := f2) (a := 200) (k := 107 + 4 * cH A + 2) (x := v2) (by omega)).trans ((hfr2 200 _ (by omega) (by omega)).trans w1)
      have w2 : (zsI f2 200 (107 + 4 * cH A + 2) v2).2.1 200 (107 + 4 * cH A + 2) = v2 := zsI_eq
      refine pa_aload_n (pc' := 153) dX12_whaleLine_152 rfl rfl ?_
      refine pa_getR (pc' := 156) (n := 39) (r := 200) dX12_whaleLine_153 fl_12_23 (K1.mx.sh sh_196) (by decide) (K1.mx.2.1 _ _ _ rf_196_16) rfl ?_
      refine pa_iload_n (pc' := 157) dX12_whaleLine_156 rfl rfl ?_
      refine pa_iconst (v := nI 3) (pc' := 158) dX12_whaleLine_157 (by decide) rfl ?_
      refine pa_iadd (pc' := 159) (v := nI (107 + 4 * cH A + 3)) dX12_whaleLine_158 (nI_add _ _) rfl ?_
      refine pa_aload_n (pc' := 160) dX12_whaleLine_159 rfl rfl ?_
      refine pa_ldc (pc' := 162) dX12_whaleLine_160 cl_12_252 rfl rfl ?_
      refine pa_iconst (v := 0) (pc' := 163) dX12_whaleLine_162 (by decide) rfl ?_
      refine pa_bipush (v := 99) (pc' := 165) dX12_whaleLine_163 (by decide) rfl ?_
      refine pa_callv (pc' := 168) (vs := [.inr (.inr (some 1000052)), .inl 0, .inl 99]) (rest := [.inl (nI (107 + 4 * cH A + 3)), .inr (.inr (some 200))]) dX12_whaleLine_165 ml_12_213 (by decide) rfl rfl rfl (fun d' _ => M_after K1 (bs := wLost) rfl) (fun v f3 hq => ?_)
      obtain ⟨v3, er, K2, hfr3, c3⟩ := hq.E
      subst er
      refine pa_iast (pc' := 169) (n := 363) (v := v3) dX12_whaleLine_168 (K2.mx.sh sh_200) rfl (fun _ => ?_)
      rw [nI_clamp (by omega)]
      have K1 := K2.zs (j := 107 + 4 * cH A + 3) (v := v3) hI (wr_wh hI (by omega))
      clear K2
      have w0 := (zsI_no (h := f3) (a := 200) (k := 107 + 4 * cH A + 3) (x := v3) (by omega)).trans ((hfr3 200 _ (by omega) (by omega)).trans w0)
      have w1 := (zsI_no (h := f3) (a := 200) (k := 107 + 4 * cH A + 3) (x := v3) (by omega)).trans ((hfr3 200 _ (by omega) (by omega)).trans w1)
      have w2 := (zsI_no (h := f3) (a := 200) (k := 107 + 4 * cH A + 3) (x := v3) (by omega)).trans ((hfr3 200 _ (by omega) (by omega)).trans w2)
      have w3 : (zsI f3 200 (107 + 4 * cH A + 3) v3).2.1 200 (107 + 4 * cH A + 3) = v3 := zsI_eq
      have hff := K1.fb
      have s196 := K1.mx.sh sh_196
      have s200 := K1.mx.sh sh_200
      have r196_16 := K1.mx.2.1 _ _ _ rf_196_16
      refine pa_aload_n (pc' := 170) dX12_whaleLine_169 rfl rfl ?_
      refine pa_getI (pc' := 173) (n := 39) dX12_whaleLine_170 fl_12_100 s196 (by decide) hff rfl ?_
      have bad : ∀ {e : sF} {g : zH}, mF R0 y n e g → sWhale y n A p = .inl e → zPn N none d mX12_whaleLine (187, [(2, .inl x), (1, .inl (nI (107 + 4 * cH A))), (0, .inr (.inr (some 196)))], [], g) (lnM R0 y n (sWhale y n A p)) := by
        intro e g hF he
        refine pa_vret dX12_whaleLine_187 rfl ⟨rfl, ?_⟩
        rw [he]
        exact hF
      clear hff
      cases e1 : sWord y n wAt (tE y n q0) with
      | inl e =>
        simp only [e1, bindS, sndS] at K1 ⊢
        exact pa_if_t (pc' := 187) dX12_whaleLine_173 rfl (by decide) (bad K1 (by simp only [sWhale, e0, z, eq_self, if_true, e1]))
      | inr q1 =>
        cases e2 : sOld y n (upA A.2.1 (7 + cH A) (tW y n p)) 0 6 q1 with
        | inl e =>
          simp only [e1, e2, bindS, sndS] at K1 ⊢
          exact pa_if_t (pc' := 187) dX12_whaleLine_173 rfl (by decide) (bad K1 (by simp only [sWhale, e0, z, eq_self, if_true, e1, e2]))
        | inr q2 =>
          obtain ⟨x2, q2⟩ := q2
          cases e3 : sWN y n wKeeps 0 99 q2 with
          | inl e =>
            simp only [e1, e2, e3, bindS, sndS] at K1 ⊢
            exact pa_if_t (pc' := 187) dX12_whaleLine_173 rfl (by decide) (bad K1 (by simp only [sWhale, e0, z, eq_self, if_true, e1, e2, e3]))
          | inr q3 =>
            obtain ⟨x3, q3⟩ := q3
            cases e4 : sWN y n wLost 0 99 q3 with
            | inl e =>
              simp only [e1, e2, e3, e4, bindS, sndS] at K1 ⊢
              exact pa_if_t (pc' := 187) dX12_whaleLine_173 rfl (by decide) (bad K1 (by simp only [sWhale, e0, z, eq_self, if_true, e1, e2, e3, e4]))
            | inr q4 =>
              obtain ⟨x4, q4⟩ := q4
              simp only [e1, e2, e3, e4, bindS, sndS] at K1 ⊢
              refine pa_if_f (pc' := 176) dX12_whaleLine_173 rfl (by decide) rfl ?_
              have k6 := (show mS R0 y n A _ q4 _ from K1).2.2.1.2.2.2.2.1
              refine pa_aload_n (pc' := 177) dX12_whaleLine_176 rfl rfl ?_
              refine pa_getR (pc' := 180) (n := 39) (r := 200) dX12_whaleLine_177 fl_12_23 s196 (by decide) r196_16 rfl ?_
              refine pa_bipush (v := nI 6) (pc' := 182) dX12_whaleLine_180 (by decide) rfl ?_
              refine pa_dup2 (pc' := 183) dX12_whaleLine_182 ⟨rfl, rfl⟩ rfl ?_
              refine pa_iald (pc' := 184) (n := 363) dX12_whaleLine_183 s200 rfl (fun _ => ?_)
              rw [nI_clamp (by omega), k6]
              refine pa_iconst (v := nI 1) (pc' := 185) dX12_whaleLine_184 (by decide) rfl ?_
              refine pa_iadd (pc' := 186) (v := nI (cH A + 1)) dX12_whaleLine_185 (nI_add _ _) rfl ?_
              refine pa_iast (pc' := 187) (n := 363) dX12_whaleLine_186 s200 rfl (fun _ => ?_)
              rw [nI_clamp (by omega)]
              refine pa_vret dX12_whaleLine_187 rfl ⟨rfl, ?_⟩
              simp only [sWhale, e0, z, eq_self, if_true, e1, e2, e3, e4]
              have K1 : mS R0 y n A _ q4 _ := K1
              have c1 := c1 x2 q2 (by simp only [e1, e2, bindS, sndS])
              have c2 := c2 x3 q3 (by simp only [e1, e2, e3, bindS, sndS])
              have c3 := c3 x4 q4 (by simp only [e1, e2, e3, e4, bindS, sndS])
              exact ⟨K1.1.zs, by rw [zsI_no (by omega)]; exact K1.2.1, K1.2.2.1.whaled hI hH w0 (w1.trans c1) (w2.trans c2) (w3.trans c3), K1.2.2.2.zs (by omega)⟩
    refine pa_aload_n (pc' := 36) dX12_whaleLine_35 rfl rfl ?_
    refine pa_ldc (pc' := 38) dX12_whaleLine_36 cl_12_237 rfl rfl ?_
    refine pa_callv (pc' := 41) (vs := [.inr (.inr (some 1000046))]) (rest := []) dX12_whaleLine_38 ml_12_117 (by decide) rfl rfl rfl (fun d' _ => m_isW K1.1 hf1 (bs := [99, 97, 108, 102]) rfl) (fun v g2 hq => ?_)
    obtain ⟨eg, hq⟩ := hq
    subst eg
    rcases hq with ⟨er, w1⟩ | ⟨er, w1⟩ <;> subst er
    · refine pa_if_f (x := 1) (pc' := 44) dX12_whaleLine_41 (by decide) (by decide) rfl ?_
      refine pa_iconst (v := 0) (pc' := 45) dX12_whaleLine_44 (by decide) rfl ?_
      refine pa_goto (pc' := 88) dX12_whaleLine_45 (by decide) ?_
      exact yes 0 (by decide) (knd_v (x := 0) (.inl ⟨rfl, w1⟩) (by decide)) (isKind_w.mpr (.inl w1))
    refine pa_if_t (x := 0) (pc' := 48) dX12_whaleLine_41 (by decide) (by decide) ?_
    refine pa_aload_n (pc' := 49) dX12_whaleLine_48 rfl rfl ?_
    refine pa_ldc (pc' := 51) dX12_whaleLine_49 cl_12_239 rfl rfl ?_
    refine pa_callv (pc' := 54) (vs := [.inr (.inr (some 1000047))]) (rest := []) dX12_whaleLine_51 ml_12_117 (by decide) rfl rfl rfl (fun d' _ => m_isW K1.1 hf1 (bs := [99, 111, 119]) rfl) (fun v g2 hq => ?_)
    obtain ⟨eg, hq⟩ := hq
    subst eg
    rcases hq with ⟨er, w2⟩ | ⟨er, w2⟩ <;> subst er
    · refine pa_if_f (x := 1) (pc' := 57) dX12_whaleLine_54 (by decide) (by decide) rfl ?_
      refine pa_iconst (v := 1) (pc' := 58) dX12_whaleLine_57 (by decide) rfl ?_
      refine pa_goto (pc' := 88) dX12_whaleLine_58 (by decide) ?_
      exact yes 1 (by decide) (knd_v (x := 1) (.inr (.inl ⟨rfl, w1, w2⟩)) (by decide)) (isKind_w.mpr (.inr (.inl w2)))
    refine pa_if_t (x := 0) (pc' := 61) dX12_whaleLine_54 (by decide) (by decide) ?_
    refine pa_aload_n (pc' := 62) dX12_whaleLine_61 rfl rfl ?_
    refine pa_ldc (pc' := 64) dX12_whaleLine_62 cl_12_241 rfl rfl ?_
    refine pa_callv (pc' := 67) (vs := [.inr (.inr (some 1000048))]) (rest := []) dX12_whaleLine_64 ml_12_117 (by decide) rfl rfl rfl (fun d' _ => m_isW K1.1 hf1 (bs := [98, 117, 108, 108]) rfl) (fun v g2 hq => ?_)
    obtain ⟨eg, hq⟩ := hq
    subst eg
    rcases hq with ⟨er, w3⟩ | ⟨er, w3⟩ <;> subst er
    · refine pa_if_f (x := 1) (pc' := 70) dX12_whaleLine_67 (by decide) (by decide) rfl ?_
      refine pa_iconst (v := 2) (pc' := 71) dX12_whaleLine_70 (by decide) rfl ?_
      refine pa_goto (pc' := 88) dX12_whaleLine_71 (by decide) ?_
      exact yes 2 (by decide) (knd_v (x := 2) (.inr (.inr (.inl ⟨rfl, w1, w2, w3⟩))) (by decide)) (isKind_w.mpr (.inr (.inr (.inl w3))))
    refine pa_if_t (x := 0) (pc' := 74) dX12_whaleLine_67 (by decide) (by decide) ?_
    refine pa_aload_n (pc' := 75) dX12_whaleLine_74 rfl rfl ?_
    refine pa_ldc (pc' := 77) dX12_whaleLine_75 cl_12_243 rfl rfl ?_
    refine pa_callv (pc' := 80) (vs := [.inr (.inr (some 1000049))]) (rest := []) dX12_whaleLine_77 ml_12_117 (by decide) rfl rfl rfl (fun d' _ => m_isW K1.1 hf1 (bs := [111, 108, 100]) rfl) (fun v g2 hq => ?_)
    obtain ⟨eg, hq⟩ := hq
    subst eg
    rcases hq with ⟨er, w4⟩ | ⟨er, w4⟩ <;> subst er
    · refine pa_if_f (x := 1) (pc' := 83) dX12_whaleLine_80 (by decide) (by decide) rfl ?_
      refine pa_iconst (v := 3) (pc' := 84) dX12_whaleLine_83 (by decide) rfl ?_
      refine pa_goto (pc' := 88) dX12_whaleLine_84 (by decide) ?_
      exact yes 3 (by decide) (knd_v (x := 3) (.inr (.inr (.inr (.inl ⟨rfl, w1, w2, w3, w4⟩)))) (by decide)) (isKind_w.mpr (.inr (.inr (.inr w4))))
    refine pa_if_t (x := 0) (pc' := 87) dX12_whaleLine_80 (by decide) (by decide) ?_
    refine no ?_
    cases z : isKind y n q0 with
    | false => rfl
    | true =>
      rcases isKind_w.mp z with q | q | q | q
      · exact absurd q w1
      · exact absurd q w2
      · exact absurd q w3
      · exact absurd q w4
end MDA
