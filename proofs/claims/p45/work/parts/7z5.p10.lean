/-! the class reads a line, and a whole text -/
section RD3
variable {y : Nat → Int32} {n c d N p m q : Nat} {h h' : zH} {A : pA} {nm : Nat → List Int32}
theorem lnR_v {r : sR} {v : Option zV} (k : lnR y n c r v h') : ∃ x : Int32, v = some (.inl x) ∧ (x = 0 ∨ x = 1) := by
  unfold lnR at k
  split at k
  · exact ⟨0, k.1, .inl rfl⟩
  · exact ⟨1, k.1, .inr rfl⟩
theorem kw_no {w v : List Int32} (e : tT y n p = 2 ∧ tW y n p = w) (ne : w ≠ v) : ¬ (tT y n p = 2 ∧ tW y n p = v) := fun z => ne (e.2.symm.trans z.2)
theorem ln_post (e : tT y n p = 2 ∧ tW y n p = wPost) : sLine y n A p = if A.1 = 0 then sHead y n A (tE y n p) else .inl (3, tS y n p) := by
  unfold sLine
  rw [if_pos e]
theorem ln_island (e : tT y n p = 2 ∧ tW y n p = wIsland) : sLine y n A p = if A.1 = 0 then .inl (6, tS y n p) else if cI A < 7 then sIsland y n A (tE y n p) else .inl (5, tS y n p) := by
  unfold sLine
  rw [if_neg (kw_no e (by decide)), if_pos e]
theorem ln_way (e : tT y n p = 2 ∧ tW y n p = wWay) : sLine y n A p = if A.1 = 0 then .inl (6, tS y n p) else if cW A < 12 then sWay y n A (tE y n p) else .inl (5, tS y n p) := by
  unfold sLine
  rw [if_neg (kw_no e (by decide)), if_neg (kw_no e (by decide)), if_pos e]
theorem ln_whale (e : tT y n p = 2 ∧ tW y n p = wWhale) : sLine y n A p = if A.1 = 0 then .inl (6, tS y n p) else if cH A < 5 then sWhale y n A (tE y n p) else .inl (5, tS y n p) := by
  unfold sLine
  rw [if_neg (kw_no e (by decide)), if_neg (kw_no e (by decide)), if_neg (kw_no e (by decide)), if_pos e]
theorem ln_box (e : tT y n p = 2 ∧ tW y n p = wBox) : sLine y n A p = if A.1 = 0 then .inl (6, tS y n p) else if cB A < 8 then sBox y n A (tE y n p) else .inl (5, tS y n p) := by
  unfold sLine
  rw [if_neg (kw_no e (by decide)), if_neg (kw_no e (by decide)), if_neg (kw_no e (by decide)), if_neg (kw_no e (by decide)), if_pos e]
theorem ln_spout (e : tT y n p = 2 ∧ tW y n p = wSpout) : sLine y n A p = if A.1 = 0 then .inl (6, tS y n p) else if cS A < 8 then sSpout y n A (tE y n p) else .inl (5, tS y n p) := by
  unfold sLine
  rw [if_neg (kw_no e (by decide)), if_neg (kw_no e (by decide)), if_neg (kw_no e (by decide)), if_neg (kw_no e (by decide)), if_neg (kw_no e (by decide)), if_pos e]
theorem ln_no (k : srt y n p (-2)) : sLine y n A p = .inl (1, tS y n p) := by
  have k : ¬ wIs y n p wPost ∧ ¬ wIs y n p wIsland ∧ ¬ wIs y n p wWay ∧ ¬ wIs y n p wWhale ∧ ¬ wIs y n p wBox ∧ ¬ wIs y n p wSpout := by
    rcases k with e | e | e | e | e | e | e
    · exact absurd e.1 (by decide)
    · exact absurd e.1 (by decide)
    · exact absurd e.1 (by decide)
    · exact absurd e.1 (by decide)
    · exact absurd e.1 (by decide)
    · exact absurd e.1 (by decide)
    · exact e.2
  obtain ⟨a1, a2, a3, a4, a5, a6⟩ := k
  unfold sLine
  rw [if_neg (fun z => a1 (wIs_w.mpr z)), if_neg (fun z => a2 (wIs_w.mpr z)), if_neg (fun z => a3 (wIs_w.mpr z)), if_neg (fun z => a4 (wIs_w.mpr z)), if_neg (fun z => a5 (wIs_w.mpr z)), if_neg (fun z => a6 (wIs_w.mpr z))]
theorem C_line (hc : cc2 c) (hI : pI A) (K : rs y n c A A.2.1 (cI A + cH A + cB A) p h) : zPa d mX5_readLine [.inr (.inr (some 82))] h (lnR y n c (sLine y n A p)) := by
  intro N
  obtain ⟨b1, b2, b3, b4, b5⟩ := hI.2.2.1
  show zPn N none d mX5_readLine (0, [(0, .inr (.inr (some 82)))], [], h) _
  refine pa_aload_n (pc' := 1) dX5_readLine_0 rfl rfl ?_
  refine pa_callv (pc' := 4) (vs := []) (rest := []) dX5_readLine_1 ml_5_70 (by decide) rfl rfl rfl (fun d' _ => c_next K.1 K.2.1 K.2.2.1) (fun r gk hq => ?_)
  obtain ⟨er, hq⟩ := hq
  subst er
  have kt := hq.ct K.1 K.2.2.1
  obtain ⟨hx1, -, hs, ht, he⟩ := kt
  have kt := hq.ct K.1 K.2.2.1
  have s82 := hx1.sh sh_82
  have sc := hx1.sh (pc_sh hc).1
  show zPn N none d mX5_readLine (4, [(0, .inr (.inr (some 82)))], [], gk) _
  refine pa_aload_n (pc' := 5) dX5_readLine_4 rfl rfl ?_
  refine pa_callv (pc' := 8) (vs := []) (rest := []) dX5_readLine_5 ml_5_80 (by decide) rfl rfl rfl (fun d' _ => c_sort kt) (fun r h2 hq2 => ?_)
  obtain ⟨eh, x, er, hsr⟩ := hq2
  subst eh; subst er
  refine pa_istore_n (pc' := 9) (v := x) dX5_readLine_8 (by decide) rfl rfl ?_
  refine pa_iload_n (pc' := 10) dX5_readLine_9 rfl rfl ?_
  refine pa_bipush (v := (-2)) (pc' := 12) dX5_readLine_10 (by decide) rfl ?_
  by_cases hx : x = -2
  · refine pa_icmp_f (pc' := 15) dX5_readLine_12 (by rw [hx]; decide) (by decide) rfl ?_
    refine pa_aload_n (pc' := 16) dX5_readLine_15 rfl rfl ?_
    refine pa_iconst (v := 1) (pc' := 17) dX5_readLine_16 (by decide) rfl ?_
    refine pa_callv (pc' := 20) (vs := [.inl 1]) (rest := []) dX5_readLine_17 ml_5_76 (by decide) rfl rfl rfl (fun d' _ => c_flt hx1 hs) (fun r h3 hq5 => ?_)
    obtain ⟨er, hq5⟩ := hq5
    subst er
    exact pa_iret (x := 0) dX5_readLine_20 rfl rfl (lnl (ln_no ((srt_m2 hsr).mp hx)) hq5.fl)
  refine pa_icmp_t (pc' := 21) dX5_readLine_12 (decide_eq_true hx) (by decide) ?_
  have t2 : tT y n p = 2 := by
    rcases hsr with z | z | z | z | z | z | z
    · exact z.2.1
    · exact z.2.1
    · exact z.2.1
    · exact z.2.1
    · exact z.2.1
    · exact z.2.1
    · exact absurd z.1 hx
  have K2 := K.nx hc hI hq (by rw [t2]; decide)
  have k0 := K2.2.2.2.1.1
  refine pa_aload_n (pc' := 22) dX5_readLine_21 rfl rfl ?_
  refine pa_getR (pc' := 25) (n := 13) (r := c) dX5_readLine_22 fl_5_51 s82 (by decide) hx1.2.2.1 rfl ?_
  refine pa_getI (pc' := 28) (n := 15) dX5_readLine_25 fl_5_84 sc (by decide) k0 rfl ?_
  have fin : ∀ {r : Option zV} {g : zH} {ls : zL} {pc : Nat}, decode cX5_readLine pc = .ok (.ireturn, 1) → lnR y n c (sLine y n A p) r g → zPn N none d mX5_readLine (pc, ls, r.toList ++ [], g) (lnR y n c (sLine y n A p)) := by
    intro r g ls pc hd k
    obtain ⟨z, e, hz⟩ := lnR_v k
    subst e
    rcases hz with rfl | rfl
    · exact pa_iret (x := 0) hd rfl rfl k
    · exact pa_iret (x := 1) hd rfl rfl k
  have flt_ : ∀ {k : Int32} {ls : zL} {pc : Nat} {g : zH} {r : Option zV}, decode cX5_readLine pc = .ok (.ireturn, 1) → sLine y n A p = .inl (k, tS y n p) → (r = some (.inl 0) ∧ flt k (tS y n p) h2 g) → zPn N none d mX5_readLine (pc, ls, r.toList ++ [], g) (lnR y n c (sLine y n A p)) := by
    intro k ls pc g r hd e hq
    obtain ⟨er, hq⟩ := hq
    subst er
    exact pa_iret (x := 0) hd rfl rfl (lnl e hq.fl)
  have rest : ∀ (b : Int32) (ls : zL), (b = 0 ↔ A.1 = 0) → zget ls 0 = some (.inr (.inr (some 82))) → zget ls 1 = some (.inl x) → zget ls 2 = some (.inl b) → zPn N none d mX5_readLine (37, ls, [], h2) (lnR y n c (sLine y n A p)) := by
    intro b ls hb hl0 hl1 hl2
    refine pa_iload_n (pc' := 38) dX5_readLine_37 hl1 rfl ?_
    by_cases x0 : x = 0
    · have w : tT y n p = 2 ∧ tW y n p = wPost := by
        rcases hsr with z | z | z | z | z | z | z
        · exact wIs_w.mp z.2
        all_goals exact absurd (x0.symm.trans z.1) (by decide)
      refine pa_if_f (pc' := 41) dX5_readLine_38 (by rw [x0]; decide) (by decide) rfl ?_
      refine pa_iload_n (pc' := 42) dX5_readLine_41 hl2 rfl ?_
      by_cases a0 : A.1 = 0
      · refine pa_if_t (pc' := 53) dX5_readLine_42 (by rw [hb.mpr a0]; decide) (by decide) ?_
        refine pa_aload_n (pc' := 54) dX5_readLine_53 hl0 rfl ?_
        refine pa_callv (pc' := 57) (vs := []) (rest := []) dX5_readLine_54 ml_5_87 (by decide) rfl rfl rfl (fun d' _ => C_head hc hI a0 K2) (fun r h3 hq5 => ?_)
        rw [ln_post w, if_pos a0] at fin ⊢
        exact fin dX5_readLine_57 hq5
      · refine pa_if_f (pc' := 45) dX5_readLine_42 (decide_eq_false (fun z => a0 (hb.mp z))) (by decide) rfl ?_
        refine pa_aload_n (pc' := 46) dX5_readLine_45 hl0 rfl ?_
        refine pa_iconst (v := 3) (pc' := 47) dX5_readLine_46 (by decide) rfl ?_
        refine pa_callv (pc' := 50) (vs := [.inl 3]) (rest := []) dX5_readLine_47 ml_5_76 (by decide) rfl rfl rfl (fun d' _ => c_flt hx1 hs) (fun r h3 hq5 => ?_)
        refine pa_goto (pc' := 57) dX5_readLine_50 (by decide) ?_
        exact flt_ dX5_readLine_57 (by rw [ln_post w, if_neg a0]) hq5
    · refine pa_if_t (pc' := 58) dX5_readLine_38 (decide_eq_true x0) (by decide) ?_
      refine pa_iload_n (pc' := 59) dX5_readLine_58 hl2 rfl ?_
      by_cases a0 : A.1 = 0
      · refine pa_if_f (pc' := 62) dX5_readLine_59 (by rw [hb.mpr a0]; decide) (by decide) rfl ?_
        refine pa_aload_n (pc' := 63) dX5_readLine_62 hl0 rfl ?_
        refine pa_bipush (v := 6) (pc' := 65) dX5_readLine_63 (by decide) rfl ?_
        refine pa_callv (pc' := 68) (vs := [.inl 6]) (rest := []) dX5_readLine_65 ml_5_76 (by decide) rfl rfl rfl (fun d' _ => c_flt hx1 hs) (fun r h3 hq5 => ?_)
        refine flt_ dX5_readLine_68 ?_ hq5
        rcases hsr with z | z | z | z | z | z | z
        · exact absurd z.1 x0
        · rw [ln_island (wIs_w.mp z.2), if_pos a0]
        · rw [ln_way (wIs_w.mp z.2), if_pos a0]
        · rw [ln_whale (wIs_w.mp z.2), if_pos a0]
        · rw [ln_box (wIs_w.mp z.2), if_pos a0]
        · rw [ln_spout (wIs_w.mp z.2), if_pos a0]
        · exact absurd z.1 hx
      · refine pa_if_t (pc' := 69) dX5_readLine_59 (decide_eq_true (fun z => a0 (hb.mp z))) (by decide) ?_
        refine pa_iload_n (pc' := 70) dX5_readLine_69 hl1 rfl ?_
        rcases hsr with z | z | z | z | z | z | z
        · exact absurd z.1 x0
        · have w := wIs_w.mp z.2
          refine pa_switch (pc' := 100) dX5_readLine_70 (fun q => by rw [z.1] at q; exact absurd q (by decide)) (fun _ => ⟨30, by rw [z.1]; rfl, rfl⟩) ?_
          refine pa_aload_n (pc' := 101) dX5_readLine_100 hl0 rfl ?_
          refine pa_getR (pc' := 104) (n := 13) (r := c) dX5_readLine_101 fl_5_51 s82 (by decide) hx1.2.2.1 rfl ?_
          refine pa_getI (pc' := 107) (n := 15) dX5_readLine_104 fl_5_73 sc (by decide) K2.2.2.2.1.2.1 rfl ?_
          refine pa_bipush (v := nI 7) (pc' := 109) dX5_readLine_107 (by decide) rfl ?_
          refine pa_icmp (pc' := 119) (pc2 := 112) dX5_readLine_109 (by decide) rfl (fun cd => ?_) (fun cd => ?_)
          · have cd := zi_nlt (zk_ge_lt cd)
            rw [nI_toInt (by omega), nI_toInt (by omega)] at cd
            refine pa_aload_n (pc' := 120) dX5_readLine_119 hl0 rfl ?_
            refine pa_iconst (v := 5) (pc' := 121) dX5_readLine_120 (by decide) rfl ?_
            refine pa_callv (pc' := 124) (vs := [.inl 5]) (rest := []) dX5_readLine_121 ml_5_76 (by decide) rfl rfl rfl (fun d' _ => c_flt hx1 hs) (fun r h3 hq5 => ?_)
            exact flt_ dX5_readLine_124 (by rw [ln_island w, if_neg a0, if_neg (by omega)]) hq5
          · have cd := zi_lt (zk_ge_lt cd)
            rw [nI_toInt (by omega), nI_toInt (by omega)] at cd
            have cd : cI A < 7 := by omega
            refine pa_aload_n (pc' := 113) dX5_readLine_112 hl0 rfl ?_
            refine pa_callv (pc' := 116) (vs := []) (rest := []) dX5_readLine_113 ml_5_90 (by decide) rfl rfl rfl (fun d' _ => C_island hc hI a0 cd K2) (fun r h3 hq5 => ?_)
            refine pa_goto (pc' := 124) dX5_readLine_116 (by decide) ?_
            rw [ln_island w, if_neg a0, if_pos cd] at fin ⊢
            exact fin dX5_readLine_124 hq5
        · have w := wIs_w.mp z.2
          refine pa_switch (pc' := 125) dX5_readLine_70 (fun q => by rw [z.1] at q; exact absurd q (by decide)) (fun _ => ⟨55, by rw [z.1]; rfl, rfl⟩) ?_
          refine pa_aload_n (pc' := 126) dX5_readLine_125 hl0 rfl ?_
          refine pa_getR (pc' := 129) (n := 13) (r := c) dX5_readLine_126 fl_5_51 s82 (by decide) hx1.2.2.1 rfl ?_
          refine pa_getI (pc' := 132) (n := 15) dX5_readLine_129 fl_5_93 sc (by decide) K2.2.2.2.1.2.2.1 rfl ?_
          refine pa_bipush (v := nI 12) (pc' := 134) dX5_readLine_132 (by decide) rfl ?_
          refine pa_icmp (pc' := 159) (pc2 := 137) dX5_readLine_134 (by decide) rfl (fun cd => ?_) (fun cd => ?_)
          · have cd := zi_nlt (zk_ge_lt cd)
            rw [nI_toInt (by omega), nI_toInt (by omega)] at cd
            refine pa_aload_n (pc' := 160) dX5_readLine_159 hl0 rfl ?_
            refine pa_iconst (v := 5) (pc' := 161) dX5_readLine_160 (by decide) rfl ?_
            refine pa_callv (pc' := 164) (vs := [.inl 5]) (rest := []) dX5_readLine_161 ml_5_76 (by decide) rfl rfl rfl (fun d' _ => c_flt hx1 hs) (fun r h3 hq5 => ?_)
            exact flt_ dX5_readLine_164 (by rw [ln_way w, if_neg a0, if_neg (by omega)]) hq5
          · have cd := zi_lt (zk_ge_lt cd)
            rw [nI_toInt (by omega), nI_toInt (by omega)] at cd
            have cd : cW A < 12 := by omega
            refine pa_aload_n (pc' := 138) dX5_readLine_137 hl0 rfl ?_
            refine pa_aload_n (pc' := 139) dX5_readLine_138 hl0 rfl ?_
            refine pa_getR (pc' := 142) (n := 13) (r := c) dX5_readLine_139 fl_5_51 s82 (by decide) hx1.2.2.1 rfl ?_
            refine pa_getR (pc' := 145) (n := 15) (r := c + 3) dX5_readLine_142 fl_5_96 sc (by decide) (hx1.2.1 _ _ _ (pc_rf hc).2.2.1) rfl ?_
            refine pa_aload_n (pc' := 146) dX5_readLine_145 hl0 rfl ?_
            refine pa_getR (pc' := 149) (n := 13) (r := c) dX5_readLine_146 fl_5_51 s82 (by decide) hx1.2.2.1 rfl ?_
            refine pa_getI (pc' := 152) (n := 15) dX5_readLine_149 fl_5_93 sc (by decide) K2.2.2.2.1.2.2.1 rfl ?_
            refine pa_aald (pc' := 153) (r := c + 7 + cW A) dX5_readLine_152 (hx1.sh (pc_sh hc).2.2.2.1) ⟨by decide, by decide⟩ (zn_in (by omega) (by omega)) (by rw [nI_clamp (by omega)]; exact hx1.2.1 _ _ _ (pc_way hc cd).2) rfl ?_
            refine pa_callv (pc' := 156) (vs := [.inr (.inr (some (c + 7 + cW A)))]) (rest := []) dX5_readLine_153 ml_5_100 (by decide) rfl rfl rfl (fun d' _ => C_way hc hI a0 cd K2) (fun r h3 hq5 => ?_)
            refine pa_goto (pc' := 164) dX5_readLine_156 (by decide) ?_
            rw [ln_way w, if_neg a0, if_pos cd] at fin ⊢
            exact fin dX5_readLine_164 hq5
        · have w := wIs_w.mp z.2
          refine pa_switch (pc' := 165) dX5_readLine_70 (fun q => by rw [z.1] at q; exact absurd q (by decide)) (fun _ => ⟨95, by rw [z.1]; rfl, rfl⟩) ?_
          refine pa_aload_n (pc' := 166) dX5_readLine_165 hl0 rfl ?_
          refine pa_getR (pc' := 169) (n := 13) (r := c) dX5_readLine_166 fl_5_51 s82 (by decide) hx1.2.2.1 rfl ?_
          refine pa_getI (pc' := 172) (n := 15) dX5_readLine_169 fl_5_104 sc (by decide) K2.2.2.2.1.2.2.2.1 rfl ?_
          refine pa_iconst (v := nI 5) (pc' := 173) dX5_readLine_172 (by decide) rfl ?_
          refine pa_icmp (pc' := 198) (pc2 := 176) dX5_readLine_173 (by decide) rfl (fun cd => ?_) (fun cd => ?_)
          · have cd := zi_nlt (zk_ge_lt cd)
            rw [nI_toInt (by omega), nI_toInt (by omega)] at cd
            refine pa_aload_n (pc' := 199) dX5_readLine_198 hl0 rfl ?_
            refine pa_iconst (v := 5) (pc' := 200) dX5_readLine_199 (by decide) rfl ?_
            refine pa_callv (pc' := 203) (vs := [.inl 5]) (rest := []) dX5_readLine_200 ml_5_76 (by decide) rfl rfl rfl (fun d' _ => c_flt hx1 hs) (fun r h3 hq5 => ?_)
            exact flt_ dX5_readLine_203 (by rw [ln_whale w, if_neg a0, if_neg (by omega)]) hq5
          · have cd := zi_lt (zk_ge_lt cd)
            rw [nI_toInt (by omega), nI_toInt (by omega)] at cd
            have cd : cH A < 5 := by omega
            refine pa_aload_n (pc' := 177) dX5_readLine_176 hl0 rfl ?_
            refine pa_aload_n (pc' := 178) dX5_readLine_177 hl0 rfl ?_
            refine pa_getR (pc' := 181) (n := 13) (r := c) dX5_readLine_178 fl_5_51 s82 (by decide) hx1.2.2.1 rfl ?_
            refine pa_getR (pc' := 184) (n := 15) (r := c + 4) dX5_readLine_181 fl_5_107 sc (by decide) (hx1.2.1 _ _ _ (pc_rf hc).2.2.2.1) rfl ?_
            refine pa_aload_n (pc' := 185) dX5_readLine_184 hl0 rfl ?_
            refine pa_getR (pc' := 188) (n := 13) (r := c) dX5_readLine_185 fl_5_51 s82 (by decide) hx1.2.2.1 rfl ?_
            refine pa_getI (pc' := 191) (n := 15) dX5_readLine_188 fl_5_104 sc (by decide) K2.2.2.2.1.2.2.2.1 rfl ?_
            refine pa_aald (pc' := 192) (r := c + 19 + cH A) dX5_readLine_191 (hx1.sh (pc_sh hc).2.2.2.2.1) ⟨by decide, by decide⟩ (zn_in (by omega) (by omega)) (by rw [nI_clamp (by omega)]; exact hx1.2.1 _ _ _ (pc_whl hc cd).2) rfl ?_
            refine pa_callv (pc' := 195) (vs := [.inr (.inr (some (c + 19 + cH A)))]) (rest := []) dX5_readLine_192 ml_5_111 (by decide) rfl rfl rfl (fun d' _ => C_whale hc hI a0 cd K2) (fun r h3 hq5 => ?_)
            refine pa_goto (pc' := 203) dX5_readLine_195 (by decide) ?_
            rw [ln_whale w, if_neg a0, if_pos cd] at fin ⊢
            exact fin dX5_readLine_203 hq5
        · have w := wIs_w.mp z.2
          refine pa_switch (pc' := 204) dX5_readLine_70 (fun q => by rw [z.1] at q; exact absurd q (by decide)) (fun _ => ⟨134, by rw [z.1]; rfl, rfl⟩) ?_
          refine pa_aload_n (pc' := 205) dX5_readLine_204 hl0 rfl ?_
          refine pa_getR (pc' := 208) (n := 13) (r := c) dX5_readLine_205 fl_5_51 s82 (by decide) hx1.2.2.1 rfl ?_
          refine pa_getI (pc' := 211) (n := 15) dX5_readLine_208 fl_5_115 sc (by decide) K2.2.2.2.1.2.2.2.2.1 rfl ?_
          refine pa_bipush (v := nI 8) (pc' := 213) dX5_readLine_211 (by decide) rfl ?_
          refine pa_icmp (pc' := 238) (pc2 := 216) dX5_readLine_213 (by decide) rfl (fun cd => ?_) (fun cd => ?_)
          · have cd := zi_nlt (zk_ge_lt cd)
            rw [nI_toInt (by omega), nI_toInt (by omega)] at cd
            refine pa_aload_n (pc' := 239) dX5_readLine_238 hl0 rfl ?_
            refine pa_iconst (v := 5) (pc' := 240) dX5_readLine_239 (by decide) rfl ?_
            refine pa_callv (pc' := 243) (vs := [.inl 5]) (rest := []) dX5_readLine_240 ml_5_76 (by decide) rfl rfl rfl (fun d' _ => c_flt hx1 hs) (fun r h3 hq5 => ?_)
            exact flt_ dX5_readLine_243 (by rw [ln_box w, if_neg a0, if_neg (by omega)]) hq5
          · have cd := zi_lt (zk_ge_lt cd)
            rw [nI_toInt (by omega), nI_toInt (by omega)] at cd
            have cd : cB A < 8 := by omega
            refine pa_aload_n (pc' := 217) dX5_readLine_216 hl0 rfl ?_
            refine pa_aload_n (pc' := 218) dX5_readLine_217 hl0 rfl ?_
            refine pa_getR (pc' := 221) (n := 13) (r := c) dX5_readLine_218 fl_5_51 s82 (by decide) hx1.2.2.1 rfl ?_
            refine pa_getR (pc' := 224) (n := 15) (r := c + 5) dX5_readLine_221 fl_5_118 sc (by decide) (hx1.2.1 _ _ _ (pc_rf hc).2.2.2.2.1) rfl ?_
            refine pa_aload_n (pc' := 225) dX5_readLine_224 hl0 rfl ?_
            refine pa_getR (pc' := 228) (n := 13) (r := c) dX5_readLine_225 fl_5_51 s82 (by decide) hx1.2.2.1 rfl ?_
            refine pa_getI (pc' := 231) (n := 15) dX5_readLine_228 fl_5_115 sc (by decide) K2.2.2.2.1.2.2.2.2.1 rfl ?_
            refine pa_aald (pc' := 232) (r := c + 24 + cB A) dX5_readLine_231 (hx1.sh (pc_sh hc).2.2.2.2.2.1) ⟨by decide, by decide⟩ (zn_in (by omega) (by omega)) (by rw [nI_clamp (by omega)]; exact hx1.2.1 _ _ _ (pc_box hc cd).2) rfl ?_
            refine pa_callv (pc' := 235) (vs := [.inr (.inr (some (c + 24 + cB A)))]) (rest := []) dX5_readLine_232 ml_5_122 (by decide) rfl rfl rfl (fun d' _ => C_box hc hI a0 cd K2) (fun r h3 hq5 => ?_)
            refine pa_goto (pc' := 243) dX5_readLine_235 (by decide) ?_
            rw [ln_box w, if_neg a0, if_pos cd] at fin ⊢
            exact fin dX5_readLine_243 hq5
        · have w := wIs_w.mp z.2
          refine pa_switch (pc' := 244) dX5_readLine_70 (fun _ => rfl) (fun q => absurd (by rw [z.1]; decide) q) ?_
          refine pa_aload_n (pc' := 245) dX5_readLine_244 hl0 rfl ?_
          refine pa_getR (pc' := 248) (n := 13) (r := c) dX5_readLine_245 fl_5_51 s82 (by decide) hx1.2.2.1 rfl ?_
          refine pa_getI (pc' := 251) (n := 15) dX5_readLine_248 fl_5_126 sc (by decide) K2.2.2.2.1.2.2.2.2.2.1 rfl ?_
          refine pa_bipush (v := nI 8) (pc' := 253) dX5_readLine_251 (by decide) rfl ?_
          refine pa_icmp (pc' := 278) (pc2 := 256) dX5_readLine_253 (by decide) rfl (fun cd => ?_) (fun cd => ?_)
          · have cd := zi_nlt (zk_ge_lt cd)
            rw [nI_toInt (by omega), nI_toInt (by omega)] at cd
            refine pa_aload_n (pc' := 279) dX5_readLine_278 hl0 rfl ?_
            refine pa_iconst (v := 5) (pc' := 280) dX5_readLine_279 (by decide) rfl ?_
            refine pa_callv (pc' := 283) (vs := [.inl 5]) (rest := []) dX5_readLine_280 ml_5_76 (by decide) rfl rfl rfl (fun d' _ => c_flt hx1 hs) (fun r h3 hq5 => ?_)
            exact flt_ dX5_readLine_283 (by rw [ln_spout w, if_neg a0, if_neg (by omega)]) hq5
          · have cd := zi_lt (zk_ge_lt cd)
            rw [nI_toInt (by omega), nI_toInt (by omega)] at cd
            have cd : cS A < 8 := by omega
            refine pa_aload_n (pc' := 257) dX5_readLine_256 hl0 rfl ?_
            refine pa_aload_n (pc' := 258) dX5_readLine_257 hl0 rfl ?_
            refine pa_getR (pc' := 261) (n := 13) (r := c) dX5_readLine_258 fl_5_51 s82 (by decide) hx1.2.2.1 rfl ?_
            refine pa_getR (pc' := 264) (n := 15) (r := c + 6) dX5_readLine_261 fl_5_129 sc (by decide) (hx1.2.1 _ _ _ (pc_rf hc).2.2.2.2.2) rfl ?_
            refine pa_aload_n (pc' := 265) dX5_readLine_264 hl0 rfl ?_
            refine pa_getR (pc' := 268) (n := 13) (r := c) dX5_readLine_265 fl_5_51 s82 (by decide) hx1.2.2.1 rfl ?_
            refine pa_getI (pc' := 271) (n := 15) dX5_readLine_268 fl_5_126 sc (by decide) K2.2.2.2.1.2.2.2.2.2.1 rfl ?_
            refine pa_aald (pc' := 272) (r := c + 32 + cS A) dX5_readLine_271 (hx1.sh (pc_sh hc).2.2.2.2.2.2) ⟨by decide, by decide⟩ (zn_in (by omega) (by omega)) (by rw [nI_clamp (by omega)]; exact hx1.2.1 _ _ _ (pc_spt hc cd).2) rfl ?_
            refine pa_callv (pc' := 275) (vs := [.inr (.inr (some (c + 32 + cS A)))]) (rest := []) dX5_readLine_272 ml_5_133 (by decide) rfl rfl rfl (fun d' _ => C_spout hc hI a0 cd K2) (fun r h3 hq5 => ?_)
            refine pa_goto (pc' := 283) dX5_readLine_275 (by decide) ?_
            rw [ln_spout w, if_neg a0, if_pos cd] at fin ⊢
            exact fin dX5_readLine_283 hq5
        · exact absurd z.1 hx
  refine pa_if (pc' := 35) (pc2 := 31) dX5_readLine_28 (by decide) rfl (fun cd => ?_) (fun cd => ?_)
  · refine pa_iconst (v := 0) (pc' := 36) dX5_readLine_35 (by decide) rfl ?_
    refine pa_istore_n (pc' := 37) dX5_readLine_36 (by decide) rfl rfl ?_
    have a0 : A.1 = 0 := by
      rcases hI.1 with z | z | z | z
      · exact z
      all_goals rw [z] at cd; exact absurd cd (by decide)
    exact rest 0 _ ⟨fun _ => a0, fun _ => rfl⟩ rfl rfl rfl
  · refine pa_iconst (v := 1) (pc' := 32) dX5_readLine_31 (by decide) rfl ?_
    refine pa_goto (pc' := 36) dX5_readLine_32 (by decide) ?_
    refine pa_istore_n (pc' := 37) dX5_readLine_36 (by decide) rfl rfl ?_
    exact rest 1 _ ⟨fun z => absurd z (by decide), fun z => by rw [z] at cd; exact absurd cd (by decide)⟩ rfl rfl rfl
end RD3
