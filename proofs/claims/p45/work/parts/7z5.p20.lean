/-! the reference: spouts -/
section MDC
variable {R0 : Nat → Nat → Int32} {y : Nat → Int32} {n d N p k s : Nat} {h h' g : zH} {A : pA} {nm : Nat → List Int32} {e : sF} {r : sF ⊕ Nat}
def lsF (g : zH) (w : Int32) : Nat → Int32
  | 0 => 0
  | k + 1 => if g.2.1 200 (159 + 3 * k) = w then g.2.1 200 (159 + 3 * k + 2) + 1 else lsF g w k
theorem wr_sp (hI : pI A) (hS : cS A < 8) {t : Nat} (ht : t < 3) : wr2 A (159 + 3 * cS A + t) := by
  obtain ⟨b1, b2, b3, b4, b5⟩ := hI.2.2.1
  exact ⟨by omega, by omega, fun _ => by omega, fun i hi => by omega, fun i hi => by omega, fun i hi => by omega, fun i _ ok => by unfold okX at ok; omega⟩
theorem rmC.spouted {a : Nat} {b u : Int32} (hI : pI A) (hS : cS A < 8) (K : rmC A h) (va : h.2.1 200 (159 + 3 * cS A) = nI a) (v1 : h.2.1 200 (159 + 3 * cS A + 1) = u) (vb : h.2.1 200 (159 + 3 * cS A + 2) = b) : rmC (A.1, nm, xS A.2.2.1 (160 + 3 * cS A) u, A.2.2.2.1, upA A.2.2.2.2.1 (cS A) (a, b), cI A, cW A, cH A, cB A, cS A + 1) (zsI h 200 8 (nI (cS A + 1))) := by
  obtain ⟨b1, b2, b3, b4, b5⟩ := hI.2.2.1
  obtain ⟨k1, k2, k3, k4, k5, k6, k7, k8, k9, k10, k11⟩ := K
  refine ⟨by rw [zsI_no (by omega)]; exact k1, fun z => by rw [zsI_no (by omega)]; exact k2 z, by rw [zsI_no (by omega)]; exact k3, by rw [zsI_no (by omega)]; exact k4, by rw [zsI_no (by omega)]; exact k5, by rw [zsI_no (by omega)]; exact k6, zsI_eq, fun i hi => ?_, fun i hi => ?_, fun i hi => ?_, ?_⟩
  · have hi : i < cI A := hi
    show (zsI h 200 8 _).2.1 200 (10 + 7 * i) = nI (xS A.2.2.1 (160 + 3 * cS A) u i).length ∧ ∀ k, k < (xS A.2.2.1 (160 + 3 * cS A) u i).length → (zsI h 200 8 _).2.1 200 (10 + 7 * i + 1 + k) = (xS A.2.2.1 (160 + 3 * cS A) u i).getD k 0 - 97
    rw [xS1 (by omega)]
    exact ⟨by rw [zsI_no (by omega)]; exact (k8 i hi).1, fun q hq => by rw [zsI_no (by omega)]; exact (k8 i hi).2 q hq⟩
  · rw [zsI_no (by omega), zsI_no (by omega)]; exact k9 i hi
  · have hi : i < cS A + 1 := hi
    show (zsI h 200 8 _).2.1 200 (159 + 3 * i) = nI (upA A.2.2.2.2.1 (cS A) (a, b) i).1 ∧ (zsI h 200 8 _).2.1 200 (159 + 3 * i + 2) = (upA A.2.2.2.2.1 (cS A) (a, b) i).2
    rw [zsI_no (by omega), zsI_no (by omega), upA_at]
    split
    · next z => subst z; exact ⟨va, vb⟩
    · exact k10 i (by omega)
  · have g : mX (okX (A.1, nm, A.2.2.1, A.2.2.2.1, A.2.2.2.2.1, cI A, cW A, cH A, cB A, cS A + 1)) A.2.2.1 (zsI h 200 8 (nI (cS A + 1))) := (k11.cnt (k := 8) (v := nI (cS A + 1)) (by decide) (by decide) hI).mono (fun j ok => ok.up id (Nat.le_refl _) (Nat.le_refl _) (Nat.le_refl _) (Nat.le_succ _))
    have e1 : 160 + 3 * cS A = 159 + 3 * cS A + 1 := by omega
    rw [e1]
    exact g.add (.inr (.inr (.inr (.inr ⟨by omega, by show 159 + 3 * cS A + 1 < 159 + 3 * (cS A + 1); omega⟩)))) ((zsI_no (by omega)).trans v1)
set_option maxRecDepth 8000 in
theorem M_spout (hI : pI A) (hS : cS A < 8) (K : mS R0 y n A A.2.1 p h) : zPa d mX12_spoutLine [.inr (.inr (some 196))] h (lnM R0 y n (sSpout y n A p)) := by
  intro N
  have hx := K.1.1
  have s196 := hx.sh sh_196
  have s200 := hx.sh sh_200
  have r196_16 := hx.2.1 _ _ _ rf_196_16
  have hf := K.2.1
  have k8 := K.2.2.1.2.2.2.2.2.2.1
  have hn := hI.2.2.2.2.1
  show zPn N none d mX12_spoutLine (0, [(0, .inr (.inr (some 196)))], [], h) _
  refine pa_aload_n (pc' := 1) dX12_spoutLine_0 rfl rfl ?_
  refine pa_getI (pc' := 4) (n := 39) dX12_spoutLine_1 fl_12_100 s196 (by decide) hf rfl ?_
  refine pa_if_t (pc' := 8) dX12_spoutLine_4 (by decide) (by decide) ?_
  refine pa_sipush (v := nI 159) (pc' := 11) dX12_spoutLine_8 (by decide) rfl ?_
  refine pa_iconst (v := nI 3) (pc' := 12) dX12_spoutLine_11 (by decide) rfl ?_
  refine pa_aload_n (pc' := 13) dX12_spoutLine_12 rfl rfl ?_
  refine pa_getR (pc' := 16) (n := 39) (r := 200) dX12_spoutLine_13 fl_12_23 s196 (by decide) r196_16 rfl ?_
  refine pa_bipush (v := nI 8) (pc' := 18) dX12_spoutLine_16 (by decide) rfl ?_
  refine pa_iald (pc' := 19) (n := 363) dX12_spoutLine_18 s200 rfl (fun _ => ?_)
  rw [nI_clamp (by omega), k8]
  refine pa_imul (pc' := 20) (v := nI (3 * cS A)) dX12_spoutLine_19 (nI_mul _ _) rfl ?_
  refine pa_iadd (pc' := 21) (v := nI (159 + 3 * cS A)) dX12_spoutLine_20 (nI_add _ _) rfl ?_
  refine pa_istore_n (pc' := 22) (ls' := [(1, .inl (nI (159 + 3 * cS A))), (0, .inr (.inr (some 196)))]) dX12_spoutLine_21 (by decide) rfl rfl ?_
  refine pa_aload_n (pc' := 23) dX12_spoutLine_22 rfl rfl ?_
  refine pa_bipush (v := nI 7) (pc' := 25) dX12_spoutLine_23 (by decide) rfl ?_
  refine pa_bipush (v := nI 11) (pc' := 27) dX12_spoutLine_25 (by decide) rfl ?_
  refine pa_callv (pc' := 30) (vs := [.inl (nI 7), .inl (nI 11)]) (rest := []) dX12_spoutLine_27 ml_12_153 (by decide) rfl rfl rfl (fun d' _ => M_named (r := .inr p) (by decide) hn K) (fun v g1 hq => ?_)
  obtain ⟨hfr1, xw, er, hq⟩ := hq
  subst er
  refine pa_istore_n (pc' := 31) (v := xw) (ls' := [(2, .inl xw), (1, .inl (nI (159 + 3 * cS A))), (0, .inr (.inr (some 196)))]) (st := []) dX12_spoutLine_30 (by decide) rfl rfl ?_
  have go : ∀ (g2 : zH), fr6 h g2 → mE R0 y n A A.2.1 (sndS (sOld y n A.2.1 7 11 p)) g2 → (∀ z q, sOld y n A.2.1 7 11 p = .inr (z, q) → xw = nI z) → zPn N none d mX12_spoutLine (42, [(2, .inl xw), (1, .inl (nI (159 + 3 * cS A))), (0, .inr (.inr (some 196)))], [], g2) (lnM R0 y n (sSpout y n A p)) := by
    intro g2 hfr2 K1 cw
    refine pa_aload_n (pc' := 43) dX12_spoutLine_42 rfl rfl ?_
    refine pa_callv (pc' := 46) (vs := []) (rest := []) dX12_spoutLine_43 ml_12_161 (by decide) rfl rfl rfl (fun d' _ => M_passed hn K1) (fun v g3 hq => ?_)
    obtain ⟨xi, er, K1, hfr3, ci⟩ := hq.E
    subst er
    have frr : ∀ j, g3.2.1 200 j = h.2.1 200 j := fun j => (hfr3 200 j (by omega) (by omega)).trans (hfr2 200 j (by omega) (by omega))
    have s196 := K1.mx.sh sh_196
    have s200 := K1.mx.sh sh_200
    have r196_16 := K1.mx.2.1 _ _ _ rf_196_16
    have k8 : g3.2.1 200 8 = nI (cS A) := (frr 8).trans k8
    refine pa_istore_n (pc' := 47) (v := xi) (ls' := [(3, .inl xi), (2, .inl xw), (1, .inl (nI (159 + 3 * cS A))), (0, .inr (.inr (some 196)))]) (st := []) dX12_spoutLine_46 (by decide) rfl rfl ?_
    have loop : ∀ (N j : Nat) (ls : zL), j ≤ cS A → zget ls 0 = some (.inr (.inr (some 196))) → zget ls 1 = some (.inl (nI (159 + 3 * cS A))) → zget ls 2 = some (.inl xw) → zget ls 3 = some (.inl xi) → zget ls 4 = some (.inl (lsF g3 xw j)) → zget ls 5 = some (.inl (nI j)) → zPn N none d mX12_spoutLine (53, ls, [], g3) (lnM R0 y n (sSpout y n A p)) := by
      intro N
      induction N with
      | zero => intro j ls _ _ _ _ _ _ _; exact zPn.zero
      | succ N ih =>
        intro j ls hj hl0 hl1 hl2 hl3 hl4 hl5
        refine pa_iload (pc' := 55) dX12_spoutLine_53 hl5 rfl ?_
        refine pa_aload_n (pc' := 56) dX12_spoutLine_55 hl0 rfl ?_
        refine pa_getR (pc' := 59) (n := 39) (r := 200) dX12_spoutLine_56 fl_12_23 s196 (by decide) r196_16 rfl ?_
        refine pa_bipush (v := nI 8) (pc' := 61) dX12_spoutLine_59 (by decide) rfl ?_
        refine pa_iald (pc' := 62) (n := 363) dX12_spoutLine_61 s200 rfl (fun _ => ?_)
        rw [nI_clamp (by omega), k8]
        refine pa_icmp (pc' := 107) (pc2 := 65) dX12_spoutLine_62 (by decide) rfl (fun cd => ?_) (fun cd => ?_)
        · have cd := zi_nlt (zk_ge_lt cd)
          rw [nI_toInt (by omega), nI_toInt (by omega)] at cd
          have ej : j = cS A := by omega
          subst ej
          refine pa_aload_n (pc' := 108) dX12_spoutLine_107 hl0 rfl ?_
          refine pa_ldcw (pc' := 111) dX12_spoutLine_108 cl_12_260 rfl rfl ?_
          refine pa_iload (pc' := 113) dX12_spoutLine_111 hl4 rfl ?_
          refine pa_sipush (v := 9999) (pc' := 116) dX12_spoutLine_113 (by decide) rfl ?_
          refine pa_callv (pc' := 119) (vs := [.inr (.inr (some 1000056)), .inl (lsF g3 xw (cS A)), .inl 9999]) (rest := []) dX12_spoutLine_116 ml_12_213 (by decide) rfl rfl rfl (fun d' _ => M_after K1 (bs := wDay) rfl) (fun v g4 hq => ?_)
          obtain ⟨xd, er, K2, hfr4, cd2⟩ := hq.E
          subst er
          refine pa_istore (pc' := 121) (v := xd) (ls' := zset1 ls 5 (.inl xd)) (st := []) dX12_spoutLine_119 (by decide) rfl rfl ?_
          have hl0 := zget_s1 (v := .inl xd) (k := 5) hl0 (by decide) (by simp [zcat])
          have hl1 := zget_s1 (v := .inl xd) (k := 5) hl1 (by decide) (by simp [zcat])
          have hl2 := zget_s1 (v := .inl xd) (k := 5) hl2 (by decide) (by simp [zcat])
          have hl3 := zget_s1 (v := .inl xd) (k := 5) hl3 (by decide) (by simp [zcat])
          have hl5 : zget (zset1 ls 5 (.inl xd)) 5 = some (.inl xd) := zget_s1e
          generalize zset1 ls 5 (.inl xd) = ls at hl0 hl1 hl2 hl3 hl5 ⊢
          have hff := K2.fb
          have s196 := K2.mx.sh sh_196
          refine pa_aload_n (pc' := 122) dX12_spoutLine_121 hl0 rfl ?_
          refine pa_getI (pc' := 125) (n := 39) dX12_spoutLine_122 fl_12_100 s196 (by decide) hff rfl ?_
          have bad : ∀ {e : sF} {g : zH}, mF R0 y n e g → sSpout y n A p = .inl e → zPn (N + 1) none d mX12_spoutLine (128, ls, [], g) (lnM R0 y n (sSpout y n A p)) := by
            intro e g hF he
            refine pa_vret dX12_spoutLine_128 rfl ⟨rfl, ?_⟩
            rw [he]
            exact hF
          clear hff
          cases e1 : sOld y n A.2.1 7 11 p with
          | inl e =>
            simp only [e1, bindS, sndS] at K2 ⊢
            exact pa_if_f (pc' := 128) dX12_spoutLine_125 rfl (by decide) rfl (bad K2 (by simp only [sSpout, e1]))
          | inr z1 =>
            obtain ⟨w, q1⟩ := z1
            cases e2 : sOld y n A.2.1 0 6 q1 with
            | inl e =>
              simp only [e1, e2, bindS, sndS] at K2 ⊢
              exact pa_if_f (pc' := 128) dX12_spoutLine_125 rfl (by decide) rfl (bad K2 (by simp only [sSpout, e1, e2]))
            | inr z2 =>
              obtain ⟨i, q2⟩ := z2
              have ew : xw = nI w := cw w q1 e1
              have lw : w < 5 := sOld_11 e1
              have el : lsF g3 xw (cS A) = least A.2.2.2.2.1 w (cS A) := by
                have : ∀ k, k ≤ cS A → lsF g3 xw k = least A.2.2.2.2.1 w k := by
                  intro k
                  induction k with
                  | zero => intro _; rfl
                  | succ k ihk =>
                    intro hk
                    obtain ⟨f1, f2⟩ := K.2.2.1.2.2.2.2.2.2.2.2.2.1 k (by omega)
                    have o := hI.2.2.2.2.2.2.2 k (by omega)
                    unfold lsF least
                    rw [frr, frr, f1, f2, ew]
                    by_cases z : (A.2.2.2.2.1 k).1 = w
                    · rw [if_pos z, if_pos (by rw [z])]
                    · rw [if_neg z, if_neg (fun q => z ((nI_ne (by omega) (by omega)).mp q)), ← ew]
                      exact ihk (by omega)
                exact this _ (Nat.le_refl _)
              cases e3 : sWN y n wDay (least A.2.2.2.2.1 w (cS A)) 9999 q2 with
              | inl e =>
                simp only [e1, e2, bindS, sndS, el, e3] at K2 ⊢
                exact pa_if_f (pc' := 128) dX12_spoutLine_125 rfl (by decide) rfl (bad K2 (by simp only [sSpout, e1, e2, e3]))
              | inr z3 =>
                obtain ⟨dd, q3⟩ := z3
                have ed : xd = dd := cd2 dd q3 (by simp only [e1, e2, bindS, sndS, el, e3])
                have ei : xi = nI i := ci i q2 (by simp only [e1, e2, bindS, sndS])
                simp only [e1, e2, bindS, sndS, el, e3] at K2 ⊢
                have K1 : mE R0 y n A A.2.1 (.inr q3) g4 := K2
                refine pa_if_t (pc' := 129) dX12_spoutLine_125 rfl (by decide) ?_
                refine pa_aload_n (pc' := 130) dX12_spoutLine_129 hl0 rfl ?_
                refine pa_getR (pc' := 133) (n := 39) (r := 200) dX12_spoutLine_130 fl_12_23 (K1.mx.sh sh_196) (by decide) (K1.mx.2.1 _ _ _ rf_196_16) rfl ?_
                refine pa_iload_n (pc' := 134) dX12_spoutLine_133 hl1 rfl ?_
                refine pa_iload_n (pc' := 135) dX12_spoutLine_134 hl2 rfl ?_
                refine pa_iast (pc' := 136) (n := 363) dX12_spoutLine_135 (K1.mx.sh sh_200) rfl (fun _ => ?_)
                rw [nI_clamp (by omega)]
                have va : (zsI g4 200 (159 + 3 * cS A) xw).2.1 200 (159 + 3 * cS A) = nI w := by rw [zsI_eq]; exact ew
                have K1 := K1.zs (j := 159 + 3 * cS A) (v := xw) hI (wr_sp (t := 0) hI hS (by omega))
                generalize zsI g4 200 (159 + 3 * cS A) xw = g5 at va K1 ⊢
                refine pa_aload_n (pc' := 137) dX12_spoutLine_136 hl0 rfl ?_
                refine pa_getR (pc' := 140) (n := 39) (r := 200) dX12_spoutLine_137 fl_12_23 (K1.mx.sh sh_196) (by decide) (K1.mx.2.1 _ _ _ rf_196_16) rfl ?_
                refine pa_iload_n (pc' := 141) dX12_spoutLine_140 hl1 rfl ?_
                refine pa_iconst (v := nI 1) (pc' := 142) dX12_spoutLine_141 (by decide) rfl ?_
                refine pa_iadd (pc' := 143) (v := nI (159 + 3 * cS A + 1)) dX12_spoutLine_142 (nI_add _ _) rfl ?_
                refine pa_iload_n (pc' := 144) dX12_spoutLine_143 hl3 rfl ?_
                refine pa_iast (pc' := 145) (n := 363) dX12_spoutLine_144 (K1.mx.sh sh_200) rfl (fun _ => ?_)
                rw [nI_clamp (by omega)]
                have va := (zsI_no (h := g5) (a := 200) (k := 159 + 3 * cS A + 1) (x := xi) (by omega)).trans va
                have v1 : (zsI g5 200 (159 + 3 * cS A + 1) xi).2.1 200 (159 + 3 * cS A + 1) = xi := zsI_eq
                have K1 := K1.zs (j := 159 + 3 * cS A + 1) (v := xi) hI (wr_sp hI hS (by omega))
                generalize zsI g5 200 (159 + 3 * cS A + 1) xi = g6 at va v1 K1 ⊢
                refine pa_aload_n (pc' := 146) dX12_spoutLine_145 hl0 rfl ?_
                refine pa_getR (pc' := 149) (n := 39) (r := 200) dX12_spoutLine_146 fl_12_23 (K1.mx.sh sh_196) (by decide) (K1.mx.2.1 _ _ _ rf_196_16) rfl ?_
                refine pa_iload_n (pc' := 150) dX12_spoutLine_149 hl1 rfl ?_
                refine pa_iconst (v := nI 2) (pc' := 151) dX12_spoutLine_150 (by decide) rfl ?_
                refine pa_iadd (pc' := 152) (v := nI (159 + 3 * cS A + 2)) dX12_spoutLine_151 (nI_add _ _) rfl ?_
                refine pa_iload (pc' := 154) dX12_spoutLine_152 hl5 rfl ?_
                refine pa_iast (pc' := 155) (n := 363) dX12_spoutLine_154 (K1.mx.sh sh_200) rfl (fun _ => ?_)
                rw [nI_clamp (by omega)]
                have va := (zsI_no (h := g6) (a := 200) (k := 159 + 3 * cS A + 2) (x := xd) (by omega)).trans va
                have v1 := (zsI_no (h := g6) (a := 200) (k := 159 + 3 * cS A + 2) (x := xd) (by omega)).trans v1
                have vb : (zsI g6 200 (159 + 3 * cS A + 2) xd).2.1 200 (159 + 3 * cS A + 2) = dd := by rw [zsI_eq]; exact ed
                have K1 := K1.zs (j := 159 + 3 * cS A + 2) (v := xd) hI (wr_sp hI hS (by omega))
                generalize zsI g6 200 (159 + 3 * cS A + 2) xd = g7 at va v1 vb K1 ⊢
                have K1 : mS R0 y n A A.2.1 q3 g7 := K1
                have k8 := K1.2.2.1.2.2.2.2.2.2.1
                have s200 := K1.1.1.sh sh_200
                refine pa_aload_n (pc' := 156) dX12_spoutLine_155 hl0 rfl ?_
                refine pa_getR (pc' := 159) (n := 39) (r := 200) dX12_spoutLine_156 fl_12_23 (K1.1.1.sh sh_196) (by decide) (K1.1.1.2.1 _ _ _ rf_196_16) rfl ?_
                refine pa_bipush (v := nI 8) (pc' := 161) dX12_spoutLine_159 (by decide) rfl ?_
                refine pa_dup2 (pc' := 162) dX12_spoutLine_161 ⟨rfl, rfl⟩ rfl ?_
                refine pa_iald (pc' := 163) (n := 363) dX12_spoutLine_162 s200 rfl (fun _ => ?_)
                rw [nI_clamp (by omega), k8]
                refine pa_iconst (v := nI 1) (pc' := 164) dX12_spoutLine_163 (by decide) rfl ?_
                refine pa_iadd (pc' := 165) (v := nI (cS A + 1)) dX12_spoutLine_164 (nI_add _ _) rfl ?_
                refine pa_iast (pc' := 166) (n := 363) dX12_spoutLine_165 s200 rfl (fun _ => ?_)
                rw [nI_clamp (by omega)]
                refine pa_vret dX12_spoutLine_166 rfl ⟨rfl, ?_⟩
                simp only [sSpout, e1, e2, e3]
                exact ⟨K1.1.zs, by rw [zsI_no (by omega)]; exact K1.2.1, K1.2.2.1.spouted hI hS va (v1.trans ei) vb, K1.2.2.2.zs (by omega)⟩
        · have cd := zi_lt (zk_ge_lt cd)
          rw [nI_toInt (by omega), nI_toInt (by omega)] at cd
          have nxt : ∀ ls' : zL, zget ls' 0 = some (.inr (.inr (some 196))) → zget ls' 1 = some (.inl (nI (159 + 3 * cS A))) → zget ls' 2 = some (.inl xw) → zget ls' 3 = some (.inl xi) → zget ls' 4 = some (.inl (lsF g3 xw (j + 1))) → zget ls' 5 = some (.inl (nI j)) → zPn (N + 1) none d mX12_spoutLine (101, ls', [], g3) (lnM R0 y n (sSpout y n A p)) := by
            intro ls' z0 z1 z2 z3 z4 z5
            refine pa_iinc (pc' := 104) (v := nI (j + 1)) dX12_spoutLine_101 z5 (by decide) (nI_add j 1) rfl rfl ?_
            refine pa_gotos (pc' := 53) dX12_spoutLine_104 (by decide) ?_
            exact ih (j + 1) _ (by omega) (zget_s1 z0 (by decide) (by simp [zcat])) (zget_s1 z1 (by decide) (by simp [zcat])) (zget_s1 z2 (by decide) (by simp [zcat])) (zget_s1 z3 (by decide) (by simp [zcat])) (zget_s1 z4 (by decide) (by simp [zcat])) zget_s1e
          refine pa_aload_n (pc' := 66) dX12_spoutLine_65 hl0 rfl ?_
          refine pa_getR (pc' := 69) (n := 39) (r := 200) dX12_spoutLine_66 fl_12_23 s196 (by decide) r196_16 rfl ?_
          refine pa_sipush (v := nI 159) (pc' := 72) dX12_spoutLine_69 (by decide) rfl ?_
          refine pa_iconst (v := nI 3) (pc' := 73) dX12_spoutLine_72 (by decide) rfl ?_
          refine pa_iload (pc' := 75) dX12_spoutLine_73 hl5 rfl ?_
          refine pa_imul (pc' := 76) (v := nI (3 * j)) dX12_spoutLine_75 (nI_mul _ _) rfl ?_
          refine pa_iadd (pc' := 77) (v := nI (159 + 3 * j)) dX12_spoutLine_76 (nI_add _ _) rfl ?_
          refine pa_iald (pc' := 78) (n := 363) dX12_spoutLine_77 s200 rfl (fun _ => ?_)
          rw [nI_clamp (by omega)]
          refine pa_iload_n (pc' := 79) dX12_spoutLine_78 hl2 rfl ?_
          refine pa_icmp (pc' := 101) (pc2 := 82) dX12_spoutLine_79 (by decide) rfl (fun cd3 => ?_) (fun cd3 => ?_)
          · have cd3 : ¬ g3.2.1 200 (159 + 3 * j) = xw := by simpa [zcond] using cd3
            exact nxt ls hl0 hl1 hl2 hl3 (by unfold lsF; rw [if_neg cd3]; exact hl4) hl5
          · have cd3 : g3.2.1 200 (159 + 3 * j) = xw := by simpa [zcond] using cd3
            refine pa_aload_n (pc' := 83) dX12_spoutLine_82 hl0 rfl ?_
            refine pa_getR (pc' := 86) (n := 39) (r := 200) dX12_spoutLine_83 fl_12_23 s196 (by decide) r196_16 rfl ?_
            refine pa_sipush (v := nI 159) (pc' := 89) dX12_spoutLine_86 (by decide) rfl ?_
            refine pa_iconst (v := nI 3) (pc' := 90) dX12_spoutLine_89 (by decide) rfl ?_
            refine pa_iload (pc' := 92) dX12_spoutLine_90 hl5 rfl ?_
            refine pa_imul (pc' := 93) (v := nI (3 * j)) dX12_spoutLine_92 (nI_mul _ _) rfl ?_
            refine pa_iadd (pc' := 94) (v := nI (159 + 3 * j)) dX12_spoutLine_93 (nI_add _ _) rfl ?_
            refine pa_iconst (v := nI 2) (pc' := 95) dX12_spoutLine_94 (by decide) rfl ?_
            refine pa_iadd (pc' := 96) (v := nI (159 + 3 * j + 2)) dX12_spoutLine_95 (nI_add _ _) rfl ?_
            refine pa_iald (pc' := 97) (n := 363) dX12_spoutLine_96 s200 rfl (fun _ => ?_)
            rw [nI_clamp (by omega)]
            refine pa_iconst (v := 1) (pc' := 98) dX12_spoutLine_97 (by decide) rfl ?_
            refine pa_iadd (pc' := 99) dX12_spoutLine_98 rfl rfl ?_
            refine pa_istore (pc' := 101) dX12_spoutLine_99 (by decide) rfl rfl ?_
            refine nxt _ (zget_s1 hl0 (by decide) (by simp [zcat])) (zget_s1 hl1 (by decide) (by simp [zcat])) (zget_s1 hl2 (by decide) (by simp [zcat])) (zget_s1 hl3 (by decide) (by simp [zcat])) ?_ (zget_s1 hl5 (by decide) (by simp [zcat]))
            unfold lsF
            rw [if_pos cd3]
            exact zget_s1e
    refine pa_iconst (v := 0) (pc' := 48) dX12_spoutLine_47 (by decide) rfl ?_
    refine pa_istore (pc' := 50) dX12_spoutLine_48 (by decide) rfl rfl ?_
    refine pa_iconst (v := nI 0) (pc' := 51) dX12_spoutLine_50 (by decide) rfl ?_
    refine pa_istore (pc' := 53) dX12_spoutLine_51 (by decide) rfl rfl ?_
    exact loop N 0 _ (Nat.zero_le _) rfl rfl rfl rfl rfl rfl
  cases e1 : sOld y n A.2.1 7 11 p with
  | inl e =>
    simp only [bindS, e1] at hq
    have hF := hq.1
    have s196 := hF.1.sh sh_196
    have hf := hF.2.1
    refine pa_aload_n (pc' := 32) dX12_spoutLine_31 rfl rfl ?_
    refine pa_getI (pc' := 35) (n := 39) dX12_spoutLine_32 fl_12_100 s196 (by decide) hf rfl ?_
    refine pa_if_t (pc' := 42) dX12_spoutLine_35 (by decide) (by decide) ?_
    exact go g1 hfr1 (by rw [e1]; exact hF) (fun z q w => by rw [e1] at w; cases w)
  | inr z1 =>
    obtain ⟨w, q1⟩ := z1
    simp only [bindS, e1] at hq
    obtain ⟨ew, p', ep, eq, K2⟩ := hq
    cases ep
    have s196 := K2.1.1.sh sh_196
    have hf := K2.2.1
    refine pa_aload_n (pc' := 32) dX12_spoutLine_31 rfl rfl ?_
    refine pa_getI (pc' := 35) (n := 39) dX12_spoutLine_32 fl_12_100 s196 (by decide) hf rfl ?_
    refine pa_if_f (pc' := 38) dX12_spoutLine_35 (by decide) (by decide) rfl ?_
    refine pa_aload_n (pc' := 39) dX12_spoutLine_38 rfl rfl ?_
    refine pa_callv (pc' := 42) (vs := []) (rest := []) dX12_spoutLine_39 ml_12_121 (by decide) rfl rfl rfl (fun d' _ => m_next K2.1.1 K2.1.2.2.2.1 (tE_sp K2.1.2.1).2.1) (fun v g2 hq => ?_)
    obtain ⟨er, hq⟩ := hq
    subst er
    refine go g2 (hfr1.tr (nM_fr hq)) ?_ (fun z q w => ?_)
    · rw [e1]
      show mS R0 y n A A.2.1 q1 g2
      rw [eq]
      exact K2.nx hq (tE_sp K2.1.2.1).2.1
    · rw [e1] at w
      cases w
      exact ew
end MDC
