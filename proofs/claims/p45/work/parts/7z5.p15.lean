/-! the reference: names told and new -/
def fr7 (h h' : zH) : Prop := ∀ a j, a ≠ 196 → a ≠ 198 → (a = 200 → j < 183) → h'.2.1 a j = h.2.1 a j
section MDX
variable {R0 : Nat → Nat → Int32} {y : Nat → Int32} {n d N p k s : Nat} {h h' g : zH} {A : pA} {nm : Nat → List Int32} {e : sF} {r : sF ⊕ Nat}
theorem fr6.fr7 (a : fr6 h h') : fr7 h h' := fun x j h1 h2 _ => a x j h1 h2
theorem fr7.tr {h1 h2 : zH} (a : fr7 h h1) (b : fr7 h1 h2) : fr7 h h2 := fun x j q1 q2 q3 => (b x j q1 q2 q3).trans (a x j q1 q2 q3)
theorem rmC.f7 (hI : pI A) (k : rmC A h) (e : ∀ j, j < 183 → h'.2.1 200 j = h.2.1 200 j) : rmC A h' := by
  obtain ⟨b1, b2, b3, b4, b5⟩ := hI.2.2.1
  obtain ⟨k1, k2, k3, k4, k5, k6, k7, k8, k9, k10, k11⟩ := k
  refine ⟨(e _ (by omega)).trans k1, fun z => (e _ (by omega)).trans (k2 z), (e _ (by omega)).trans k3, (e _ (by omega)).trans k4, (e _ (by omega)).trans k5, (e _ (by omega)).trans k6, (e _ (by omega)).trans k7, fun i hi => ⟨(e _ (by omega)).trans (k8 i hi).1, fun j hj => ?_⟩, fun i hi => ⟨(e _ (by omega)).trans (k9 i hi).1, (e _ (by omega)).trans (k9 i hi).2⟩, fun i hi => ⟨(e _ (by omega)).trans (k10 i hi).1, (e _ (by omega)).trans (k10 i hi).2⟩, k11.fr (fun j _ ok => e j (by have := okX_lt ok b2 b3 b4 b5; omega))⟩
  have := hI.2.2.2.2.2.1 i hi
  have h6 : (A.2.2.1 i).length ≤ 6 := by
    have := this.1
    unfold okSong at this
    simp only [Bool.and_eq_true, decide_eq_true_eq] at this
    exact this.2.1
  exact (e _ (by omega)).trans ((k8 i hi).2 j hj)
def neM (R0 : Nat → Nat → Int32) (y : Nat → Int32) (n : Nat) (A : pA) (nm : Nat → List Int32) (i : Nat) (r : sF ⊕ Nat) (h : zH) (v : Option zV) (h' : zH) : Prop := v = none ∧ fr7 h h' ∧ (match bindS r (sNew y n nm) with
  | .inl e => mF R0 y n e h'
  | .inr q => ∃ p, r = .inr p ∧ mS R0 y n A (upA nm i (tW y n p)) q h' ∧ nmI (upA nm i (tW y n p)) ∧ tW y n p ≠ [])
theorem M_new {i : Nat} (hi : i < 20) (hI : pI A) (hn : nmI nm) (K : mE R0 y n A nm r h) : zPa d mX12_newName [.inr (.inr (some 196)), .inl (nI i)] h (neM R0 y n A nm i r h) := by
  intro N
  have hx := K.mx
  have s196 := hx.sh sh_196
  show zPn N none d mX12_newName (0, [(0, .inr (.inr (some 196))), (1, .inl (nI i))], [], h) _
  cases r with
  | inl e =>
    have hf := (show mF R0 y n e h from K).2.1
    refine pa_aload_n (pc' := 1) dX12_newName_0 rfl rfl ?_
    refine pa_getI (pc' := 4) (n := 39) dX12_newName_1 fl_12_100 s196 (by decide) hf rfl ?_
    refine pa_if_f (pc' := 7) dX12_newName_4 (by decide) (by decide) rfl ?_
    exact pa_vret dX12_newName_7 rfl ⟨rfl, fr6.rf.fr7, K⟩
  | inr p =>
    have K : mS R0 y n A nm p h := K
    have hp := K.1.2.1
    have k4 := K.1.2.2.1
    have hf := K.2.1
    have bad : ∀ (g : zH) (e : sF), fr6 h g → mF R0 y n e g → sNew y n nm p = .inl e → zPn N none d mX12_newName (35, [(0, .inr (.inr (some 196))), (1, .inl (nI i))], [], g) (neM R0 y n A nm i (.inr p) h) := by
      intro g e hfr hF he
      have s196 := hF.1.sh sh_196
      have hf := hF.2.1
      refine pa_aload_n (pc' := 36) dX12_newName_35 rfl rfl ?_
      refine pa_getI (pc' := 39) (n := 39) dX12_newName_36 fl_12_100 s196 (by decide) hf rfl ?_
      refine pa_if_f (pc' := 42) dX12_newName_39 (by decide) (by decide) rfl ?_
      refine pa_vret dX12_newName_42 rfl ⟨rfl, hfr.fr7, ?_⟩
      show match sNew y n nm p with | .inl e => mF R0 y n e g | .inr q => _
      rw [he]
      exact hF
    refine pa_aload_n (pc' := 1) dX12_newName_0 rfl rfl ?_
    refine pa_getI (pc' := 4) (n := 39) dX12_newName_1 fl_12_100 s196 (by decide) hf rfl ?_
    refine pa_if_t (pc' := 8) dX12_newName_4 (by decide) (by decide) ?_
    refine pa_aload_n (pc' := 9) dX12_newName_8 rfl rfl ?_
    refine pa_callv (pc' := 12) (vs := []) (rest := []) dX12_newName_9 ml_12_143 (by decide) rfl rfl rfl (fun d' _ => M_mustName K) (fun v g hq => ?_)
    obtain ⟨er, hq⟩ := hq
    subst er
    show zPn N none d mX12_newName (12, [(0, .inr (.inr (some 196))), (1, .inl (nI i))], [], g) _
    rcases hq with ⟨nb, eg⟩ | ⟨nb, eg⟩ <;> subst eg
    · have t2 := (isNb_n.mp nb).1
      obtain ⟨w1, w2, w3⟩ := tW_ok hp t2
      refine pa_aload_n (pc' := 13) dX12_newName_12 rfl rfl ?_
      refine pa_getI (pc' := 16) (n := 39) dX12_newName_13 fl_12_100 s196 (by decide) hf rfl ?_
      refine pa_if_f (pc' := 19) dX12_newName_16 (by decide) (by decide) rfl ?_
      refine pa_aload_n (pc' := 20) dX12_newName_19 rfl rfl ?_
      refine pa_callv (pc' := 23) (vs := []) (rest := []) dX12_newName_20 ml_12_146 (by decide) rfl rfl rfl (fun d' _ => M_find K hn t2) (fun v g2 hq => ?_)
      obtain ⟨eg, er⟩ := hq
      subst eg; subst er
      cases hfd : nFind nm (tW y n p) with
      | some j =>
        have hj : j < 20 := List.mem_range.mp (List.mem_of_find?_eq_some hfd)
        have efd : fdV nm (tW y n p) = nI j := by unfold fdV; rw [hfd]
        rw [efd]
        refine pa_if_f (x := nI j) (pc' := 26) dX12_newName_23 (zj_nlt (by rw [nI_toInt (by omega), show (0 : Int32).toInt = 0 by decide]; omega)) (by decide) rfl ?_
        refine pa_aload_n (pc' := 27) dX12_newName_26 rfl rfl ?_
        refine pa_iconst (v := 3) (pc' := 28) dX12_newName_27 (by decide) rfl ?_
        refine pa_aload_n (pc' := 29) dX12_newName_28 rfl rfl ?_
        refine pa_getI (pc' := 32) (n := 39) dX12_newName_29 fl_12_81 s196 (by decide) k4 rfl ?_
        refine pa_callv (pc' := 35) (vs := [.inl 3, .inl (nI (tS y n p))]) (rest := []) dX12_newName_32 ml_12_127 (by decide) rfl rfl rfl (fun d' _ => m_wrong hx hf rfl) (fun v g3 hq => ?_)
        obtain ⟨er, hq⟩ := hq
        subst er; subst hq
        exact bad _ (3, tS y n p) wrg_fr (wrg_mF hx) (by unfold sNew; rw [if_pos nb, hfd]; rfl)
      | none =>
        have efd : fdV nm (tW y n p) = -1 := by unfold fdV; rw [hfd]
        rw [efd]
        refine pa_if_t (x := -1) (pc' := 35) dX12_newName_23 (by decide) (by decide) ?_
        refine pa_aload_n (pc' := 36) dX12_newName_35 rfl rfl ?_
        refine pa_getI (pc' := 39) (n := 39) dX12_newName_36 fl_12_100 s196 (by decide) hf rfl ?_
        refine pa_if_t (pc' := 43) dX12_newName_39 (by decide) (by decide) ?_
        obtain ⟨k8, kl⟩ := K.1.2.2.2.2.2.1 t2
        have el : (tW y n p).length = tE y n p - tS y n p := seg_len
        have eN : sNew y n nm p = .inr (tE y n p) := by unfold sNew; rw [if_pos nb, hfd]; rfl
        have kw : ∀ j, j < (tW y n p).length → g2.2.1 198 j = (tW y n p).getD j 0 := fun j hj => by
          rw [kl j (by omega)]
          unfold tW
          rw [seg_get (by omega)]
        rw [← el] at k8
        have loop : ∀ (N k : Nat) (g : zH) (ls : zL), k ≤ (tW y n p).length → g.1 = g2.1 → g.2.2 = g2.2.2 → (∀ a j, ¬ (a = 200 ∧ 203 + 8 * i ≤ j ∧ j < 203 + 8 * i + k) → g.2.1 a j = g2.2.1 a j) → (∀ j, j < k → g.2.1 200 (203 + 8 * i + j) = (tW y n p).getD j 0) → zget ls 0 = some (.inr (.inr (some 196))) → zget ls 1 = some (.inl (nI i)) → zget ls 2 = some (.inl (nI k)) → zPn N none d mX12_newName (45, ls, [], g) (neM R0 y n A nm i (.inr p) g2) := by
          intro N
          induction N with
          | zero => intro k g ls _ _ _ _ _ _ _ _; exact zPn.zero
          | succ N ih =>
            intro k g ls hk e1 e2 eo el2 hl0 hl1 hl2
            have xg : mx R0 y n g := hx.fr e1 (congrArg (fun z => z.2.1) e2) (eo _ _ (by omega)) (fun a j hk => eo _ _ (by unfold mKp at hk; omega))
            have s196 := xg.sh sh_196
            have s198 := xg.sh sh_198
            have s200 := xg.sh sh_200
            have r196_12 := xg.2.1 _ _ _ rf_196_12
            have r196_16 := xg.2.1 _ _ _ rf_196_16
            have k8g : g.2.1 196 8 = nI (tW y n p).length := (eo _ _ (by omega)).trans k8
            refine pa_iload_n (pc' := 46) dX12_newName_45 hl2 rfl ?_
            refine pa_aload_n (pc' := 47) dX12_newName_46 hl0 rfl ?_
            refine pa_getI (pc' := 50) (n := 39) dX12_newName_47 fl_12_84 s196 (by decide) k8g rfl ?_
            refine pa_icmp (pc' := 80) (pc2 := 53) dX12_newName_50 (by decide) rfl (fun cd => ?_) (fun cd => ?_)
            · have cd := zi_nlt (zk_ge_lt cd)
              rw [nI_toInt (by omega), nI_toInt (by omega)] at cd
              have ek : k = (tW y n p).length := by omega
              subst ek
              refine pa_aload_n (pc' := 81) dX12_newName_80 hl0 rfl ?_
              refine pa_getR (pc' := 84) (n := 39) (r := 200) dX12_newName_81 fl_12_23 s196 (by decide) r196_16 rfl ?_
              refine pa_sipush (v := nI 183) (pc' := 87) dX12_newName_84 (by decide) rfl ?_
              refine pa_iload_n (pc' := 88) dX12_newName_87 hl1 rfl ?_
              refine pa_iadd (pc' := 89) (v := nI (183 + i)) dX12_newName_88 (nI_add _ _) rfl ?_
              refine pa_aload_n (pc' := 90) dX12_newName_89 hl0 rfl ?_
              refine pa_getI (pc' := 93) (n := 39) dX12_newName_90 fl_12_84 s196 (by decide) k8g rfl ?_
              refine pa_iast (pc' := 94) (n := 363) dX12_newName_93 s200 rfl (fun _ => ?_)
              rw [nI_clamp (by omega)]
              have x3 : mx R0 y n (zsI g 200 (183 + i) (nI (tW y n p).length)) := xg.zs (by omega) (by omega)
              have k5 : (zsI g 200 (183 + i) (nI (tW y n p).length)).2.1 196 5 = nI (tE y n p) := by rw [zsI_no (by omega)]; exact (eo _ _ (by omega)).trans K.1.2.2.2.1
              refine pa_aload_n (pc' := 95) dX12_newName_94 hl0 rfl ?_
              refine pa_callv (pc' := 98) (vs := []) (rest := []) dX12_newName_95 ml_12_121 (by decide) rfl rfl rfl (fun d' _ => m_next x3 k5 (tE_sp hp).2.1) (fun v g4 hq => ?_)
              obtain ⟨er, hq⟩ := hq
              subst er
              refine pa_vret dX12_newName_98 rfl ⟨rfl, fun a j h1 h2 h3 => ?_, ?_⟩
              · rw [nM_fr hq a j h1 h2, zsI_no (by omega)]
                exact eo a j (by omega)
              · show match sNew y n nm p with | .inl e => mF R0 y n e g4 | .inr q => _
                rw [eN]
                have row : ∀ j, g4.2.1 200 j = (zsI g 200 (183 + i) (nI (tW y n p).length)).2.1 200 j := fun j => nM_fr hq 200 j (by omega) (by omega)
                refine ⟨p, rfl, ⟨hq.mT x3 (tE_sp hp).2.1, ?_, ?_, ?_⟩, hn.new hi hp t2 hfd, w3⟩
                · rw [hq.2.2.1 196 13 (by omega) (by omega), zsI_no (by omega)]
                  exact (eo _ _ (by omega)).trans hf
                · refine K.2.2.1.f7 hI (fun j hj => ?_)
                  rw [row, zsI_no (by omega)]
                  exact eo _ _ (by omega)
                · intro q hq20
                  rw [upA_at]
                  by_cases z : q = i
                  · subst z
                    rw [if_pos rfl, row, zsI_eq]
                    refine ⟨rfl, fun j hj => ?_⟩
                    rw [row, zsI_no (by omega)]
                    exact el2 j hj
                  · rw [if_neg z]
                    obtain ⟨f1, f2⟩ := K.2.2.2 q hq20
                    refine ⟨?_, fun j hj => ?_⟩
                    · rw [row, zsI_no (by omega)]
                      exact (eo _ _ (by omega)).trans f1
                    · have h8 : (nm q).length ≤ 8 := by
                        by_cases z2 : nm q = []
                        · rw [z2]; decide
                        · exact (hn.1 q hq20 z2).2
                      rw [row, zsI_no (by omega)]
                      exact (eo _ _ (by omega)).trans (f2 j hj)
            · have cd := zi_lt (zk_ge_lt cd)
              rw [nI_toInt (by omega), nI_toInt (by omega)] at cd
              refine pa_aload_n (pc' := 54) dX12_newName_53 hl0 rfl ?_
              refine pa_getR (pc' := 57) (n := 39) (r := 200) dX12_newName_54 fl_12_23 s196 (by decide) r196_16 rfl ?_
              refine pa_sipush (v := nI 203) (pc' := 60) dX12_newName_57 (by decide) rfl ?_
              refine pa_bipush (v := nI 8) (pc' := 62) dX12_newName_60 (by decide) rfl ?_
              refine pa_iload_n (pc' := 63) dX12_newName_62 hl1 rfl ?_
              refine pa_imul (pc' := 64) (v := nI (8 * i)) dX12_newName_63 (nI_mul _ _) rfl ?_
              refine pa_iadd (pc' := 65) (v := nI (203 + 8 * i)) dX12_newName_64 (nI_add _ _) rfl ?_
              refine pa_iload_n (pc' := 66) dX12_newName_65 hl2 rfl ?_
              refine pa_iadd (pc' := 67) (v := nI (203 + 8 * i + k)) dX12_newName_66 (nI_add _ _) rfl ?_
              refine pa_aload_n (pc' := 68) dX12_newName_67 hl0 rfl ?_
              refine pa_getR (pc' := 71) (n := 39) (r := 198) dX12_newName_68 fl_12_17 s196 (by decide) r196_12 rfl ?_
              refine pa_iload_n (pc' := 72) dX12_newName_71 hl2 rfl ?_
              refine pa_iald (pc' := 73) (n := 8) dX12_newName_72 s198 rfl (fun _ => ?_)
              rw [nI_clamp (by omega), eo 198 k (by omega), kw k (by omega)]
              refine pa_iast (pc' := 74) (n := 363) dX12_newName_73 s200 rfl (fun _ => ?_)
              rw [nI_clamp (by omega)]
              refine pa_iinc (pc' := 77) (v := nI (k + 1)) dX12_newName_74 hl2 (by decide) (nI_add k 1) rfl rfl ?_
              refine pa_gotos (pc' := 45) dX12_newName_77 (by decide) ?_
              refine ih (k + 1) _ _ (by omega) e1 e2 (fun a j z => ?_) (fun j hj => ?_) (zget_s1 hl0 (by decide) (by simp [zcat])) (zget_s1 hl1 (by decide) (by simp [zcat])) zget_s1e
              · rw [zsI_no (by omega)]
                exact eo a j (by omega)
              · by_cases z : j = k
                · subst z
                  rw [zsI_eq]
                · rw [zsI_no (by omega)]
                  exact el2 j (by omega)
        refine pa_iconst (v := nI 0) (pc' := 44) dX12_newName_43 (by decide) rfl ?_
        refine pa_istore_n (pc' := 45) dX12_newName_44 (by decide) rfl rfl ?_
        exact loop N 0 g2 _ (Nat.zero_le _) rfl rfl (fun _ _ _ => rfl) (fun j hj => absurd hj (Nat.not_lt_zero j)) rfl rfl rfl
    · have hF : mF R0 y n (1, tS y n p) (wrg h 1 (tS y n p)) := wrg_mF hx
      have s196 := hF.1.sh sh_196
      have hf := hF.2.1
      refine pa_aload_n (pc' := 13) dX12_newName_12 rfl rfl ?_
      refine pa_getI (pc' := 16) (n := 39) dX12_newName_13 fl_12_100 s196 (by decide) hf rfl ?_
      refine pa_if_t (pc' := 35) dX12_newName_16 (by decide) (by decide) ?_
      exact bad _ (1, tS y n p) wrg_fr hF (by unfold sNew; rw [if_neg (by rw [nb]; decide)])
/-- a name that was told; the token stays -/
def naM (R0 : Nat → Nat → Int32) (y : Nat → Int32) (n : Nat) (A : pA) (nm : Nat → List Int32) (lo hi : Nat) (r : sF ⊕ Nat) (h : zH) (v : Option zV) (h' : zH) : Prop := fr6 h h' ∧ ∃ x, v = some (.inl x) ∧ (match bindS r (sOld y n nm lo hi) with
  | .inl e => mF R0 y n e h' ∧ x = 0
  | .inr q => x = nI q.1 ∧ ∃ p, r = .inr p ∧ q.2 = tE y n p ∧ mS R0 y n A nm p h')
theorem M_named {lo hi : Nat} (hlo : lo ≤ hi ∧ hi < 20) (hn : nmI nm) (K : mE R0 y n A nm r h) : zPa d mX12_named [.inr (.inr (some 196)), .inl (nI lo), .inl (nI hi)] h (naM R0 y n A nm lo hi r h) := by
  intro N
  have hx := K.mx
  have s196 := hx.sh sh_196
  show zPn N none d mX12_named (0, [(0, .inr (.inr (some 196))), (1, .inl (nI lo)), (2, .inl (nI hi))], [], h) _
  cases r with
  | inl e =>
    have hf := (show mF R0 y n e h from K).2.1
    refine pa_aload_n (pc' := 1) dX12_named_0 rfl rfl ?_
    refine pa_getI (pc' := 4) (n := 39) dX12_named_1 fl_12_100 s196 (by decide) hf rfl ?_
    refine pa_if_f (pc' := 7) dX12_named_4 (by decide) (by decide) rfl ?_
    refine pa_iconst (v := 0) (pc' := 8) dX12_named_7 (by decide) rfl ?_
    exact pa_iret dX12_named_8 rfl rfl ⟨fr6.rf, 0, rfl, K, rfl⟩
  | inr p =>
    have K : mS R0 y n A nm p h := K
    have hp := K.1.2.1
    have k4 := K.1.2.2.1
    have hf := K.2.1
    refine pa_aload_n (pc' := 1) dX12_named_0 rfl rfl ?_
    refine pa_getI (pc' := 4) (n := 39) dX12_named_1 fl_12_100 s196 (by decide) hf rfl ?_
    refine pa_if_t (pc' := 9) dX12_named_4 (by decide) (by decide) ?_
    refine pa_aload_n (pc' := 10) dX12_named_9 rfl rfl ?_
    refine pa_callv (pc' := 13) (vs := []) (rest := []) dX12_named_10 ml_12_143 (by decide) rfl rfl rfl (fun d' _ => M_mustName K) (fun v g hq => ?_)
    obtain ⟨er, hq⟩ := hq
    subst er
    show zPn N none d mX12_named (13, [(0, .inr (.inr (some 196))), (1, .inl (nI lo)), (2, .inl (nI hi))], [], g) _
    rcases hq with ⟨nb, eg⟩ | ⟨nb, eg⟩ <;> subst eg
    · have t2 := (isNb_n.mp nb).1
      refine pa_aload_n (pc' := 14) dX12_named_13 rfl rfl ?_
      refine pa_getI (pc' := 17) (n := 39) dX12_named_14 fl_12_100 s196 (by decide) hf rfl ?_
      refine pa_if_t (pc' := 22) dX12_named_17 (by decide) (by decide) ?_
      refine pa_aload_n (pc' := 23) dX12_named_22 rfl rfl ?_
      refine pa_callv (pc' := 26) (vs := []) (rest := []) dX12_named_23 ml_12_146 (by decide) rfl rfl rfl (fun d' _ => M_find K hn t2) (fun v g2 hq => ?_)
      obtain ⟨eg, er⟩ := hq
      subst eg; subst er
      obtain ⟨x, ex⟩ : ∃ x : Int32, x = fdV nm (tW y n p) := ⟨_, rfl⟩
      rw [← ex]
      have hin : (nI lo ≤ x ∧ x ≤ nI hi) ↔ ∃ i, nFind nm (tW y n p) = some i ∧ lo ≤ i ∧ i ≤ hi ∧ x = nI i := by
        rw [Int32.le_iff_toInt_le, Int32.le_iff_toInt_le, nI_toInt (by omega), nI_toInt (by omega)]
        cases hfd : nFind nm (tW y n p) with
        | some j =>
          have hj : j < 20 := List.mem_range.mp (List.mem_of_find?_eq_some hfd)
          have ex : x = nI j := by rw [ex]; unfold fdV; rw [hfd]
          rw [ex, nI_toInt (by omega)]
          exact ⟨fun z => ⟨j, rfl, by omega, by omega, rfl⟩, fun ⟨i, e1, e2, e3, e4⟩ => by cases e1; omega⟩
        | none =>
          have ex : x = -1 := by rw [ex]; unfold fdV; rw [hfd]
          rw [ex]
          have : (-1 : Int32).toInt = -1 := by decide
          exact ⟨fun z => by omega, fun ⟨i, e1, _⟩ => by cases e1⟩
      refine pa_istore_n (pc' := 27) (v := x) dX12_named_26 (by decide) rfl rfl ?_
      refine pa_iload_n (pc' := 28) dX12_named_27 rfl rfl ?_
      refine pa_iload_n (pc' := 29) dX12_named_28 rfl rfl ?_
      refine pa_iload_n (pc' := 30) dX12_named_29 rfl rfl ?_
      refine pa_calls (pc' := 33) (kd := 1) (vs := [.inl x, .inl (nI lo), .inl (nI hi)]) (rest := []) dX12_named_30 ml_12_149 (.inl rfl) rfl rfl rfl (fun d' _ => in_ex2) (fun r g3 hq => ?_)
      obtain ⟨eg, hq⟩ := hq
      subst eg
      rcases hq with ⟨er, c1⟩ | ⟨er, c1⟩ <;> subst er
      · obtain ⟨i, e1, e2, e3, e4⟩ := hin.mp c1
        refine pa_if_t (x := 1) (pc' := 45) dX12_named_33 (by decide) (by decide) ?_
        refine pa_aload_n (pc' := 46) dX12_named_45 rfl rfl ?_
        refine pa_getI (pc' := 49) (n := 39) dX12_named_46 fl_12_100 s196 (by decide) hf rfl ?_
        refine pa_if_t (pc' := 56) dX12_named_49 (by decide) (by decide) ?_
        refine pa_iload_n (pc' := 57) dX12_named_56 rfl rfl ?_
        refine pa_iload_n (pc' := 58) dX12_named_57 rfl rfl ?_
        refine pa_isub (pc' := 59) (v := nI (i - lo)) dX12_named_58 (by rw [e4]; exact nI_sub e2) rfl ?_
        refine pa_iret dX12_named_59 rfl rfl ⟨fr6.rf, _, rfl, ?_⟩
        show match sOld y n nm lo hi p with | .inl e => _ | .inr q => _
        unfold sOld
        rw [if_pos nb, e1]
        dsimp only
        rw [if_pos ⟨e2, e3⟩]
        exact ⟨rfl, p, rfl, rfl, K⟩
      · refine pa_if_f (x := 0) (pc' := 36) dX12_named_33 (by decide) (by decide) rfl ?_
        refine pa_aload_n (pc' := 37) dX12_named_36 rfl rfl ?_
        refine pa_iconst (v := 2) (pc' := 38) dX12_named_37 (by decide) rfl ?_
        refine pa_aload_n (pc' := 39) dX12_named_38 rfl rfl ?_
        refine pa_getI (pc' := 42) (n := 39) dX12_named_39 fl_12_81 s196 (by decide) k4 rfl ?_
        refine pa_callv (pc' := 45) (vs := [.inl 2, .inl (nI (tS y n p))]) (rest := []) dX12_named_42 ml_12_127 (by decide) rfl rfl rfl (fun d' _ => m_wrong hx hf rfl) (fun v g3 hq => ?_)
        obtain ⟨er, hq⟩ := hq
        subst er; subst hq
        have hF : mF R0 y n (2, tS y n p) (wrg g3 2 (tS y n p)) := wrg_mF hx
        have hf := hF.2.1
        refine pa_aload_n (pc' := 46) dX12_named_45 rfl rfl ?_
        refine pa_getI (pc' := 49) (n := 39) dX12_named_46 fl_12_100 (hF.1.sh sh_196) (by decide) hf rfl ?_
        refine pa_if_f (pc' := 52) dX12_named_49 (by decide) (by decide) rfl ?_
        refine pa_iconst (v := 0) (pc' := 53) dX12_named_52 (by decide) rfl ?_
        refine pa_goto (pc' := 59) dX12_named_53 (by decide) ?_
        refine pa_iret dX12_named_59 rfl rfl ⟨wrg_fr, 0, rfl, ?_⟩
        show match sOld y n nm lo hi p with | .inl e => _ | .inr q => _
        have : sOld y n nm lo hi p = .inl (2, tS y n p) := by
          unfold sOld
          rw [if_pos nb]
          cases hfd : nFind nm (tW y n p) with
          | some j =>
            dsimp only
            rw [if_neg (fun z => c1 (hin.mpr ⟨j, hfd, z.1, z.2, by rw [ex]; unfold fdV; rw [hfd]⟩))]
          | none => rfl
        rw [this]
        exact ⟨hF, rfl⟩
    · have hF : mF R0 y n (1, tS y n p) (wrg h 1 (tS y n p)) := wrg_mF hx
      have s196 := hF.1.sh sh_196
      have hf := hF.2.1
      refine pa_aload_n (pc' := 14) dX12_named_13 rfl rfl ?_
      refine pa_getI (pc' := 17) (n := 39) dX12_named_14 fl_12_100 s196 (by decide) hf rfl ?_
      refine pa_if_f (pc' := 20) dX12_named_17 (by decide) (by decide) rfl ?_
      refine pa_iconst (v := 0) (pc' := 21) dX12_named_20 (by decide) rfl ?_
      refine pa_iret dX12_named_21 rfl rfl ⟨wrg_fr, 0, rfl, ?_⟩
      show match sOld y n nm lo hi p with | .inl e => _ | .inr q => _
      have : sOld y n nm lo hi p = .inl (1, tS y n p) := by unfold sOld; rw [if_neg (by rw [nb]; decide)]
      rw [this]
      exact ⟨hF, rfl⟩
def olM (R0 : Nat → Nat → Int32) (y : Nat → Int32) (n : Nat) (A : pA) (nm : Nat → List Int32) (h : zH) (r : sF ⊕ (Nat × Nat)) (v : Option zV) (h' : zH) : Prop := fr6 h h' ∧ ∃ x, v = some (.inl x) ∧ (match r with
  | .inl e => mF R0 y n e h' ∧ x = 0
  | .inr q => x = nI q.1 ∧ mS R0 y n A nm q.2 h')
theorem M_passed (hn : nmI nm) (K : mE R0 y n A nm r h) : zPa d mX12_islandPassed [.inr (.inr (some 196))] h (olM R0 y n A nm h (bindS r (sOld y n nm 0 6))) := by
  intro N
  show zPn N none d mX12_islandPassed (0, [(0, .inr (.inr (some 196)))], [], h) _
  refine pa_aload_n (pc' := 1) dX12_islandPassed_0 rfl rfl ?_
  refine pa_iconst (v := nI 0) (pc' := 2) dX12_islandPassed_1 (by decide) rfl ?_
  refine pa_bipush (v := nI 6) (pc' := 4) dX12_islandPassed_2 (by decide) rfl ?_
  refine pa_callv (pc' := 7) (vs := [.inl (nI 0), .inl (nI 6)]) (rest := []) dX12_islandPassed_4 ml_12_153 (by decide) rfl rfl rfl (fun d' _ => M_named (by decide) hn K) (fun v g hq => ?_)
  obtain ⟨hfr, x, er, hq⟩ := hq
  subst er
  refine pa_istore_n (pc' := 8) (v := x) dX12_islandPassed_7 (by decide) rfl rfl ?_
  cases eb : bindS r (sOld y n nm 0 6) with
  | inl e =>
    rw [eb] at hq
    have s196 := hq.1.1.sh sh_196
    have hf := hq.1.2.1
    refine pa_aload_n (pc' := 9) dX12_islandPassed_8 rfl rfl ?_
    refine pa_getI (pc' := 12) (n := 39) dX12_islandPassed_9 fl_12_100 s196 (by decide) hf rfl ?_
    refine pa_if_t (pc' := 19) dX12_islandPassed_12 (by decide) (by decide) ?_
    refine pa_iload_n (pc' := 20) dX12_islandPassed_19 rfl rfl ?_
    exact pa_iret dX12_islandPassed_20 rfl rfl ⟨hfr, x, rfl, hq⟩
  | inr q =>
    obtain ⟨i, q⟩ := q
    rw [eb] at hq
    obtain ⟨ex, p, -, eq, K2⟩ := hq
    dsimp only at ex eq
    have s196 := K2.1.1.sh sh_196
    have hf := K2.2.1
    refine pa_aload_n (pc' := 9) dX12_islandPassed_8 rfl rfl ?_
    refine pa_getI (pc' := 12) (n := 39) dX12_islandPassed_9 fl_12_100 s196 (by decide) hf rfl ?_
    refine pa_if_f (pc' := 15) dX12_islandPassed_12 (by decide) (by decide) rfl ?_
    refine pa_aload_n (pc' := 16) dX12_islandPassed_15 rfl rfl ?_
    refine pa_callv (pc' := 19) (vs := []) (rest := []) dX12_islandPassed_16 ml_12_121 (by decide) rfl rfl rfl (fun d' _ => m_next K2.1.1 K2.1.2.2.2.1 (tE_sp K2.1.2.1).2.1) (fun v g2 hq => ?_)
    obtain ⟨er, hq⟩ := hq
    subst er
    refine pa_iload_n (pc' := 20) dX12_islandPassed_19 rfl rfl ?_
    refine pa_iret dX12_islandPassed_20 rfl rfl ⟨hfr.tr (nM_fr hq), x, rfl, ex, ?_⟩
    dsimp only
    rw [eq]
    exact K2.nx hq (tE_sp K2.1.2.1).2.1
theorem M_behind {a : Nat} {bs : List Int32} (hn : nmI nm) (K : mE R0 y n A nm r h) (hz : zsc a = some bs) : zPa d mX12_islandBehind [.inr (.inr (some 196)), .inr (.inr (some a))] h (olM R0 y n A nm h (bindS (bindS r (sWord y n bs)) (sOld y n nm 0 6))) := by
  intro N
  show zPn N none d mX12_islandBehind (0, [(0, .inr (.inr (some 196))), (1, .inr (.inr (some a)))], [], h) _
  refine pa_aload_n (pc' := 1) dX12_islandBehind_0 rfl rfl ?_
  refine pa_aload_n (pc' := 2) dX12_islandBehind_1 rfl rfl ?_
  refine pa_callv (pc' := 5) (vs := [.inr (.inr (some a))]) (rest := []) dX12_islandBehind_2 ml_12_157 (by decide) rfl rfl rfl (fun d' _ => M_mustE K hz) (fun v g hq => ?_)
  obtain ⟨er, hfr, K1⟩ := hq
  subst er
  show zPn N none d mX12_islandBehind (5, [(0, .inr (.inr (some 196))), (1, .inr (.inr (some a)))], [], g) _
  refine pa_aload_n (pc' := 6) dX12_islandBehind_5 rfl rfl ?_
  refine pa_callv (pc' := 9) (vs := []) (rest := []) dX12_islandBehind_6 ml_12_161 (by decide) rfl rfl rfl (fun d' _ => M_passed hn K1) (fun v g2 hq => ?_)
  obtain ⟨hfr2, x, er, hq⟩ := hq
  subst er
  exact pa_iret (x := x) dX12_islandBehind_9 rfl rfl ⟨hfr.tr hfr2, x, rfl, hq⟩
end MDX
