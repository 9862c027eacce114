/-! the reference: islands -/
section MDD
variable {R0 : Nat → Nat → Int32} {y : Nat → Int32} {n d N p q k s : Nat} {h h' g : zH} {A : pA} {nm : Nat → List Int32} {e : sF} {r : sF ⊕ Nat}
theorem sub97 {a b : Int32} : a - 97 = b - 97 ↔ a = b := by
  refine ⟨fun e => ?_, fun e => by rw [e]⟩
  have := congrArg (fun z => z + 97) e
  simpa [Int32.sub_add_cancel] using this
theorem M_isSong {j : Nat} (hI : pI A) (K : mS R0 y n A nm q g) (t2 : tT y n q = 2) (hj : j < cI A) : zPa d mX12_isSong [.inr (.inr (some 196)), .inl (nI j)] g (fun v h' => h' = g ∧ ((v = some (.inl 1) ∧ A.2.2.1 j = tW y n q) ∨ (v = some (.inl 0) ∧ A.2.2.1 j ≠ tW y n q))) := by
  intro N
  obtain ⟨b1, b2, b3, b4, b5⟩ := hI.2.2.1
  obtain ⟨⟨hx, hp, k4, k5, k6, k8, k7⟩, hf, K3, K4⟩ := K
  obtain ⟨k8, kl⟩ := k8 t2
  obtain ⟨w1, w2, w3⟩ := tW_ok hp t2
  have el : (tW y n q).length = tE y n q - tS y n q := seg_len
  have kw : ∀ j, j < (tW y n q).length → g.2.1 198 j = (tW y n q).getD j 0 := fun j hj => by
    rw [kl j (by omega)]
    unfold tW
    rw [seg_get (by omega)]
  rw [← el] at k8
  have s196 := hx.sh sh_196
  have s198 := hx.sh sh_198
  have s200 := hx.sh sh_200
  have r196_12 := hx.2.1 _ _ _ rf_196_12
  have r196_16 := hx.2.1 _ _ _ rf_196_16
  obtain ⟨f1, f2⟩ := K3.2.2.2.2.2.2.2.1 j hj
  have l6 := song6 hI hj
  generalize tW y n q = w at *
  show zPn N none d mX12_isSong (0, [(0, .inr (.inr (some 196))), (1, .inl (nI j))], [], g) _
  refine pa_bipush (v := nI 10) (pc' := 2) dX12_isSong_0 (by decide) rfl ?_
  refine pa_bipush (v := nI 7) (pc' := 4) dX12_isSong_2 (by decide) rfl ?_
  refine pa_iload_n (pc' := 5) dX12_isSong_4 rfl rfl ?_
  refine pa_imul (pc' := 6) (v := nI (7 * j)) dX12_isSong_5 (nI_mul _ _) rfl ?_
  refine pa_iadd (pc' := 7) (v := nI (10 + 7 * j)) dX12_isSong_6 (nI_add _ _) rfl ?_
  refine pa_istore_n (pc' := 8) (ls' := [(2, .inl (nI (10 + 7 * j))), (0, .inr (.inr (some 196))), (1, .inl (nI j))]) dX12_isSong_7 (by decide) rfl rfl ?_
  refine pa_aload_n (pc' := 9) dX12_isSong_8 rfl rfl ?_
  refine pa_getR (pc' := 12) (n := 39) (r := 200) dX12_isSong_9 fl_12_23 s196 (by decide) r196_16 rfl ?_
  refine pa_iload_n (pc' := 13) dX12_isSong_12 rfl rfl ?_
  refine pa_iald (pc' := 14) (n := 363) dX12_isSong_13 s200 rfl (fun _ => ?_)
  rw [nI_clamp (by omega), f1]
  refine pa_aload_n (pc' := 15) dX12_isSong_14 rfl rfl ?_
  refine pa_getI (pc' := 18) (n := 39) dX12_isSong_15 fl_12_84 s196 (by decide) k8 rfl ?_
  have loop : ∀ (N k : Nat) (b : Int32) (ls : zL), (b = 0 ∨ b = 1) → (b = 1 → (A.2.2.1 j).length = w.length ∧ ∀ i, i < k → (A.2.2.1 j).getD i 0 = w.getD i 0) → (b = 0 → A.2.2.1 j ≠ w) → k ≤ w.length → zget ls 0 = some (.inr (.inr (some 196))) → zget ls 2 = some (.inl (nI (10 + 7 * j))) → zget ls 3 = some (.inl b) → zget ls 4 = some (.inl (nI k)) → zPn N none d mX12_isSong (30, ls, [], g) (fun v h' => h' = g ∧ ((v = some (.inl 1) ∧ A.2.2.1 j = w) ∨ (v = some (.inl 0) ∧ A.2.2.1 j ≠ w))) := by
    intro N
    induction N with
    | zero => intro k b ls _ _ _ _ _ _ _ _; exact zPn.zero
    | succ N ih =>
      intro k b ls hb hb1 hb0 hk hl0 hl2 hl3 hl4
      refine pa_iload (pc' := 32) dX12_isSong_30 hl4 rfl ?_
      refine pa_aload_n (pc' := 33) dX12_isSong_32 hl0 rfl ?_
      refine pa_getI (pc' := 36) (n := 39) dX12_isSong_33 fl_12_84 s196 (by decide) k8 rfl ?_
      refine pa_icmp (pc' := 79) (pc2 := 39) dX12_isSong_36 (by decide) rfl (fun cd => ?_) (fun cd => ?_)
      · have cd := zi_nlt (zk_ge_lt cd)
        rw [nI_toInt (by omega), nI_toInt (by omega)] at cd
        refine pa_iload_n (pc' := 80) dX12_isSong_79 hl3 rfl ?_
        rcases hb with rfl | rfl
        · exact pa_iret dX12_isSong_80 rfl rfl ⟨rfl, .inr ⟨rfl, hb0 rfl⟩⟩
        · obtain ⟨c1, c2⟩ := hb1 rfl
          exact pa_iret dX12_isSong_80 rfl rfl ⟨rfl, .inl ⟨rfl, list_get c1 (fun i hi => c2 i (by omega))⟩⟩
      · have cd := zi_lt (zk_ge_lt cd)
        rw [nI_toInt (by omega), nI_toInt (by omega)] at cd
        refine pa_iload_n (pc' := 40) dX12_isSong_39 hl3 rfl ?_
        rcases hb with rfl | rfl
        · refine pa_if_t (pc' := 79) dX12_isSong_40 (by decide) (by decide) ?_
          refine pa_iload_n (pc' := 80) dX12_isSong_79 hl3 rfl ?_
          exact pa_iret dX12_isSong_80 rfl rfl ⟨rfl, .inr ⟨rfl, hb0 rfl⟩⟩
        · refine pa_if_f (pc' := 43) dX12_isSong_40 (by decide) (by decide) rfl ?_
          obtain ⟨c1, c2⟩ := hb1 rfl
          refine pa_aload_n (pc' := 44) dX12_isSong_43 hl0 rfl ?_
          refine pa_getR (pc' := 47) (n := 39) (r := 200) dX12_isSong_44 fl_12_23 s196 (by decide) r196_16 rfl ?_
          refine pa_iload_n (pc' := 48) dX12_isSong_47 hl2 rfl ?_
          refine pa_iconst (v := nI 1) (pc' := 49) dX12_isSong_48 (by decide) rfl ?_
          refine pa_iadd (pc' := 50) (v := nI (10 + 7 * j + 1)) dX12_isSong_49 (nI_add _ _) rfl ?_
          refine pa_iload (pc' := 52) dX12_isSong_50 hl4 rfl ?_
          refine pa_iadd (pc' := 53) (v := nI (10 + 7 * j + 1 + k)) dX12_isSong_52 (nI_add _ _) rfl ?_
          refine pa_iald (pc' := 54) (n := 363) dX12_isSong_53 s200 rfl (fun _ => ?_)
          rw [nI_clamp (by omega), f2 k (by omega)]
          refine pa_aload_n (pc' := 55) dX12_isSong_54 hl0 rfl ?_
          refine pa_getR (pc' := 58) (n := 39) (r := 198) dX12_isSong_55 fl_12_17 s196 (by decide) r196_12 rfl ?_
          refine pa_iload (pc' := 60) dX12_isSong_58 hl4 rfl ?_
          refine pa_iald (pc' := 61) (n := 8) dX12_isSong_60 s198 rfl (fun _ => ?_)
          rw [nI_clamp (by omega), kw k (by omega)]
          refine pa_bipush (v := 97) (pc' := 63) dX12_isSong_61 (by decide) rfl ?_
          refine pa_isub (pc' := 64) dX12_isSong_63 rfl rfl ?_
          have nxt : ∀ (b' : Int32), (b' = 0 ∨ b' = 1) → (b' = 1 → (A.2.2.1 j).length = w.length ∧ ∀ i, i < k + 1 → (A.2.2.1 j).getD i 0 = w.getD i 0) → (b' = 0 → A.2.2.1 j ≠ w) → zPn (N + 1) none d mX12_isSong (72, ls, [.inl b'], g) (fun v h' => h' = g ∧ ((v = some (.inl 1) ∧ A.2.2.1 j = w) ∨ (v = some (.inl 0) ∧ A.2.2.1 j ≠ w))) := by
            intro b' d1 d2 d3
            refine pa_istore_n (pc' := 73) dX12_isSong_72 (by decide) rfl rfl ?_
            refine pa_iinc (pc' := 76) (v := nI (k + 1)) dX12_isSong_73 (zget_s1 hl4 (by decide) (by simp [zcat])) (by decide) (nI_add k 1) rfl rfl ?_
            refine pa_gotos (pc' := 30) dX12_isSong_76 (by decide) ?_
            exact ih (k + 1) b' _ d1 d2 d3 (by omega) (zget_s1 (zget_s1 hl0 (by decide) (by simp [zcat])) (by decide) (by simp [zcat])) (zget_s1 (zget_s1 hl2 (by decide) (by simp [zcat])) (by decide) (by simp [zcat])) (zget_s1 zget_s1e (by decide) (by simp [zcat])) zget_s1e
          refine pa_icmp (pc' := 71) (pc2 := 67) dX12_isSong_64 (by decide) rfl (fun cd4 => ?_) (fun cd4 => ?_)
          · have cd4 : ¬ (A.2.2.1 j).getD k 0 - 97 = w.getD k 0 - 97 := by simpa [zcond] using cd4
            refine pa_iconst (v := 0) (pc' := 72) dX12_isSong_71 (by decide) rfl ?_
            exact nxt 0 (.inl rfl) (fun z => absurd z (by decide)) (fun _ z => cd4 (by rw [z]))
          · have cd4 : (A.2.2.1 j).getD k 0 - 97 = w.getD k 0 - 97 := by simpa [zcond] using cd4
            rw [sub97] at cd4
            refine pa_iconst (v := 1) (pc' := 68) dX12_isSong_67 (by decide) rfl ?_
            refine pa_goto (pc' := 72) dX12_isSong_68 (by decide) ?_
            refine nxt 1 (.inr rfl) (fun _ => ⟨c1, fun i hi => ?_⟩) (fun z => absurd z (by decide))
            rcases Nat.lt_or_ge i k with z | z
            · exact c2 i z
            · have : i = k := by omega
              subst this
              exact cd4
  refine pa_icmp (pc' := 25) (pc2 := 21) dX12_isSong_18 (by decide) rfl (fun cd => ?_) (fun cd => ?_)
  · have cd : ¬ nI (A.2.2.1 j).length = nI w.length := by simpa [zcond] using cd
    refine pa_iconst (v := 0) (pc' := 26) dX12_isSong_25 (by decide) rfl ?_
    refine pa_istore_n (pc' := 27) dX12_isSong_26 (by decide) rfl rfl ?_
    refine pa_iconst (v := nI 0) (pc' := 28) dX12_isSong_27 (by decide) rfl ?_
    refine pa_istore (pc' := 30) dX12_isSong_28 (by decide) rfl rfl ?_
    exact loop N 0 0 _ (.inl rfl) (fun z => absurd z (by decide)) (fun _ z => cd (by rw [z])) (Nat.zero_le _) rfl rfl rfl rfl
  · have cd : nI (A.2.2.1 j).length = nI w.length := by simpa [zcond] using cd
    rw [nI_ne (by omega) (by omega)] at cd
    refine pa_iconst (v := 1) (pc' := 22) dX12_isSong_21 (by decide) rfl ?_
    refine pa_goto (pc' := 26) dX12_isSong_22 (by decide) ?_
    refine pa_istore_n (pc' := 27) dX12_isSong_26 (by decide) rfl rfl ?_
    refine pa_iconst (v := nI 0) (pc' := 28) dX12_isSong_27 (by decide) rfl ?_
    refine pa_istore (pc' := 30) dX12_isSong_28 (by decide) rfl rfl ?_
    exact loop N 0 1 _ (.inr rfl) (fun _ => ⟨cd, fun i hi => absurd hi (Nat.not_lt_zero i)⟩) (fun z => absurd z (by decide)) (Nat.zero_le _) rfl rfl rfl rfl
theorem rmC.landed {w : List Int32} (hI : pI A) (K : rmC A h) (hi7 : cI A < 7) (hl : w.length ≤ 6) (f1 : h.2.1 200 (10 + 7 * cI A) = nI w.length) (f2 : ∀ k, k < w.length → h.2.1 200 (10 + 7 * cI A + 1 + k) = w.getD k 0 - 97) : rmC (A.1, nm, upA A.2.2.1 (cI A) w, A.2.2.2.1, A.2.2.2.2.1, cI A + 1, cW A, cH A, cB A, cS A) (zsI h 200 4 (nI (cI A + 1))) := by
  obtain ⟨k1, k2, k3, k4, k5, k6, k7, k8, k9, k10, k11⟩ := K
  refine ⟨by rw [zsI_no (by omega)]; exact k1, fun z => by rw [zsI_no (by omega)]; exact k2 z, zsI_eq, by rw [zsI_no (by omega)]; exact k4, by rw [zsI_no (by omega)]; exact k5, by rw [zsI_no (by omega)]; exact k6, by rw [zsI_no (by omega)]; exact k7, fun i hi => ?_, fun i hi => ?_, fun i hi => ?_, ((k11.cnt (k := 4) (by decide) (by decide) hI).mono (fun j ok => ok.up id (Nat.le_refl _) (Nat.le_refl _) (Nat.le_refl _) (Nat.le_refl _))).isl (by omega)⟩
  · have hi : i < cI A + 1 := hi
    show (zsI h 200 4 _).2.1 200 (10 + 7 * i) = nI (upA A.2.2.1 (cI A) w i).length ∧ ∀ k, k < (upA A.2.2.1 (cI A) w i).length → (zsI h 200 4 _).2.1 200 (10 + 7 * i + 1 + k) = (upA A.2.2.1 (cI A) w i).getD k 0 - 97
    rw [upA_at]
    split
    · next z => subst z; exact ⟨(zsI_no (by omega)).trans f1, fun k hk => (zsI_no (by omega)).trans (f2 k hk)⟩
    · exact ⟨(zsI_no (by omega)).trans (k8 i (by omega)).1, fun k hk => (zsI_no (by omega)).trans ((k8 i (by omega)).2 k hk)⟩
  · exact ⟨(zsI_no (by omega)).trans (k9 i hi).1, (zsI_no (by omega)).trans (k9 i hi).2⟩
  · exact ⟨(zsI_no (by omega)).trans (k10 i hi).1, (zsI_no (by omega)).trans (k10 i hi).2⟩
theorem wr_is (hI : pI A) (hi7 : cI A < 7) {t : Nat} (ht : t < 7) : wr2 A (10 + 7 * cI A + t) := by
  obtain ⟨b1, b2, b3, b4, b5⟩ := hI.2.2.1
  exact ⟨by omega, by omega, fun _ => by omega, fun i hi => by omega, fun i hi => by omega, fun i hi => by omega, fun i _ ok => by unfold okX at ok; omega⟩
set_option maxRecDepth 8000 in
theorem M_island (hI : pI A) (h1 : A.1 ≠ 0) (hi7 : cI A < 7) (K : mS R0 y n A A.2.1 p h) : zPa d mX12_islandLine [.inr (.inr (some 196))] h (lnM R0 y n (sIsland y n A p)) := by
  intro N
  have hx := K.1.1
  have s196 := hx.sh sh_196
  have s200 := hx.sh sh_200
  have r196_16 := hx.2.1 _ _ _ rf_196_16
  have hf := K.2.1
  have k4 := K.2.2.1.2.2.1
  have hn := hI.2.2.2.2.1
  show zPn N none d mX12_islandLine (0, [(0, .inr (.inr (some 196)))], [], h) _
  refine pa_aload_n (pc' := 1) dX12_islandLine_0 rfl rfl ?_
  refine pa_getI (pc' := 4) (n := 39) dX12_islandLine_1 fl_12_100 s196 (by decide) hf rfl ?_
  refine pa_if_t (pc' := 8) dX12_islandLine_4 (by decide) (by decide) ?_
  refine pa_aload_n (pc' := 9) dX12_islandLine_8 rfl rfl ?_
  refine pa_getR (pc' := 12) (n := 39) (r := 200) dX12_islandLine_9 fl_12_23 s196 (by decide) r196_16 rfl ?_
  refine pa_iconst (v := nI 4) (pc' := 13) dX12_islandLine_12 (by decide) rfl ?_
  refine pa_iald (pc' := 14) (n := 363) dX12_islandLine_13 s200 rfl (fun _ => ?_)
  rw [nI_clamp (by omega), k4]
  refine pa_istore_n (pc' := 15) (ls' := [(1, .inl (nI (cI A))), (0, .inr (.inr (some 196)))]) dX12_islandLine_14 (by decide) rfl rfl ?_
  refine pa_aload_n (pc' := 16) dX12_islandLine_15 rfl rfl ?_
  refine pa_iload_n (pc' := 17) dX12_islandLine_16 rfl rfl ?_
  refine pa_callv (pc' := 20) (vs := [.inl (nI (cI A))]) (rest := []) dX12_islandLine_17 ml_12_223 (by decide) rfl rfl rfl (fun d' _ => M_new (r := .inr p) (by omega) hI hn K) (fun v g1 hq => ?_)
  obtain ⟨er, hfr0, K1, hn⟩ := hq.E hn
  subst er
  show zPn N none d mX12_islandLine (20, [(1, .inl (nI (cI A))), (0, .inr (.inr (some 196)))], [], g1) _
  have end44 : ∀ {e : sF} {g : zH}, mF R0 y n e g → sIsland y n A p = .inl e → zPn N none d mX12_islandLine (44, [(1, .inl (nI (cI A))), (0, .inr (.inr (some 196)))], [], g) (lnM R0 y n (sIsland y n A p)) := by
    intro e g hF he
    have s196 := hF.1.sh sh_196
    have hf := hF.2.1
    refine pa_aload_n (pc' := 45) dX12_islandLine_44 rfl rfl ?_
    refine pa_getI (pc' := 48) (n := 39) dX12_islandLine_45 fl_12_100 s196 (by decide) hf rfl ?_
    refine pa_if_f (pc' := 51) dX12_islandLine_48 (by decide) (by decide) rfl ?_
    refine pa_vret dX12_islandLine_51 rfl ⟨rfl, ?_⟩
    rw [he]
    exact hF
  clear hq hfr0
  cases e0 : sNew y n A.2.1 p with
  | inl e =>
    have hF : mF R0 y n e g1 := by simp only [e0] at K1; exact K1
    have s196 := hF.1.sh sh_196
    have hf := hF.2.1
    refine pa_aload_n (pc' := 21) dX12_islandLine_20 rfl rfl ?_
    refine pa_getI (pc' := 24) (n := 39) dX12_islandLine_21 fl_12_100 s196 (by decide) hf rfl ?_
    refine pa_if_t (pc' := 44) dX12_islandLine_24 (by decide) (by decide) ?_
    exact end44 hF (by simp only [sIsland, e0])
  | inr q0 =>
    simp only [e0, nmX] at K1 hn
    have K1 : mS R0 y n A (upA A.2.1 (cI A) (tW y n p)) q0 g1 := K1
    have hx1 := K1.1.1
    have hf1 := K1.2.1
    have hq0 := K1.1.2.1
    have a4 := K1.1.2.2.1
    have a6 := K1.1.2.2.2.2.1
    have s196 := hx1.sh sh_196
    have s198 := hx1.sh sh_198
    have s200 := hx1.sh sh_200
    have r196_12 := hx1.2.1 _ _ _ rf_196_12
    have r196_16 := hx1.2.1 _ _ _ rf_196_16
    refine pa_aload_n (pc' := 21) dX12_islandLine_20 rfl rfl ?_
    refine pa_getI (pc' := 24) (n := 39) dX12_islandLine_21 fl_12_100 s196 (by decide) hf1 rfl ?_
    refine pa_if_f (pc' := 27) dX12_islandLine_24 (by decide) (by decide) rfl ?_
    refine pa_aload_n (pc' := 28) dX12_islandLine_27 rfl rfl ?_
    refine pa_getI (pc' := 31) (n := 39) dX12_islandLine_28 fl_12_90 s196 (by decide) a6 rfl ?_
    refine pa_iconst (v := 2) (pc' := 32) dX12_islandLine_31 (by decide) rfl ?_
    refine pa_icmp (pc' := 44) (pc2 := 35) dX12_islandLine_32 (by decide) rfl (fun cd => ?_) (fun cd => ?_)
    rotate_left
    · have t2 : ¬ tT y n q0 = 2 := by simpa [zcond] using cd
      refine pa_aload_n (pc' := 36) dX12_islandLine_35 rfl rfl ?_
      refine pa_iconst (v := 1) (pc' := 37) dX12_islandLine_36 (by decide) rfl ?_
      refine pa_aload_n (pc' := 38) dX12_islandLine_37 rfl rfl ?_
      refine pa_getI (pc' := 41) (n := 39) dX12_islandLine_38 fl_12_81 s196 (by decide) a4 rfl ?_
      refine pa_callv (pc' := 44) (vs := [.inl 1, .inl (nI (tS y n q0))]) (rest := []) dX12_islandLine_41 ml_12_127 (by decide) rfl rfl rfl (fun d' _ => m_wrong hx1 hf1 rfl) (fun v g2 hq => ?_)
      obtain ⟨er, hq⟩ := hq
      subst er; subst hq
      exact end44 (wrg_mF hx1) (by simp only [sIsland, e0]; rw [if_neg t2])
    have t2 : tT y n q0 = 2 := by simpa [zcond] using cd
    obtain ⟨k8, kl⟩ := K1.1.2.2.2.2.2.1 t2
    obtain ⟨w1, w2, w3⟩ := tW_ok hq0 t2
    have el : (tW y n q0).length = tE y n q0 - tS y n q0 := seg_len
    have kw : ∀ j, j < (tW y n q0).length → g1.2.1 198 j = (tW y n q0).getD j 0 := fun j hj => by
      rw [kl j (by omega)]
      unfold tW
      rw [seg_get (by omega)]
    rw [← el] at k8
    have f0 : g1.2.1 200 0 = A.1 := K1.2.2.1.2.1 h1
    refine pa_aload_n (pc' := 45) dX12_islandLine_44 rfl rfl ?_
    refine pa_getI (pc' := 48) (n := 39) dX12_islandLine_45 fl_12_100 s196 (by decide) hf1 rfl ?_
    refine pa_if_t (pc' := 52) dX12_islandLine_48 (by decide) (by decide) ?_
    obtain ⟨w, ew⟩ : ∃ w, w = tW y n q0 := ⟨_, rfl⟩
    rw [← ew] at k8 kw w1 w2 w3
    have okw : ∀ m, m ≤ w.length → (okSong A.1 w = true ↔ (2 ≤ w.length ∧ w.length ≤ 6 ∧ ∀ k, k < w.length → w.getD k 0 - 97 < A.1)) := by
      intro m _
      unfold okSong
      simp only [Bool.and_eq_true, decide_eq_true_eq, List.all_eq_true]
      constructor
      · rintro ⟨c1, c2, c3⟩
        refine ⟨c1, c2, fun k hk => ?_⟩
        have := c3 (w.getD k 0) (by rw [List.getD_eq_getElem?_getD, List.getElem?_eq_getElem hk]; exact List.getElem_mem hk)
        exact this
      · rintro ⟨c1, c2, c3⟩
        refine ⟨c1, c2, fun b hb => ?_⟩
        obtain ⟨k, hk, e⟩ := List.getElem_of_mem hb
        have := c3 k hk
        rw [List.getD_eq_getElem?_getD, List.getElem?_eq_getElem hk] at this
        rw [← e]
        exact this
    -- the end
    have fin : ∀ (N : Nat) (ls : zL), okSong A.1 w = true → ¬ ((List.range (cI A)).any (fun i => decide (A.2.2.1 i = w)) = true) → zget ls 0 = some (.inr (.inr (some 196))) → zget ls 1 = some (.inl (nI (cI A))) → zPn N none d mX12_islandLine (173, ls, [], g1) (lnM R0 y n (sIsland y n A p)) := by
      intro N ls ok nany hl0 hl1
      obtain ⟨o1, o2, o3⟩ := (okw 0 (Nat.zero_le _)).mp ok
      refine pa_aload_n (pc' := 174) dX12_islandLine_173 hl0 rfl ?_
      refine pa_getI (pc' := 177) (n := 39) dX12_islandLine_174 fl_12_100 s196 (by decide) hf1 rfl ?_
      refine pa_if_t (pc' := 181) dX12_islandLine_177 (by decide) (by decide) ?_
      refine pa_bipush (v := nI 10) (pc' := 183) dX12_islandLine_181 (by decide) rfl ?_
      refine pa_bipush (v := nI 7) (pc' := 185) dX12_islandLine_183 (by decide) rfl ?_
      refine pa_iload_n (pc' := 186) dX12_islandLine_185 hl1 rfl ?_
      refine pa_imul (pc' := 187) (v := nI (7 * cI A)) dX12_islandLine_186 (nI_mul _ _) rfl ?_
      refine pa_iadd (pc' := 188) (v := nI (10 + 7 * cI A)) dX12_islandLine_187 (nI_add _ _) rfl ?_
      refine pa_istore (pc' := 190) (ls' := zset1 ls 4 (.inl (nI (10 + 7 * cI A)))) dX12_islandLine_188 (by decide) rfl rfl ?_
      have hl0 := zget_s1 (v := .inl (nI (10 + 7 * cI A))) (k := 4) hl0 (by decide) (by simp [zcat])
      have hl4 : zget (zset1 ls 4 (.inl (nI (10 + 7 * cI A)))) 4 = some (.inl (nI (10 + 7 * cI A))) := zget_s1e
      generalize zset1 ls 4 (.inl (nI (10 + 7 * cI A))) = ls at hl0 hl4 ⊢
      refine pa_aload_n (pc' := 191) dX12_islandLine_190 hl0 rfl ?_
      refine pa_getR (pc' := 194) (n := 39) (r := 200) dX12_islandLine_191 fl_12_23 s196 (by decide) r196_16 rfl ?_
      refine pa_iload (pc' := 196) dX12_islandLine_194 hl4 rfl ?_
      refine pa_aload_n (pc' := 197) dX12_islandLine_196 hl0 rfl ?_
      refine pa_getI (pc' := 200) (n := 39) dX12_islandLine_197 fl_12_84 s196 (by decide) k8 rfl ?_
      refine pa_iast (pc' := 201) (n := 363) dX12_islandLine_200 s200 rfl (fun _ => ?_)
      rw [nI_clamp (by omega)]
      have K2 : mE R0 y n A (upA A.2.1 (cI A) (tW y n p)) (.inr q0) (zsI g1 200 (10 + 7 * cI A) (nI w.length)) := mE.zs (r := .inr q0) hI K1 (wr_is (t := 0) hI hi7 (by omega))
      have f1 : (zsI g1 200 (10 + 7 * cI A) (nI w.length)).2.1 200 (10 + 7 * cI A) = nI w.length := zsI_eq
      have l198 : ∀ j, (zsI g1 200 (10 + 7 * cI A) (nI w.length)).2.1 198 j = g1.2.1 198 j := fun j => zsI_no (by omega)
      generalize zsI g1 200 (10 + 7 * cI A) (nI w.length) = g2 at K2 f1 l198 ⊢
      have loop : ∀ (N k : Nat) (g : zH) (ls : zL), k ≤ w.length → mE R0 y n A (upA A.2.1 (cI A) (tW y n p)) (.inr q0) g → g.2.1 200 (10 + 7 * cI A) = nI w.length → (∀ j, g.2.1 198 j = g1.2.1 198 j) → (∀ j, j < k → g.2.1 200 (10 + 7 * cI A + 1 + j) = w.getD j 0 - 97) → zget ls 0 = some (.inr (.inr (some 196))) → zget ls 4 = some (.inl (nI (10 + 7 * cI A))) → zget ls 5 = some (.inl (nI k)) → zPn N none d mX12_islandLine (204, ls, [], g) (lnM R0 y n (sIsland y n A p)) := by
        intro N
        induction N with
        | zero => intro k g ls _ _ _ _ _ _ _ _; exact zPn.zero
        | succ N ih =>
          intro k g ls hk K2 f1 l198 f2 hl0 hl4 hl5
          have K2' : mS R0 y n A (upA A.2.1 (cI A) (tW y n p)) q0 g := K2
          have xg := K2'.1.1
          have s196 := xg.sh sh_196
          have s198 := xg.sh sh_198
          have s200 := xg.sh sh_200
          have r196_12 := xg.2.1 _ _ _ rf_196_12
          have r196_16 := xg.2.1 _ _ _ rf_196_16
          have k8g : g.2.1 196 8 = nI w.length := by
            have := (K2'.1.2.2.2.2.2.1 t2).1
            rw [← el, ← ew] at this
            exact this
          refine pa_iload (pc' := 206) dX12_islandLine_204 hl5 rfl ?_
          refine pa_aload_n (pc' := 207) dX12_islandLine_206 hl0 rfl ?_
          refine pa_getI (pc' := 210) (n := 39) dX12_islandLine_207 fl_12_84 s196 (by decide) k8g rfl ?_
          refine pa_icmp (pc' := 241) (pc2 := 213) dX12_islandLine_210 (by decide) rfl (fun cd => ?_) (fun cd => ?_)
          · have cd := zi_nlt (zk_ge_lt cd)
            rw [nI_toInt (by omega), nI_toInt (by omega)] at cd
            have ek : k = w.length := by omega
            subst ek
            refine pa_aload_n (pc' := 242) dX12_islandLine_241 hl0 rfl ?_
            refine pa_callv (pc' := 245) (vs := []) (rest := []) dX12_islandLine_242 ml_12_121 (by decide) rfl rfl rfl (fun d' _ => m_next xg K2'.1.2.2.2.1 (tE_sp hq0).2.1) (fun v g3 hq => ?_)
            obtain ⟨er, hq⟩ := hq
            subst er
            have K3 := K2'.nx hq (tE_sp hq0).2.1
            have row : ∀ j, g3.2.1 200 j = g.2.1 200 j := fun j => nM_fr hq 200 j (by omega) (by omega)
            have k4 := K3.2.2.1.2.2.1
            have s200 := K3.1.1.sh sh_200
            refine pa_aload_n (pc' := 246) dX12_islandLine_245 hl0 rfl ?_
            refine pa_getR (pc' := 249) (n := 39) (r := 200) dX12_islandLine_246 fl_12_23 (K3.1.1.sh sh_196) (by decide) (K3.1.1.2.1 _ _ _ rf_196_16) rfl ?_
            refine pa_iconst (v := nI 4) (pc' := 250) dX12_islandLine_249 (by decide) rfl ?_
            refine pa_dup2 (pc' := 251) dX12_islandLine_250 ⟨rfl, rfl⟩ rfl ?_
            refine pa_iald (pc' := 252) (n := 363) dX12_islandLine_251 s200 rfl (fun _ => ?_)
            rw [nI_clamp (by omega), k4]
            refine pa_iconst (v := nI 1) (pc' := 253) dX12_islandLine_252 (by decide) rfl ?_
            refine pa_iadd (pc' := 254) (v := nI (cI A + 1)) dX12_islandLine_253 (nI_add _ _) rfl ?_
            refine pa_iast (pc' := 255) (n := 363) dX12_islandLine_254 s200 rfl (fun _ => ?_)
            rw [nI_clamp (by omega)]
            refine pa_vret dX12_islandLine_255 rfl ⟨rfl, ?_⟩
            have eS : sIsland y n A p = .inr ((A.1, upA A.2.1 (cI A) (tW y n p), upA A.2.2.1 (cI A) w, A.2.2.2.1, A.2.2.2.2.1, cI A + 1, cW A, cH A, cB A, cS A), tE y n q0) := by
              simp only [sIsland, e0]
              rw [if_pos t2, ← ew, if_pos ok, if_neg nany]
            rw [eS]
            exact ⟨K3.1.zs, by rw [zsI_no (by omega)]; exact K3.2.1, K3.2.2.1.landed hI hi7 o2 ((row _).trans f1) (fun k hk => (row _).trans (f2 k hk)), K3.2.2.2.zs (by omega)⟩
          · have cd := zi_lt (zk_ge_lt cd)
            rw [nI_toInt (by omega), nI_toInt (by omega)] at cd
            refine pa_aload_n (pc' := 214) dX12_islandLine_213 hl0 rfl ?_
            refine pa_getR (pc' := 217) (n := 39) (r := 200) dX12_islandLine_214 fl_12_23 s196 (by decide) r196_16 rfl ?_
            refine pa_iload (pc' := 219) dX12_islandLine_217 hl4 rfl ?_
            refine pa_iconst (v := nI 1) (pc' := 220) dX12_islandLine_219 (by decide) rfl ?_
            refine pa_iadd (pc' := 221) (v := nI (10 + 7 * cI A + 1)) dX12_islandLine_220 (nI_add _ _) rfl ?_
            refine pa_iload (pc' := 223) dX12_islandLine_221 hl5 rfl ?_
            refine pa_iadd (pc' := 224) (v := nI (10 + 7 * cI A + 1 + k)) dX12_islandLine_223 (nI_add _ _) rfl ?_
            refine pa_aload_n (pc' := 225) dX12_islandLine_224 hl0 rfl ?_
            refine pa_getR (pc' := 228) (n := 39) (r := 198) dX12_islandLine_225 fl_12_17 s196 (by decide) r196_12 rfl ?_
            refine pa_iload (pc' := 230) dX12_islandLine_228 hl5 rfl ?_
            refine pa_iald (pc' := 231) (n := 8) dX12_islandLine_230 s198 rfl (fun _ => ?_)
            rw [nI_clamp (by omega), l198, kw k (by omega)]
            refine pa_bipush (v := 97) (pc' := 233) dX12_islandLine_231 (by decide) rfl ?_
            refine pa_isub (pc' := 234) dX12_islandLine_233 rfl rfl ?_
            refine pa_iast (pc' := 235) (n := 363) dX12_islandLine_234 s200 rfl (fun _ => ?_)
            rw [nI_clamp (by omega)]
            refine pa_iinc (pc' := 238) (v := nI (k + 1)) dX12_islandLine_235 hl5 (by decide) (nI_add k 1) rfl rfl ?_
            refine pa_gotos (pc' := 204) dX12_islandLine_238 (by decide) ?_
            refine ih (k + 1) _ _ (by omega) (by
              have := mE.zs (j := 10 + 7 * cI A + 1 + k) (v := w.getD k 0 - 97) hI K2 (by
                have := wr_is (t := 1 + k) hI hi7 (by omega)
                rw [show 10 + 7 * cI A + (1 + k) = 10 + 7 * cI A + 1 + k by omega] at this
                exact this)
              exact this) (by rw [zsI_no (by omega)]; exact f1) (fun j => by rw [zsI_no (by omega)]; exact l198 j) (fun j hj => ?_) (zget_s1 hl0 (by decide) (by simp [zcat])) (zget_s1 hl4 (by decide) (by simp [zcat])) zget_s1e
            by_cases z : j = k
            · subst z
              rw [zsI_eq]
            · rw [zsI_no (by omega)]
              exact f2 j (by omega)
      refine pa_iconst (v := nI 0) (pc' := 202) dX12_islandLine_201 (by decide) rfl ?_
      refine pa_istore (pc' := 204) dX12_islandLine_202 (by decide) rfl rfl ?_
      exact loop N 0 g2 _ (Nat.zero_le _) K2 f1 l198 (fun j hj => absurd hj (Nat.not_lt_zero j)) (zget_s1 hl0 (by decide) (by simp [zcat])) (zget_s1 hl4 (by decide) (by simp [zcat])) zget_s1e
    have endW : ∀ (N : Nat) (ls : zL) (k : Int32), sIsland y n A p = .inl (k, tS y n q0) → zget ls 0 = some (.inr (.inr (some 196))) → zPn N none d mX12_islandLine (173, ls, [], wrg g1 k (tS y n q0)) (lnM R0 y n (sIsland y n A p)) := by
      intro N ls k he hl0
      have hF : mF R0 y n (k, tS y n q0) (wrg g1 k (tS y n q0)) := wrg_mF hx1
      have s196 := hF.1.sh sh_196
      have hf := hF.2.1
      refine pa_aload_n (pc' := 174) dX12_islandLine_173 hl0 rfl ?_
      refine pa_getI (pc' := 177) (n := 39) dX12_islandLine_174 fl_12_100 s196 (by decide) hf rfl ?_
      refine pa_if_f (pc' := 180) dX12_islandLine_177 (by decide) (by decide) rfl ?_
      refine pa_vret dX12_islandLine_180 rfl ⟨rfl, ?_⟩
      rw [he]
      exact hF
    have told : ∀ (N j : Nat) (b c : Int32) (ls : zL), j ≤ cI A → (b = 0 ∨ b = 1) → (b = 1 ↔ okSong A.1 w = true) → (c = 0 ∨ c = 1) → (c = 1 ↔ ∃ i, i < j ∧ A.2.2.1 i = w) → zget ls 0 = some (.inr (.inr (some 196))) → zget ls 1 = some (.inl (nI (cI A))) → zget ls 2 = some (.inl b) → zget ls 3 = some (.inl c) → zget ls 4 = some (.inl (nI j)) → zPn N none d mX12_islandLine (112, ls, [], g1) (lnM R0 y n (sIsland y n A p)) := by
      intro N
      induction N with
      | zero => intro j b c ls _ _ _ _ _ _ _ _ _ _; exact zPn.zero
      | succ N ih =>
        intro j b c ls hj hb hbi hc hci hl0 hl1 hl2 hl3 hl4
        refine pa_iload (pc' := 114) dX12_islandLine_112 hl4 rfl ?_
        refine pa_iload_n (pc' := 115) dX12_islandLine_114 hl1 rfl ?_
        refine pa_icmp (pc' := 143) (pc2 := 118) dX12_islandLine_115 (by decide) rfl (fun cd => ?_) (fun cd => ?_)
        · have cd := zi_nlt (zk_ge_lt cd)
          rw [nI_toInt (by omega), nI_toInt (by omega)] at cd
          have ej : j = cI A := by omega
          subst ej
          have hany : (List.range (cI A)).any (fun i => decide (A.2.2.1 i = w)) = true ↔ c = 1 := by
            rw [hci, List.any_eq_true]
            exact ⟨fun ⟨i, h1, h2⟩ => ⟨i, List.mem_range.mp h1, of_decide_eq_true h2⟩, fun ⟨i, h1, h2⟩ => ⟨i, List.mem_range.mpr h1, decide_eq_true h2⟩⟩
          refine pa_iload_n (pc' := 144) dX12_islandLine_143 hl3 rfl ?_
          rcases hc with rfl | rfl
          · refine pa_if_t (pc' := 159) dX12_islandLine_144 (by decide) (by decide) ?_
            refine pa_iload_n (pc' := 160) dX12_islandLine_159 hl2 rfl ?_
            rcases hb with rfl | rfl
            · refine pa_if_f (pc' := 163) dX12_islandLine_160 (by decide) (by decide) rfl ?_
              refine pa_aload_n (pc' := 164) dX12_islandLine_163 hl0 rfl ?_
              refine pa_bipush (v := 7) (pc' := 166) dX12_islandLine_164 (by decide) rfl ?_
              refine pa_aload_n (pc' := 167) dX12_islandLine_166 hl0 rfl ?_
              refine pa_getI (pc' := 170) (n := 39) dX12_islandLine_167 fl_12_81 s196 (by decide) a4 rfl ?_
              refine pa_callv (pc' := 173) (vs := [.inl 7, .inl (nI (tS y n q0))]) (rest := []) dX12_islandLine_170 ml_12_127 (by decide) rfl rfl rfl (fun d' _ => m_wrong hx1 hf1 rfl) (fun v g2 hq => ?_)
              obtain ⟨er, hq⟩ := hq
              subst er; subst hq
              refine endW (N + 1) ls 7 ?_ hl0
              simp only [sIsland, e0]
              rw [if_pos t2, ← ew, if_neg (fun z => absurd (hbi.mpr z) (by decide))]
            · refine pa_if_t (pc' := 173) dX12_islandLine_160 (by decide) (by decide) ?_
              exact fin (N + 1) ls (hbi.mp rfl) (fun z => absurd (hany.mp z) (by decide)) hl0 hl1
          · refine pa_if_f (pc' := 147) dX12_islandLine_144 (by decide) (by decide) rfl ?_
            refine pa_aload_n (pc' := 148) dX12_islandLine_147 hl0 rfl ?_
            refine pa_iconst (v := 3) (pc' := 149) dX12_islandLine_148 (by decide) rfl ?_
            refine pa_aload_n (pc' := 150) dX12_islandLine_149 hl0 rfl ?_
            refine pa_getI (pc' := 153) (n := 39) dX12_islandLine_150 fl_12_81 s196 (by decide) a4 rfl ?_
            refine pa_callv (pc' := 156) (vs := [.inl 3, .inl (nI (tS y n q0))]) (rest := []) dX12_islandLine_153 ml_12_127 (by decide) rfl rfl rfl (fun d' _ => m_wrong hx1 hf1 rfl) (fun v g2 hq => ?_)
            obtain ⟨er, hq⟩ := hq
            subst er; subst hq
            refine pa_goto (pc' := 173) dX12_islandLine_156 (by decide) ?_
            refine endW (N + 1) ls 3 ?_ hl0
            obtain ⟨i, hi, ei⟩ := hci.mp rfl
            have ok : okSong A.1 w = true := by rw [← ei]; exact (hI.2.2.2.2.2.1 i hi).1
            simp only [sIsland, e0]
            rw [if_pos t2, ← ew, if_pos ok, if_pos (hany.mpr rfl)]
        · have cd := zi_lt (zk_ge_lt cd)
          rw [nI_toInt (by omega), nI_toInt (by omega)] at cd
          have nxt : ∀ (c' : Int32), (c' = 0 ∨ c' = 1) → (c' = 1 ↔ ∃ i, i < j + 1 ∧ A.2.2.1 i = w) → zPn (N + 1) none d mX12_islandLine (136, ls, [.inl c'], g1) (lnM R0 y n (sIsland y n A p)) := by
            intro c' d1 d2
            refine pa_istore_n (pc' := 137) dX12_islandLine_136 (by decide) rfl rfl ?_
            refine pa_iinc (pc' := 140) (v := nI (j + 1)) dX12_islandLine_137 (zget_s1 hl4 (by decide) (by simp [zcat])) (by decide) (nI_add j 1) rfl rfl ?_
            refine pa_gotos (pc' := 112) dX12_islandLine_140 (by decide) ?_
            exact ih (j + 1) b c' _ (by omega) hb hbi d1 d2 (zget_s1 (zget_s1 hl0 (by decide) (by simp [zcat])) (by decide) (by simp [zcat])) (zget_s1 (zget_s1 hl1 (by decide) (by simp [zcat])) (by decide) (by simp [zcat])) (zget_s1 (zget_s1 hl2 (by decide) (by simp [zcat])) (by decide) (by simp [zcat])) (zget_s1 zget_s1e (by decide) (by simp [zcat])) zget_s1e
          have one : (∃ i, i < j + 1 ∧ A.2.2.1 i = w) → zPn (N + 1) none d mX12_islandLine (131, ls, [], g1) (lnM R0 y n (sIsland y n A p)) := by
            intro z
            refine pa_iconst (v := 1) (pc' := 132) dX12_islandLine_131 (by decide) rfl ?_
            refine pa_goto (pc' := 136) dX12_islandLine_132 (by decide) ?_
            exact nxt 1 (.inr rfl) ⟨fun _ => z, fun _ => rfl⟩
          refine pa_iload_n (pc' := 119) dX12_islandLine_118 hl3 rfl ?_
          rcases hc with rfl | rfl
          · refine pa_if_f (pc' := 122) dX12_islandLine_119 (by decide) (by decide) rfl ?_
            refine pa_aload_n (pc' := 123) dX12_islandLine_122 hl0 rfl ?_
            refine pa_iload (pc' := 125) dX12_islandLine_123 hl4 rfl ?_
            refine pa_callv (pc' := 128) (vs := [.inl (nI j)]) (rest := []) dX12_islandLine_125 ml_12_227 (by decide) rfl rfl rfl (fun d' _ => M_isSong hI K1 t2 (by omega)) (fun v g2 hq => ?_)
            obtain ⟨eg, hq⟩ := hq
            subst eg
            rw [← ew] at hq
            rcases hq with ⟨er, z⟩ | ⟨er, z⟩ <;> subst er
            · exact pa_if_f (x := 1) (pc' := 131) dX12_islandLine_128 (by decide) (by decide) rfl (one ⟨j, by omega, z⟩)
            · refine pa_if_t (x := 0) (pc' := 135) dX12_islandLine_128 (by decide) (by decide) ?_
              refine pa_iconst (v := 0) (pc' := 136) dX12_islandLine_135 (by decide) rfl ?_
              refine nxt 0 (.inl rfl) ⟨fun u => absurd u (by decide), fun ⟨i, hi, u⟩ => hci.mpr ⟨i, ?_, u⟩⟩
              rcases Nat.lt_or_ge i j with v | v
              · exact v
              · have : i = j := by omega
                subst this
                exact absurd u z
          · refine pa_if_t (pc' := 131) dX12_islandLine_119 (by decide) (by decide) ?_
            obtain ⟨i, hi, u⟩ := hci.mp rfl
            exact one ⟨i, by omega, u⟩
    have isL : ∀ (N k : Nat) (b : Int32) (ls : zL), k ≤ w.length → (b = 0 ∨ b = 1) → (b = 1 ↔ (2 ≤ w.length ∧ w.length ≤ 6 ∧ ∀ j, j < k → w.getD j 0 - 97 < A.1)) → zget ls 0 = some (.inr (.inr (some 196))) → zget ls 1 = some (.inl (nI (cI A))) → zget ls 2 = some (.inl b) → zget ls 3 = some (.inl (nI k)) → zPn N none d mX12_islandLine (65, ls, [], g1) (lnM R0 y n (sIsland y n A p)) := by
      intro N
      induction N with
      | zero => intro k b ls _ _ _ _ _ _ _; exact zPn.zero
      | succ N ih =>
        intro k b ls hk hb hbi hl0 hl1 hl2 hl3
        refine pa_iload_n (pc' := 66) dX12_islandLine_65 hl3 rfl ?_
        refine pa_aload_n (pc' := 67) dX12_islandLine_66 hl0 rfl ?_
        refine pa_getI (pc' := 70) (n := 39) dX12_islandLine_67 fl_12_84 s196 (by decide) k8 rfl ?_
        refine pa_icmp (pc' := 107) (pc2 := 73) dX12_islandLine_70 (by decide) rfl (fun cd => ?_) (fun cd => ?_)
        · have cd := zi_nlt (zk_ge_lt cd)
          rw [nI_toInt (by omega), nI_toInt (by omega)] at cd
          have ek : k = w.length := by omega
          subst ek
          refine pa_iconst (v := 0) (pc' := 108) dX12_islandLine_107 (by decide) rfl ?_
          refine pa_istore_n (pc' := 109) dX12_islandLine_108 (by decide) rfl rfl ?_
          refine pa_iconst (v := nI 0) (pc' := 110) dX12_islandLine_109 (by decide) rfl ?_
          refine pa_istore (pc' := 112) dX12_islandLine_110 (by decide) rfl rfl ?_
          exact told (N + 1) 0 b 0 _ (Nat.zero_le _) hb (hbi.trans (okw 0 (Nat.zero_le _)).symm) (.inl rfl) ⟨fun z => absurd z (by decide), fun ⟨i, hi, _⟩ => absurd hi (Nat.not_lt_zero i)⟩ (zget_s1 (zget_s1 hl0 (by decide) (by simp [zcat])) (by decide) (by simp [zcat])) (zget_s1 (zget_s1 hl1 (by decide) (by simp [zcat])) (by decide) (by simp [zcat])) (zget_s1 (zget_s1 hl2 (by decide) (by simp [zcat])) (by decide) (by simp [zcat])) (zget_s1 zget_s1e (by decide) (by simp [zcat])) zget_s1e
        · have cd := zi_lt (zk_ge_lt cd)
          rw [nI_toInt (by omega), nI_toInt (by omega)] at cd
          have nxt : ∀ (b' : Int32), (b' = 0 ∨ b' = 1) → (b' = 1 ↔ (2 ≤ w.length ∧ w.length ≤ 6 ∧ ∀ j, j < k + 1 → w.getD j 0 - 97 < A.1)) → zPn (N + 1) none d mX12_islandLine (100, ls, [.inl b'], g1) (lnM R0 y n (sIsland y n A p)) := by
            intro b' d1 d2
            refine pa_istore_n (pc' := 101) dX12_islandLine_100 (by decide) rfl rfl ?_
            refine pa_iinc (pc' := 104) (v := nI (k + 1)) dX12_islandLine_101 (zget_s1 hl3 (by decide) (by simp [zcat])) (by decide) (nI_add k 1) rfl rfl ?_
            refine pa_gotos (pc' := 65) dX12_islandLine_104 (by decide) ?_
            exact ih (k + 1) b' _ (by omega) d1 d2 (zget_s1 (zget_s1 hl0 (by decide) (by simp [zcat])) (by decide) (by simp [zcat])) (zget_s1 (zget_s1 hl1 (by decide) (by simp [zcat])) (by decide) (by simp [zcat])) (zget_s1 zget_s1e (by decide) (by simp [zcat])) zget_s1e
          have zero : ¬ (2 ≤ w.length ∧ w.length ≤ 6 ∧ ∀ j, j < k + 1 → w.getD j 0 - 97 < A.1) → zPn (N + 1) none d mX12_islandLine (99, ls, [], g1) (lnM R0 y n (sIsland y n A p)) := by
            intro z
            refine pa_iconst (v := 0) (pc' := 100) dX12_islandLine_99 (by decide) rfl ?_
            exact nxt 0 (.inl rfl) ⟨fun u => absurd u (by decide), fun u => absurd u z⟩
          refine pa_iload_n (pc' := 74) dX12_islandLine_73 hl2 rfl ?_
          rcases hb with rfl | rfl
          · refine pa_if_t (pc' := 99) dX12_islandLine_74 (by decide) (by decide) ?_
            exact zero (fun z => absurd (hbi.mpr ⟨z.1, z.2.1, fun j hj => z.2.2 j (by omega)⟩) (by decide))
          · refine pa_if_f (pc' := 77) dX12_islandLine_74 (by decide) (by decide) rfl ?_
            obtain ⟨c1, c2, c3⟩ := hbi.mp rfl
            refine pa_aload_n (pc' := 78) dX12_islandLine_77 hl0 rfl ?_
            refine pa_getR (pc' := 81) (n := 39) (r := 198) dX12_islandLine_78 fl_12_17 s196 (by decide) r196_12 rfl ?_
            refine pa_iload_n (pc' := 82) dX12_islandLine_81 hl3 rfl ?_
            refine pa_iald (pc' := 83) (n := 8) dX12_islandLine_82 s198 rfl (fun _ => ?_)
            rw [nI_clamp (by omega), kw k (by omega)]
            refine pa_bipush (v := 97) (pc' := 85) dX12_islandLine_83 (by decide) rfl ?_
            refine pa_isub (pc' := 86) dX12_islandLine_85 rfl rfl ?_
            refine pa_aload_n (pc' := 87) dX12_islandLine_86 hl0 rfl ?_
            refine pa_getR (pc' := 90) (n := 39) (r := 200) dX12_islandLine_87 fl_12_23 s196 (by decide) r196_16 rfl ?_
            refine pa_iconst (v := nI 0) (pc' := 91) dX12_islandLine_90 (by decide) rfl ?_
            refine pa_iald (pc' := 92) (n := 363) dX12_islandLine_91 s200 rfl (fun _ => ?_)
            rw [nI_clamp (by omega), f0]
            refine pa_icmp (pc' := 99) (pc2 := 95) dX12_islandLine_92 (by decide) rfl (fun cd4 => ?_) (fun cd4 => ?_)
            · have cd4 := zi_nlt (zk_ge_lt cd4)
              exact zero (fun z => by have := Int32.lt_iff_toInt_lt.mp (z.2.2 k (by omega)); omega)
            · have cd4 := zi_lt (zk_ge_lt cd4)
              refine pa_iconst (v := 1) (pc' := 96) dX12_islandLine_95 (by decide) rfl ?_
              refine pa_goto (pc' := 100) dX12_islandLine_96 (by decide) ?_
              refine nxt 1 (.inr rfl) ⟨fun _ => ⟨c1, c2, fun j hj => ?_⟩, fun _ => rfl⟩
              rcases Nat.lt_or_ge j k with z | z
              · exact c3 j z
              · have : j = k := by omega
                subst this
                exact Int32.lt_iff_toInt_lt.mpr cd4
    refine pa_aload_n (pc' := 53) dX12_islandLine_52 rfl rfl ?_
    refine pa_getI (pc' := 56) (n := 39) dX12_islandLine_53 fl_12_84 s196 (by decide) k8 rfl ?_
    refine pa_iconst (v := 2) (pc' := 57) dX12_islandLine_56 (by decide) rfl ?_
    refine pa_bipush (v := 6) (pc' := 59) dX12_islandLine_57 (by decide) rfl ?_
    refine pa_calls (pc' := 62) (kd := 1) (vs := [.inl (nI w.length), .inl 2, .inl 6]) (rest := []) dX12_islandLine_59 ml_12_149 (.inl rfl) rfl rfl rfl (fun d' _ => in_ex2) (fun r g2 hq => ?_)
    obtain ⟨eg, hq⟩ := hq
    subst eg
    have hin : (2 ≤ nI w.length ∧ nI w.length ≤ 6) ↔ (2 ≤ w.length ∧ w.length ≤ 6) := by
      rw [Int32.le_iff_toInt_le, Int32.le_iff_toInt_le, nI_toInt (by omega), show (2 : Int32).toInt = 2 by decide, show (6 : Int32).toInt = 6 by decide]
      omega
    rcases hq with ⟨er, c1⟩ | ⟨er, c1⟩ <;> subst er
    · refine pa_istore_n (pc' := 63) (v := 1) (ls' := [(2, .inl 1), (1, .inl (nI (cI A))), (0, .inr (.inr (some 196)))]) (st := []) dX12_islandLine_62 (by decide) rfl rfl ?_
      refine pa_iconst (v := nI 0) (pc' := 64) dX12_islandLine_63 (by decide) rfl ?_
      refine pa_istore_n (pc' := 65) dX12_islandLine_64 (by decide) rfl rfl ?_
      exact isL N 0 1 _ (Nat.zero_le _) (.inr rfl) ⟨fun _ => ⟨(hin.mp c1).1, (hin.mp c1).2, fun j hj => absurd hj (Nat.not_lt_zero j)⟩, fun _ => rfl⟩ rfl rfl rfl rfl
    · refine pa_istore_n (pc' := 63) (v := 0) (ls' := [(2, .inl 0), (1, .inl (nI (cI A))), (0, .inr (.inr (some 196)))]) (st := []) dX12_islandLine_62 (by decide) rfl rfl ?_
      refine pa_iconst (v := nI 0) (pc' := 64) dX12_islandLine_63 (by decide) rfl ?_
      refine pa_istore_n (pc' := 65) dX12_islandLine_64 (by decide) rfl rfl ?_
      exact isL N 0 0 _ (Nat.zero_le _) (.inl rfl) ⟨fun z => absurd z (by decide), fun z => absurd (hin.mpr ⟨z.1, z.2.1⟩) c1⟩ rfl rfl rfl rfl
end MDD
