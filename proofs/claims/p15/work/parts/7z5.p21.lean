section Pk0
/-! the reference: islands -/
section MDD
variable {R0 : Nat → Nat → Int32} {y : Nat → Int32} {n d N p q k s : Nat} {h h' g : zH} {A : pA} {nm : Nat → List Int32} {e : sF} {r : sF ⊕ Nat}
theorem sub97 {a b : Int32} : a - 97 = b - 97 ↔ a = b := by
  refine ⟨fun e => ?_, fun e => by rw [e]⟩
  have := congrArg (fun z => z + 97) e
  simpa [Int32.sub_add_cancel] using this
theorem M_isSong {j : Nat} (hI : pI A) (K : mS R0 y n A nm q g) (t2 : tT y n q = 2) (hj : j < cI A) : zPa d mX12_isSong [.inr (.inr (some 196)), .inl (nI j)] g (fun v h' => h' = g ∧ ((v = some (.inl 1) ∧ A.2.2.1 j = tW y n q) ∨ (v = some (.inl 0) ∧ A.2.2.1 j ≠ tW y n q))) := by
  intro N
  obtain ⟨b1, b2, b3, b4, b5⟩ := hI.2.2.1
  obtain ⟨⟨hx, hp, k4, k5, k6, k8, k7⟩, hf, K3, K4⟩ := K
  obtain ⟨k8, kl⟩ := k8 t2
  obtain ⟨w1, w2, w3⟩ := tW_ok hp t2
  have el : (tW y n q).length = tE y n q - tS y n q := seg_len
  have kw : ∀ j, j < (tW y n q).length → g.2.1 198 j = (tW y n q).getD j 0 := fun j hj => by
    rw [kl j (by omega)]
    unfold tW
    rw [seg_get (by omega)]
  rw [← el] at k8
  have s196 := hx.sh sh_196
  have s198 := hx.sh sh_198
  have s200 := hx.sh sh_200
  have r196_12 := hx.2.1 _ _ _ rf_196_12
  have r196_16 := hx.2.1 _ _ _ rf_196_16
  obtain ⟨f1, f2⟩ := K3.2.2.2.2.2.2.2.1 j hj
  have l6 := song6 hI hj
  generalize tW y n q = w at *
  show zPn N none d mX12_isSong (0, [(0, .inr (.inr (some 196))), (1, .inl (nI j))], [], g) _
  refine pa_bipush (v := nI 10) (pc' := 2) dX12_isSong_0 (by decide) rfl ?_
  refine pa_bipush (v := nI 7) (pc' := 4) dX12_isSong_2 (by decide) rfl ?_
  refine pa_iload_n (pc' := 5) dX12_isSong_4 rfl rfl ?_
  refine pa_imul (pc' := 6) (v := nI (7 * j)) dX12_isSong_5 (nI_mul _ _) rfl ?_
  refine pa_iadd (pc' := 7) (v := nI (10 + 7 * j)) dX12_isSong_6 (nI_add _ _) rfl ?_
  refine pa_istore_n (pc' := 8) (ls' := [(2, .inl (nI (10 + 7 * j))), (0, .inr (.inr (some 196))), (1, .inl (nI j))]) dX12_isSong_7 (by decide) rfl rfl ?_
  refine pa_aload_n (pc' := 9) dX12_isSong_8 rfl rfl ?_
  refine pa_getR (pc' := 12) (n := 39) (r := 200) dX12_isSong_9 fl_12_23 s196 (by decide) r196_16 rfl ?_
  refine pa_iload_n (pc' := 13) dX12_isSong_12 rfl rfl ?_
  refine pa_iald (pc' := 14) (n := 363) dX12_isSong_13 s200 rfl (fun _ => ?_)
  rw [nI_clamp (by omega), f1]
  refine pa_aload_n (pc' := 15) dX12_isSong_14 rfl rfl ?_
  refine pa_getI (pc' := 18) (n := 39) dX12_isSong_15 fl_12_84 s196 (by decide) k8 rfl ?_
  have loop : ∀ (N k : Nat) (b : Int32) (ls : zL), (b = 0 ∨ b = 1) → (b = 1 → (A.2.2.1 j).length = w.length ∧ ∀ i, i < k → (A.2.2.1 j).getD i 0 = w.getD i 0) → (b = 0 → A.2.2.1 j ≠ w) → k ≤ w.length → zget ls 0 = some (.inr (.inr (some 196))) → zget ls 2 = some (.inl (nI (10 + 7 * j))) → zget ls 3 = some (.inl b) → zget ls 4 = some (.inl (nI k)) → zPn N none d mX12_isSong (30, ls, [], g) (fun v h' => h' = g ∧ ((v = some (.inl 1) ∧ A.2.2.1 j = w) ∨ (v = some (.inl 0) ∧ A.2.2.1 j ≠ w))) := by
    intro N
    induction N with
    | zero => intro k b ls _ _ _ _ _ _ _ _; exact zPn.zero
    | succ N ih =>
      intro k b ls hb hb1 hb0 hk hl0 hl2 hl3 hl4
      refine pa_iload (pc' := 32) dX12_isSong_30 hl4 rfl ?_
      refine pa_aload_n (pc' := 33) dX12_isSong_32 hl0 rfl ?_
      refine pa_getI (pc' := 36) (n := 39) dX12_isSong_33 fl_12_84 s196 (by decide) k8 rfl ?_
      refine pa_icmp (pc' := 79) (pc2 := 39) dX12_isSong_36 (by decide) rfl (fun cd => ?_) (fun cd => ?_)
      · have cd := zi_nlt (zk_ge_lt cd)
        rw [nI_toInt (by omega), nI_toInt (by omega)] at cd
        refine pa_iload_n (pc' := 80) dX12_isSong_79 hl3 rfl ?_
        rcases hb with rfl | rfl
        · exact pa_iret dX12_isSong_80 rfl rfl ⟨rfl, .inr ⟨rfl, hb0 rfl⟩⟩
        · obtain ⟨c1, c2⟩ := hb1 rfl
          exact pa_iret dX12_isSong_80 rfl rfl ⟨rfl, .inl ⟨rfl, list_get c1 (fun i hi => c2 i (by omega))⟩⟩
      · have cd := zi_lt (zk_ge_lt cd)
        rw [nI_toInt (by omega), nI_toInt (by omega)] at cd
        refine pa_iload_n (pc' := 40) dX12_isSong_39 hl3 rfl ?_
        rcases hb with rfl | rfl
        · refine pa_if_t (pc' := 79) dX12_isSong_40 (by decide) (by decide) ?_
          refine pa_iload_n (pc' := 80) dX12_isSong_79 hl3 rfl ?_
          exact pa_iret dX12_isSong_80 rfl rfl ⟨rfl, .inr ⟨rfl, hb0 rfl⟩⟩
        · refine pa_if_f (pc' := 43) dX12_isSong_40 (by decide) (by decide) rfl ?_
          obtain ⟨c1, c2⟩ := hb1 rfl
          refine pa_aload_n (pc' := 44) dX12_isSong_43 hl0 rfl ?_
          refine pa_getR (pc' := 47) (n := 39) (r := 200) dX12_isSong_44 fl_12_23 s196 (by decide) r196_16 rfl ?_
          refine pa_iload_n (pc' := 48) dX12_isSong_47 hl2 rfl ?_
          refine pa_iconst (v := nI 1) (pc' := 49) dX12_isSong_48 (by decide) rfl ?_
          refine pa_iadd (pc' := 50) (v := nI (10 + 7 * j + 1)) dX12_isSong_49 (nI_add _ _) rfl ?_
          refine pa_iload (pc' := 52) dX12_isSong_50 hl4 rfl ?_
          refine pa_iadd (pc' := 53) (v := nI (10 + 7 * j + 1 + k)) dX12_isSong_52 (nI_add _ _) rfl ?_
          refine pa_iald (pc' := 54) (n := 363) dX12_isSong_53 s200 rfl (fun _ => ?_)
          rw [nI_clamp (by omega), f2 k (by omega)]
          refine pa_aload_n (pc' := 55) dX12_isSong_54 hl0 rfl ?_
          refine pa_getR (pc' := 58) (n := 39) (r := 198) dX12_isSong_55 fl_12_17 s196 (by decide) r196_12 rfl ?_
          refine pa_iload (pc' := 60) dX12_isSong_58 hl4 rfl ?_
          refine pa_iald (pc' := 61) (n := 8) dX12_isSong_60 s198 rfl (fun _ => ?_)
          rw [nI_clamp (by omega), kw k (by omega)]
          refine pa_bipush (v := 97) (pc' := 63) dX12_isSong_61 (by decide) rfl ?_
          refine pa_isub (pc' := 64) dX12_isSong_63 rfl rfl ?_
          have nxt : ∀ (b' : Int32), (b' = 0 ∨ b' = 1) → (b' = 1 → (A.2.2.1 j).length = w.length ∧ ∀ i, i < k + 1 → (A.2.2.1 j).getD i 0 = w.getD i 0) → (b' = 0 → A.2.2.1 j ≠ w) → zPn (N + 1) none d mX12_isSong (72, ls, [.inl b'], g) (fun v h' => h' = g ∧ ((v = some (.inl 1) ∧ A.2.2.1 j = w) ∨ (v = some (.inl 0) ∧ A.2.2.1 j ≠ w))) := by
            intro b' d1 d2 d3
            refine pa_istore_n (pc' := 73) dX12_isSong_72 (by decide) rfl rfl ?_
            refine pa_iinc (pc' := 76) (v := nI (k + 1)) dX12_isSong_73 (zget_s1 hl4 (by decide) (by simp [zcat])) (by decide) (nI_add k 1) rfl rfl ?_
            refine pa_gotos (pc' := 30) dX12_isSong_76 (by decide) ?_
            exact ih (k + 1) b' _ d1 d2 d3 (by omega) (zget_s1 (zget_s1 hl0 (by decide) (by simp [zcat])) (by decide) (by simp [zcat])) (zget_s1 (zget_s1 hl2 (by decide) (by simp [zcat])) (by decide) (by simp [zcat])) (zget_s1 zget_s1e (by decide) (by simp [zcat])) zget_s1e
          refine pa_icmp (pc' := 71) (pc2 := 67) dX12_isSong_64 (by decide) rfl (fun cd4 => ?_) (fun cd4 => ?_)
          · have cd4 : ¬ (A.2.2.1 j).getD k 0 - 97 = w.getD k 0 - 97 := by simpa [zcond] using cd4
            refine pa_iconst (v := 0) (pc' := 72) dX12_isSong_71 (by decide) rfl ?_
            exact nxt 0 (.inl rfl) (fun z => absurd z (by decide)) (fun _ z => cd4 (by rw [z]))
          · have cd4 : (A.2.2.1 j).getD k 0 - 97 = w.getD k 0 - 97 := by simpa [zcond] using cd4
            rw [sub97] at cd4
            refine pa_iconst (v := 1) (pc' := 68) dX12_isSong_67 (by decide) rfl ?_
            refine pa_goto (pc' := 72) dX12_isSong_68 (by decide) ?_
            refine nxt 1 (.inr rfl) (fun _ => ⟨c1, fun i hi => ?_⟩) (fun z => absurd z (by decide))
            rcases Nat.lt_or_ge i k with z | z
            · exact c2 i z
            · have : i = k := by omega
              subst this
              exact cd4
  refine pa_icmp (pc' := 25) (pc2 := 21) dX12_isSong_18 (by decide) rfl (fun cd => ?_) (fun cd => ?_)
  · have cd : ¬ nI (A.2.2.1 j).length = nI w.length := by simpa [zcond] using cd
    refine pa_iconst (v := 0) (pc' := 26) dX12_isSong_25 (by decide) rfl ?_
    refine pa_istore_n (pc' := 27) dX12_isSong_26 (by decide) rfl rfl ?_
    refine pa_iconst (v := nI 0) (pc' := 28) dX12_isSong_27 (by decide) rfl ?_
    refine pa_istore (pc' := 30) dX12_isSong_28 (by decide) rfl rfl ?_
    exact loop N 0 0 _ (.inl rfl) (fun z => absurd z (by decide)) (fun _ z => cd (by rw [z])) (Nat.zero_le _) rfl rfl rfl rfl
  · have cd : nI (A.2.2.1 j).length = nI w.length := by simpa [zcond] using cd
    rw [nI_ne (by omega) (by omega)] at cd
    refine pa_iconst (v := 1) (pc' := 22) dX12_isSong_21 (by decide) rfl ?_
    refine pa_goto (pc' := 26) dX12_isSong_22 (by decide) ?_
    refine pa_istore_n (pc' := 27) dX12_isSong_26 (by decide) rfl rfl ?_
    refine pa_iconst (v := nI 0) (pc' := 28) dX12_isSong_27 (by decide) rfl ?_
    refine pa_istore (pc' := 30) dX12_isSong_28 (by decide) rfl rfl ?_
    exact loop N 0 1 _ (.inr rfl) (fun _ => ⟨cd, fun i hi => absurd hi (Nat.not_lt_zero i)⟩) (fun z => absurd z (by decide)) (Nat.zero_le _) rfl rfl rfl rfl
theorem rmC.landed {w : List Int32} (hI : pI A) (K : rmC A h) (hi7 : cI A < 7) (hl : w.length ≤ 6) (f1 : h.2.1 200 (10 + 7 * cI A) = nI w.length) (f2 : ∀ k, k < w.length → h.2.1 200 (10 + 7 * cI A + 1 + k) = w.getD k 0 - 97) : rmC (A.1, nm, upA A.2.2.1 (cI A) w, A.2.2.2.1, A.2.2.2.2.1, cI A + 1, cW A, cH A, cB A, cS A) (zsI h 200 4 (nI (cI A + 1))) := by
  obtain ⟨k1, k2, k3, k4, k5, k6, k7, k8, k9, k10, k11⟩ := K
  refine ⟨by rw [zsI_no (by omega)]; exact k1, fun z => by rw [zsI_no (by omega)]; exact k2 z, zsI_eq, by rw [zsI_no (by omega)]; exact k4, by rw [zsI_no (by omega)]; exact k5, by rw [zsI_no (by omega)]; exact k6, by rw [zsI_no (by omega)]; exact k7, fun i hi => ?_, fun i hi => ?_, fun i hi => ?_, ((k11.cnt (k := 4) (by decide) (by decide) hI).mono (fun j ok => ok.up id (Nat.le_refl _) (Nat.le_refl _) (Nat.le_refl _) (Nat.le_refl _))).isl (by omega)⟩
  · have hi : i < cI A + 1 := hi
    show (zsI h 200 4 _).2.1 200 (10 + 7 * i) = nI (upA A.2.2.1 (cI A) w i).length ∧ ∀ k, k < (upA A.2.2.1 (cI A) w i).length → (zsI h 200 4 _).2.1 200 (10 + 7 * i + 1 + k) = (upA A.2.2.1 (cI A) w i).getD k 0 - 97
    rw [upA_at]
    split
    · next z => subst z; exact ⟨(zsI_no (by omega)).trans f1, fun k hk => (zsI_no (by omega)).trans (f2 k hk)⟩
    · exact ⟨(zsI_no (by omega)).trans (k8 i (by omega)).1, fun k hk => (zsI_no (by omega)).trans ((k8 i (by omega)).2 k hk)⟩
  · exact ⟨(zsI_no (by omega)).trans (k9 i hi).1, (zsI_no (by omega)).trans (k9 i hi).2⟩
  · exact ⟨(zsI_no (by omega)).trans (k10 i hi).1, (zsI_no (by omega)).trans (k10 i hi).2⟩
theorem wr_is (hI : pI A) (hi7 : cI A < 7) {t : Nat} (ht : t < 7) : wr2 A (10 + 7 * cI A + t) := by
  obtain ⟨b1, b2, b3, b4, b5⟩ := hI.2.2.1
  exact ⟨by omega, by omega, fun _ => by omega, fun i hi => by omega, fun i hi => by omega, fun i hi => by omega, fun i _ ok => by unfold okX at ok; omega⟩
set_option maxRecDepth 8000 in
theorem M_island (hI : pI A) (h1 : A.1 ≠ 0) (hi7 : cI A < 7) (K : mS R0 y n A A.2.1 p h) : zPa d mX12_islandLine [.inr (.inr (some 196))] h (lnM R0 y n (sIsland y n A p)) := by
  intro N
  have hx := K.1.1
  have s196 := hx.sh sh_196
  have s200 := hx.sh sh_200
  have r196_16 := hx.2.1 _ _ _ rf_196_16
  have hf := K.2.1
  have k4 := K.2.2.1.2.2.1
  have hn := hI.2.2.2.2.1
  show zPn N none d mX12_islandLine (0, [(0, .inr (.inr (some 196)))], [], h) _
  refine pa_aload_n (pc' := 1) dX12_islandLine_0 rfl rfl ?_
  refine pa_getI (pc' := 4) (n := 39) dX12_islandLine_1 fl_12_100 s196 (by decide) hf rfl ?_
  refine pa_if_t (pc' := 8) dX12_islandLine_4 (by decide) (by decide) ?_
  refine pa_aload_n (pc' := 9) dX12_islandLine_8 rfl rfl ?_
  refine pa_getR (pc' := 12) (n := 39) (r := 200) dX12_islandLine_9 fl_12_23 s196 (by decide) r196_16 rfl ?_
  refine pa_iconst (v := nI 4) (pc' := 13) dX12_islandLine_12 (by decide) rfl ?_
  refine pa_iald (pc' := 14) (n := 363) dX12_islandLine_13 s200 rfl (fun _ => ?_)
  rw [nI_clamp (by omega), k4]
  refine pa_istore_n (pc' := 15) (ls' := [(1, .inl (nI (cI A))), (0, .inr (.inr (some 196)))]) dX12_islandLine_14 (by decide) rfl rfl ?_
  refine pa_aload_n (pc' := 16) dX12_islandLine_15 rfl rfl ?_
  refine pa_iload_n (pc' := 17) dX12_islandLine_16 rfl rfl ?_
  refine pa_callv (pc' := 20) (vs := [.inl (nI (cI A))]) (rest := []) dX12_islandLine_17 ml_12_223 (by decide) rfl rfl rfl (fun d' _ => M_new (r := .inr p) (by omega) hI hn K) (fun v g1 hq => ?_)
  obtain ⟨er, hfr0, K1, hn⟩ := hq.E hn
  subst er
  show zPn N none d mX12_islandLine (20, [(1, .inl (nI (cI A))), (0, .inr (.inr (some 196)))], [], g1) _
  have end44 : ∀ {e : sF} {g : zH}, mF R0 y n e g → sIsland y n A p = .inl e → zPn N none d mX12_islandLine (44, [(1, .inl (nI (cI A))), (0, .inr (.inr (some 196)))], [], g) (lnM R0 y n (sIsland y n A p)) := by
    intro e g hF he
    have s196 := hF.1.sh sh_196
    have hf := hF.2.1
    refine pa_aload_n (pc' := 45) dX12_islandLine_44 rfl rfl ?_
    refine pa_getI (pc' := 48) (n := 39) dX12_islandLine_45 fl_12_100 s196 (by decide) hf rfl ?_
    refine pa_if_f (pc' := 51) dX12_islandLine_48 (by decide) (by decide) rfl ?_
    refine pa_vret dX12_islandLine_51 rfl ⟨rfl, ?_⟩
    rw [he]
    exact hF
  clear hq hfr0
  cases e0 : sNew y n A.2.1 p with
  | inl e =>
    have hF : mF R0 y n e g1 := by simp only [e0] at K1; exact K1
    have s196 := hF.1.sh sh_196
    have hf := hF.2.1
    refine pa_aload_n (pc' := 21) dX12_islandLine_20 rfl rfl ?_
    refine pa_getI (pc' := 24) (n := 39) dX12_islandLine_21 fl_12_100 s196 (by decide) hf rfl ?_
    refine pa_if_t (pc' := 44) dX12_islandLine_24 (by decide) (by decide) ?_
    exact end44 hF (by simp only [sIsland, e0])
  | inr q0 =>
    simp only [e0, nmX] at K1 hn
    have K1 : mS R0 y n A (upA A.2.1 (cI A) (tW y n p)) q0 g1 := K1
    have hx1 := K1.1.1
    have hf1 := K1.2.1
    have hq0 := K1.1.2.1
    have a4 := K1.1.2.2.1
    have a6 := K1.1.2.2.2.2.1
    have s196 := hx1.sh sh_196
    have s198 := hx1.sh sh_198
    have s200 := hx1.sh sh_200
    have r196_12 := hx1.2.1 _ _ _ rf_196_12
    have r196_16 := hx1.2.1 _ _ _ rf_196_16
    refine pa_aload_n (pc' := 21) dX12_islandLine_20 rfl rfl ?_
    refine pa_getI (pc' := 24) (n := 39) dX12_islandLine_21 fl_12_100 s196 (by decide) hf1 rfl ?_
    refine pa_if_f (pc' := 27) dX12_islandLine_24 (by decide) (by decide) rfl ?_
    refine pa_aload_n (pc' := 28) dX12_islandLine_27 rfl rfl ?_
    refine pa_getI (pc' := 31) (n := 39) dX12_islandLine_28 fl_12_90 s196 (by decide) a6 rfl ?_
    refine pa_iconst (v := 2) (pc' := 32) dX12_islandLine_31 (by decide) rfl ?_
    refine pa_icmp (pc' := 44) (pc2 := 35) dX12_islandLine_32 (by decide) rfl (fun cd => ?_) (fun cd => ?_)
    rotate_left
    · have t2 : ¬ tT y n q0 = 2 := by simpa [zcond] using cd
      refine pa_aload_n (pc' := 36) dX12_islandLine_35 rfl rfl ?_
      refine pa_iconst (v := 1) (pc' := 37) dX12_islandLine_36 (by decide) rfl ?_
      refine pa_aload_n (pc' := 38) dX12_islandLine_37 rfl rfl ?_
      refine pa_getI (pc' := 41) (n := 39) dX12_islandLine_38 fl_12_81 s196 (by decide) a4 rfl ?_
      refine pa_callv (pc' := 44) (vs := [.inl 1, .inl (nI (tS y n q0))]) (rest := []) dX12_islandLine_41 ml_12_127 (by decide) rfl rfl rfl (fun d' _ => m_wrong hx1 hf1 rfl) (fun v g2 hq => ?_)
      obtain ⟨er, hq⟩ := hq
      subst er; subst hq
      exact end44 (wrg_mF hx1) (by simp only [sIsland, e0]; rw [if_neg t2])
    have t2 : tT y n q0 = 2 := by simpa [zcond] using cd
    obtain ⟨k8, kl⟩ := K1.1.2.2.2.2.2.1 t2
    obtain ⟨w1, w2, w3⟩ := tW_ok hq0 t2
    have el : (tW y n q0).length = tE y n q0 - tS y n q0 := seg_len
    have kw : ∀ j, j < (tW y n q0).length → g1.2.1 198 j = (tW y n q0).getD j 0 := fun j hj => by
      rw [kl j (by omega)]
      unfold tW
      rw [seg_get (by omega)]
    rw [← el] at k8
    have f0 : g1.2.1 200 0 = A.1 := K1.2.2.1.2.1 h1
    refine pa_aload_n (pc' := 45) dX12_islandLine_44 rfl rfl ?_
    refine pa_getI (pc' := 48) (n := 39) dX12_islandLine_45 fl_12_100 s196 (by decide) hf1 rfl ?_
    refine pa_if_t (pc' := 52) dX12_islandLine_48 (by decide) (by decide) ?_
    obtain ⟨w, ew⟩ : ∃ w, w = tW y n q0 := ⟨_, rfl⟩
    rw [← ew] at k8 kw w1 w2 w3
    have okw : ∀ m, m ≤ w.length → (okSong A.1 w = true ↔ (2 ≤ w.length ∧ w.length ≤ 6 ∧ ∀ k, k < w.length → w.getD k 0 - 97 < A.1)) := by
      intro m _
      unfold okSong
      simp only [Bool.and_eq_true, decide_eq_true_eq, List.all_eq_true]
      constructor
      · rintro ⟨c1, c2, c3⟩
        refine ⟨c1, c2, fun k hk => ?_⟩
        have := c3 (w.getD k 0) (by rw [List.getD_eq_getElem?_getD, List.getElem?_eq_getElem hk]; exact List.getElem_mem hk)
        exact this
      · rintro ⟨c1, c2, c3⟩
        refine ⟨c1, c2, fun b hb => ?_⟩
        obtain ⟨k, hk, e⟩ := List.getElem_of_mem hb
        have := c3 k hk
        rw [List.getD_eq_getElem?_getD, List.getElem?_eq_getElem hk] at this
        rw [← e]
        exact this
    -- the end
    have fin : ∀ (N : Nat) (ls : zL), okSong A.1 w = true → ¬ ((List.range (cI A)).any (fun i => decide (A.2.2.1 i = w)) = true) → zget ls 0 = some (.inr (.inr (some 196))) → zget ls 1 = some (.inl (nI (cI A))) → zPn N none d mX12_islandLine (173, ls, [], g1) (lnM R0 y n (sIsland y n A p)) := by
      intro N ls ok nany hl0 hl1
      obtain ⟨o1, o2, o3⟩ := (okw 0 (Nat.zero_le _)).mp ok
      refine pa_aload_n (pc' := 174) dX12_islandLine_173 hl0 rfl ?_
      refine pa_getI (pc' := 177) (n := 39) dX12_islandLine_174 fl_12_100 s196 (by decide) hf1 rfl ?_
      refine pa_if_t (pc' := 181) dX12_islandLine_177 (by decide) (by decide) ?_
      refine pa_bipush (v := nI 10) (pc' := 183) dX12_islandLine_181 (by decide) rfl ?_
      refine pa_bipush (v := nI 7) (pc' := 185) dX12_islandLine_183 (by decide) rfl ?_
      refine pa_iload_n (pc' := 186) dX12_islandLine_185 hl1 rfl ?_
      refine pa_imul (pc' := 187) (v := nI (7 * cI A)) dX12_islandLine_186 (nI_mul _ _) rfl ?_
      refine pa_iadd (pc' := 188) (v := nI (10 + 7 * cI A)) dX12_islandLine_187 (nI_add _ _) rfl ?_
      refine pa_istore (pc' := 190) (ls' := zset1 ls 4 (.inl (nI (10 + 7 * cI A)))) dX12_islandLine_188 (by decide) rfl rfl ?_
      have hl0 := zget_s1 (v := .inl (nI (10 + 7 * cI A))) (k := 4) hl0 (by decide) (by simp [zcat])
      have hl4 : zget (zset1 ls 4 (.inl (nI (10 + 7 * cI A)))) 4 = some (.inl (nI (10 + 7 * cI A))) := zget_s1e
      generalize zset1 ls 4 (.inl (nI (10 + 7 * cI A))) = ls at hl0 hl4 ⊢
      refine pa_aload_n (pc' := 191) dX12_islandLine_190 hl0 rfl ?_
      refine pa_getR (pc' := 194) (n := 39) (r := 200) dX12_islandLine_191 fl_12_23 s196 (by decide) r196_16 rfl ?_
      refine pa_iload (pc' := 196) dX12_islandLine_194 hl4 rfl ?_
      refine pa_aload_n (pc' := 197) dX12_islandLine_196 hl0 rfl ?_
      refine pa_getI (pc' := 200) (n := 39) dX12_islandLine_197 fl_12_84 s196 (by decide) k8 rfl ?_
      refine pa_iast (pc' := 201) (n := 363) dX12_islandLine_200 s200 rfl (fun _ => ?_)
      rw [nI_clamp (by omega)]
      have K2 : mE R0 y n A (upA A.2.1 (cI A) (tW y n p)) (.inr q0) (zsI g1 200 (10 + 7 * cI A) (nI w.length)) := mE.zs (r := .inr q0) hI K1 (wr_is (t := 0) hI hi7 (by omega))
      have f1 : (zsI g1 200 (10 + 7 * cI A) (nI w.length)).2.1 200 (10 + 7 * cI A) = nI w.length := zsI_eq
      have l198 : ∀ j, (zsI g1 200 (10 + 7 * cI A) (nI w.length)).2.1 198 j = g1.2.1 198 j := fun j => zsI_no (by omega)
      generalize zsI g1 200 (10 + 7 * cI A) (nI w.length) = g2 at K2 f1 l198 ⊢
      have loop : ∀ (N k : Nat) (g : zH) (ls : zL), k ≤ w.length → mE R0 y n A (upA A.2.1 (cI A) (tW y n p)) (.inr q0) g → g.2.1 200 (10 + 7 * cI A) = nI w.length → (∀ j, g.2.1 198 j = g1.2.1 198 j) → (∀ j, j < k → g.2.1 200 (10 + 7 * cI A + 1 + j) = w.getD j 0 - 97) → zget ls 0 = some (.inr (.inr (some 196))) → zget ls 4 = some (.inl (nI (10 + 7 * cI A))) → zget ls 5 = some (.inl (nI k)) → zPn N none d mX12_islandLine (204, ls, [], g) (lnM R0 y n (sIsland y n A p)) := by
        intro N
        induction N with
        | zero => intro k g ls _ _ _ _ _ _ _ _; exact zPn.zero
        | succ N ih =>
          intro k g ls hk K2 f1 l198 f2 hl0 hl4 hl5
          have K2' : mS R0 y n A (upA A.2.1 (cI A) (tW y n p)) q0 g := K2
          have xg := K2'.1.1
          have s196 := xg.sh sh_196
          have s198 := xg.sh sh_198
          have s200 := xg.sh sh_200
          have r196_12 := xg.2.1 _ _ _ rf_196_12
          have r196_16 := xg.2.1 _ _ _ rf_196_16
          have k8g : g.2.1 196 8 = nI w.length := by
            have := (K2'.1.2.2.2.2.2.1 t2).1
            rw [← el, ← ew] at this
            exact this
          refine pa_iload (pc' := 206) dX12_islandLine_204 hl5 rfl ?_
          refine pa_aload_n (pc' := 207) dX12_islandLine_206 hl0 rfl ?_
          refine pa_getI (pc' := 210) (n := 39) dX12_islandLine_207 fl_12_84 s196 (by decide) k8g rfl ?_
          refine pa_icmp (pc' := 241) (pc2 := 213) dX12_islandLine_210 (by decide) rfl (fun cd => ?_) (fun cd => ?_)
          · have cd := zi_nlt (zk_ge_lt cd)
            rw [nI_toInt (by omega), nI_toInt (by omega)] at cd
            have ek : k = w.length := by omega
            subst ek
            refine pa_aload_n (pc' := 242) dX12_islandLine_241 hl0 rfl ?_
            refine pa_callv (pc' := 245) (vs := []) (rest := []) dX12_islandLine_242 ml_12_121 (by decide) rfl rfl rfl (fun d' _ => m_next xg K2'.1.2.2.2.1 (tE_sp hq0).2.1) (fun v g3 hq => ?_)
            obtain ⟨er, hq⟩ := hq
            subst er
            have K3 := K2'.nx hq (tE_sp hq0).2.1
            have row : ∀ j, g3.2.1 200 j = g.2.1 200 j := fun j => nM_fr hq 200 j (by omega) (by omega)
            have k4 := K3.2.2.1.2.2.1
            have s200 := K3.1.1.sh sh_200
            refine pa_aload_n (pc' := 246) dX12_islandLine_245 hl0 rfl ?_
            refine pa_getR (pc' := 249) (n := 39) (r := 200) dX12_islandLine_246 fl_12_23 (K3.1.1.sh sh_196) (by decide) (K3.1.1.2.1 _ _ _ rf_196_16) rfl ?_
            refine pa_iconst (v := nI 4) (pc' := 250) dX12_islandLine_249 (by decide) rfl ?_
            refine pa_dup2 (pc' := 251) dX12_islandLine_250 ⟨rfl, rfl⟩ rfl ?_
            refine pa_iald (pc' := 252) (n := 363) dX12_islandLine_251 s200 rfl (fun _ => ?_)
            rw [nI_clamp (by omega), k4]
            refine pa_iconst (v := nI 1) (pc' := 253) dX12_islandLine_252 (by decide) rfl ?_
            refine pa_iadd (pc' := 254) (v := nI (cI A + 1)) dX12_islandLine_253 (nI_add _ _) rfl ?_
            refine pa_iast (pc' := 255) (n := 363) dX12_islandLine_254 s200 rfl (fun _ => ?_)
            rw [nI_clamp (by omega)]
            refine pa_vret dX12_islandLine_255 rfl ⟨rfl, ?_⟩
            have eS : sIsland y n A p = .inr ((A.1, upA A.2.1 (cI A) (tW y n p), upA A.2.2.1 (cI A) w, A.2.2.2.1, A.2.2.2.2.1, cI A + 1, cW A, cH A, cB A, cS A), tE y n q0) := by
              simp only [sIsland, e0]
              rw [if_pos t2, ← ew, if_pos ok, if_neg nany]
            rw [eS]
            exact ⟨K3.1.zs, by rw [zsI_no (by omega)]; exact K3.2.1, K3.2.2.1.landed hI hi7 o2 ((row _).trans f1) (fun k hk => (row _).trans (f2 k hk)), K3.2.2.2.zs (by omega)⟩
          · have cd := zi_lt (zk_ge_lt cd)
            rw [nI_toInt (by omega), nI_toInt (by omega)] at cd
            refine pa_aload_n (pc' := 214) dX12_islandLine_213 hl0 rfl ?_
            refine pa_getR (pc' := 217) (n := 39) (r := 200) dX12_islandLine_214 fl_12_23 s196 (by decide) r196_16 rfl ?_
            refine pa_iload (pc' := 219) dX12_islandLine_217 hl4 rfl ?_
            refine pa_iconst (v := nI 1) (pc' := 220) dX12_islandLine_219 (by decide) rfl ?_
            refine pa_iadd (pc' := 221) (v := nI (10 + 7 * cI A + 1)) dX12_islandLine_220 (nI_add _ _) rfl ?_
            refine pa_iload (pc' := 223) dX12_islandLine_221 hl5 rfl ?_
            refine pa_iadd (pc' := 224) (v := nI (10 + 7 * cI A + 1 + k)) dX12_islandLine_223 (nI_add _ _) rfl ?_
            refine pa_aload_n (pc' := 225) dX12_islandLine_224 hl0 rfl ?_
            refine pa_getR (pc' := 228) (n := 39) (r := 198) dX12_islandLine_225 fl_12_17 s196 (by decide) r196_12 rfl ?_
            refine pa_iload (pc' := 230) dX12_islandLine_228 hl5 rfl ?_
            refine pa_iald (pc' := 231) (n := 8) dX12_islandLine_230 s198 rfl (fun _ => ?_)
            rw [nI_clamp (by omega), l198, kw k (by omega)]
            refine pa_bipush (v := 97) (pc' := 233) dX12_islandLine_231 (by decide) rfl ?_
            refine pa_isub (pc' := 234) dX12_islandLine_233 rfl rfl ?_
            refine pa_iast (pc' := 235) (n := 363) dX12_islandLine_234 s200 rfl (fun _ => ?_)
            rw [nI_clamp (by omega)]
            refine pa_iinc (pc' := 238) (v := nI (k + 1)) dX12_islandLine_235 hl5 (by decide) (nI_add k 1) rfl rfl ?_
            refine pa_gotos (pc' := 204) dX12_islandLine_238 (by decide) ?_
            refine ih (k + 1) _ _ (by omega) (by
              have := mE.zs (j := 10 + 7 * cI A + 1 + k) (v := w.getD k 0 - 97) hI K2 (by
                have := wr_is (t := 1 + k) hI hi7 (by omega)
                rw [show 10 + 7 * cI A + (1 + k) = 10 + 7 * cI A + 1 + k by omega] at this
                exact this)
              exact this) (by rw [zsI_no (by omega)]; exact f1) (fun j => by rw [zsI_no (by omega)]; exact l198 j) (fun j hj => ?_) (zget_s1 hl0 (by decide) (by simp [zcat])) (zget_s1 hl4 (by decide) (by simp [zcat])) zget_s1e
            by_cases z : j = k
            · subst z
              rw [zsI_eq]
            · rw [zsI_no (by omega)]
              exact f2 j (by omega)
      refine pa_iconst (v := nI 0) (pc' := 202) dX12_islandLine_201 (by decide) rfl ?_
      refine pa_istore (pc' := 204) dX12_islandLine_202 (by decide) rfl rfl ?_
      exact loop N 0 g2 _ (Nat.zero_le _) K2 f1 l198 (fun j hj => absurd hj (Nat.not_lt_zero j)) (zget_s1 hl0 (by decide) (by simp [zcat])) (zget_s1 hl4 (by decide) (by simp [zcat])) zget_s1e
    have endW : ∀ (N : Nat) (ls : zL) (k : Int32), sIsland y n A p = .inl (k, tS y n q0) → zget ls 0 = some (.inr (.inr (some 196))) → zPn N none d mX12_islandLine (173, ls, [], wrg g1 k (tS y n q0)) (lnM R0 y n (sIsland y n A p)) := by
      intro N ls k he hl0
      have hF : mF R0 y n (k, tS y n q0) (wrg g1 k (tS y n q0)) := wrg_mF hx1
      have s196 := hF.1.sh sh_196
      have hf := hF.2.1
      refine pa_aload_n (pc' := 174) dX12_islandLine_173 hl0 rfl ?_
      refine pa_getI (pc' := 177) (n := 39) dX12_islandLine_174 fl_12_100 s196 (by decide) hf rfl ?_
      refine pa_if_f (pc' := 180) dX12_islandLine_177 (by decide) (by decide) rfl ?_
      refine pa_vret dX12_islandLine_180 rfl ⟨rfl, ?_⟩
      rw [he]
      exact hF
    have told : ∀ (N j : Nat) (b c : Int32) (ls : zL), j ≤ cI A → (b = 0 ∨ b = 1) → (b = 1 ↔ okSong A.1 w = true) → (c = 0 ∨ c = 1) → (c = 1 ↔ ∃ i, i < j ∧ A.2.2.1 i = w) → zget ls 0 = some (.inr (.inr (some 196))) → zget ls 1 = some (.inl (nI (cI A))) → zget ls 2 = some (.inl b) → zget ls 3 = some (.inl c) → zget ls 4 = some (.inl (nI j)) → zPn N none d mX12_islandLine (112, ls, [], g1) (lnM R0 y n (sIsland y n A p)) := by
      intro N
      induction N with
      | zero => intro j b c ls _ _ _ _ _ _ _ _ _ _; exact zPn.zero
      | succ N ih =>
        intro j b c ls hj hb hbi hc hci hl0 hl1 hl2 hl3 hl4
        refine pa_iload (pc' := 114) dX12_islandLine_112 hl4 rfl ?_
        refine pa_iload_n (pc' := 115) dX12_islandLine_114 hl1 rfl ?_
        refine pa_icmp (pc' := 143) (pc2 := 118) dX12_islandLine_115 (by decide) rfl (fun cd => ?_) (fun cd => ?_)
        · have cd := zi_nlt (zk_ge_lt cd)
          rw [nI_toInt (by omega), nI_toInt (by omega)] at cd
          have ej : j = cI A := by omega
          subst ej
          have hany : (List.range (cI A)).any (fun i => decide (A.2.2.1 i = w)) = true ↔ c = 1 := by
            rw [hci, List.any_eq_true]
            exact ⟨fun ⟨i, h1, h2⟩ => ⟨i, List.mem_range.mp h1, of_decide_eq_true h2⟩, fun ⟨i, h1, h2⟩ => ⟨i, List.mem_range.mpr h1, decide_eq_true h2⟩⟩
          refine pa_iload_n (pc' := 144) dX12_islandLine_143 hl3 rfl ?_
          rcases hc with rfl | rfl
          · refine pa_if_t (pc' := 159) dX12_islandLine_144 (by decide) (by decide) ?_
            refine pa_iload_n (pc' := 160) dX12_islandLine_159 hl2 rfl ?_
            rcases hb with rfl | rfl
            · refine pa_if_f (pc' := 163) dX12_islandLine_160 (by decide) (by decide) rfl ?_
              refine pa_aload_n (pc' := 164) dX12_islandLine_163 hl0 rfl ?_
              refine pa_bipush (v := 7) (pc' := 166) dX12_islandLine_164 (by decide) rfl ?_
              refine pa_aload_n (pc' := 167) dX12_islandLine_166 hl0 rfl ?_
              refine pa_getI (pc' := 170) (n := 39) dX12_islandLine_167 fl_12_81 s196 (by decide) a4 rfl ?_
              refine pa_callv (pc' := 173) (vs := [.inl 7, .inl (nI (tS y n q0))]) (rest := []) dX12_islandLine_170 ml_12_127 (by decide) rfl rfl rfl (fun d' _ => m_wrong hx1 hf1 rfl) (fun v g2 hq => ?_)
              obtain ⟨er, hq⟩ := hq
              subst er; subst hq
              refine endW (N + 1) ls 7 ?_ hl0
              simp only [sIsland, e0]
              rw [if_pos t2, ← ew, if_neg (fun z => absurd (hbi.mpr z) (by decide))]
            · refine pa_if_t (pc' := 173) dX12_islandLine_160 (by decide) (by decide) ?_
              exact fin (N + 1) ls (hbi.mp rfl) (fun z => absurd (hany.mp z) (by decide)) hl0 hl1
          · refine pa_if_f (pc' := 147) dX12_islandLine_144 (by decide) (by decide) rfl ?_
            refine pa_aload_n (pc' := 148) dX12_islandLine_147 hl0 rfl ?_
            refine pa_iconst (v := 3) (pc' := 149) dX12_islandLine_148 (by decide) rfl ?_
            refine pa_aload_n (pc' := 150) dX12_islandLine_149 hl0 rfl ?_
            refine pa_getI (pc' := 153) (n := 39) dX12_islandLine_150 fl_12_81 s196 (by decide) a4 rfl ?_
            refine pa_callv (pc' := 156) (vs := [.inl 3, .inl (nI (tS y n q0))]) (rest := []) dX12_islandLine_153 ml_12_127 (by decide) rfl rfl rfl (fun d' _ => m_wrong hx1 hf1 rfl) (fun v g2 hq => ?_)
            obtain ⟨er, hq⟩ := hq
            subst er; subst hq
            refine pa_goto (pc' := 173) dX12_islandLine_156 (by decide) ?_
            refine endW (N + 1) ls 3 ?_ hl0
            obtain ⟨i, hi, ei⟩ := hci.mp rfl
            have ok : okSong A.1 w = true := by rw [← ei]; exact (hI.2.2.2.2.2.1 i hi).1
            simp only [sIsland, e0]
            rw [if_pos t2, ← ew, if_pos ok, if_pos (hany.mpr rfl)]
        · have cd := zi_lt (zk_ge_lt cd)
          rw [nI_toInt (by omega), nI_toInt (by omega)] at cd
          have nxt : ∀ (c' : Int32), (c' = 0 ∨ c' = 1) → (c' = 1 ↔ ∃ i, i < j + 1 ∧ A.2.2.1 i = w) → zPn (N + 1) none d mX12_islandLine (136, ls, [.inl c'], g1) (lnM R0 y n (sIsland y n A p)) := by
            intro c' d1 d2
            refine pa_istore_n (pc' := 137) dX12_islandLine_136 (by decide) rfl rfl ?_
            refine pa_iinc (pc' := 140) (v := nI (j + 1)) dX12_islandLine_137 (zget_s1 hl4 (by decide) (by simp [zcat])) (by decide) (nI_add j 1) rfl rfl ?_
            refine pa_gotos (pc' := 112) dX12_islandLine_140 (by decide) ?_
            exact ih (j + 1) b c' _ (by omega) hb hbi d1 d2 (zget_s1 (zget_s1 hl0 (by decide) (by simp [zcat])) (by decide) (by simp [zcat])) (zget_s1 (zget_s1 hl1 (by decide) (by simp [zcat])) (by decide) (by simp [zcat])) (zget_s1 (zget_s1 hl2 (by decide) (by simp [zcat])) (by decide) (by simp [zcat])) (zget_s1 zget_s1e (by decide) (by simp [zcat])) zget_s1e
          have one : (∃ i, i < j + 1 ∧ A.2.2.1 i = w) → zPn (N + 1) none d mX12_islandLine (131, ls, [], g1) (lnM R0 y n (sIsland y n A p)) := by
            intro z
            refine pa_iconst (v := 1) (pc' := 132) dX12_islandLine_131 (by decide) rfl ?_
            refine pa_goto (pc' := 136) dX12_islandLine_132 (by decide) ?_
            exact nxt 1 (.inr rfl) ⟨fun _ => z, fun _ => rfl⟩
          refine pa_iload_n (pc' := 119) dX12_islandLine_118 hl3 rfl ?_
          rcases hc with rfl | rfl
          · refine pa_if_f (pc' := 122) dX12_islandLine_119 (by decide) (by decide) rfl ?_
            refine pa_aload_n (pc' := 123) dX12_islandLine_122 hl0 rfl ?_
            refine pa_iload (pc' := 125) dX12_islandLine_123 hl4 rfl ?_
            refine pa_callv (pc' := 128) (vs := [.inl (nI j)]) (rest := []) dX12_islandLine_125 ml_12_227 (by decide) rfl rfl rfl (fun d' _ => M_isSong hI K1 t2 (by omega)) (fun v g2 hq => ?_)
            obtain ⟨eg, hq⟩ := hq
            subst eg
            rw [← ew] at hq
            rcases hq with ⟨er, z⟩ | ⟨er, z⟩ <;> subst er
            · exact pa_if_f (x := 1) (pc' := 131) dX12_islandLine_128 (by decide) (by decide) rfl (one ⟨j, by omega, z⟩)
            · refine pa_if_t (x := 0) (pc' := 135) dX12_islandLine_128 (by decide) (by decide) ?_
              refine pa_iconst (v := 0) (pc' := 136) dX12_islandLine_135 (by decide) rfl ?_
              refine nxt 0 (.inl rfl) ⟨fun u => absurd u (by decide), fun ⟨i, hi, u⟩ => hci.mpr ⟨i, ?_, u⟩⟩
              rcases Nat.lt_or_ge i j with v | v
              · exact v
              · have : i = j := by omega
                subst this
                exact absurd u z
          · refine pa_if_t (pc' := 131) dX12_islandLine_119 (by decide) (by decide) ?_
            obtain ⟨i, hi, u⟩ := hci.mp rfl
            exact one ⟨i, by omega, u⟩
    have isL : ∀ (N k : Nat) (b : Int32) (ls : zL), k ≤ w.length → (b = 0 ∨ b = 1) → (b = 1 ↔ (2 ≤ w.length ∧ w.length ≤ 6 ∧ ∀ j, j < k → w.getD j 0 - 97 < A.1)) → zget ls 0 = some (.inr (.inr (some 196))) → zget ls 1 = some (.inl (nI (cI A))) → zget ls 2 = some (.inl b) → zget ls 3 = some (.inl (nI k)) → zPn N none d mX12_islandLine (65, ls, [], g1) (lnM R0 y n (sIsland y n A p)) := by
      intro N
      induction N with
      | zero => intro k b ls _ _ _ _ _ _ _; exact zPn.zero
      | succ N ih =>
        intro k b ls hk hb hbi hl0 hl1 hl2 hl3
        refine pa_iload_n (pc' := 66) dX12_islandLine_65 hl3 rfl ?_
        refine pa_aload_n (pc' := 67) dX12_islandLine_66 hl0 rfl ?_
        refine pa_getI (pc' := 70) (n := 39) dX12_islandLine_67 fl_12_84 s196 (by decide) k8 rfl ?_
        refine pa_icmp (pc' := 107) (pc2 := 73) dX12_islandLine_70 (by decide) rfl (fun cd => ?_) (fun cd => ?_)
        · have cd := zi_nlt (zk_ge_lt cd)
          rw [nI_toInt (by omega), nI_toInt (by omega)] at cd
          have ek : k = w.length := by omega
          subst ek
          refine pa_iconst (v := 0) (pc' := 108) dX12_islandLine_107 (by decide) rfl ?_
          refine pa_istore_n (pc' := 109) dX12_islandLine_108 (by decide) rfl rfl ?_
          refine pa_iconst (v := nI 0) (pc' := 110) dX12_islandLine_109 (by decide) rfl ?_
          refine pa_istore (pc' := 112) dX12_islandLine_110 (by decide) rfl rfl ?_
          exact told (N + 1) 0 b 0 _ (Nat.zero_le _) hb (hbi.trans (okw 0 (Nat.zero_le _)).symm) (.inl rfl) ⟨fun z => absurd z (by decide), fun ⟨i, hi, _⟩ => absurd hi (Nat.not_lt_zero i)⟩ (zget_s1 (zget_s1 hl0 (by decide) (by simp [zcat])) (by decide) (by simp [zcat])) (zget_s1 (zget_s1 hl1 (by decide) (by simp [zcat])) (by decide) (by simp [zcat])) (zget_s1 (zget_s1 hl2 (by decide) (by simp [zcat])) (by decide) (by simp [zcat])) (zget_s1 zget_s1e (by decide) (by simp [zcat])) zget_s1e
        · have cd := zi_lt (zk_ge_lt cd)
          rw [nI_toInt (by omega), nI_toInt (by omega)] at cd
          have nxt : ∀ (b' : Int32), (b' = 0 ∨ b' = 1) → (b' = 1 ↔ (2 ≤ w.length ∧ w.length ≤ 6 ∧ ∀ j, j < k + 1 → w.getD j 0 - 97 < A.1)) → zPn (N + 1) none d mX12_islandLine (100, ls, [.inl b'], g1) (lnM R0 y n (sIsland y n A p)) := by
            intro b' d1 d2
            refine pa_istore_n (pc' := 101) dX12_islandLine_100 (by decide) rfl rfl ?_
            refine pa_iinc (pc' := 104) (v := nI (k + 1)) dX12_islandLine_101 (zget_s1 hl3 (by decide) (by simp [zcat])) (by decide) (nI_add k 1) rfl rfl ?_
            refine pa_gotos (pc' := 65) dX12_islandLine_104 (by decide) ?_
            exact ih (k + 1) b' _ (by omega) d1 d2 (zget_s1 (zget_s1 hl0 (by decide) (by simp [zcat])) (by decide) (by simp [zcat])) (zget_s1 (zget_s1 hl1 (by decide) (by simp [zcat])) (by decide) (by simp [zcat])) (zget_s1 zget_s1e (by decide) (by simp [zcat])) zget_s1e
          have zero : ¬ (2 ≤ w.length ∧ w.length ≤ 6 ∧ ∀ j, j < k + 1 → w.getD j 0 - 97 < A.1) → zPn (N + 1) none d mX12_islandLine (99, ls, [], g1) (lnM R0 y n (sIsland y n A p)) := by
            intro z
            refine pa_iconst (v := 0) (pc' := 100) dX12_islandLine_99 (by decide) rfl ?_
            exact nxt 0 (.inl rfl) ⟨fun u => absurd u (by decide), fun u => absurd u z⟩
          refine pa_iload_n (pc' := 74) dX12_islandLine_73 hl2 rfl ?_
          rcases hb with rfl | rfl
          · refine pa_if_t (pc' := 99) dX12_islandLine_74 (by decide) (by decide) ?_
            exact zero (fun z => absurd (hbi.mpr ⟨z.1, z.2.1, fun j hj => z.2.2 j (by omega)⟩) (by decide))
          · refine pa_if_f (pc' := 77) dX12_islandLine_74 (by decide) (by decide) rfl ?_
            obtain ⟨c1, c2, c3⟩ := hbi.mp rfl
            refine pa_aload_n (pc' := 78) dX12_islandLine_77 hl0 rfl ?_
            refine pa_getR (pc' := 81) (n := 39) (r := 198) dX12_islandLine_78 fl_12_17 s196 (by decide) r196_12 rfl ?_
            refine pa_iload_n (pc' := 82) dX12_islandLine_81 hl3 rfl ?_
            refine pa_iald (pc' := 83) (n := 8) dX12_islandLine_82 s198 rfl (fun _ => ?_)
            rw [nI_clamp (by omega), kw k (by omega)]
            refine pa_bipush (v := 97) (pc' := 85) dX12_islandLine_83 (by decide) rfl ?_
            refine pa_isub (pc' := 86) dX12_islandLine_85 rfl rfl ?_
            refine pa_aload_n (pc' := 87) dX12_islandLine_86 hl0 rfl ?_
            refine pa_getR (pc' := 90) (n := 39) (r := 200) dX12_islandLine_87 fl_12_23 s196 (by decide) r196_16 rfl ?_
            refine pa_iconst (v := nI 0) (pc' := 91) dX12_islandLine_90 (by decide) rfl ?_
            refine pa_iald (pc' := 92) (n := 363) dX12_islandLine_91 s200 rfl (fun _ => ?_)
            rw [nI_clamp (by omega), f0]
            refine pa_icmp (pc' := 99) (pc2 := 95) dX12_islandLine_92 (by decide) rfl (fun cd4 => ?_) (fun cd4 => ?_)
            · have cd4 := zi_nlt (zk_ge_lt cd4)
              exact zero (fun z => by have := Int32.lt_iff_toInt_lt.mp (z.2.2 k (by omega)); omega)
            · have cd4 := zi_lt (zk_ge_lt cd4)
              refine pa_iconst (v := 1) (pc' := 96) dX12_islandLine_95 (by decide) rfl ?_
              refine pa_goto (pc' := 100) dX12_islandLine_96 (by decide) ?_
              refine nxt 1 (.inr rfl) ⟨fun _ => ⟨c1, c2, fun j hj => ?_⟩, fun _ => rfl⟩
              rcases Nat.lt_or_ge j k with z | z
              · exact c3 j z
              · have : j = k := by omega
                subst this
                exact Int32.lt_iff_toInt_lt.mpr cd4
    refine pa_aload_n (pc' := 53) dX12_islandLine_52 rfl rfl ?_
    refine pa_getI (pc' := 56) (n := 39) dX12_islandLine_53 fl_12_84 s196 (by decide) k8 rfl ?_
    refine pa_iconst (v := 2) (pc' := 57) dX12_islandLine_56 (by decide) rfl ?_
    refine pa_bipush (v := 6) (pc' := 59) dX12_islandLine_57 (by decide) rfl ?_
    refine pa_calls (pc' := 62) (kd := 1) (vs := [.inl (nI w.length), .inl 2, .inl 6]) (rest := []) dX12_islandLine_59 ml_12_149 (.inl rfl) rfl rfl rfl (fun d' _ => in_ex2) (fun r g2 hq => ?_)
    obtain ⟨eg, hq⟩ := hq
    subst eg
    have hin : (2 ≤ nI w.length ∧ nI w.length ≤ 6) ↔ (2 ≤ w.length ∧ w.length ≤ 6) := by
      rw [Int32.le_iff_toInt_le, Int32.le_iff_toInt_le, nI_toInt (by omega), show (2 : Int32).toInt = 2 by decide, show (6 : Int32).toInt = 6 by decide]
      omega
    rcases hq with ⟨er, c1⟩ | ⟨er, c1⟩ <;> subst er
    · refine pa_istore_n (pc' := 63) (v := 1) (ls' := [(2, .inl 1), (1, .inl (nI (cI A))), (0, .inr (.inr (some 196)))]) (st := []) dX12_islandLine_62 (by decide) rfl rfl ?_
      refine pa_iconst (v := nI 0) (pc' := 64) dX12_islandLine_63 (by decide) rfl ?_
      refine pa_istore_n (pc' := 65) dX12_islandLine_64 (by decide) rfl rfl ?_
      exact isL N 0 1 _ (Nat.zero_le _) (.inr rfl) ⟨fun _ => ⟨(hin.mp c1).1, (hin.mp c1).2, fun j hj => absurd hj (Nat.not_lt_zero j)⟩, fun _ => rfl⟩ rfl rfl rfl rfl
    · refine pa_istore_n (pc' := 63) (v := 0) (ls' := [(2, .inl 0), (1, .inl (nI (cI A))), (0, .inr (.inr (some 196)))]) (st := []) dX12_islandLine_62 (by decide) rfl rfl ?_
      refine pa_iconst (v := nI 0) (pc' := 64) dX12_islandLine_63 (by decide) rfl ?_
      refine pa_istore_n (pc' := 65) dX12_islandLine_64 (by decide) rfl rfl ?_
      exact isL N 0 0 _ (Nat.zero_le _) (.inl rfl) ⟨fun z => absurd z (by decide), fun z => absurd (hin.mpr ⟨z.1, z.2.1⟩) c1⟩ rfl rfl rfl rfl
end MDD
end Pk0
section Pk1
/-! the reference: a line -/
section MDE
variable {R0 : Nat → Nat → Int32} {y : Nat → Int32} {n d N p q k s : Nat} {h h' g : zH} {A : pA} {nm : Nat → List Int32} {e : sF} {r : sF ⊕ Nat}
def bgS (y : Nat → Int32) (n : Nat) (A : pA) (c : Bool) (p : Nat) : sF ⊕ Nat := if A.1 = 0 then .inl (6, tS y n p) else if c then .inr (tE y n p) else .inl (5, tS y n p)
theorem M_begins {a : Nat} {bs : List Int32} {c : Bool} (K : mS R0 y n A A.2.1 p h) (hc : A.1 = 0 → c = true) (hz : zsc a = some bs) : zPa d mX12_begins [.inr (.inr (some 196)), .inr (.inr (some a)), .inl (if c then 1 else 0)] h (fun v h' => (v = some (.inl 0) ∧ ¬ wIs y n p bs ∧ h' = h) ∨ (v = some (.inl 1) ∧ wIs y n p bs ∧ mE R0 y n A A.2.1 (bgS y n A c p) h')) := by
  intro N
  have hx := K.1.1
  have s196 := hx.sh sh_196
  have s200 := hx.sh sh_200
  have r196_16 := hx.2.1 _ _ _ rf_196_16
  have hf := K.2.1
  have k4 := K.1.2.2.1
  have k9 := K.2.2.1.1
  have hp := K.1.2.1
  show zPn N none d mX12_begins (0, [(0, .inr (.inr (some 196))), (1, .inr (.inr (some a))), (2, .inl (if c then 1 else 0))], [], h) _
  refine pa_aload_n (pc' := 1) dX12_begins_0 rfl rfl ?_
  refine pa_aload_n (pc' := 2) dX12_begins_1 rfl rfl ?_
  refine pa_callv (pc' := 5) (vs := [.inr (.inr (some a))]) (rest := []) dX12_begins_2 ml_12_117 (by decide) rfl rfl rfl (fun d' _ => m_isW K.1 hf hz) (fun v g hq => ?_)
  obtain ⟨eg, hq⟩ := hq
  subst eg
  rcases hq with ⟨er, w⟩ | ⟨er, w⟩ <;> subst er
  · refine pa_if_t (x := 1) (pc' := 10) dX12_begins_5 (by decide) (by decide) ?_
    refine pa_iload_n (pc' := 11) dX12_begins_10 rfl rfl ?_
    have endF : ∀ {e : sF} {g' : zH}, mF R0 y n e g' → bgS y n A c p = .inl e → zPn N none d mX12_begins (43, [(0, .inr (.inr (some 196))), (1, .inr (.inr (some a))), (2, .inl (if c then 1 else 0))], [], g') (fun v h' => (v = some (.inl 0) ∧ ¬ wIs y n p bs ∧ h' = g) ∨ (v = some (.inl 1) ∧ wIs y n p bs ∧ mE R0 y n A A.2.1 (bgS y n A c p) h')) := by
      intro e g' hF he
      have s196 := hF.1.sh sh_196
      have hf := hF.2.1
      refine pa_aload_n (pc' := 44) dX12_begins_43 rfl rfl ?_
      refine pa_getI (pc' := 47) (n := 39) dX12_begins_44 fl_12_100 s196 (by decide) hf rfl ?_
      refine pa_if_t (pc' := 54) dX12_begins_47 (by decide) (by decide) ?_
      refine pa_iconst (v := 1) (pc' := 55) dX12_begins_54 (by decide) rfl ?_
      refine pa_iret dX12_begins_55 rfl rfl (.inr ⟨rfl, w, ?_⟩)
      rw [he]
      exact hF
    cases c with
    | true =>
      refine pa_if_t (pc' := 23) dX12_begins_11 (by decide) (by decide) ?_
      refine pa_aload_n (pc' := 24) dX12_begins_23 rfl rfl ?_
      refine pa_getR (pc' := 27) (n := 39) (r := 200) dX12_begins_24 fl_12_23 s196 (by decide) r196_16 rfl ?_
      refine pa_bipush (v := nI 9) (pc' := 29) dX12_begins_27 (by decide) rfl ?_
      refine pa_iald (pc' := 30) (n := 363) dX12_begins_29 s200 rfl (fun _ => ?_)
      rw [nI_clamp (by omega), k9]
      by_cases h0 : A.1 = 0
      · rw [if_pos h0]
        refine pa_if_f (pc' := 33) dX12_begins_30 (by decide) (by decide) rfl ?_
        refine pa_aload_n (pc' := 34) dX12_begins_33 rfl rfl ?_
        refine pa_bipush (v := 6) (pc' := 36) dX12_begins_34 (by decide) rfl ?_
        refine pa_aload_n (pc' := 37) dX12_begins_36 rfl rfl ?_
        refine pa_getI (pc' := 40) (n := 39) dX12_begins_37 fl_12_81 s196 (by decide) k4 rfl ?_
        refine pa_callv (pc' := 43) (vs := [.inl 6, .inl (nI (tS y n p))]) (rest := []) dX12_begins_40 ml_12_127 (by decide) rfl rfl rfl (fun d' _ => m_wrong hx hf rfl) (fun v g2 hq => ?_)
        obtain ⟨er, hq⟩ := hq
        subst er; subst hq
        exact endF (wrg_mF hx) (by unfold bgS; rw [if_pos h0])
      · rw [if_neg h0]
        refine pa_if_t (pc' := 43) dX12_begins_30 (by decide) (by decide) ?_
        refine pa_aload_n (pc' := 44) dX12_begins_43 rfl rfl ?_
        refine pa_getI (pc' := 47) (n := 39) dX12_begins_44 fl_12_100 s196 (by decide) hf rfl ?_
        refine pa_if_f (pc' := 50) dX12_begins_47 (by decide) (by decide) rfl ?_
        refine pa_aload_n (pc' := 51) dX12_begins_50 rfl rfl ?_
        refine pa_callv (pc' := 54) (vs := []) (rest := []) dX12_begins_51 ml_12_121 (by decide) rfl rfl rfl (fun d' _ => m_next hx K.1.2.2.2.1 (tE_sp hp).2.1) (fun v g2 hq => ?_)
        obtain ⟨er, hq⟩ := hq
        subst er
        refine pa_iconst (v := 1) (pc' := 55) dX12_begins_54 (by decide) rfl ?_
        refine pa_iret dX12_begins_55 rfl rfl (.inr ⟨rfl, w, ?_⟩)
        unfold bgS
        rw [if_neg h0, if_pos rfl]
        exact K.nx hq (tE_sp hp).2.1
    | false =>
      have h0 : ¬ A.1 = 0 := fun z => absurd (hc z) (by decide)
      refine pa_if_f (pc' := 14) dX12_begins_11 (by decide) (by decide) rfl ?_
      refine pa_aload_n (pc' := 15) dX12_begins_14 rfl rfl ?_
      refine pa_iconst (v := 5) (pc' := 16) dX12_begins_15 (by decide) rfl ?_
      refine pa_aload_n (pc' := 17) dX12_begins_16 rfl rfl ?_
      refine pa_getI (pc' := 20) (n := 39) dX12_begins_17 fl_12_81 s196 (by decide) k4 rfl ?_
      refine pa_callv (pc' := 23) (vs := [.inl 5, .inl (nI (tS y n p))]) (rest := []) dX12_begins_20 ml_12_127 (by decide) rfl rfl rfl (fun d' _ => m_wrong hx hf rfl) (fun v g2 hq => ?_)
      obtain ⟨er, hq⟩ := hq
      subst er; subst hq
      have hF : mF R0 y n (5, tS y n p) (wrg g 5 (tS y n p)) := wrg_mF hx
      have k9 : (wrg g 5 (tS y n p)).2.1 200 9 = 1 := by rw [wrg_fr 200 9 (by omega) (by omega), k9, if_neg h0]
      refine pa_aload_n (pc' := 24) dX12_begins_23 rfl rfl ?_
      refine pa_getR (pc' := 27) (n := 39) (r := 200) dX12_begins_24 fl_12_23 (hF.1.sh sh_196) (by decide) (hF.1.2.1 _ _ _ rf_196_16) rfl ?_
      refine pa_bipush (v := nI 9) (pc' := 29) dX12_begins_27 (by decide) rfl ?_
      refine pa_iald (pc' := 30) (n := 363) dX12_begins_29 (hF.1.sh sh_200) rfl (fun _ => ?_)
      rw [nI_clamp (by omega), k9]
      refine pa_if_t (pc' := 43) dX12_begins_30 (by decide) (by decide) ?_
      exact endF hF (by unfold bgS; rw [if_neg h0, if_neg (by decide)])
  · refine pa_if_f (x := 0) (pc' := 8) dX12_begins_5 (by decide) (by decide) rfl ?_
    refine pa_iconst (v := 0) (pc' := 9) dX12_begins_8 (by decide) rfl ?_
    exact pa_iret dX12_begins_9 rfl rfl (.inl ⟨rfl, w, rfl⟩)
theorem M_islandF (hF : mF R0 y n e h) : zPa d mX12_islandLine [.inr (.inr (some 196))] h (fun v h' => v = none ∧ h' = h) := by
  intro N
  have s196 := hF.1.sh sh_196
  have hf := hF.2.1
  show zPn N none d mX12_islandLine (0, [(0, .inr (.inr (some 196)))], [], h) _
  refine pa_aload_n (pc' := 1) dX12_islandLine_0 rfl rfl ?_
  refine pa_getI (pc' := 4) (n := 39) dX12_islandLine_1 fl_12_100 s196 (by decide) hf rfl ?_
  refine pa_if_f (pc' := 7) dX12_islandLine_4 (by decide) (by decide) rfl ?_
  exact pa_vret dX12_islandLine_7 rfl ⟨rfl, rfl⟩
theorem M_wayF (hF : mF R0 y n e h) : zPa d mX12_wayLine [.inr (.inr (some 196))] h (fun v h' => v = none ∧ h' = h) := by
  intro N
  have s196 := hF.1.sh sh_196
  have hf := hF.2.1
  show zPn N none d mX12_wayLine (0, [(0, .inr (.inr (some 196)))], [], h) _
  refine pa_aload_n (pc' := 1) dX12_wayLine_0 rfl rfl ?_
  refine pa_getI (pc' := 4) (n := 39) dX12_wayLine_1 fl_12_100 s196 (by decide) hf rfl ?_
  refine pa_if_f (pc' := 7) dX12_wayLine_4 (by decide) (by decide) rfl ?_
  exact pa_vret dX12_wayLine_7 rfl ⟨rfl, rfl⟩
theorem M_whaleF (hF : mF R0 y n e h) : zPa d mX12_whaleLine [.inr (.inr (some 196))] h (fun v h' => v = none ∧ h' = h) := by
  intro N
  have s196 := hF.1.sh sh_196
  have hf := hF.2.1
  show zPn N none d mX12_whaleLine (0, [(0, .inr (.inr (some 196)))], [], h) _
  refine pa_aload_n (pc' := 1) dX12_whaleLine_0 rfl rfl ?_
  refine pa_getI (pc' := 4) (n := 39) dX12_whaleLine_1 fl_12_100 s196 (by decide) hf rfl ?_
  refine pa_if_f (pc' := 7) dX12_whaleLine_4 (by decide) (by decide) rfl ?_
  exact pa_vret dX12_whaleLine_7 rfl ⟨rfl, rfl⟩
theorem M_boxF (hF : mF R0 y n e h) : zPa d mX12_boxLine [.inr (.inr (some 196))] h (fun v h' => v = none ∧ h' = h) := by
  intro N
  have s196 := hF.1.sh sh_196
  have hf := hF.2.1
  show zPn N none d mX12_boxLine (0, [(0, .inr (.inr (some 196)))], [], h) _
  refine pa_aload_n (pc' := 1) dX12_boxLine_0 rfl rfl ?_
  refine pa_getI (pc' := 4) (n := 39) dX12_boxLine_1 fl_12_100 s196 (by decide) hf rfl ?_
  refine pa_if_f (pc' := 7) dX12_boxLine_4 (by decide) (by decide) rfl ?_
  exact pa_vret dX12_boxLine_7 rfl ⟨rfl, rfl⟩
theorem M_spoutF (hF : mF R0 y n e h) : zPa d mX12_spoutLine [.inr (.inr (some 196))] h (fun v h' => v = none ∧ h' = h) := by
  intro N
  have s196 := hF.1.sh sh_196
  have hf := hF.2.1
  show zPn N none d mX12_spoutLine (0, [(0, .inr (.inr (some 196)))], [], h) _
  refine pa_aload_n (pc' := 1) dX12_spoutLine_0 rfl rfl ?_
  refine pa_getI (pc' := 4) (n := 39) dX12_spoutLine_1 fl_12_100 s196 (by decide) hf rfl ?_
  refine pa_if_f (pc' := 7) dX12_spoutLine_4 (by decide) (by decide) rfl ?_
  exact pa_vret dX12_spoutLine_7 rfl ⟨rfl, rfl⟩
set_option maxRecDepth 8000 in
theorem M_line (hI : pI A) (K : mS R0 y n A A.2.1 p h) : zPa d mX12_readLine [.inr (.inr (some 196))] h (lnM R0 y n (sLine y n A p)) := by
  intro N
  have hx := K.1.1
  have s196 := hx.sh sh_196
  have s200 := hx.sh sh_200
  have r196_16 := hx.2.1 _ _ _ rf_196_16
  have hf := K.2.1
  have k4 := K.1.2.2.1
  have hz := hI.2.1
  obtain ⟨b1, b2, b3, b4, b5⟩ := hI.2.2.1
  show zPn N none d mX12_readLine (0, [(0, .inr (.inr (some 196)))], [], h) _
  refine pa_aload_n (pc' := 1) dX12_readLine_0 rfl rfl ?_
  refine pa_ldc (pc' := 3) dX12_readLine_1 cl_12_131 rfl rfl ?_
  refine pa_callv (pc' := 6) (vs := [.inr (.inr (some 1000034))]) (rest := []) dX12_readLine_3 ml_12_117 (by decide) rfl rfl rfl (fun d' _ => m_isW K.1 hf (bs := wPost) rfl) (fun v g hq => ?_)
  obtain ⟨eg, hq⟩ := hq
  subst eg
  rcases hq with ⟨er, w1⟩ | ⟨er, w1⟩ <;> subst er
  · refine pa_if_f (x := 1) (pc' := 9) dX12_readLine_6 (by decide) (by decide) rfl ?_
    refine pa_aload_n (pc' := 10) dX12_readLine_9 rfl rfl ?_
    refine pa_callv (pc' := 13) (vs := []) (rest := []) dX12_readLine_10 ml_12_189 (by decide) rfl rfl rfl (fun d' _ => M_head hI K) (fun v g2 hq => ?_)
    rw [← ln_post (wIs_w.mp w1)] at hq
    obtain ⟨er, hq⟩ := hq
    subst er
    refine pa_goto (pc' := 187) dX12_readLine_13 (by decide) ?_
    exact pa_vret dX12_readLine_187 rfl ⟨rfl, hq⟩
  refine pa_if_t (x := 0) (pc' := 16) dX12_readLine_6 (by decide) (by decide) ?_
  refine pa_aload_n (pc' := 17) dX12_readLine_16 rfl rfl ?_
  refine pa_ldc (pc' := 19) dX12_readLine_17 cl_12_133 rfl rfl ?_
  refine pa_aload_n (pc' := 20) dX12_readLine_19 rfl rfl ?_
  refine pa_getR (pc' := 23) (n := 39) (r := 200) dX12_readLine_20 fl_12_23 s196 (by decide) r196_16 rfl ?_
  refine pa_iconst (v := nI 4) (pc' := 24) dX12_readLine_23 (by decide) rfl ?_
  refine pa_iald (pc' := 25) (n := 363) dX12_readLine_24 s200 rfl (fun _ => ?_)
  rw [nI_clamp (by omega), K.2.2.1.2.2.1]
  refine pa_bipush (v := nI 7) (pc' := 27) dX12_readLine_25 (by decide) rfl ?_
  have kk : zPn N none d mX12_readLine (35, [(0, .inr (.inr (some 196)))], [.inl (if decide (cI A < 7) then 1 else 0), .inr (.inr (some 1000039)), .inr (.inr (some 196))], g) (lnM R0 y n (sLine y n A p)) := by
    refine pa_callv (pc' := 38) (vs := [.inr (.inr (some 1000039)), .inl (if decide (cI A < 7) then 1 else 0)]) (rest := []) dX12_readLine_35 ml_12_192 (by decide) rfl rfl rfl (fun d' _ => M_begins K (fun z => decide_eq_true (by have := hz z; omega)) (bs := wIsland) rfl) (fun v ga hq => ?_)
    rcases hq with ⟨er, w2, eg⟩ | ⟨er, w2, K2⟩
    rotate_left
    · subst er
      refine pa_if_f (x := 1) (pc' := 41) dX12_readLine_38 (by decide) (by decide) rfl ?_
      refine pa_aload_n (pc' := 42) dX12_readLine_41 rfl rfl ?_
      have eL := ln_island (A := A) (wIs_w.mp w2)
      unfold bgS at K2
      by_cases h0 : A.1 = 0
      · rw [if_pos h0] at K2 eL
        refine pa_callv (pc' := 45) (vs := []) (rest := []) dX12_readLine_42 ml_12_196 (by decide) rfl rfl rfl (fun d' _ => M_islandF K2) (fun v g3 hq => ?_)
        obtain ⟨er, hq⟩ := hq
        subst er; subst hq
        refine pa_goto (pc' := 187) dX12_readLine_45 (by decide) ?_
        exact pa_vret dX12_readLine_187 rfl ⟨rfl, by rw [eL]; exact K2⟩
      · rw [if_neg h0] at K2 eL
        by_cases hr : cI A < 7
        · rw [if_pos hr] at eL
          rw [if_pos (decide_eq_true hr)] at K2
          refine pa_callv (pc' := 45) (vs := []) (rest := []) dX12_readLine_42 ml_12_196 (by decide) rfl rfl rfl (fun d' _ => M_island hI h0 hr K2) (fun v g3 hq => ?_)
          obtain ⟨er, hq⟩ := hq
          subst er
          refine pa_goto (pc' := 187) dX12_readLine_45 (by decide) ?_
          exact pa_vret dX12_readLine_187 rfl ⟨rfl, by rw [eL]; exact hq⟩
        · rw [if_neg hr] at eL
          rw [if_neg (by rw [decide_eq_false hr]; decide)] at K2
          refine pa_callv (pc' := 45) (vs := []) (rest := []) dX12_readLine_42 ml_12_196 (by decide) rfl rfl rfl (fun d' _ => M_islandF K2) (fun v g3 hq => ?_)
          obtain ⟨er, hq⟩ := hq
          subst er; subst hq
          refine pa_goto (pc' := 187) dX12_readLine_45 (by decide) ?_
          exact pa_vret dX12_readLine_187 rfl ⟨rfl, by rw [eL]; exact K2⟩
    subst er; subst eg
    refine pa_if_t (x := 0) (pc' := 48) dX12_readLine_38 (by decide) (by decide) ?_
    refine pa_aload_n (pc' := 49) dX12_readLine_48 rfl rfl ?_
    refine pa_ldc (pc' := 51) dX12_readLine_49 cl_12_135 rfl rfl ?_
    refine pa_aload_n (pc' := 52) dX12_readLine_51 rfl rfl ?_
    refine pa_getR (pc' := 55) (n := 39) (r := 200) dX12_readLine_52 fl_12_23 s196 (by decide) r196_16 rfl ?_
    refine pa_iconst (v := nI 5) (pc' := 56) dX12_readLine_55 (by decide) rfl ?_
    refine pa_iald (pc' := 57) (n := 363) dX12_readLine_56 s200 rfl (fun _ => ?_)
    rw [nI_clamp (by omega), K.2.2.1.2.2.2.1]
    refine pa_bipush (v := nI 12) (pc' := 59) dX12_readLine_57 (by decide) rfl ?_
    have kk : zPn N none d mX12_readLine (67, [(0, .inr (.inr (some 196)))], [.inl (if decide (cW A < 12) then 1 else 0), .inr (.inr (some 1000040)), .inr (.inr (some 196))], ga) (lnM R0 y n (sLine y n A p)) := by
      refine pa_callv (pc' := 70) (vs := [.inr (.inr (some 1000040)), .inl (if decide (cW A < 12) then 1 else 0)]) (rest := []) dX12_readLine_67 ml_12_192 (by decide) rfl rfl rfl (fun d' _ => M_begins K (fun z => decide_eq_true (by have := hz z; omega)) (bs := wWay) rfl) (fun v gb hq => ?_)
      rcases hq with ⟨er, w3, eg⟩ | ⟨er, w3, K2⟩
      rotate_left
      · subst er
        refine pa_if_f (x := 1) (pc' := 73) dX12_readLine_70 (by decide) (by decide) rfl ?_
        refine pa_aload_n (pc' := 74) dX12_readLine_73 rfl rfl ?_
        have eL := ln_way (A := A) (wIs_w.mp w3)
        unfold bgS at K2
        by_cases h0 : A.1 = 0
        · rw [if_pos h0] at K2 eL
          refine pa_callv (pc' := 77) (vs := []) (rest := []) dX12_readLine_74 ml_12_199 (by decide) rfl rfl rfl (fun d' _ => M_wayF K2) (fun v g3 hq => ?_)
          obtain ⟨er, hq⟩ := hq
          subst er; subst hq
          refine pa_goto (pc' := 187) dX12_readLine_77 (by decide) ?_
          exact pa_vret dX12_readLine_187 rfl ⟨rfl, by rw [eL]; exact K2⟩
        · rw [if_neg h0] at K2 eL
          by_cases hr : cW A < 12
          · rw [if_pos hr] at eL
            rw [if_pos (decide_eq_true hr)] at K2
            refine pa_callv (pc' := 77) (vs := []) (rest := []) dX12_readLine_74 ml_12_199 (by decide) rfl rfl rfl (fun d' _ => M_way hI hr K2) (fun v g3 hq => ?_)
            obtain ⟨er, hq⟩ := hq
            subst er
            refine pa_goto (pc' := 187) dX12_readLine_77 (by decide) ?_
            exact pa_vret dX12_readLine_187 rfl ⟨rfl, by rw [eL]; exact hq⟩
          · rw [if_neg hr] at eL
            rw [if_neg (by rw [decide_eq_false hr]; decide)] at K2
            refine pa_callv (pc' := 77) (vs := []) (rest := []) dX12_readLine_74 ml_12_199 (by decide) rfl rfl rfl (fun d' _ => M_wayF K2) (fun v g3 hq => ?_)
            obtain ⟨er, hq⟩ := hq
            subst er; subst hq
            refine pa_goto (pc' := 187) dX12_readLine_77 (by decide) ?_
            exact pa_vret dX12_readLine_187 rfl ⟨rfl, by rw [eL]; exact K2⟩
      subst er; subst eg
      refine pa_if_t (x := 0) (pc' := 80) dX12_readLine_70 (by decide) (by decide) ?_
      refine pa_aload_n (pc' := 81) dX12_readLine_80 rfl rfl ?_
      refine pa_ldc (pc' := 83) dX12_readLine_81 cl_12_137 rfl rfl ?_
      refine pa_aload_n (pc' := 84) dX12_readLine_83 rfl rfl ?_
      refine pa_getR (pc' := 87) (n := 39) (r := 200) dX12_readLine_84 fl_12_23 s196 (by decide) r196_16 rfl ?_
      refine pa_bipush (v := nI 6) (pc' := 89) dX12_readLine_87 (by decide) rfl ?_
      refine pa_iald (pc' := 90) (n := 363) dX12_readLine_89 s200 rfl (fun _ => ?_)
      rw [nI_clamp (by omega), K.2.2.1.2.2.2.2.1]
      refine pa_iconst (v := nI 5) (pc' := 91) dX12_readLine_90 (by decide) rfl ?_
      have kk : zPn N none d mX12_readLine (99, [(0, .inr (.inr (some 196)))], [.inl (if decide (cH A < 5) then 1 else 0), .inr (.inr (some 1000041)), .inr (.inr (some 196))], gb) (lnM R0 y n (sLine y n A p)) := by
        refine pa_callv (pc' := 102) (vs := [.inr (.inr (some 1000041)), .inl (if decide (cH A < 5) then 1 else 0)]) (rest := []) dX12_readLine_99 ml_12_192 (by decide) rfl rfl rfl (fun d' _ => M_begins K (fun z => decide_eq_true (by have := hz z; omega)) (bs := wWhale) rfl) (fun v gc hq => ?_)
        rcases hq with ⟨er, w4, eg⟩ | ⟨er, w4, K2⟩
        rotate_left
        · subst er
          refine pa_if_f (x := 1) (pc' := 105) dX12_readLine_102 (by decide) (by decide) rfl ?_
          refine pa_aload_n (pc' := 106) dX12_readLine_105 rfl rfl ?_
          have eL := ln_whale (A := A) (wIs_w.mp w4)
          unfold bgS at K2
          by_cases h0 : A.1 = 0
          · rw [if_pos h0] at K2 eL
            refine pa_callv (pc' := 109) (vs := []) (rest := []) dX12_readLine_106 ml_12_202 (by decide) rfl rfl rfl (fun d' _ => M_whaleF K2) (fun v g3 hq => ?_)
            obtain ⟨er, hq⟩ := hq
            subst er; subst hq
            refine pa_goto (pc' := 187) dX12_readLine_109 (by decide) ?_
            exact pa_vret dX12_readLine_187 rfl ⟨rfl, by rw [eL]; exact K2⟩
          · rw [if_neg h0] at K2 eL
            by_cases hr : cH A < 5
            · rw [if_pos hr] at eL
              rw [if_pos (decide_eq_true hr)] at K2
              refine pa_callv (pc' := 109) (vs := []) (rest := []) dX12_readLine_106 ml_12_202 (by decide) rfl rfl rfl (fun d' _ => M_whale hI hr K2) (fun v g3 hq => ?_)
              obtain ⟨er, hq⟩ := hq
              subst er
              refine pa_goto (pc' := 187) dX12_readLine_109 (by decide) ?_
              exact pa_vret dX12_readLine_187 rfl ⟨rfl, by rw [eL]; exact hq⟩
            · rw [if_neg hr] at eL
              rw [if_neg (by rw [decide_eq_false hr]; decide)] at K2
              refine pa_callv (pc' := 109) (vs := []) (rest := []) dX12_readLine_106 ml_12_202 (by decide) rfl rfl rfl (fun d' _ => M_whaleF K2) (fun v g3 hq => ?_)
              obtain ⟨er, hq⟩ := hq
              subst er; subst hq
              refine pa_goto (pc' := 187) dX12_readLine_109 (by decide) ?_
              exact pa_vret dX12_readLine_187 rfl ⟨rfl, by rw [eL]; exact K2⟩
        subst er; subst eg
        refine pa_if_t (x := 0) (pc' := 112) dX12_readLine_102 (by decide) (by decide) ?_
        refine pa_aload_n (pc' := 113) dX12_readLine_112 rfl rfl ?_
        refine pa_ldc (pc' := 115) dX12_readLine_113 cl_12_139 rfl rfl ?_
        refine pa_aload_n (pc' := 116) dX12_readLine_115 rfl rfl ?_
        refine pa_getR (pc' := 119) (n := 39) (r := 200) dX12_readLine_116 fl_12_23 s196 (by decide) r196_16 rfl ?_
        refine pa_bipush (v := nI 7) (pc' := 121) dX12_readLine_119 (by decide) rfl ?_
        refine pa_iald (pc' := 122) (n := 363) dX12_readLine_121 s200 rfl (fun _ => ?_)
        rw [nI_clamp (by omega), K.2.2.1.2.2.2.2.2.1]
        refine pa_bipush (v := nI 8) (pc' := 124) dX12_readLine_122 (by decide) rfl ?_
        have kk : zPn N none d mX12_readLine (132, [(0, .inr (.inr (some 196)))], [.inl (if decide (cB A < 8) then 1 else 0), .inr (.inr (some 1000042)), .inr (.inr (some 196))], gc) (lnM R0 y n (sLine y n A p)) := by
          refine pa_callv (pc' := 135) (vs := [.inr (.inr (some 1000042)), .inl (if decide (cB A < 8) then 1 else 0)]) (rest := []) dX12_readLine_132 ml_12_192 (by decide) rfl rfl rfl (fun d' _ => M_begins K (fun z => decide_eq_true (by have := hz z; omega)) (bs := wBox) rfl) (fun v gd hq => ?_)
          rcases hq with ⟨er, w5, eg⟩ | ⟨er, w5, K2⟩
          rotate_left
          · subst er
            refine pa_if_f (x := 1) (pc' := 138) dX12_readLine_135 (by decide) (by decide) rfl ?_
            refine pa_aload_n (pc' := 139) dX12_readLine_138 rfl rfl ?_
            have eL := ln_box (A := A) (wIs_w.mp w5)
            unfold bgS at K2
            by_cases h0 : A.1 = 0
            · rw [if_pos h0] at K2 eL
              refine pa_callv (pc' := 142) (vs := []) (rest := []) dX12_readLine_139 ml_12_205 (by decide) rfl rfl rfl (fun d' _ => M_boxF K2) (fun v g3 hq => ?_)
              obtain ⟨er, hq⟩ := hq
              subst er; subst hq
              refine pa_goto (pc' := 187) dX12_readLine_142 (by decide) ?_
              exact pa_vret dX12_readLine_187 rfl ⟨rfl, by rw [eL]; exact K2⟩
            · rw [if_neg h0] at K2 eL
              by_cases hr : cB A < 8
              · rw [if_pos hr] at eL
                rw [if_pos (decide_eq_true hr)] at K2
                refine pa_callv (pc' := 142) (vs := []) (rest := []) dX12_readLine_139 ml_12_205 (by decide) rfl rfl rfl (fun d' _ => M_box hI hr K2) (fun v g3 hq => ?_)
                obtain ⟨er, hq⟩ := hq
                subst er
                refine pa_goto (pc' := 187) dX12_readLine_142 (by decide) ?_
                exact pa_vret dX12_readLine_187 rfl ⟨rfl, by rw [eL]; exact hq⟩
              · rw [if_neg hr] at eL
                rw [if_neg (by rw [decide_eq_false hr]; decide)] at K2
                refine pa_callv (pc' := 142) (vs := []) (rest := []) dX12_readLine_139 ml_12_205 (by decide) rfl rfl rfl (fun d' _ => M_boxF K2) (fun v g3 hq => ?_)
                obtain ⟨er, hq⟩ := hq
                subst er; subst hq
                refine pa_goto (pc' := 187) dX12_readLine_142 (by decide) ?_
                exact pa_vret dX12_readLine_187 rfl ⟨rfl, by rw [eL]; exact K2⟩
          subst er; subst eg
          refine pa_if_t (x := 0) (pc' := 145) dX12_readLine_135 (by decide) (by decide) ?_
          refine pa_aload_n (pc' := 146) dX12_readLine_145 rfl rfl ?_
          refine pa_ldc (pc' := 148) dX12_readLine_146 cl_12_141 rfl rfl ?_
          refine pa_aload_n (pc' := 149) dX12_readLine_148 rfl rfl ?_
          refine pa_getR (pc' := 152) (n := 39) (r := 200) dX12_readLine_149 fl_12_23 s196 (by decide) r196_16 rfl ?_
          refine pa_bipush (v := nI 8) (pc' := 154) dX12_readLine_152 (by decide) rfl ?_
          refine pa_iald (pc' := 155) (n := 363) dX12_readLine_154 s200 rfl (fun _ => ?_)
          rw [nI_clamp (by omega), K.2.2.1.2.2.2.2.2.2.1]
          refine pa_bipush (v := nI 8) (pc' := 157) dX12_readLine_155 (by decide) rfl ?_
          have kk : zPn N none d mX12_readLine (165, [(0, .inr (.inr (some 196)))], [.inl (if decide (cS A < 8) then 1 else 0), .inr (.inr (some 1000043)), .inr (.inr (some 196))], gd) (lnM R0 y n (sLine y n A p)) := by
            refine pa_callv (pc' := 168) (vs := [.inr (.inr (some 1000043)), .inl (if decide (cS A < 8) then 1 else 0)]) (rest := []) dX12_readLine_165 ml_12_192 (by decide) rfl rfl rfl (fun d' _ => M_begins K (fun z => decide_eq_true (by have := hz z; omega)) (bs := wSpout) rfl) (fun v ge hq => ?_)
            rcases hq with ⟨er, w6, eg⟩ | ⟨er, w6, K2⟩
            rotate_left
            · subst er
              refine pa_if_f (x := 1) (pc' := 171) dX12_readLine_168 (by decide) (by decide) rfl ?_
              refine pa_aload_n (pc' := 172) dX12_readLine_171 rfl rfl ?_
              have eL := ln_spout (A := A) (wIs_w.mp w6)
              unfold bgS at K2
              by_cases h0 : A.1 = 0
              · rw [if_pos h0] at K2 eL
                refine pa_callv (pc' := 175) (vs := []) (rest := []) dX12_readLine_172 ml_12_208 (by decide) rfl rfl rfl (fun d' _ => M_spoutF K2) (fun v g3 hq => ?_)
                obtain ⟨er, hq⟩ := hq
                subst er; subst hq
                refine pa_goto (pc' := 187) dX12_readLine_175 (by decide) ?_
                exact pa_vret dX12_readLine_187 rfl ⟨rfl, by rw [eL]; exact K2⟩
              · rw [if_neg h0] at K2 eL
                by_cases hr : cS A < 8
                · rw [if_pos hr] at eL
                  rw [if_pos (decide_eq_true hr)] at K2
                  refine pa_callv (pc' := 175) (vs := []) (rest := []) dX12_readLine_172 ml_12_208 (by decide) rfl rfl rfl (fun d' _ => M_spout hI hr K2) (fun v g3 hq => ?_)
                  obtain ⟨er, hq⟩ := hq
                  subst er
                  refine pa_goto (pc' := 187) dX12_readLine_175 (by decide) ?_
                  exact pa_vret dX12_readLine_187 rfl ⟨rfl, by rw [eL]; exact hq⟩
                · rw [if_neg hr] at eL
                  rw [if_neg (by rw [decide_eq_false hr]; decide)] at K2
                  refine pa_callv (pc' := 175) (vs := []) (rest := []) dX12_readLine_172 ml_12_208 (by decide) rfl rfl rfl (fun d' _ => M_spoutF K2) (fun v g3 hq => ?_)
                  obtain ⟨er, hq⟩ := hq
                  subst er; subst hq
                  refine pa_goto (pc' := 187) dX12_readLine_175 (by decide) ?_
                  exact pa_vret dX12_readLine_187 rfl ⟨rfl, by rw [eL]; exact K2⟩
            subst er; subst eg
            refine pa_if_t (x := 0) (pc' := 178) dX12_readLine_168 (by decide) (by decide) ?_
            refine pa_aload_n (pc' := 179) dX12_readLine_178 rfl rfl ?_
            refine pa_iconst (v := 1) (pc' := 180) dX12_readLine_179 (by decide) rfl ?_
            refine pa_aload_n (pc' := 181) dX12_readLine_180 rfl rfl ?_
            refine pa_getI (pc' := 184) (n := 39) dX12_readLine_181 fl_12_81 s196 (by decide) k4 rfl ?_
            refine pa_callv (pc' := 187) (vs := [.inl 1, .inl (nI (tS y n p))]) (rest := []) dX12_readLine_184 ml_12_127 (by decide) rfl rfl rfl (fun d' _ => m_wrong hx hf rfl) (fun v g9 hq => ?_)
            obtain ⟨er, hq⟩ := hq
            subst er; subst hq
            refine pa_vret dX12_readLine_187 rfl ⟨rfl, ?_⟩
            rw [ln_no (.inr (.inr (.inr (.inr (.inr (.inr ⟨rfl, w1, w2, w3, w4, w5, w6⟩))))))]
            exact wrg_mF hx
          refine pa_icmp (pc' := 164) (pc2 := 160) dX12_readLine_157 (by decide) rfl (fun cd => ?_) (fun cd => ?_)
          · have cd := zi_nlt (zk_ge_lt cd)
            rw [nI_toInt (by omega), nI_toInt (by omega)] at cd
            rw [if_neg (by rw [decide_eq_false (show ¬ cS A < 8 by omega)]; decide)] at kk
            exact pa_iconst (v := 0) (pc' := 165) dX12_readLine_164 (by decide) rfl kk
          · have cd := zi_lt (zk_ge_lt cd)
            rw [nI_toInt (by omega), nI_toInt (by omega)] at cd
            rw [if_pos (decide_eq_true (show cS A < 8 by omega))] at kk
            refine pa_iconst (v := 1) (pc' := 161) dX12_readLine_160 (by decide) rfl ?_
            exact pa_goto (pc' := 165) dX12_readLine_161 (by decide) kk
        refine pa_icmp (pc' := 131) (pc2 := 127) dX12_readLine_124 (by decide) rfl (fun cd => ?_) (fun cd => ?_)
        · have cd := zi_nlt (zk_ge_lt cd)
          rw [nI_toInt (by omega), nI_toInt (by omega)] at cd
          rw [if_neg (by rw [decide_eq_false (show ¬ cB A < 8 by omega)]; decide)] at kk
          exact pa_iconst (v := 0) (pc' := 132) dX12_readLine_131 (by decide) rfl kk
        · have cd := zi_lt (zk_ge_lt cd)
          rw [nI_toInt (by omega), nI_toInt (by omega)] at cd
          rw [if_pos (decide_eq_true (show cB A < 8 by omega))] at kk
          refine pa_iconst (v := 1) (pc' := 128) dX12_readLine_127 (by decide) rfl ?_
          exact pa_goto (pc' := 132) dX12_readLine_128 (by decide) kk
      refine pa_icmp (pc' := 98) (pc2 := 94) dX12_readLine_91 (by decide) rfl (fun cd => ?_) (fun cd => ?_)
      · have cd := zi_nlt (zk_ge_lt cd)
        rw [nI_toInt (by omega), nI_toInt (by omega)] at cd
        rw [if_neg (by rw [decide_eq_false (show ¬ cH A < 5 by omega)]; decide)] at kk
        exact pa_iconst (v := 0) (pc' := 99) dX12_readLine_98 (by decide) rfl kk
      · have cd := zi_lt (zk_ge_lt cd)
        rw [nI_toInt (by omega), nI_toInt (by omega)] at cd
        rw [if_pos (decide_eq_true (show cH A < 5 by omega))] at kk
        refine pa_iconst (v := 1) (pc' := 95) dX12_readLine_94 (by decide) rfl ?_
        exact pa_goto (pc' := 99) dX12_readLine_95 (by decide) kk
    refine pa_icmp (pc' := 66) (pc2 := 62) dX12_readLine_59 (by decide) rfl (fun cd => ?_) (fun cd => ?_)
    · have cd := zi_nlt (zk_ge_lt cd)
      rw [nI_toInt (by omega), nI_toInt (by omega)] at cd
      rw [if_neg (by rw [decide_eq_false (show ¬ cW A < 12 by omega)]; decide)] at kk
      exact pa_iconst (v := 0) (pc' := 67) dX12_readLine_66 (by decide) rfl kk
    · have cd := zi_lt (zk_ge_lt cd)
      rw [nI_toInt (by omega), nI_toInt (by omega)] at cd
      rw [if_pos (decide_eq_true (show cW A < 12 by omega))] at kk
      refine pa_iconst (v := 1) (pc' := 63) dX12_readLine_62 (by decide) rfl ?_
      exact pa_goto (pc' := 67) dX12_readLine_63 (by decide) kk
  refine pa_icmp (pc' := 34) (pc2 := 30) dX12_readLine_27 (by decide) rfl (fun cd => ?_) (fun cd => ?_)
  · have cd := zi_nlt (zk_ge_lt cd)
    rw [nI_toInt (by omega), nI_toInt (by omega)] at cd
    rw [if_neg (by rw [decide_eq_false (show ¬ cI A < 7 by omega)]; decide)] at kk
    exact pa_iconst (v := 0) (pc' := 35) dX12_readLine_34 (by decide) rfl kk
  · have cd := zi_lt (zk_ge_lt cd)
    rw [nI_toInt (by omega), nI_toInt (by omega)] at cd
    rw [if_pos (decide_eq_true (show cI A < 7 by omega))] at kk
    refine pa_iconst (v := 1) (pc' := 31) dX12_readLine_30 (by decide) rfl ?_
    exact pa_goto (pc' := 35) dX12_readLine_31 (by decide) kk
end MDE
end Pk1
section Pk2
/-! a line keeps what is known of what was told -/
section RD6
variable {R0 : Nat → Nat → Int32} {y : Nat → Int32} {n p q : Nat} {A A' : pA} {nm : Nat → List Int32}
theorem sNew_nm {i : Nat} (hn : nmI nm) (hi : i < 20) (hp : p ≤ n) (e : sNew y n nm p = .inr q) : nmI (upA nm i (tW y n p)) := by
  unfold sNew at e
  split at e
  · next z =>
    split at e
    · cases e
    · next w =>
      exact hn.new hi hp (isNb_n.mp z).1 (by
        cases h : nFind nm (tW y n p) with
        | none => rfl
        | some x => rw [h] at w; exact absurd rfl w)
  · cases e
theorem inr_pI {B : pA} {r : Nat} (e : (.inr (B, r) : sR) = .inr (A', q)) (h : pI B) : pI A' := by
  have e := congrArg Prod.fst (Sum.inr.inj e)
  dsimp only at e
  rw [← e]
  exact h
theorem sHead_pI (hI : pI A) (h0 : A.1 = 0) (e : sHead y n A p = .inr (A', q)) : pI A' := by
  unfold sHead at e
  split at e
  · cases e
  next t p1 e1 =>
  split at e
  · cases e
  next x2 p2 e2 =>
  split at e
  · cases e
  next x3 p3 e3 =>
  split at e
  · cases e
  next x4 p4 e4 =>
  unfold sWN at e1
  split at e1
  · cases e1
  · exact inr_pI e ((hI.head (sNum_24 e1) h0).songs (fun i hi => xS3 hi))
theorem sIsland_pI (hI : pI A) (h1 : A.1 ≠ 0) (h7 : cI A < 7) (hp : p ≤ n) (e : sIsland y n A p = .inr (A', q)) : pI A' := by
  unfold sIsland at e
  split at e
  · cases e
  next p1 e1 =>
  have a1 := sNew_ge hp e1
  split at e
  · next t2 =>
    split at e
    · next ok =>
      split at e
      · cases e
      · exact inr_pI e (hI.landed h1 h7 (sNew_nm hI.2.2.2.2.1 (by omega) hp e1) (sNew_w hp e1) ⟨ok, (tW_ok a1.2 t2).1⟩)
    · cases e
  · cases e
theorem sWay_pI (hI : pI A) (h1 : A.1 ≠ 0) (h7 : cW A < 12) (e : sWay y n A p = .inr (A', q)) : pI A' := by
  unfold sWay at e
  split at e
  · cases e
  next x1 p1 e1 =>
  split at e
  · cases e
  next x2 p2 e2 =>
  split at e
  · cases e
  split at e
  · cases e
  next x3 p3 e3 =>
  split at e
  · cases e
  next x4 p4 e4 =>
  exact inr_pI e (hI.wayed (fun i hi => xS2 hi) h1 h7 (sOld_6 e1) (sOld_6 e2))
theorem sWhale_pI (hI : pI A) (h1 : A.1 ≠ 0) (h7 : cH A < 5) (hp : p ≤ n) (e : sWhale y n A p = .inr (A', q)) : pI A' := by
  unfold sWhale at e
  split at e
  · cases e
  next p1 e1 =>
  split at e
  · split at e
    · cases e
    next p2 e2 =>
    split at e
    · cases e
    next x3 p3 e3 =>
    split at e
    · cases e
    next x4 p4 e4 =>
    split at e
    · cases e
    next x5 p5 e5 =>
    exact inr_pI e (hI.whaled (fun i hi => xS4 hi) h1 h7 (sNew_nm hI.2.2.2.2.1 (by omega) hp e1) (sNew_w hp e1))
  · cases e
theorem sBox_pI (hI : pI A) (h1 : A.1 ≠ 0) (h7 : cB A < 8) (hp : p ≤ n) (e : sBox y n A p = .inr (A', q)) : pI A' := by
  unfold sBox at e
  split at e
  · cases e
  next p1 e1 =>
  split at e
  · cases e
  split at e
  · cases e
  split at e
  · cases e
  split at e
  · cases e
  split at e
  · cases e
  split at e
  · cases e
  exact inr_pI e (hI.boxed (fun i hi => xS4 hi) h1 h7 (sNew_nm hI.2.2.2.2.1 (by omega) hp e1) (sNew_w hp e1))
theorem sSpout_pI (hI : pI A) (h1 : A.1 ≠ 0) (h7 : cS A < 8) (e : sSpout y n A p = .inr (A', q)) : pI A' := by
  unfold sSpout at e
  split at e
  · cases e
  next x1 p1 e1 =>
  split at e
  · cases e
  next x2 p2 e2 =>
  split at e
  · cases e
  exact inr_pI e (hI.spouted (fun i hi => xS1 hi) h1 h7 (sOld_11 e1))
theorem sLine_pI (hI : pI A) (hp : p ≤ n) (e : sLine y n A p = .inr (A', q)) : pI A' := by
  have a := tE_ge (y := y) hp
  unfold sLine at e
  split at e
  · split at e
    · next h0 => exact sHead_pI hI h0 e
    · cases e
  split at e
  · split at e
    · cases e
    next h1 =>
    split at e
    · next h7 => exact sIsland_pI hI h1 h7 a.2 e
    · cases e
  split at e
  · split at e
    · cases e
    next h1 =>
    split at e
    · next h7 => exact sWay_pI hI h1 h7 e
    · cases e
  split at e
  · split at e
    · cases e
    next h1 =>
    split at e
    · next h7 => exact sWhale_pI hI h1 h7 a.2 e
    · cases e
  split at e
  · split at e
    · cases e
    next h1 =>
    split at e
    · next h7 => exact sBox_pI hI h1 h7 a.2 e
    · cases e
  split at e
  · split at e
    · cases e
    next h1 =>
    split at e
    · next h7 => exact sSpout_pI hI h1 h7 e
    · cases e
  · cases e
end RD6
end Pk2
section Pk3
/-! the reference: a text -/
section MDX
variable {R0 : Nat → Nat → Int32} {y : Nat → Int32} {n d N p q : Nat} {h h' g : zH} {A : pA} {nm : Nat → List Int32} {e : sF}
theorem sh_201 : zsh hh_487 201 = some (14, 76) := by decide +kernel
theorem rf_196_15 : wd.2.2.1 196 15 = some 199 := by decide +kernel
theorem rf_196_17 : wd.2.2.1 196 17 = some 201 := by decide +kernel
/-- heaps alike but for the ints of one cell -/
def hBut (b : Nat) (h h' : zH) : Prop := h'.1 = h.1 ∧ h'.2.2 = h.2.2 ∧ ∀ c k, c ≠ b → h'.2.1 c k = h.2.1 c k
theorem hBut.rf {b : Nat} : hBut b h h := ⟨rfl, rfl, fun _ _ _ => rfl⟩
theorem hBut.tr {b : Nat} (k : hBut b h h') (k2 : hBut b h' g) : hBut b h g := ⟨k2.1.trans k.1, k2.2.1.trans k.2.1, fun c j hc => (k2.2.2 c j hc).trans (k.2.2 c j hc)⟩
theorem hBut.zs {b j : Nat} {v : Int32} (k : hBut b h h') : hBut b h (zsI h' b j v) := ⟨k.1, k.2.1, fun c i hc => (zsI_no (fun z => hc z.1)).trans (k.2.2 c i hc)⟩
theorem hBut.sh {b a : Nat} {q : Option (Nat × Nat)} (k : hBut b h h') (e : zsh h a = q) : zsh h' a = q := by
  unfold zsh at *
  rw [k.1]
  exact e
/-- copy changes one row alone -/
theorem m_cpF {a b na nb : Nat} {x z w : Int32} (sa : zsh h a = some (14, na)) (sb : zsh h b = some (14, nb)) : zPa d mX12_copy [.inr (.inr (some a)), .inl x, .inr (.inr (some b)), .inl z, .inl w] h (fun v h' => v = none ∧ hBut b h h') := by
  intro N
  have lp : ∀ (N : Nat) (k : Int32) (g : zH) (ls : zL), hBut b h g → zget ls 0 = some (.inr (.inr (some a))) → zget ls 1 = some (.inl x) → zget ls 2 = some (.inr (.inr (some b))) → zget ls 3 = some (.inl z) → zget ls 4 = some (.inl w) → zget ls 5 = some (.inl k) → zPn N none d mX12_copy (3, ls, [], g) (fun v h' => v = none ∧ hBut b h h') := by
    intro N
    induction N with
    | zero => intro k g ls _ _ _ _ _ _ _; exact zPn.zero
    | succ N ih =>
      intro k g ls hg hl0 hl1 hl2 hl3 hl4 hl5
      refine pa_iload (pc' := 5) dX12_copy_3 hl5 rfl ?_
      refine pa_iload (pc' := 7) dX12_copy_5 hl4 rfl ?_
      refine pa_icmp (pc' := 28) (pc2 := 10) dX12_copy_7 (by decide) rfl (fun c => ?_) (fun c => ?_)
      · exact pa_vret dX12_copy_28 rfl ⟨rfl, hg⟩
      · refine pa_aload_n (pc' := 11) dX12_copy_10 hl2 rfl ?_
        refine pa_iload_n (pc' := 12) dX12_copy_11 hl3 rfl ?_
        refine pa_iload (pc' := 14) dX12_copy_12 hl5 rfl ?_
        refine pa_iadd (pc' := 15) dX12_copy_14 rfl rfl ?_
        refine pa_aload_n (pc' := 16) dX12_copy_15 hl0 rfl ?_
        refine pa_iload_n (pc' := 17) dX12_copy_16 hl1 rfl ?_
        refine pa_iload (pc' := 19) dX12_copy_17 hl5 rfl ?_
        refine pa_iadd (pc' := 20) dX12_copy_19 rfl rfl ?_
        refine pa_iald (pc' := 21) (n := na) dX12_copy_20 (hg.sh sa) rfl (fun _ => ?_)
        refine pa_iast (pc' := 22) (n := nb) dX12_copy_21 (hg.sh sb) rfl (fun _ => ?_)
        refine pa_iinc (pc' := 25) dX12_copy_22 hl5 (by decide) rfl rfl rfl ?_
        refine pa_gotos (pc' := 3) dX12_copy_25 (by decide) ?_
        exact ih _ _ _ hg.zs (zget_s1 hl0 (by decide) (by simp [zcat])) (zget_s1 hl1 (by decide) (by simp [zcat])) (zget_s1 hl2 (by decide) (by simp [zcat])) (zget_s1 hl3 (by decide) (by simp [zcat])) (zget_s1 hl4 (by decide) (by simp [zcat])) zget_s1e
  show zPn N none d mX12_copy (0, [(0, .inr (.inr (some a))), (1, .inl x), (2, .inr (.inr (some b))), (3, .inl z), (4, .inl w)], [], h) _
  refine pa_iconst (v := 0) (pc' := 1) dX12_copy_0 (by decide) rfl ?_
  refine pa_istore (pc' := 3) dX12_copy_1 (by decide) rfl rfl ?_
  exact lp N _ _ _ hBut.rf rfl rfl rfl rfl rfl rfl
/-- the whole row -/
theorem m_cpR (sa : zsh h 200 = some (14, 363)) (sb : zsh h 199 = some (14, 363)) : zPa d mX12_copy [.inr (.inr (some 200)), .inl 0, .inr (.inr (some 199)), .inl 0, .inl 363] h (fun v h' => v = none ∧ hBut 199 h h' ∧ ∀ k, k < 363 → h'.2.1 199 k = h.2.1 200 k) := by
  intro N
  have lp : ∀ (N k : Nat) (g : zH) (ls : zL), k ≤ 363 → hBut 199 h g → (∀ j, j < k → g.2.1 199 j = h.2.1 200 j) → zget ls 0 = some (.inr (.inr (some 200))) → zget ls 1 = some (.inl (nI 0)) → zget ls 2 = some (.inr (.inr (some 199))) → zget ls 3 = some (.inl (nI 0)) → zget ls 4 = some (.inl (nI 363)) → zget ls 5 = some (.inl (nI k)) → zPn N none d mX12_copy (3, ls, [], g) (fun v h' => v = none ∧ hBut 199 h h' ∧ ∀ k, k < 363 → h'.2.1 199 k = h.2.1 200 k) := by
    intro N
    induction N with
    | zero => intro k g ls _ _ _ _ _ _ _ _ _; exact zPn.zero
    | succ N ih =>
      intro k g ls hk hg hj hl0 hl1 hl2 hl3 hl4 hl5
      refine pa_iload (pc' := 5) dX12_copy_3 hl5 rfl ?_
      refine pa_iload (pc' := 7) dX12_copy_5 hl4 rfl ?_
      refine pa_icmp (pc' := 28) (pc2 := 10) dX12_copy_7 (by decide) rfl (fun c => ?_) (fun c => ?_)
      · have c := zi_nlt (zk_ge_lt c)
        rw [nI_toInt (by omega), nI_toInt (by omega)] at c
        exact pa_vret dX12_copy_28 rfl ⟨rfl, hg, fun j hj2 => hj j (by omega)⟩
      · have c := zi_lt (zk_ge_lt c)
        rw [nI_toInt (by omega), nI_toInt (by omega)] at c
        refine pa_aload_n (pc' := 11) dX12_copy_10 hl2 rfl ?_
        refine pa_iload_n (pc' := 12) dX12_copy_11 hl3 rfl ?_
        refine pa_iload (pc' := 14) dX12_copy_12 hl5 rfl ?_
        refine pa_iadd (pc' := 15) (v := nI (0 + k)) dX12_copy_14 (nI_add _ _) rfl ?_
        refine pa_aload_n (pc' := 16) dX12_copy_15 hl0 rfl ?_
        refine pa_iload_n (pc' := 17) dX12_copy_16 hl1 rfl ?_
        refine pa_iload (pc' := 19) dX12_copy_17 hl5 rfl ?_
        refine pa_iadd (pc' := 20) (v := nI (0 + k)) dX12_copy_19 (nI_add _ _) rfl ?_
        refine pa_iald (pc' := 21) (n := 363) dX12_copy_20 (hg.sh sa) rfl (fun _ => ?_)
        refine pa_iast (pc' := 22) (n := 363) dX12_copy_21 (hg.sh sb) rfl (fun _ => ?_)
        rw [nI_clamp (by omega), Nat.zero_add]
        refine pa_iinc (pc' := 25) (v := nI (k + 1)) dX12_copy_22 hl5 (by decide) (nI_add k 1) rfl rfl ?_
        refine pa_gotos (pc' := 3) dX12_copy_25 (by decide) ?_
        refine ih (k + 1) _ _ (by omega) hg.zs (fun j hj3 => ?_) (zget_s1 hl0 (by decide) (by simp [zcat])) (zget_s1 hl1 (by decide) (by simp [zcat])) (zget_s1 hl2 (by decide) (by simp [zcat])) (zget_s1 hl3 (by decide) (by simp [zcat])) (zget_s1 hl4 (by decide) (by simp [zcat])) zget_s1e
        by_cases ej : j = k
        · subst ej
          rw [zsI_eq]
          exact hg.2.2 200 j (by decide)
        · rw [zsI_no (by omega)]
          exact hj j (by omega)
  show zPn N none d mX12_copy (0, [(0, .inr (.inr (some 200))), (1, .inl (nI 0)), (2, .inr (.inr (some 199))), (3, .inl (nI 0)), (4, .inl (nI 363))], [], h) _
  refine pa_iconst (v := nI 0) (pc' := 1) dX12_copy_0 (by decide) rfl ?_
  refine pa_istore (pc' := 3) dX12_copy_1 (by decide) rfl rfl ?_
  exact lp N 0 _ _ (Nat.zero_le _) hBut.rf (fun j hj => absurd hj (Nat.not_lt_zero j)) rfl rfl rfl rfl rfl rfl
/-- what was told, beside the row that stays -/
def shR (h : zH) : zH := (h.1, (fun a k => h.2.1 (if a = 200 then 199 else a) k), h.2.2)
theorem rmC.frB (hI : pI A) (k : rmC A h) (e : ∀ j, j < 363 → h'.2.1 200 j = h.2.1 200 j) : rmC A h' := by
  obtain ⟨k1, k2, k3, k4, k5, k6, k7, k8, k9, k10, k11⟩ := k
  obtain ⟨b1, b2, b3, b4, b5⟩ := hI.2.2.1
  have sl : ∀ i, i < cI A → (A.2.2.1 i).length ≤ 6 := fun i hi => by
    have := (hI.2.2.2.2.2.1 i hi).1
    unfold okSong at this
    rw [Bool.and_eq_true, Bool.and_eq_true] at this
    exact of_decide_eq_true this.2.1
  refine ⟨(e _ (by omega)).trans k1, fun z => (e _ (by omega)).trans (k2 z), (e _ (by omega)).trans k3, (e _ (by omega)).trans k4, (e _ (by omega)).trans k5, (e _ (by omega)).trans k6, (e _ (by omega)).trans k7, fun i hi => ⟨(e _ (by omega)).trans (k8 i hi).1, fun j hj => (e _ (by have := sl i hi; omega)).trans ((k8 i hi).2 j hj)⟩, fun i hi => ⟨(e _ (by omega)).trans (k9 i hi).1, (e _ (by omega)).trans (k9 i hi).2⟩, fun i hi => ⟨(e _ (by omega)).trans (k10 i hi).1, (e _ (by omega)).trans (k10 i hi).2⟩, k11.fr (fun j _ ok => e j (by have := okX_lt ok b2 b3 b4 b5; omega))⟩
def rtR (R0 : Nat → Nat → Int32) (r : sF ⊕ pA) (v : Option zV) (h' : zH) : Prop := match r with
  | .inl e => v = some (.inl (-1)) ∧ h'.2.1 196 9 = e.1 ∧ h'.2.1 196 10 = nI e.2 ∧ h'.2.1 196 11 = 4 ∧ ∀ a k, mKp a k → h'.2.1 a k = R0 a k
  | .inr A => v = some (.inl (nI (cI A))) ∧ rmC A (shR h') ∧ h'.2.1 196 14 = 1
theorem m_no4 (s196 : zsh h 196 = some (12, 39)) : zPa d mX12_no [.inr (.inr (some 196)), .inl 4] h (fun v h' => v = some (.inl (-1)) ∧ h' = zsI h 196 11 4) := by
  intro N
  show zPn N none d mX12_no (0, [(0, .inr (.inr (some 196))), (1, .inl 4)], [], h) _
  refine pa_aload_n (pc' := 1) dX12_no_0 rfl rfl ?_
  refine pa_iload_n (pc' := 2) dX12_no_1 rfl rfl ?_
  refine pa_putI (pc' := 5) (n := 39) dX12_no_2 fl_12_65 s196 (Or.inl rfl) (Or.inl rfl) rfl ?_
  refine pa_iconst (v := (-1)) (pc' := 6) dX12_no_5 (by decide) rfl ?_
  exact pa_iret dX12_no_6 rfl rfl ⟨rfl, rfl⟩
theorem M_fail (hF : mF R0 y n e h) {ls : zL} (hl0 : zget ls 0 = some (.inr (.inr (some 196)))) : zPn N none (d + 1) mX12_post (163, ls, [], h) (rtR R0 (.inl e)) := by
  have s196 := hF.1.sh sh_196
  have hf := hF.2.1
  refine pa_aload_n (pc' := 164) dX12_post_163 hl0 rfl ?_
  refine pa_getI (pc' := 167) (n := 39) dX12_post_164 fl_12_100 s196 (by decide) hf rfl ?_
  refine pa_if_f (pc' := 170) dX12_post_167 (by decide) (by decide) rfl ?_
  refine pa_aload_n (pc' := 171) dX12_post_170 hl0 rfl ?_
  refine pa_iconst (v := 4) (pc' := 172) dX12_post_171 (by decide) rfl ?_
  refine pa_callv (pc' := 175) (vs := [.inl 4]) (rest := []) dX12_post_172 ml_12_170 (by decide) rfl rfl rfl (fun d' _ => m_no4 s196) (fun v g2 hq => ?_)
  obtain ⟨er, hq⟩ := hq
  subst er; subst hq
  exact pa_iret dX12_post_175 rfl rfl ⟨rfl, by rw [zsI_no (by omega)]; exact hF.2.2.1, by rw [zsI_no (by omega)]; exact hF.2.2.2, zsI_eq, fun a k hk => (zsI_no (by unfold mKp at hk; omega)).trans (hF.1.2.2.2.2.2 a k hk)⟩
/-- the tail: what was told is taken -/
def tK (R : Nat → Int32) (h : zH) : Prop := h.1 = hh_487.1 ∧ (∀ a k b, wd.2.2.1 a k = some b → h.2.2.2.1 a k = some b) ∧ ∀ k, h.2.1 199 k = R k
theorem tK.sh {R : Nat → Int32} (hx : tK R h) {a : Nat} {q : Option (Nat × Nat)} (e : zsh hh_487 a = q) : zsh h a = q := by
  unfold zsh
  rw [hx.1]
  exact e
theorem tK.zs {R : Nat → Int32} {a j : Nat} {v : Int32} (hx : tK R h) (ha : a ≠ 199) : tK R (zsI h a j v) := ⟨hx.1, hx.2.1, fun k => (zsI_no (fun z => ha z.1.symm)).trans (hx.2.2 k)⟩
theorem tK.bt {R : Nat → Int32} (hx : tK R h) (k : hBut 201 h h') : tK R h' := ⟨k.1.trans hx.1, fun a j b hb => by rw [k.2.1]; exact hx.2.1 a j b hb, fun j => (k.2.2 199 j (by decide)).trans (hx.2.2 j)⟩
def tQ (R : Nat → Int32) (v : Option zV) (h' : zH) : Prop := v = some (.inl (R 4)) ∧ (∀ k, h'.2.1 199 k = R k) ∧ h'.2.1 196 14 = 1
variable {R : Nat → Int32}
theorem T_313 {ls : zL} (hx : tK R h) (hl0 : zget ls 0 = some (.inr (.inr (some 196)))) : zPn N none d mX12_post (313, ls, [], h) (tQ R) := by
  have s196 := hx.sh sh_196
  have s199 := hx.sh sh_199
  have r196_15 := hx.2.1 _ _ _ rf_196_15
  refine pa_aload_n (pc' := 314) dX12_post_313 hl0 rfl ?_
  refine pa_iconst (v := 1) (pc' := 315) dX12_post_314 (by decide) rfl ?_
  refine pa_putI (pc' := 318) (n := 39) dX12_post_315 fl_12_180 s196 (Or.inl rfl) (Or.inr ⟨rfl, by decide⟩) rfl ?_
  refine pa_aload_n (pc' := 319) dX12_post_318 hl0 rfl ?_
  refine pa_iconst (v := 0) (pc' := 320) dX12_post_319 (by decide) rfl ?_
  refine pa_putI (pc' := 323) (n := 39) dX12_post_320 fl_12_183 s196 (Or.inl rfl) (Or.inl rfl) rfl ?_
  refine pa_aload_n (pc' := 324) dX12_post_323 hl0 rfl ?_
  refine pa_iconst (v := 0) (pc' := 325) dX12_post_324 (by decide) rfl ?_
  refine pa_putI (pc' := 328) (n := 39) dX12_post_325 fl_12_186 s196 (Or.inl rfl) (Or.inl rfl) rfl ?_
  refine pa_aload_n (pc' := 329) dX12_post_328 hl0 rfl ?_
  refine pa_getR (pc' := 332) (n := 39) (r := 199) dX12_post_329 fl_12_20 s196 (by decide) r196_15 rfl ?_
  refine pa_iconst (v := nI 4) (pc' := 333) dX12_post_332 (by decide) rfl ?_
  refine pa_iald (pc' := 334) (n := 363) dX12_post_333 s199 rfl (fun _ => ?_)
  rw [nI_clamp (by omega)]
  have e : ∀ k, (zsI (zsI (zsI h 196 14 1) 196 20 0) 196 21 0).2.1 199 k = R k := fun k => by
    rw [zsI_no (by omega), zsI_no (by omega), zsI_no (by omega)]
    exact hx.2.2 k
  refine pa_iret dX12_post_334 rfl rfl ⟨?_, e, ?_⟩
  · rw [e]
  · rw [zsI_no (by omega), zsI_no (by omega), zsI_eq]
theorem T_255 : ∀ (N : Nat) (k : Int32) (h : zH) (ls : zL), tK R h → zget ls 0 = some (.inr (.inr (some 196))) → zget ls 2 = some (.inl k) → zPn N none d mX12_post (255, ls, [], h) (tQ R) := by
  intro N
  induction N with
  | zero => intro k h ls _ _ _; exact zPn.zero
  | succ N ih =>
    intro k h ls hx hl0 hl2
    have s196 := hx.sh sh_196
    have s199 := hx.sh sh_199
    have s201 := hx.sh sh_201
    have r196_15 := hx.2.1 _ _ _ rf_196_15
    have r196_17 := hx.2.1 _ _ _ rf_196_17
    refine pa_iload_n (pc' := 256) dX12_post_255 hl2 rfl ?_
    refine pa_aload_n (pc' := 257) dX12_post_256 hl0 rfl ?_
    refine pa_getR (pc' := 260) (n := 39) (r := 199) dX12_post_257 fl_12_20 s196 (by decide) r196_15 rfl ?_
    refine pa_bipush (v := 7) (pc' := 262) dX12_post_260 (by decide) rfl ?_
    refine pa_iald (pc' := 263) (n := 363) dX12_post_262 s199 rfl (fun _ => ?_)
    refine pa_icmp (pc' := 313) (pc2 := 266) dX12_post_263 (by decide) rfl (fun c => T_313 hx hl0) (fun c => ?_)
    refine pa_aload_n (pc' := 267) dX12_post_266 hl0 rfl ?_
    refine pa_getR (pc' := 270) (n := 39) (r := 199) dX12_post_267 fl_12_20 s196 (by decide) r196_15 rfl ?_
    refine pa_bipush (v := 10) (pc' := 272) dX12_post_270 (by decide) rfl ?_
    refine pa_bipush (v := 7) (pc' := 274) dX12_post_272 (by decide) rfl ?_
    refine pa_aload_n (pc' := 275) dX12_post_274 hl0 rfl ?_
    refine pa_getR (pc' := 278) (n := 39) (r := 199) dX12_post_275 fl_12_20 s196 (by decide) r196_15 rfl ?_
    refine pa_bipush (v := 127) (pc' := 280) dX12_post_278 (by decide) rfl ?_
    refine pa_iconst (v := 4) (pc' := 281) dX12_post_280 (by decide) rfl ?_
    refine pa_iload_n (pc' := 282) dX12_post_281 hl2 rfl ?_
    refine pa_imul (pc' := 283) dX12_post_282 rfl rfl ?_
    refine pa_iadd (pc' := 284) dX12_post_283 rfl rfl ?_
    refine pa_iconst (v := 1) (pc' := 285) dX12_post_284 (by decide) rfl ?_
    refine pa_iadd (pc' := 286) dX12_post_285 rfl rfl ?_
    refine pa_iald (pc' := 287) (n := 363) dX12_post_286 s199 rfl (fun _ => ?_)
    refine pa_imul (pc' := 288) dX12_post_287 rfl rfl ?_
    refine pa_iadd (pc' := 289) dX12_post_288 rfl rfl ?_
    refine pa_iconst (v := 1) (pc' := 290) dX12_post_289 (by decide) rfl ?_
    refine pa_iadd (pc' := 291) dX12_post_290 rfl rfl ?_
    refine pa_aload_n (pc' := 292) dX12_post_291 hl0 rfl ?_
    refine pa_getR (pc' := 295) (n := 39) (r := 201) dX12_post_292 fl_12_26 s196 (by decide) r196_17 rfl ?_
    refine pa_bipush (v := 28) (pc' := 297) dX12_post_295 (by decide) rfl ?_
    refine pa_bipush (v := 6) (pc' := 299) dX12_post_297 (by decide) rfl ?_
    refine pa_iload_n (pc' := 300) dX12_post_299 hl2 rfl ?_
    refine pa_imul (pc' := 301) dX12_post_300 rfl rfl ?_
    refine pa_iadd (pc' := 302) dX12_post_301 rfl rfl ?_
    refine pa_bipush (v := 6) (pc' := 304) dX12_post_302 (by decide) rfl ?_
    refine pa_calls (pc' := 307) (kd := 1) (rest := []) dX12_post_304 ml_12_176 (.inl rfl) rfl rfl rfl (fun d' _ => m_cpF s199 s201) (fun v g hq => ?_)
    obtain ⟨er, hq⟩ := hq
    subst er
    show zPn (N + 1) none d mX12_post (307, ls, [], g) (tQ R)
    refine pa_iinc (pc' := 310) dX12_post_307 hl2 (by decide) rfl rfl rfl ?_
    refine pa_gotos (pc' := 255) dX12_post_310 (by decide) ?_
    exact ih _ _ _ (hx.bt hq) (zget_s1 hl0 (by decide) (by simp [zcat])) zget_s1e
theorem T_215 : ∀ (N : Nat) (k : Int32) (h : zH) (ls : zL), tK R h → zget ls 0 = some (.inr (.inr (some 196))) → zget ls 2 = some (.inl k) → zPn N none d mX12_post (215, ls, [], h) (tQ R) := by
  intro N
  induction N with
  | zero => intro k h ls _ _ _; exact zPn.zero
  | succ N ih =>
    intro k h ls hx hl0 hl2
    have s196 := hx.sh sh_196
    have s199 := hx.sh sh_199
    have s201 := hx.sh sh_201
    have r196_15 := hx.2.1 _ _ _ rf_196_15
    have r196_17 := hx.2.1 _ _ _ rf_196_17
    refine pa_iload_n (pc' := 216) dX12_post_215 hl2 rfl ?_
    refine pa_aload_n (pc' := 217) dX12_post_216 hl0 rfl ?_
    refine pa_getR (pc' := 220) (n := 39) (r := 199) dX12_post_217 fl_12_20 s196 (by decide) r196_15 rfl ?_
    refine pa_bipush (v := 6) (pc' := 222) dX12_post_220 (by decide) rfl ?_
    refine pa_iald (pc' := 223) (n := 363) dX12_post_222 s199 rfl (fun _ => ?_)
    refine pa_icmp (pc' := 253) (pc2 := 226) dX12_post_223 (by decide) rfl (fun c => ?_) (fun c => ?_)
    · refine pa_iconst (v := 0) (pc' := 254) dX12_post_253 (by decide) rfl ?_
      refine pa_istore_n (pc' := 255) dX12_post_254 (by decide) rfl rfl ?_
      exact T_255 _ _ _ _ hx (zget_s1 hl0 (by decide) (by simp [zcat])) zget_s1e
    · refine pa_aload_n (pc' := 227) dX12_post_226 hl0 rfl ?_
      refine pa_getR (pc' := 230) (n := 39) (r := 201) dX12_post_227 fl_12_26 s196 (by decide) r196_17 rfl ?_
      refine pa_iconst (v := 2) (pc' := 231) dX12_post_230 (by decide) rfl ?_
      refine pa_iload_n (pc' := 232) dX12_post_231 hl2 rfl ?_
      refine pa_iadd (pc' := 233) dX12_post_232 rfl rfl ?_
      refine pa_aload_n (pc' := 234) dX12_post_233 hl0 rfl ?_
      refine pa_getR (pc' := 237) (n := 39) (r := 199) dX12_post_234 fl_12_20 s196 (by decide) r196_15 rfl ?_
      refine pa_bipush (v := 107) (pc' := 239) dX12_post_237 (by decide) rfl ?_
      refine pa_iconst (v := 4) (pc' := 240) dX12_post_239 (by decide) rfl ?_
      refine pa_iload_n (pc' := 241) dX12_post_240 hl2 rfl ?_
      refine pa_imul (pc' := 242) dX12_post_241 rfl rfl ?_
      refine pa_iadd (pc' := 243) dX12_post_242 rfl rfl ?_
      refine pa_iconst (v := 1) (pc' := 244) dX12_post_243 (by decide) rfl ?_
      refine pa_iadd (pc' := 245) dX12_post_244 rfl rfl ?_
      refine pa_iald (pc' := 246) (n := 363) dX12_post_245 s199 rfl (fun _ => ?_)
      refine pa_iast (pc' := 247) (n := 76) dX12_post_246 s201 rfl (fun _ => ?_)
      refine pa_iinc (pc' := 250) dX12_post_247 hl2 (by decide) rfl rfl rfl ?_
      refine pa_gotos (pc' := 215) dX12_post_250 (by decide) ?_
      exact ih _ _ _ (hx.zs (by decide)) (zget_s1 hl0 (by decide) (by simp [zcat])) zget_s1e
theorem T_194 : ∀ (N : Nat) (k : Int32) (h : zH) (ls : zL), tK R h → zget ls 0 = some (.inr (.inr (some 196))) → zget ls 2 = some (.inl k) → zPn N none d mX12_post (194, ls, [], h) (tQ R) := by
  intro N
  induction N with
  | zero => intro k h ls _ _ _; exact zPn.zero
  | succ N ih =>
    intro k h ls hx hl0 hl2
    have s196 := hx.sh sh_196
    have s201 := hx.sh sh_201
    have r196_17 := hx.2.1 _ _ _ rf_196_17
    refine pa_iload_n (pc' := 195) dX12_post_194 hl2 rfl ?_
    refine pa_bipush (v := 76) (pc' := 197) dX12_post_195 (by decide) rfl ?_
    refine pa_icmp (pc' := 213) (pc2 := 200) dX12_post_197 (by decide) rfl (fun c => ?_) (fun c => ?_)
    · refine pa_iconst (v := 0) (pc' := 214) dX12_post_213 (by decide) rfl ?_
      refine pa_istore_n (pc' := 215) dX12_post_214 (by decide) rfl rfl ?_
      exact T_215 _ _ _ _ hx (zget_s1 hl0 (by decide) (by simp [zcat])) zget_s1e
    · refine pa_aload_n (pc' := 201) dX12_post_200 hl0 rfl ?_
      refine pa_getR (pc' := 204) (n := 39) (r := 201) dX12_post_201 fl_12_26 s196 (by decide) r196_17 rfl ?_
      refine pa_iload_n (pc' := 205) dX12_post_204 hl2 rfl ?_
      refine pa_iconst (v := 0) (pc' := 206) dX12_post_205 (by decide) rfl ?_
      refine pa_iast (pc' := 207) (n := 76) dX12_post_206 s201 rfl (fun _ => ?_)
      refine pa_iinc (pc' := 210) dX12_post_207 hl2 (by decide) rfl rfl rfl ?_
      refine pa_gotos (pc' := 194) dX12_post_210 (by decide) ?_
      exact ih _ _ _ (hx.zs (by decide)) (zget_s1 hl0 (by decide) (by simp [zcat])) zget_s1e
theorem M_done {ls : zL} (hI : pI A) (K : mS R0 y n A nm p h) (hl0 : zget ls 0 = some (.inr (.inr (some 196)))) : zPn N none d mX12_post (163, ls, [], h) (rtR R0 (.inr A)) := by
  have hx := K.1.1
  have s196 := hx.sh sh_196
  have s199 := hx.sh sh_199
  have s200 := hx.sh sh_200
  have r196_15 := hx.2.1 _ _ _ rf_196_15
  have r196_16 := hx.2.1 _ _ _ rf_196_16
  have hf := K.2.1
  refine pa_aload_n (pc' := 164) dX12_post_163 hl0 rfl ?_
  refine pa_getI (pc' := 167) (n := 39) dX12_post_164 fl_12_100 s196 (by decide) hf rfl ?_
  refine pa_if_t (pc' := 176) dX12_post_167 (by decide) (by decide) ?_
  refine pa_aload_n (pc' := 177) dX12_post_176 hl0 rfl ?_
  refine pa_getR (pc' := 180) (n := 39) (r := 200) dX12_post_177 fl_12_23 s196 (by decide) r196_16 rfl ?_
  refine pa_iconst (v := 0) (pc' := 181) dX12_post_180 (by decide) rfl ?_
  refine pa_aload_n (pc' := 182) dX12_post_181 hl0 rfl ?_
  refine pa_getR (pc' := 185) (n := 39) (r := 199) dX12_post_182 fl_12_20 s196 (by decide) r196_15 rfl ?_
  refine pa_iconst (v := 0) (pc' := 186) dX12_post_185 (by decide) rfl ?_
  refine pa_sipush (v := 363) (pc' := 189) dX12_post_186 (by decide) rfl ?_
  refine pa_calls (pc' := 192) (kd := 1) (rest := []) dX12_post_189 ml_12_176 (.inl rfl) rfl rfl rfl (fun d' _ => m_cpR s200 s199) (fun v g hq => ?_)
  obtain ⟨er, hb, hq⟩ := hq
  subst er
  show zPn N none d mX12_post (192, ls, [], g) _
  have kt : tK (fun k => g.2.1 199 k) g := ⟨hb.1.trans hx.1, fun a j b h3 => by rw [hb.2.1]; exact hx.2.1 a j b h3, fun k => rfl⟩
  refine pa_iconst (v := 0) (pc' := 193) dX12_post_192 (by decide) rfl ?_
  refine pa_istore_n (pc' := 194) dX12_post_193 (by decide) rfl rfl ?_
  refine zPn.mono (T_194 N _ _ _ kt (zget_s1 hl0 (by decide) (by simp [zcat])) zget_s1e) (fun v h' hq2 => ?_)
  obtain ⟨ev, e1, e2⟩ := hq2
  have k4 : g.2.1 199 4 = nI (cI A) := (hq 4 (by decide)).trans K.2.2.1.2.2.1
  refine ⟨by rw [ev, ← k4], K.2.2.1.frB hI (fun j hj => ?_), e2⟩
  show h'.2.1 199 j = h.2.1 200 j
  rw [e1]
  exact hq j hj
end MDX
end Pk3
section Pk4
/-! the reference: the loop of lines -/
section MDY
variable {R0 : Nat → Nat → Int32} {y : Nat → Int32} {n d N p q : Nat} {h h' g : zH} {A : pA} {nm : Nat → List Int32} {e : sF}
def sFin (y : Nat → Int32) (n f : Nat) (r : sR) : sF ⊕ pA := match r with
  | .inl e => .inl e
  | .inr (A, p) => if tT y n p = 0 then (if cI A = 0 then .inl (6, tS y n p) else .inr A) else if tT y n p = 59 then sText y n f A (tE y n p) else .inl (1, tS y n p)
theorem sText_fin {f : Nat} : sText y n (f + 1) A p = sFin y n f (sLine y n A p) := by
  show (match sLine y n A p with | .inl e => _ | .inr (A, p) => _) = _
  unfold sFin
  rfl
def lpS (R0 : Nat → Nat → Int32) (y : Nat → Int32) (n : Nat) (r : sR) (h : zH) : Prop := match r with
  | .inl e => mF R0 y n e h
  | .inr q => mS R0 y n q.1 q.1.2.1 q.2 h
theorem M_loop : ∀ (N f : Nat) (r : sR) (h : zH) (ls : zL), lpS R0 y n r h → (∀ q, r = .inr q → pI q.1 ∧ n < q.2 + f + 1) → zget ls 0 = some (.inr (.inr (some 196))) → zPn N none (d + 1) mX12_post (77, ls, [], h) (rtR R0 (sFin y n f r)) := by
  intro N
  induction N with
  | zero => intro f r h ls _ _ _; exact zPn.zero
  | succ N ih =>
    intro f r h ls K hr hl0
    match r, K, hr with
    | .inl e, K, hr =>
      have K : mF R0 y n e h := K
      have s196 := K.1.sh sh_196
      have hf := K.2.1
      refine pa_aload_n (pc' := 78) dX12_post_77 hl0 rfl ?_
      refine pa_getI (pc' := 81) (n := 39) dX12_post_78 fl_12_100 s196 (by decide) hf rfl ?_
      refine pa_if_t (pc' := 104) dX12_post_81 (by decide) (by decide) ?_
      refine pa_aload_n (pc' := 105) dX12_post_104 hl0 rfl ?_
      refine pa_getI (pc' := 108) (n := 39) dX12_post_105 fl_12_100 s196 (by decide) hf rfl ?_
      refine pa_if_t (pc' := 127) dX12_post_108 (by decide) (by decide) ?_
      refine pa_aload_n (pc' := 128) dX12_post_127 hl0 rfl ?_
      refine pa_getI (pc' := 131) (n := 39) dX12_post_128 fl_12_100 s196 (by decide) hf rfl ?_
      refine pa_if_t (pc' := 163) dX12_post_131 (by decide) (by decide) ?_
      exact M_fail K hl0
    | .inr (A, p), K, hr =>
      have K : mS R0 y n A A.2.1 p h := K
      obtain ⟨hI, hfu⟩ := hr (A, p) rfl
      dsimp only at hI hfu
      have hx := K.1.1
      have hp := K.1.2.1
      have s196 := hx.sh sh_196
      have s200 := hx.sh sh_200
      have r196_16 := hx.2.1 _ _ _ rf_196_16
      have hf := K.2.1
      have k4 := K.1.2.2.1
      have ht := K.1.2.2.2.2.1
      have wr : ∀ {k : Int32} {pc : Nat}, mF R0 y n (k, tS y n p) (wrg h k (tS y n p)) := fun {k pc} => wrg_mF hx
      show zPn (N + 1) none (d + 1) mX12_post (77, ls, [], h) (rtR R0 (if tT y n p = 0 then (if cI A = 0 then .inl (6, tS y n p) else .inr A) else if tT y n p = 59 then sText y n f A (tE y n p) else .inl (1, tS y n p)))
      refine pa_aload_n (pc' := 78) dX12_post_77 hl0 rfl ?_
      refine pa_getI (pc' := 81) (n := 39) dX12_post_78 fl_12_100 s196 (by decide) hf rfl ?_
      refine pa_if_f (pc' := 84) dX12_post_81 (by decide) (by decide) rfl ?_
      refine pa_aload_n (pc' := 85) dX12_post_84 hl0 rfl ?_
      refine pa_getI (pc' := 88) (n := 39) dX12_post_85 fl_12_90 s196 (by decide) ht rfl ?_
      refine pa_bipush (v := 59) (pc' := 90) dX12_post_88 (by decide) rfl ?_
      by_cases t0 : tT y n p = 0
      · rw [if_pos t0]
        refine pa_icmp_t (pc' := 104) dX12_post_90 (by rw [t0]; decide) (by decide) ?_
        refine pa_aload_n (pc' := 105) dX12_post_104 hl0 rfl ?_
        refine pa_getI (pc' := 108) (n := 39) dX12_post_105 fl_12_100 s196 (by decide) hf rfl ?_
        refine pa_if_f (pc' := 111) dX12_post_108 (by decide) (by decide) rfl ?_
        refine pa_aload_n (pc' := 112) dX12_post_111 hl0 rfl ?_
        refine pa_getI (pc' := 115) (n := 39) dX12_post_112 fl_12_90 s196 (by decide) ht rfl ?_
        refine pa_if_t (pc' := 127) dX12_post_115 (by rw [t0]; decide) (by decide) ?_
        refine pa_aload_n (pc' := 128) dX12_post_127 hl0 rfl ?_
        refine pa_getI (pc' := 131) (n := 39) dX12_post_128 fl_12_100 s196 (by decide) hf rfl ?_
        refine pa_if_f (pc' := 134) dX12_post_131 (by decide) (by decide) rfl ?_
        refine pa_aload_n (pc' := 135) dX12_post_134 hl0 rfl ?_
        refine pa_getR (pc' := 138) (n := 39) (r := 200) dX12_post_135 fl_12_23 s196 (by decide) r196_16 rfl ?_
        refine pa_bipush (v := nI 9) (pc' := 140) dX12_post_138 (by decide) rfl ?_
        refine pa_iald (pc' := 141) (n := 363) dX12_post_140 s200 rfl (fun _ => ?_)
        rw [nI_clamp (by omega), K.2.2.1.1]
        have w6 : cI A = 0 → zPn (N + 1) none (d + 1) mX12_post (153, ls, [], h) (rtR R0 (.inl (6, tS y n p))) := by
          intro i0
          refine pa_aload_n (pc' := 154) dX12_post_153 hl0 rfl ?_
          refine pa_bipush (v := 6) (pc' := 156) dX12_post_154 (by decide) rfl ?_
          refine pa_aload_n (pc' := 157) dX12_post_156 hl0 rfl ?_
          refine pa_getI (pc' := 160) (n := 39) dX12_post_157 fl_12_81 s196 (by decide) k4 rfl ?_
          refine pa_callv (pc' := 163) (vs := [.inl 6, .inl (nI (tS y n p))]) (rest := []) dX12_post_160 ml_12_127 (by decide) rfl rfl rfl (fun d' _ => m_wrong hx hf rfl) (fun v g2 hq => ?_)
          obtain ⟨er, hq⟩ := hq
          subst er; subst hq
          exact M_fail (wrg_mF hx) hl0
        by_cases h0 : A.1 = 0
        · have i0 := (hI.2.1 h0).1
          rw [if_pos h0, if_pos i0]
          exact pa_if_t (pc' := 153) dX12_post_141 (by decide) (by decide) (w6 i0)
        · rw [if_neg h0]
          refine pa_if_f (pc' := 144) dX12_post_141 (by decide) (by decide) rfl ?_
          refine pa_aload_n (pc' := 145) dX12_post_144 hl0 rfl ?_
          refine pa_getR (pc' := 148) (n := 39) (r := 200) dX12_post_145 fl_12_23 s196 (by decide) r196_16 rfl ?_
          refine pa_iconst (v := nI 4) (pc' := 149) dX12_post_148 (by decide) rfl ?_
          refine pa_iald (pc' := 150) (n := 363) dX12_post_149 s200 rfl (fun _ => ?_)
          rw [nI_clamp (by omega), K.2.2.1.2.2.1]
          by_cases i0 : cI A = 0
          · rw [if_pos i0]
            refine pa_if_f (pc' := 153) dX12_post_150 (by rw [i0]; decide) (by decide) rfl (w6 i0)
          · rw [if_neg i0]
            have bI := hI.2.2.1.1
            refine pa_if_t (pc' := 163) dX12_post_150 (decide_eq_true (fun z => i0 (by
              have := congrArg Int32.toInt z
              rw [nI_toInt (by omega), show (0 : Int32).toInt = 0 by decide] at this
              omega))) (by decide) ?_
            exact M_done hI K hl0
      · rw [if_neg t0]
        by_cases t59 : tT y n p = 59
        · rw [if_pos t59]
          have hb := t59_gt (y := y) hp t59
          refine pa_icmp_f (pc' := 93) dX12_post_90 (by rw [t59]; decide) (by decide) rfl ?_
          refine pa_aload_n (pc' := 94) dX12_post_93 hl0 rfl ?_
          refine pa_callv (pc' := 97) (vs := []) (rest := []) dX12_post_94 ml_12_121 (by decide) rfl rfl rfl (fun d' _ => m_next hx K.1.2.2.2.1 hb.2) (fun v g2 hq => ?_)
          obtain ⟨er, hq⟩ := hq
          subst er
          have K2 := K.nx hq hb.2
          show zPn (N + 1) none (d + 1) mX12_post (97, ls, [], g2) _
          refine pa_aload_n (pc' := 98) dX12_post_97 hl0 rfl ?_
          refine pa_callv (pc' := 101) (vs := []) (rest := []) dX12_post_98 ml_12_173 (by decide) rfl rfl rfl (fun d' _ => M_line hI K2) (fun v g3 hq => ?_)
          obtain ⟨er, hq⟩ := hq
          subst er
          show zPn (N + 1) none (d + 1) mX12_post (101, ls, [], g3) _
          refine pa_gotos (pc' := 77) dX12_post_101 (by decide) ?_
          obtain ⟨f', ef⟩ : ∃ f', f = f' + 1 := ⟨f - 1, by omega⟩
          subst ef
          rw [sText_fin]
          refine ih f' (sLine y n A (tE y n p)) g3 ls hq (fun q eq => ?_) hl0
          have ge := sLine_ge (A' := q.1) (q := q.2) hb.2 eq
          exact ⟨sLine_pI hI hb.2 eq, by omega⟩
        · rw [if_neg t59]
          refine pa_icmp_t (pc' := 104) dX12_post_90 (decide_eq_true t59) (by decide) ?_
          refine pa_aload_n (pc' := 105) dX12_post_104 hl0 rfl ?_
          refine pa_getI (pc' := 108) (n := 39) dX12_post_105 fl_12_100 s196 (by decide) hf rfl ?_
          refine pa_if_f (pc' := 111) dX12_post_108 (by decide) (by decide) rfl ?_
          refine pa_aload_n (pc' := 112) dX12_post_111 hl0 rfl ?_
          refine pa_getI (pc' := 115) (n := 39) dX12_post_112 fl_12_90 s196 (by decide) ht rfl ?_
          refine pa_if_f (pc' := 118) dX12_post_115 (decide_eq_false t0) (by decide) rfl ?_
          refine pa_aload_n (pc' := 119) dX12_post_118 hl0 rfl ?_
          refine pa_iconst (v := 1) (pc' := 120) dX12_post_119 (by decide) rfl ?_
          refine pa_aload_n (pc' := 121) dX12_post_120 hl0 rfl ?_
          refine pa_getI (pc' := 124) (n := 39) dX12_post_121 fl_12_81 s196 (by decide) k4 rfl ?_
          refine pa_callv (pc' := 127) (vs := [.inl 1, .inl (nI (tS y n p))]) (rest := []) dX12_post_124 ml_12_127 (by decide) rfl rfl rfl (fun d' _ => m_wrong hx hf rfl) (fun v g2 hq => ?_)
          obtain ⟨er, hq⟩ := hq
          subst er; subst hq
          have hF : mF R0 y n (1, tS y n p) (wrg h 1 (tS y n p)) := wrg_mF hx
          have s196 := hF.1.sh sh_196
          have hf := hF.2.1
          show zPn (N + 1) none (d + 1) mX12_post (127, ls, [], wrg h 1 (tS y n p)) _
          refine pa_aload_n (pc' := 128) dX12_post_127 hl0 rfl ?_
          refine pa_getI (pc' := 131) (n := 39) dX12_post_128 fl_12_100 s196 (by decide) hf rfl ?_
          refine pa_if_t (pc' := 163) dX12_post_131 (by decide) (by decide) ?_
          exact M_fail hF hl0
/-- the reference's post from the text on -/
theorem M_text (h1 : h.1 = hh_487.1) (h2 : ∀ a k b, wd.2.2.1 a k = some b → h.2.2.2.1 a k = some b) (hn : n ≤ 1000) (hy : ∀ k, k < n → TB (y k) (h.2.1 197 k)) : zPn N none (d + 1) mX12_post (27, [(0, .inr (.inr (some 196))), (1, .inl (nI n))], [], h) (rtR h.2.1 (sText y n (n + 1) pA0 0)) := by
  have zs : ∀ {g : zH} {a : Nat} {q : Option (Nat × Nat)}, g.1 = hh_487.1 → zsh hh_487 a = q → zsh g a = q := fun e1 e2 => by unfold zsh; rw [e1]; exact e2
  have s196 := zs h1 sh_196
  refine pa_aload_n (pc' := 28) dX12_post_27 rfl rfl ?_
  refine pa_iconst (v := 0) (pc' := 29) dX12_post_28 (by decide) rfl ?_
  refine pa_putI (pc' := 32) (n := 39) dX12_post_29 fl_12_104 s196 (Or.inl rfl) (Or.inl rfl) rfl ?_
  refine pa_aload_n (pc' := 33) dX12_post_32 rfl rfl ?_
  refine pa_iconst (v := 0) (pc' := 34) dX12_post_33 (by decide) rfl ?_
  refine pa_putI (pc' := 37) (n := 39) dX12_post_34 fl_12_100 s196 (Or.inl rfl) (Or.inr ⟨rfl, by decide⟩) rfl ?_
  refine pa_iconst (v := nI 0) (pc' := 38) dX12_post_37 (by decide) rfl ?_
  refine pa_istore_n (pc' := 39) dX12_post_38 (by decide) rfl rfl ?_
  let Z : zH := zsI (zsI h 196 9 0) 196 13 0
  have Z13 : Z.2.1 196 13 = 0 := zsI_eq
  have Z197 : ∀ k, Z.2.1 197 k = h.2.1 197 k := fun k => by
    show (zsI (zsI h 196 9 0) 196 13 0).2.1 197 k = _
    rw [zsI_no (by omega), zsI_no (by omega)]
  have lp : ∀ (N k : Nat) (g : zH) (ls : zL), k ≤ 363 → hBut 200 Z g → (∀ j, j < k → g.2.1 200 j = 0) → zget ls 0 = some (.inr (.inr (some 196))) → zget ls 1 = some (.inl (nI n)) → zget ls 2 = some (.inl (nI k)) → zPn N none (d + 1) mX12_post (39, ls, [], g) (rtR h.2.1 (sText y n (n + 1) pA0 0)) := by
    intro N
    induction N with
    | zero => intro k g ls _ _ _ _ _ _; exact zPn.zero
    | succ N ih =>
      intro k g ls hk hg hj hl0 hl1 hl2
      have s196 : zsh g 196 = some (12, 39) := hg.sh (zs h1 sh_196)
      have s200 : zsh g 200 = some (14, 363) := hg.sh (zs h1 sh_200)
      have g2 : ∀ a k b, wd.2.2.1 a k = some b → g.2.2.2.1 a k = some b := fun a k b hb => by rw [hg.2.1]; exact h2 a k b hb
      have r196_16 := g2 _ _ _ rf_196_16
      refine pa_iload_n (pc' := 40) dX12_post_39 hl2 rfl ?_
      refine pa_sipush (v := nI 363) (pc' := 43) dX12_post_40 (by decide) rfl ?_
      refine pa_icmp (pc' := 59) (pc2 := 46) dX12_post_43 (by decide) rfl (fun c => ?_) (fun c => ?_)
      · have c := zi_nlt (zk_ge_lt c)
        rw [nI_toInt (by omega), nI_toInt (by omega)] at c
        refine pa_aload_n (pc' := 60) dX12_post_59 hl0 rfl ?_
        refine pa_iload_n (pc' := 61) dX12_post_60 hl1 rfl ?_
        refine pa_putI (pc' := 64) (n := 39) dX12_post_61 fl_12_71 s196 (Or.inl rfl) (Or.inl rfl) rfl ?_
        refine pa_aload_n (pc' := 65) dX12_post_64 hl0 rfl ?_
        refine pa_iconst (v := nI 0) (pc' := 66) dX12_post_65 (by decide) rfl ?_
        refine pa_putI (pc' := 69) (n := 39) dX12_post_66 fl_12_74 s196 (Or.inl rfl) (Or.inl rfl) rfl ?_
        refine pa_aload_n (pc' := 70) dX12_post_69 hl0 rfl ?_
        have hx : mx h.2.1 y n (zsI (zsI g 196 3 (nI n)) 196 5 (nI 0)) := ⟨hg.1.trans h1, g2, by rw [zsI_no (by omega), zsI_eq], hn, fun j hj => by
          rw [zsI_no (by omega), zsI_no (by omega), hg.2.2 197 j (by decide), Z197]
          exact hy j hj, fun a j hk => by
          unfold mKp at hk
          rw [zsI_no (by omega), zsI_no (by omega), hg.2.2 a j (by omega)]
          show (zsI (zsI h 196 9 0) 196 13 0).2.1 a j = _
          rw [zsI_no (by omega), zsI_no (by omega)]⟩
        refine pa_callv (pc' := 73) (vs := []) (rest := []) dX12_post_70 ml_12_121 (by decide) rfl rfl rfl (fun d' _ => m_next hx zsI_eq (Nat.zero_le _)) (fun v g3 hq => ?_)
        obtain ⟨er, hq⟩ := hq
        subst er
        have c0 : ∀ j, j < 363 → g3.2.1 200 j = 0 := fun j hj3 => by
          rw [hq.2.2.1 200 j (by omega) (by omega), zsI_no (by omega), zsI_no (by omega)]
          exact hj j (by omega)
        have K : mS h.2.1 y n pA0 pA0.2.1 0 g3 := by
          refine ⟨hq.mT hx (Nat.zero_le _), ?_, ⟨?_, fun z => absurd rfl z, c0 4 (by decide), c0 5 (by decide), c0 6 (by decide), c0 7 (by decide), c0 8 (by decide), fun i hi => absurd hi (Nat.not_lt_zero i), fun i hi => absurd hi (Nat.not_lt_zero i), fun i hi => absurd hi (Nat.not_lt_zero i), fun j hj => absurd rfl hj⟩, fun i hi => ⟨c0 (183 + i) (by omega), fun j hj => absurd hj (Nat.not_lt_zero j)⟩⟩
          · rw [hq.2.2.1 196 13 (by omega) (by omega), zsI_no (by omega), zsI_no (by omega), hg.2.2 196 13 (by decide)]
            exact Z13
          · rw [if_pos (show pA0.1 = 0 from rfl)]
            exact c0 9 (by decide)
        show zPn (N + 1) none (d + 1) mX12_post (73, ls, [], g3) _
        refine pa_aload_n (pc' := 74) dX12_post_73 hl0 rfl ?_
        refine pa_callv (pc' := 77) (vs := []) (rest := []) dX12_post_74 ml_12_173 (by decide) rfl rfl rfl (fun d' _ => M_line pI_0 K) (fun v g4 hq => ?_)
        obtain ⟨er, hq⟩ := hq
        subst er
        show zPn (N + 1) none (d + 1) mX12_post (77, ls, [], g4) _
        rw [sText_fin]
        refine M_loop _ n (sLine y n pA0 0) g4 ls hq (fun q eq => ?_) hl0
        exact ⟨sLine_pI pI_0 (Nat.zero_le n) eq, by omega⟩
      · have c := zi_lt (zk_ge_lt c)
        rw [nI_toInt (by omega), nI_toInt (by omega)] at c
        refine pa_aload_n (pc' := 47) dX12_post_46 hl0 rfl ?_
        refine pa_getR (pc' := 50) (n := 39) (r := 200) dX12_post_47 fl_12_23 s196 (by decide) r196_16 rfl ?_
        refine pa_iload_n (pc' := 51) dX12_post_50 hl2 rfl ?_
        refine pa_iconst (v := 0) (pc' := 52) dX12_post_51 (by decide) rfl ?_
        refine pa_iast (pc' := 53) (n := 363) dX12_post_52 s200 rfl (fun _ => ?_)
        rw [nI_clamp (by omega)]
        refine pa_iinc (pc' := 56) (v := nI (k + 1)) dX12_post_53 hl2 (by decide) (nI_add k 1) rfl rfl ?_
        refine pa_gotos (pc' := 39) dX12_post_56 (by decide) ?_
        refine ih (k + 1) _ _ (by omega) hg.zs (fun j hj3 => ?_) (zget_s1 hl0 (by decide) (by simp [zcat])) (zget_s1 hl1 (by decide) (by simp [zcat])) zget_s1e
        by_cases ej : j = k
        · subst ej
          exact zsI_eq
        · rw [zsI_no (by omega)]
          exact hj j (by omega)
  exact lp N 0 _ _ (Nat.zero_le _) hBut.rf (fun j hj => absurd hj (Nat.not_lt_zero j)) rfl rfl rfl
end MDY
end Pk4
section Pk5
/-! feed: what lies on both tapes -/
def wF (x1 x2 x3 x4 x5 : Int32) (k : Nat) : Int32 := if k < 4 then x1 else if k < 8 then x2 else if k < 12 then x3 else if k < 16 then x4 else x5
def shB (k : Nat) : Int32 := (24 : Int32) - 8 * (nI k - nI k / 4 * 4)
def bR (x : Int32) (k : Nat) : Int32 := (x >>> (shB k &&& 31)) &&& 255
def bC (x : Int32) (k : Nat) : Int32 := vp_nar .byte (x >>> (shB k &&& 31)).toInt8.toInt32
theorem and255 (v : Int32) : (v &&& 255).toInt = v.toInt % 256 := by
  have e : (v &&& 255).toBitVec = v.toBitVec &&& 255#32 := rfl
  have h1 : (v &&& 255).toBitVec.toNat = v.toBitVec.toNat % 256 := by
    rw [e, BitVec.toNat_and]
    exact Nat.and_two_pow_sub_one_eq_mod _ 8
  show (v &&& 255).toBitVec.toInt = v.toBitVec.toInt % 256
  have h2 : v.toBitVec.toNat < 4294967296 := v.toBitVec.isLt
  rw [BitVec.toInt_eq_toNat_cond, BitVec.toInt_eq_toNat_cond, h1]
  split <;> split <;> omega
theorem i8 (v : Int32) : v.toInt8.toInt32.toInt = v.toInt.bmod 256 := by
  rw [Int8.toInt_toInt32, Int32.toInt_toInt8]
theorem tb (x : Int32) (k : Nat) : TB (bC x k) (bR x k) := by
  unfold bC bR
  generalize x >>> (shB k &&& 31) = v
  have e : vp_nar .byte v.toInt8.toInt32 = v.toInt8.toInt32 := by
    apply Int32.toInt_inj.mp
    show (v.toInt8.toInt32).toInt8.toInt32.toInt = _
    rw [i8, i8]
    exact Int.bmod_bmod
  rw [e]
  have a := i8 v
  have b := and255 v
  unfold TB
  rw [Int.bmod_def] at a
  by_cases c : v.toInt % 256 < 128
  · left
    refine ⟨by omega, Int32.toInt_inj.mp (by omega)⟩
  · right
    omega
section FDX
variable {d N s t : Nat} {h h' g : zH} {x x1 x2 x3 x4 x5 : Int32} {Q : Option zV → zH → Prop}
theorem pf_pick {k : Nat} {ls : zL} (hk : k < 20) (hl1 : zget ls 1 = some (.inl x1)) (hl2 : zget ls 2 = some (.inl x2)) (hl3 : zget ls 3 = some (.inl x3)) (hl4 : zget ls 4 = some (.inl x4)) (hl5 : zget ls 5 = some (.inl x5)) (hl6 : zget ls 6 = some (.inl (nI k))) (K : zPn N none d mX12_feed (76, ls, [.inl (wF x1 x2 x3 x4 x5 k)], h) Q) : zPn N none d mX12_feed (30, ls, [], h) Q := by
  have F : ∀ {a b : Nat}, a < 1000 → b < 1000 → zcond .ge (nI a) (nI b) = true → b ≤ a := fun h1 h2 c => by
    have c := zi_nlt (zk_ge_lt c)
    rw [nI_toInt (by omega), nI_toInt (by omega)] at c
    omega
  have G : ∀ {a b : Nat}, a < 1000 → b < 1000 → zcond .ge (nI a) (nI b) = false → a < b := fun h1 h2 c => by
    have c := zi_lt (zk_ge_lt c)
    rw [nI_toInt (by omega), nI_toInt (by omega)] at c
    omega
  refine pa_iload (pc' := 32) dX12_feed_30 hl6 rfl ?_
  refine pa_iconst (v := nI 4) (pc' := 33) dX12_feed_32 (by decide) rfl ?_
  refine pa_icmp (pc' := 40) (pc2 := 36) dX12_feed_33 (by decide) rfl (fun c => ?_) (fun c => ?_)
  · have c4 := F (by omega) (by omega) c
    refine pa_iload (pc' := 42) dX12_feed_40 hl6 rfl ?_
    refine pa_bipush (v := nI 8) (pc' := 44) dX12_feed_42 (by decide) rfl ?_
    refine pa_icmp (pc' := 51) (pc2 := 47) dX12_feed_44 (by decide) rfl (fun c => ?_) (fun c => ?_)
    · have c8 := F (by omega) (by omega) c
      refine pa_iload (pc' := 53) dX12_feed_51 hl6 rfl ?_
      refine pa_bipush (v := nI 12) (pc' := 55) dX12_feed_53 (by decide) rfl ?_
      refine pa_icmp (pc' := 62) (pc2 := 58) dX12_feed_55 (by decide) rfl (fun c => ?_) (fun c => ?_)
      · have c12 := F (by omega) (by omega) c
        refine pa_iload (pc' := 64) dX12_feed_62 hl6 rfl ?_
        refine pa_bipush (v := nI 16) (pc' := 66) dX12_feed_64 (by decide) rfl ?_
        refine pa_icmp (pc' := 74) (pc2 := 69) dX12_feed_66 (by decide) rfl (fun c => ?_) (fun c => ?_)
        · have c16 := F (by omega) (by omega) c
          refine pa_iload (pc' := 76) dX12_feed_74 hl5 rfl ?_
          unfold wF at K
          rw [if_neg (by omega), if_neg (by omega), if_neg (by omega), if_neg (by omega)] at K
          exact K
        · have c16 := G (by omega) (by omega) c
          refine pa_iload (pc' := 71) dX12_feed_69 hl4 rfl ?_
          refine pa_goto (pc' := 76) dX12_feed_71 (by decide) ?_
          unfold wF at K
          rw [if_neg (by omega), if_neg (by omega), if_neg (by omega), if_pos c16] at K
          exact K
      · have c12 := G (by omega) (by omega) c
        refine pa_iload_n (pc' := 59) dX12_feed_58 hl3 rfl ?_
        refine pa_goto (pc' := 76) dX12_feed_59 (by decide) ?_
        unfold wF at K
        rw [if_neg (by omega), if_neg (by omega), if_pos c12] at K
        exact K
    · have c8 := G (by omega) (by omega) c
      refine pa_iload_n (pc' := 48) dX12_feed_47 hl2 rfl ?_
      refine pa_goto (pc' := 76) dX12_feed_48 (by decide) ?_
      unfold wF at K
      rw [if_neg (by omega), if_pos c8] at K
      exact K
  · have c4 := G (by omega) (by omega) c
    refine pa_iload_n (pc' := 37) dX12_feed_36 hl1 rfl ?_
    refine pa_goto (pc' := 76) dX12_feed_37 (by decide) ?_
    unfold wF at K
    rw [if_pos c4] at K
    exact K
def fdR (s : Nat) (x1 x2 x3 x4 x5 : Int32) (h h' : zH) : Prop := (∀ k, k < s → h'.2.1 197 k = h.2.1 197 k) ∧ (s ≤ 980 → ∀ k, k < 20 → h'.2.1 197 (s + k) = bR (wF x1 x2 x3 x4 x5 k) k)
theorem pf_loop (hs : s ≤ 980) : ∀ (N k : Nat) (g : zH) (ls : zL), k ≤ 20 → zsh g 196 = some (12, 39) → zsh g 197 = some (14, 1000) → g.2.2.2.1 196 1 = some 197 → g.2.1 196 2 = nI (s + k) → (∀ j, j < s → g.2.1 197 j = h.2.1 197 j) → (∀ j, j < k → g.2.1 197 (s + j) = bR (wF x1 x2 x3 x4 x5 j) j) → zget ls 0 = some (.inr (.inr (some 196))) → zget ls 1 = some (.inl x1) → zget ls 2 = some (.inl x2) → zget ls 3 = some (.inl x3) → zget ls 4 = some (.inl x4) → zget ls 5 = some (.inl x5) → zget ls 6 = some (.inl (nI k)) → zPn N none d mX12_feed (23, ls, [], g) (fun v h' => fdR s x1 x2 x3 x4 x5 h h') := by
  intro N
  induction N with
  | zero => intros; exact zPn.zero
  | succ N ih =>
    intro k g ls hk s196 s197 r196_1 ht hold hnew hl0 hl1 hl2 hl3 hl4 hl5 hl6
    refine pa_iload (pc' := 25) dX12_feed_23 hl6 rfl ?_
    refine pa_bipush (v := nI 20) (pc' := 27) dX12_feed_25 (by decide) rfl ?_
    refine pa_icmp (pc' := 120) (pc2 := 30) dX12_feed_27 (by decide) rfl (fun c => ?_) (fun c => ?_)
    · have c := zi_nlt (zk_ge_lt c)
      rw [nI_toInt (by omega), nI_toInt (by omega)] at c
      refine pa_aload_n (pc' := 121) dX12_feed_120 hl0 rfl ?_
      refine pa_getI (pc' := 124) (n := 39) dX12_feed_121 fl_12_68 s196 (by decide) ht rfl ?_
      exact pa_iret dX12_feed_124 rfl rfl ⟨hold, fun _ j hj => hnew j (by omega)⟩
    · have c := zi_lt (zk_ge_lt c)
      rw [nI_toInt (by omega), nI_toInt (by omega)] at c
      refine pf_pick (by omega) hl1 hl2 hl3 hl4 hl5 hl6 ?_
      refine pa_istore (pc' := 78) dX12_feed_76 (by decide) rfl rfl ?_
      have hl0 := zget_s1 (k := 7) (v := .inl (wF x1 x2 x3 x4 x5 k)) hl0 (by decide) (by simp [zcat])
      have hl1 := zget_s1 (k := 7) (v := .inl (wF x1 x2 x3 x4 x5 k)) hl1 (by decide) (by simp [zcat])
      have hl2 := zget_s1 (k := 7) (v := .inl (wF x1 x2 x3 x4 x5 k)) hl2 (by decide) (by simp [zcat])
      have hl3 := zget_s1 (k := 7) (v := .inl (wF x1 x2 x3 x4 x5 k)) hl3 (by decide) (by simp [zcat])
      have hl4 := zget_s1 (k := 7) (v := .inl (wF x1 x2 x3 x4 x5 k)) hl4 (by decide) (by simp [zcat])
      have hl5 := zget_s1 (k := 7) (v := .inl (wF x1 x2 x3 x4 x5 k)) hl5 (by decide) (by simp [zcat])
      have hl6 := zget_s1 (k := 7) (v := .inl (wF x1 x2 x3 x4 x5 k)) hl6 (by decide) (by simp [zcat])
      have hl7 : zget (zset1 ls 7 (.inl (wF x1 x2 x3 x4 x5 k))) 7 = some (.inl (wF x1 x2 x3 x4 x5 k)) := zget_s1e
      refine pa_aload_n (pc' := 79) dX12_feed_78 hl0 rfl ?_
      refine pa_getR (pc' := 82) (n := 39) (r := 197) dX12_feed_79 fl_12_7 s196 (by decide) r196_1 rfl ?_
      refine pa_aload_n (pc' := 83) dX12_feed_82 hl0 rfl ?_
      refine pa_getI (pc' := 86) (n := 39) dX12_feed_83 fl_12_68 s196 (by decide) ht rfl ?_
      refine pa_iload (pc' := 88) dX12_feed_86 hl7 rfl ?_
      refine pa_bipush (v := 24) (pc' := 90) dX12_feed_88 (by decide) rfl ?_
      refine pa_bipush (v := 8) (pc' := 92) dX12_feed_90 (by decide) rfl ?_
      refine pa_iload (pc' := 94) dX12_feed_92 hl6 rfl ?_
      refine pa_iconst (v := 4) (pc' := 95) dX12_feed_94 (by decide) rfl ?_
      refine pa_irem (pc' := 96) dX12_feed_95 (by decide) rfl rfl ?_
      refine pa_imul (pc' := 97) dX12_feed_96 rfl rfl ?_
      refine pa_isub (pc' := 98) dX12_feed_97 rfl rfl ?_
      refine pa_ishr (pc' := 99) dX12_feed_98 rfl rfl ?_
      refine pa_sipush (v := 255) (pc' := 102) dX12_feed_99 (by decide) rfl ?_
      refine pa_iand (pc' := 103) dX12_feed_102 rfl rfl ?_
      refine pa_iast (pc' := 104) (n := 1000) dX12_feed_103 s197 rfl (fun _ => ?_)
      rw [nI_clamp (by omega)]
      refine pa_aload_n (pc' := 105) dX12_feed_104 hl0 rfl ?_
      refine pa_dup (pc' := 106) dX12_feed_105 rfl rfl ?_
      refine pa_getI (pc' := 109) (n := 39) (v := nI (s + k)) dX12_feed_106 fl_12_68 s196 (by decide) (by rw [zsI_no (by omega)]; exact ht) rfl ?_
      refine pa_iconst (v := nI 1) (pc' := 110) dX12_feed_109 (by decide) rfl ?_
      refine pa_iadd (pc' := 111) (v := nI (s + (k + 1))) dX12_feed_110 (by rw [nI_add]; rfl) rfl ?_
      refine pa_putI (pc' := 114) (n := 39) dX12_feed_111 fl_12_68 s196 (Or.inl rfl) (Or.inl rfl) rfl ?_
      refine pa_iinc (pc' := 117) (v := nI (k + 1)) dX12_feed_114 hl6 (by decide) (nI_1 k) rfl rfl ?_
      refine pa_gotos (pc' := 23) dX12_feed_117 (by decide) ?_
      refine ih (k + 1) _ _ (by omega) s196 s197 r196_1 zsI_eq (fun j hj => ?_) (fun j hj => ?_) (zget_s1 hl0 (by decide) (by simp [zcat])) (zget_s1 hl1 (by decide) (by simp [zcat])) (zget_s1 hl2 (by decide) (by simp [zcat])) (zget_s1 hl3 (by decide) (by simp [zcat])) (zget_s1 hl4 (by decide) (by simp [zcat])) (zget_s1 hl5 (by decide) (by simp [zcat])) zget_s1e
      · rw [zsI_no (by omega), zsI_no (by omega)]
        exact hold j hj
      · rw [zsI_no (by omega)]
        by_cases ej : j = k
        · subst ej
          exact zsI_eq
        · rw [zsI_no (by omega)]
          exact hnew j (by omega)
theorem N_feed12 (ho : hOK wd h) (ht : h.2.1 196 2 = nI s) (hs : s ≤ 1000) : zPa d mX12_feed [.inr (.inr (some 196)), .inl x1, .inl x2, .inl x3, .inl x4, .inl x5] h (fun v h' => fdR s x1 x2 x3 x4 x5 h h') := by
  intro N
  have s196 : zsh h 196 = some (12, 39) := ho.1 196 (12, 39) (by decide +kernel)
  have s197 : zsh h 197 = some (14, 1000) := ho.1 197 (14, 1000) (by decide +kernel)
  have r196_1 : h.2.2.2.1 196 1 = some 197 := ho.2.2.1 196 1 197 (by decide +kernel)
  show zPn N none d mX12_feed (0, [(0, .inr (.inr (some 196))), (1, .inl x1), (2, .inl x2), (3, .inl x3), (4, .inl x4), (5, .inl x5)], [], h) _
  refine pa_aload_n (pc' := 1) dX12_feed_0 rfl rfl ?_
  refine pa_iconst (v := 0) (pc' := 2) dX12_feed_1 (by decide) rfl ?_
  refine pa_putI (pc' := 5) (n := 39) dX12_feed_2 fl_12_62 s196 (Or.inl rfl) (Or.inl rfl) rfl ?_
  refine pa_aload_n (pc' := 6) dX12_feed_5 rfl rfl ?_
  refine pa_getI (pc' := 9) (n := 39) (v := nI s) dX12_feed_6 fl_12_68 s196 (by decide) (by rw [zsI_no (by omega)]; exact ht) rfl ?_
  refine pa_bipush (v := nI 20) (pc' := 11) dX12_feed_9 (by decide) rfl ?_
  refine pa_iadd (pc' := 12) (v := nI (s + 20)) dX12_feed_11 (nI_add _ _) rfl ?_
  refine pa_sipush (v := nI 1000) (pc' := 15) dX12_feed_12 (by decide) rfl ?_
  refine pa_icmp (pc' := 20) (pc2 := 18) dX12_feed_15 (by decide) rfl (fun c => ?_) (fun c => ?_)
  · have c : nI (s + 20) ≤ nI 1000 := by simpa [zcond] using c
    rw [Int32.le_iff_toInt_le, nI_toInt (by omega), nI_toInt (by omega)] at c
    have c : s ≤ 980 := by omega
    refine pa_iconst (v := nI 0) (pc' := 21) dX12_feed_20 (by decide) rfl ?_
    refine pa_istore (pc' := 23) dX12_feed_21 (by decide) rfl rfl ?_
    exact pf_loop c N 0 _ _ (by omega) s196 s197 r196_1 (by rw [zsI_no (by omega)]; exact ht) (fun j hj => zsI_no (by omega)) (fun j hj => absurd hj (Nat.not_lt_zero j)) rfl rfl rfl rfl rfl rfl rfl
  · have c : ¬ nI (s + 20) ≤ nI 1000 := by simpa [zcond] using c
    rw [Int32.le_iff_toInt_le, nI_toInt (by omega), nI_toInt (by omega)] at c
    refine pa_iconst (v := (-1)) (pc' := 19) dX12_feed_18 (by decide) rfl ?_
    exact pa_iret dX12_feed_19 rfl rfl ⟨fun j hj => zsI_no (by omega), fun z => absurd z (by omega)⟩
/-- four bytes of the class's tape -/
def apR (t : Nat) (x : Int32) (h h' : zH) : Prop := h'.1 = h.1 ∧ h'.2.2.2.1 = h.2.2.2.1 ∧ h'.2.1 0 1 = nI (t + 4) ∧ (∀ k, k < t → h'.2.1 1 k = h.2.1 1 k) ∧ ∀ k, k < 4 → h'.2.1 1 (t + k) = bC x k
theorem N_append (s0 : zsh h 0 = some (11, 16)) (s1 : zsh h 1 = some (13, 1000)) (r0 : h.2.2.2.1 0 0 = some 1) (h1 : h.2.1 0 1 = nI t) (ht : t + 4 ≤ 1000) : zPa d mX11_appendBytes [.inr (.inr (some 0)), .inl x] h (fun v h' => v = none ∧ apR t x h h') := by
  intro N
  have hc : ∀ q : Fin 5, (q.val < 4 → zcond .lt (shB q.val) 0 = false ∧ shB q.val + Int32.ofInt (-8) = if q.val = 3 then -8 else shB (q.val + 1)) := by decide
  have lp : ∀ (N k : Nat) (g : zH) (ls : zL), k ≤ 4 → g.1 = h.1 → g.2.2.2.1 = h.2.2.2.1 → g.2.1 0 1 = nI (t + k) → (∀ j, j < t → g.2.1 1 j = h.2.1 1 j) → (∀ j, j < k → g.2.1 1 (t + j) = bC x j) → zget ls 0 = some (.inr (.inr (some 0))) → zget ls 1 = some (.inl x) → zget ls 2 = some (.inl (if k = 4 then -8 else shB k)) → zPn N none d mX11_appendBytes (3, ls, [], g) (fun v h' => v = none ∧ apR t x h h') := by
    intro N
    induction N with
    | zero => intros; exact zPn.zero
    | succ N ih =>
      intro k g ls hk e1 e2 g1 hold hnew hl0 hl1 hl2
      have zs : ∀ {a : Nat} {q : Option (Nat × Nat)}, zsh h a = q → zsh g a = q := fun e => by unfold zsh at *; rw [e1]; exact e
      have s0 := zs s0
      have s1 := zs s1
      have r0_0 : g.2.2.2.1 0 0 = some 1 := by rw [e2]; exact r0
      refine pa_iload_n (pc' := 4) dX11_appendBytes_3 hl2 rfl ?_
      by_cases k4 : k = 4
      · subst k4
        rw [if_pos rfl]
        refine pa_if_t (pc' := 36) dX11_appendBytes_4 (by decide) (by decide) ?_
        exact pa_vret dX11_appendBytes_36 rfl ⟨rfl, e1, e2, g1, hold, hnew⟩
      · have hq := hc ⟨k, by omega⟩ (show k < 4 by omega)
        dsimp only at hq
        rw [if_neg k4] at hl2 ⊢
        refine pa_if_f (pc' := 7) dX11_appendBytes_4 hq.1 (by decide) rfl ?_
        refine pa_aload_n (pc' := 8) dX11_appendBytes_7 hl0 rfl ?_
        refine pa_getR (pc' := 11) (n := 16) (r := 1) dX11_appendBytes_8 fl_11_9 s0 (by decide) r0_0 rfl ?_
        refine pa_aload_n (pc' := 12) dX11_appendBytes_11 hl0 rfl ?_
        refine pa_getI (pc' := 15) (n := 16) dX11_appendBytes_12 fl_11_13 s0 (by decide) g1 rfl ?_
        refine pa_iload_n (pc' := 16) dX11_appendBytes_15 hl1 rfl ?_
        refine pa_iload_n (pc' := 17) dX11_appendBytes_16 hl2 rfl ?_
        refine pa_ishr (pc' := 18) dX11_appendBytes_17 rfl rfl ?_
        refine pa_i2b (pc' := 19) dX11_appendBytes_18 rfl rfl ?_
        refine pa_bast (pc' := 20) (n := 1000) dX11_appendBytes_19 s1 rfl (fun _ => ?_)
        rw [nI_clamp (by omega)]
        refine pa_aload_n (pc' := 21) dX11_appendBytes_20 hl0 rfl ?_
        refine pa_dup (pc' := 22) dX11_appendBytes_21 rfl rfl ?_
        refine pa_getI (pc' := 25) (n := 16) (v := nI (t + k)) dX11_appendBytes_22 fl_11_13 s0 (by decide) (by rw [zsI_no (by omega)]; exact g1) rfl ?_
        refine pa_iconst (v := nI 1) (pc' := 26) dX11_appendBytes_25 (by decide) rfl ?_
        refine pa_iadd (pc' := 27) (v := nI (t + (k + 1))) dX11_appendBytes_26 (by rw [nI_add]; rfl) rfl ?_
        refine pa_putI (pc' := 30) (n := 16) dX11_appendBytes_27 fl_11_13 s0 (Or.inl rfl) (Or.inl rfl) rfl ?_
        refine pa_iinc (pc' := 33) dX11_appendBytes_30 hl2 (by decide) hq.2 rfl rfl ?_
        refine pa_gotos (pc' := 3) dX11_appendBytes_33 (by decide) ?_
        refine ih (k + 1) _ _ (by omega) e1 e2 zsI_eq (fun j hj => ?_) (fun j hj => ?_) (zget_s1 hl0 (by decide) (by simp [zcat])) (zget_s1 hl1 (by decide) (by simp [zcat])) (zget_s1e.trans (by
          by_cases k3 : k = 3
          · subst k3; rfl
          · rw [if_neg k3, if_neg (by omega)]))
        · rw [zsI_no (by omega), zsI_no (by omega)]
          exact hold j hj
        · rw [zsI_no (by omega)]
          by_cases ej : j = k
          · subst ej
            exact zsI_eq
          · rw [zsI_no (by omega)]
            exact hnew j (by omega)
  show zPn N none d mX11_appendBytes (0, [(0, .inr (.inr (some 0))), (1, .inl x)], [], h) _
  refine pa_bipush (v := shB 0) (pc' := 2) dX11_appendBytes_0 (by decide) rfl ?_
  refine pa_istore_n (pc' := 3) dX11_appendBytes_2 (by decide) rfl rfl ?_
  exact lp N 0 _ _ (by omega) rfl rfl h1 (fun j _ => rfl) (fun j hj => absurd hj (Nat.not_lt_zero j)) rfl rfl rfl
def fdC (s : Nat) (x1 x2 x3 x4 x5 : Int32) (h h' : zH) : Prop := (∀ k, k < s → h'.2.1 1 k = h.2.1 1 k) ∧ (s ≤ 980 → ∀ k, k < 20 → h'.2.1 1 (s + k) = bC (wF x1 x2 x3 x4 x5 k) k)
theorem shB_mod : ∀ q : Fin 20, shB q.val = shB (q.val % 4) := by decide
theorem bC_mod {k : Nat} (hk : k < 20) : bC x k = bC x (k % 4) := by
  unfold bC
  rw [show shB k = shB (k % 4) from shB_mod ⟨k, hk⟩]
theorem N_feed11 (ho : hOK wd h) (ht : h.2.1 0 1 = nI s) (hs : s ≤ 1000) : zPa d mX11_feed [.inr (.inr (some 0)), .inl x1, .inl x2, .inl x3, .inl x4, .inl x5] h (fun v h' => fdC s x1 x2 x3 x4 x5 h h') := by
  intro N
  have s0 : zsh h 0 = some (11, 16) := ho.1 0 (11, 16) (by decide +kernel)
  have s1 : zsh h 1 = some (13, 1000) := ho.1 1 (13, 1000) (by decide +kernel)
  have r0 : h.2.2.2.1 0 0 = some 1 := ho.2.2.1 0 0 1 (by decide +kernel)
  have zs : ∀ {h' : zH} {a : Nat}, h'.1 = h.1 → zsh h' a = zsh h a := fun e => by unfold zsh; rw [e]
  show zPn N none d mX11_feed (0, [(0, .inr (.inr (some 0))), (1, .inl x1), (2, .inl x2), (3, .inl x3), (4, .inl x4), (5, .inl x5)], [], h) _
  refine pa_aload_n (pc' := 1) dX11_feed_0 rfl rfl ?_
  refine pa_getI (pc' := 4) (n := 16) (v := nI s) dX11_feed_1 fl_11_13 s0 (by decide) ht rfl ?_
  refine pa_sipush (v := nI 980) (pc' := 7) dX11_feed_4 (by decide) rfl ?_
  refine pa_icmp (pc' := 12) (pc2 := 10) dX11_feed_7 (by decide) rfl (fun c => ?_) (fun c => ?_)
  · have c : nI s ≤ nI 980 := by simpa [zcond] using c
    rw [Int32.le_iff_toInt_le, nI_toInt (by omega), nI_toInt (by omega)] at c
    have c : s ≤ 980 := by omega
    refine pa_aload_n (pc' := 13) dX11_feed_12 rfl rfl ?_
    refine pa_iload_n (pc' := 14) dX11_feed_13 rfl rfl ?_
    refine pa_callv (pc' := 17) (vs := [.inl x1]) (rest := []) dX11_feed_14 ml_11_94 (by decide) rfl rfl rfl (fun d' _ => N_append s0 s1 r0 ht (by omega)) (fun v h1 hq => ?_)
    obtain ⟨er, a1, b1, c1, o1, n1⟩ := hq
    subst er
    refine pa_aload_n (pc' := 18) dX11_feed_17 rfl rfl ?_
    refine pa_iload_n (pc' := 19) dX11_feed_18 rfl rfl ?_
    refine pa_callv (pc' := 22) (vs := [.inl x2]) (rest := []) dX11_feed_19 ml_11_94 (by decide) rfl rfl rfl (fun d' _ => N_append ((zs a1).trans s0) ((zs a1).trans s1) (by rw [b1]; exact r0) c1 (by omega)) (fun v h2 hq => ?_)
    obtain ⟨er, a2, b2, c2, o2, n2⟩ := hq
    subst er
    have a2 := a2.trans a1
    have b2 := b2.trans b1
    refine pa_aload_n (pc' := 23) dX11_feed_22 rfl rfl ?_
    refine pa_iload_n (pc' := 24) dX11_feed_23 rfl rfl ?_
    refine pa_callv (pc' := 27) (vs := [.inl x3]) (rest := []) dX11_feed_24 ml_11_94 (by decide) rfl rfl rfl (fun d' _ => N_append ((zs a2).trans s0) ((zs a2).trans s1) (by rw [b2]; exact r0) c2 (by omega)) (fun v h3 hq => ?_)
    obtain ⟨er, a3, b3, c3, o3, n3⟩ := hq
    subst er
    have a3 := a3.trans a2
    have b3 := b3.trans b2
    refine pa_aload_n (pc' := 28) dX11_feed_27 rfl rfl ?_
    refine pa_iload (pc' := 30) dX11_feed_28 rfl rfl ?_
    refine pa_callv (pc' := 33) (vs := [.inl x4]) (rest := []) dX11_feed_30 ml_11_94 (by decide) rfl rfl rfl (fun d' _ => N_append ((zs a3).trans s0) ((zs a3).trans s1) (by rw [b3]; exact r0) c3 (by omega)) (fun v h4 hq => ?_)
    obtain ⟨er, a4, b4, c4, o4, n4⟩ := hq
    subst er
    have a4 := a4.trans a3
    have b4 := b4.trans b3
    refine pa_aload_n (pc' := 34) dX11_feed_33 rfl rfl ?_
    refine pa_iload (pc' := 36) dX11_feed_34 rfl rfl ?_
    refine pa_callv (pc' := 39) (vs := [.inl x5]) (rest := []) dX11_feed_36 ml_11_94 (by decide) rfl rfl rfl (fun d' _ => N_append ((zs a4).trans s0) ((zs a4).trans s1) (by rw [b4]; exact r0) c4 (by omega)) (fun v h5 hq => ?_)
    obtain ⟨er, a5, b5, c5, o5, n5⟩ := hq
    subst er
    have a5 := a5.trans a4
    refine pa_aload_n (pc' := 40) dX11_feed_39 rfl rfl ?_
    refine pa_getI (pc' := 43) (n := 16) dX11_feed_40 fl_11_13 ((zs a5).trans s0) (by decide) c5 rfl ?_
    refine pa_iret dX11_feed_43 rfl rfl ⟨fun k hk => ?_, fun _ k hk => ?_⟩
    · rw [o5 k (by omega), o4 k (by omega), o3 k (by omega), o2 k (by omega), o1 k hk]
    · rw [bC_mod hk]
      unfold wF
      split
      · next z =>
        rw [o5 _ (by omega), o4 _ (by omega), o3 _ (by omega), o2 _ (by omega), n1 k z, Nat.mod_eq_of_lt z]
      split
      · next _ z =>
        rw [o5 _ (by omega), o4 _ (by omega), o3 _ (by omega), show s + k = s + 4 + (k - 4) by omega, n2 (k - 4) (by omega), show k % 4 = k - 4 by omega]
      split
      · next _ _ z =>
        rw [o5 _ (by omega), o4 _ (by omega), show s + k = s + 4 + 4 + (k - 8) by omega, n3 (k - 8) (by omega), show k % 4 = k - 8 by omega]
      split
      · next _ _ _ z =>
        rw [o5 _ (by omega), show s + k = s + 4 + 4 + 4 + (k - 12) by omega, n4 (k - 12) (by omega), show k % 4 = k - 12 by omega]
      · rw [show s + k = s + 4 + 4 + 4 + 4 + (k - 16) by omega, n5 (k - 16) (by omega), show k % 4 = k - 16 by omega]
  · have c : ¬ nI s ≤ nI 980 := by simpa [zcond] using c
    rw [Int32.le_iff_toInt_le, nI_toInt (by omega), nI_toInt (by omega)] at c
    refine pa_iconst (v := -1) (pc' := 11) dX11_feed_10 (by decide) rfl ?_
    exact pa_iret dX11_feed_11 rfl rfl ⟨fun j hj => rfl, fun z => absurd z (by omega)⟩
end FDX
end Pk5
section Pk6
/-! the class: post -/
section PCL
variable {R0 : Nat → Nat → Int32} {y : Nat → Int32} {n d N s c : Nat} {h h' g : zH} {A : pA}
theorem inM_out {md : aMd} {a k : Nat} (hm : md.all (fun q => !(Nat.beq q.1 a)) = true) : inM md a k = false := by
  unfold inM
  rw [List.any_eq_false]
  intro q hq z
  have := List.all_eq_true.mp hm q hq
  rw [Bool.and_eq_true] at z
  rw [z.1] at this
  cases this
theorem inM_mid {md : aMd} {a k : Nat} (hm : md.all (fun q => Nat.ble q.1 1 || Nat.ble 82 q.1) = true) (h1 : 2 ≤ a) (h2 : a < 82) : inM md a k = false := by
  refine inM_out (List.all_eq_true.mpr (fun q hq => ?_))
  have := List.all_eq_true.mp hm q hq
  rw [Bool.or_eq_true] at this
  rw [Bool.not_eq_true']
  cases e : Nat.beq q.1 a with
  | false => rfl
  | true =>
    have e := Nat.eq_of_beq_eq_true e
    rcases this with z | z
    · have := Nat.le_of_ble_eq_true z; omega
    · have := Nat.le_of_ble_eq_true z; omega
theorem rcC.frM (hc : cc2 c) (hI : pI A) (e : ∀ a k, 2 ≤ a → a < 82 → h'.2.1 a k = h.2.1 a k) (K : rcC A c h) : rcC A c h' := by
  obtain ⟨q0, q4, q5, q6, q7, q8, qs, qw, qp, qx⟩ := K
  obtain ⟨b1, b2, b3, b4, b5⟩ := hI.2.2.1
  have hc : c = 2 ∨ c = 42 := hc
  refine ⟨?_, ?_, ?_, ?_, ?_, ?_, fun i hi => ?_, fun i hi => ?_, fun i hi => ?_, fun j hj => ⟨(qx j hj).1, (e _ _ (by omega) (by have := oX_le (qx j hj).1 b2 b3 b4 b5; omega)).trans (qx j hj).2⟩⟩
  · rw [e _ _ (by omega) (by omega)]; exact q0
  · rw [e _ _ (by omega) (by omega)]; exact q4
  · rw [e _ _ (by omega) (by omega)]; exact q5
  · rw [e _ _ (by omega) (by omega)]; exact q6
  · rw [e _ _ (by omega) (by omega)]; exact q7
  · rw [e _ _ (by omega) (by omega)]; exact q8
  · rw [e _ _ (by omega) (by omega), e _ _ (by omega) (by omega)]; exact qs i hi
  · rw [e _ _ (by omega) (by omega), e _ _ (by omega) (by omega)]; exact qw i hi
  · rw [e _ _ (by omega) (by omega), e _ _ (by omega) (by omega)]; exact qp i hi
theorem sText_cI : ∀ (f : Nat) (A : pA) (p : Nat) {B : pA}, sText y n f A p = .inr B → cI B ≠ 0 := by
  intro f
  induction f with
  | zero => intro A p B e; cases e
  | succ f ih =>
    intro A p B e
    rw [sText_fin] at e
    unfold sFin at e
    split at e
    · cases e
    · split at e
      · split at e
        · cases e
        · next z =>
          cases e
          exact z
      · split at e
        · exact ih _ _ e
        · cases e
/-- every end tells of a slot that it is 0, but those that answer 0 -/
def e0s (c : aCt) (a k : Nat) : Bool := c.2.2.2.1.all (fun p => decide (p.1 = some (.inl [(0, 0, 1)])) || p.2.2.1.any (fun q => decide (q = ((a, k), [(0, 0, 1)]))))
theorem e0s_in {c : aCt} {a k : Nat} {v : Option zV} {p : aPo} (hk : e0s c a k = true) (hp : p ∈ c.2.2.2.1) (hr : aRet v p.1) (hv : ∀ x, v = some (.inl x) → x ≠ 0) (hs : ∀ q ∈ p.2.2.1, aIn (h'.2.1 q.1.1 q.1.2).toInt q.2) : h'.2.1 a k = 0 := by
  have := List.all_eq_true.mp hk p hp
  rw [Bool.or_eq_true] at this
  rcases this with z | z
  · have z := of_decide_eq_true z
    rw [z] at hr
    obtain ⟨x, e, hx⟩ := hr
    exact absurd (aIn_0 hx) (hv x e)
  · obtain ⟨q, hq, e⟩ := List.any_eq_true.mp z
    have e := of_decide_eq_true e
    subst e
    exact aIn_0 (hs _ hq)
theorem pB_f {a b : Nat} (h1 : b ≤ a) (h2 : a < b + 40) : (Nat.ble (a + 1) b || Nat.ble (b + 40) a) = false := by
  rw [Bool.or_eq_false_iff]
  constructor
  · cases e : Nat.ble (a + 1) b with
    | false => rfl
    | true => have := Nat.le_of_ble_eq_true e; omega
  · cases e : Nat.ble (b + 40) a with
    | false => rfl
    | true => have := Nat.le_of_ble_eq_true e; omega
def pcR (c b : Nat) (h : zH) (r : sF ⊕ pA) (v : Option zV) (h' : zH) : Prop := match r with
  | .inl e => v = some (.inl (-1)) ∧ fl e h' ∧ h'.2.1 0 2 = 4 ∧ (∀ a k, b ≤ a → a < b + 40 → h'.2.1 a k = h.2.1 a k) ∧ h'.2.2.2.1 0 3 = h.2.2.2.1 0 3 ∧ h'.2.1 0 15 = h.2.1 0 15
  | .inr A => v = some (.inl (nI (cI A))) ∧ rcC A c h' ∧ pI A ∧ h'.2.2.2.1 0 3 = some c ∧ h'.2.1 82 11 = 0 ∧ h'.2.1 0 2 = 0 ∧ h'.2.1 0 15 = 0 ∧ cI A ≠ 0
theorem c_ref {k : Int32} (s0 : zsh h 0 = some (11, 16)) : zPa d mX11_refused [.inr (.inr (some 0)), .inl k] h (fun v h' => v = some (.inl (-1)) ∧ h' = zsI h 0 2 k) := by
  intro N
  show zPn N none d mX11_refused (0, [(0, .inr (.inr (some 0))), (1, .inl k)], [], h) _
  refine pa_aload_n (pc' := 1) dX11_refused_0 rfl rfl ?_
  refine pa_iload_n (pc' := 2) dX11_refused_1 rfl rfl ?_
  refine pa_putI (pc' := 5) (n := 16) dX11_refused_2 fl_11_17 s0 (Or.inl rfl) (Or.inl rfl) rfl ?_
  refine pa_iconst (v := (-1)) (pc' := 6) dX11_refused_5 (by decide) rfl ?_
  exact pa_iret dX11_refused_6 rfl rfl ⟨rfl, rfl⟩
theorem c_gra {k : Int32} (s0 : zsh h 0 = some (11, 16)) : zPa d mX11_granted [.inr (.inr (some 0)), .inl k] h (fun v h' => v = some (.inl k) ∧ h' = zsI h 0 2 0) := by
  intro N
  show zPn N none d mX11_granted (0, [(0, .inr (.inr (some 0))), (1, .inl k)], [], h) _
  refine pa_aload_n (pc' := 1) dX11_granted_0 rfl rfl ?_
  refine pa_iconst (v := 0) (pc' := 2) dX11_granted_1 (by decide) rfl ?_
  refine pa_putI (pc' := 5) (n := 16) dX11_granted_2 fl_11_17 s0 (Or.inl rfl) (Or.inl rfl) rfl ?_
  refine pa_iload_n (pc' := 6) dX11_granted_5 rfl rfl ?_
  exact pa_iret dX11_granted_6 rfl rfl ⟨rfl, rfl⟩
theorem N_post11_0 (ho : hOK wd h) (e1 : h.1 = hh_487.1) (hr : lV h rv0) (ht : h.2.1 0 1 = nI s) (hs : s ≤ 1000) (hn : n ≤ s) (hd : 6 ≤ d + 1) : zPa (d + 1) mX11_post [.inr (.inr (some 0)), .inl (nI n)] h (pcR 42 2 h (sText (h.2.1 1) n (n + 1) pA0 0)) := by
  intro N
  have s0 : zsh h 0 = some (11, 16) := ho.1 0 (11, 16) (by decide +kernel)
  have k0 : (0 : Int32).toInt = 0 := by decide
  show zPn N none (d + 1) mX11_post (0, [(0, .inr (.inr (some 0))), (1, .inl (nI n))], [], h) _
  refine pa_iload_n (pc' := 1) dX11_post_0 rfl rfl ?_
  refine pa_if (pc' := 12) (pc2 := 4) dX11_post_1 (by decide) rfl (fun c => ?_) (fun c => ?_)
  · have := zi_lt c
    rw [nI_toInt (by omega), k0] at this
    omega
  refine pa_iload_n (pc' := 5) dX11_post_4 rfl rfl ?_
  refine pa_aload_n (pc' := 6) dX11_post_5 rfl rfl ?_
  refine pa_getI (pc' := 9) (n := 16) (v := nI s) dX11_post_6 fl_11_13 s0 (by decide) ht rfl ?_
  refine pa_icmp (pc' := 18) (pc2 := 12) dX11_post_9 (by decide) rfl (fun c2 => ?_) (fun c2 => ?_)
  rotate_left
  · have := zi_gt (zk_le_gt c2)
    rw [nI_toInt (by omega), nI_toInt (by omega)] at this
    omega
  refine pa_aload_n (pc' := 19) dX11_post_18 rfl rfl ?_
  refine pa_iconst (v := 0) (pc' := 20) dX11_post_19 (by decide) rfl ?_
  refine pa_putI (pc' := 23) (n := 16) dX11_post_20 fl_11_13 s0 (Or.inl rfl) (Or.inl rfl) rfl ?_
  have ho2 : hOK wd (zsI h 0 1 0) := hOK_set (aLe_in (A := [(0, 0, 1)]) (by decide +kernel) (aR1_in (lo := 0) (hi := 0) (by decide) (by decide))) (by decide +kernel) ho
  have r5 : (zsI h 0 1 0).2.2.2.1 0 5 = some 82 := ho2.2.2.1 0 5 82 (by decide +kernel)
  have r4 : (zsI h 0 1 0).2.2.2.1 0 4 = some 42 := hr ((0, 4), 42) (by decide)
  have hy : (zsI h 0 1 0).2.1 1 = h.2.1 1 := funext (fun k => zsI_no (by omega))
  refine pa_aload_n (pc' := 24) dX11_post_23 rfl rfl ?_
  refine pa_getR (pc' := 27) (n := 16) (r := 82) dX11_post_24 fl_11_35 s0 (by decide) r5 rfl ?_
  refine pa_iload_n (pc' := 28) dX11_post_27 rfl rfl ?_
  refine pa_aload_n (pc' := 29) dX11_post_28 rfl rfl ?_
  refine pa_getR (pc' := 32) (n := 16) (r := 42) dX11_post_29 fl_11_27 s0 (by decide) r4 rfl ?_
  refine pa_callv (pc' := 35) (vs := [.inl (nI n), .inr (.inr (some 42))]) (rest := []) dX11_post_32 ml_11_102 (by decide) rfl rfl rfl (fun d' hd' => zPa.two (zPa.of (S_54 d' (by show 5 ≤ d'; omega) [.inr (.inr (some 82)), .inl (nI n), .inr (.inr (some 42))] (zsI h 0 1 0) ⟨⟨82, List.mem_cons_self, rfl⟩, ⟨_, rfl, aR1_in (lo := 0) (hi := 1000) (by rw [nI_toInt (by omega)]; omega) (by rw [nI_toInt (by omega)]; omega)⟩, ⟨42, List.mem_cons_self, rfl⟩, trivial⟩ ho2 ⟨fun q hq => (nomatch hq), fun q hq => (nomatch hq)⟩)) (by
    obtain ⟨e, rfl⟩ : ∃ e, d' = e + 1 := ⟨d' - 1, by omega⟩
    exact C_text (y := h.2.1 1) (c := 42) (by unfold cc2; decide) e1 ho2.2.2.1 hy (by omega))) (fun v g hq => ?_)
  obtain ⟨⟨ho3, hf3, p3, hp3, hret3, -, hpre3, -⟩, hq⟩ := hq
  have s0g : zsh g 0 = some (11, 16) := ho3.1 0 (11, 16) (by decide +kernel)
  have hrg : lV g rv0 := fun q hq => (hf3.2.2.2.1 q.1.1 q.1.2 (by
    have : ∀ q ∈ rv0, inM [(82, 6, 7)] q.1.1 q.1.2 = false := by decide
    exact this q hq)).trans (hr q hq)
  cases er : sText (h.2.1 1) n (n + 1) pA0 0 with
  | inl e =>
    rw [er] at hq
    obtain ⟨ev, hf⟩ := hq
    subst ev
    show zPn N none (d + 1) mX11_post (35, [(0, .inr (.inr (some 0))), (1, .inl (nI n))], [.inl 0], g) _
    refine pa_if_f (x := 0) (pc' := 38) dX11_post_35 (by decide) (by decide) rfl ?_
    refine pa_aload_n (pc' := 39) dX11_post_38 rfl rfl ?_
    refine pa_iconst (v := 4) (pc' := 40) dX11_post_39 (by decide) rfl ?_
    refine pa_callv (pc' := 43) (vs := [.inl 4]) (rest := []) dX11_post_40 ml_11_98 (by decide) rfl rfl rfl (fun d' _ => c_ref s0g) (fun v g2 hq => ?_)
    obtain ⟨ev, eg⟩ := hq
    subst ev; subst eg
    exact pa_iret dX11_post_43 rfl rfl ⟨rfl, ⟨by rw [zsI_no (by omega)]; exact hf.1, by rw [zsI_no (by omega)]; exact hf.2⟩, zsI_eq, fun a k h1 h2 => ((zsI_no (by omega)).trans (hf3.2.2.1 a k (inM_by (fun x => Nat.ble (x + 1) 2 || Nat.ble (2 + 40) x) (by decide +kernel) (pB_f h1 h2)))).trans (zsI_no (by omega)), hf3.2.2.2.1 0 3 rfl, ((zsI_no (by omega)).trans (hf3.2.2.1 0 15 (by decide))).trans (zsI_no (by omega))⟩
  | inr A =>
    rw [er] at hq
    obtain ⟨ev, hC, hI⟩ := hq
    subst ev
    show zPn N none (d + 1) mX11_post (35, [(0, .inr (.inr (some 0))), (1, .inl (nI n))], [.inl 1], g) _
    refine pa_if_t (x := 1) (pc' := 44) dX11_post_35 (by decide) (by decide) ?_
    refine pa_aload_n (pc' := 45) dX11_post_44 rfl rfl ?_
    refine pa_callv (pc' := 48) (vs := []) (rest := []) dX11_post_45 ml_11_106 (by decide) rfl rfl rfl (fun d' hd' => zPa.of (S_56 d' (by show 1 ≤ d'; omega) [.inr (.inr (some 0))] g ⟨⟨0, List.mem_cons_self, rfl⟩, trivial⟩ ho3 ⟨fun q hq => (nomatch hq), hrg⟩)) (fun v g2 hq => ?_)
    obtain ⟨ho4, hf4, p, hp, hret, -, hpre, hpr⟩ := hq
    have hall : ct_56.2.2.2.1.all (fun p => decide (p.1 = none) && p.2.2.2.any (fun q => decide (q = ((0, 3), 42)))) = true := by decide +kernel
    have hb := List.all_eq_true.mp hall p hp
    rw [Bool.and_eq_true] at hb
    have ev : v = none := by
      rw [of_decide_eq_true hb.1] at hret
      exact hret
    have z15 : g2.2.1 0 15 = 0 := e0s_in (c := ct_56) (by decide +kernel) hp hret (fun x e => by rw [ev] at e; cases e) hpre
    have z11 : g.2.1 82 11 = 0 := e0s_in (c := ct_54) (by decide +kernel) hp3 hret3 (fun x e => by cases e; decide) hpre3
    subst ev
    have fr : ∀ a k, 2 ≤ a → a < 82 → g2.2.1 a k = g.2.1 a k := fun a k h1 h2 => hf4.2.2.1 a k (inM_mid (by decide) h1 h2)
    have s0h : zsh g2 0 = some (11, 16) := ho4.1 0 (11, 16) (by decide +kernel)
    have sch : zsh g2 42 = some (4, 15) := ho4.1 42 (4, 15) (by decide +kernel)
    have r3 : g2.2.2.2.1 0 3 = some 42 := by
      obtain ⟨q, hq, e⟩ := List.any_eq_true.mp hb.2
      have e := of_decide_eq_true e
      subst e
      exact hpr _ hq
    have k4 : g2.2.1 42 4 = nI (cI A) := (fr _ _ (by decide) (by decide)).trans hC.2.1
    show zPn N none (d + 1) mX11_post (48, [(0, .inr (.inr (some 0))), (1, .inl (nI n))], [], g2) _
    refine pa_aload_n (pc' := 49) dX11_post_48 rfl rfl ?_
    refine pa_aload_n (pc' := 50) dX11_post_49 rfl rfl ?_
    refine pa_getR (pc' := 53) (n := 16) (r := 42) dX11_post_50 fl_11_23 s0h (by decide) r3 rfl ?_
    refine pa_getI (pc' := 56) (n := 15) dX11_post_53 fl_11_109 sch (by decide) k4 rfl ?_
    refine pa_callv (pc' := 59) (vs := [.inl (nI (cI A))]) (rest := []) dX11_post_56 ml_11_112 (by decide) rfl rfl rfl (fun d' _ => c_gra s0h) (fun v g3 hq => ?_)
    obtain ⟨ev, eg⟩ := hq
    subst ev; subst eg
    exact pa_iret dX11_post_59 rfl rfl ⟨rfl, rcC.frM (by unfold cc2; decide) hI (fun a k h1 h2 => (zsI_no (by omega)).trans (fr a k h1 h2)) hC, hI, r3, (zsI_no (by omega)).trans ((hf4.2.2.1 82 11 (by decide)).trans z11), zsI_eq, (zsI_no (by omega)).trans z15, sText_cI _ _ _ er⟩
theorem N_post11_1 (ho : hOK wd h) (e1 : h.1 = hh_487.1) (hr : lV h rv1) (ht : h.2.1 0 1 = nI s) (hs : s ≤ 1000) (hn : n ≤ s) (hd : 6 ≤ d + 1) : zPa (d + 1) mX11_post [.inr (.inr (some 0)), .inl (nI n)] h (pcR 2 42 h (sText (h.2.1 1) n (n + 1) pA0 0)) := by
  intro N
  have s0 : zsh h 0 = some (11, 16) := ho.1 0 (11, 16) (by decide +kernel)
  have k0 : (0 : Int32).toInt = 0 := by decide
  show zPn N none (d + 1) mX11_post (0, [(0, .inr (.inr (some 0))), (1, .inl (nI n))], [], h) _
  refine pa_iload_n (pc' := 1) dX11_post_0 rfl rfl ?_
  refine pa_if (pc' := 12) (pc2 := 4) dX11_post_1 (by decide) rfl (fun c => ?_) (fun c => ?_)
  · have := zi_lt c
    rw [nI_toInt (by omega), k0] at this
    omega
  refine pa_iload_n (pc' := 5) dX11_post_4 rfl rfl ?_
  refine pa_aload_n (pc' := 6) dX11_post_5 rfl rfl ?_
  refine pa_getI (pc' := 9) (n := 16) (v := nI s) dX11_post_6 fl_11_13 s0 (by decide) ht rfl ?_
  refine pa_icmp (pc' := 18) (pc2 := 12) dX11_post_9 (by decide) rfl (fun c2 => ?_) (fun c2 => ?_)
  rotate_left
  · have := zi_gt (zk_le_gt c2)
    rw [nI_toInt (by omega), nI_toInt (by omega)] at this
    omega
  refine pa_aload_n (pc' := 19) dX11_post_18 rfl rfl ?_
  refine pa_iconst (v := 0) (pc' := 20) dX11_post_19 (by decide) rfl ?_
  refine pa_putI (pc' := 23) (n := 16) dX11_post_20 fl_11_13 s0 (Or.inl rfl) (Or.inl rfl) rfl ?_
  have ho2 : hOK wd (zsI h 0 1 0) := hOK_set (aLe_in (A := [(0, 0, 1)]) (by decide +kernel) (aR1_in (lo := 0) (hi := 0) (by decide) (by decide))) (by decide +kernel) ho
  have r5 : (zsI h 0 1 0).2.2.2.1 0 5 = some 82 := ho2.2.2.1 0 5 82 (by decide +kernel)
  have r4 : (zsI h 0 1 0).2.2.2.1 0 4 = some 2 := hr ((0, 4), 2) (by decide)
  have hy : (zsI h 0 1 0).2.1 1 = h.2.1 1 := funext (fun k => zsI_no (by omega))
  refine pa_aload_n (pc' := 24) dX11_post_23 rfl rfl ?_
  refine pa_getR (pc' := 27) (n := 16) (r := 82) dX11_post_24 fl_11_35 s0 (by decide) r5 rfl ?_
  refine pa_iload_n (pc' := 28) dX11_post_27 rfl rfl ?_
  refine pa_aload_n (pc' := 29) dX11_post_28 rfl rfl ?_
  refine pa_getR (pc' := 32) (n := 16) (r := 2) dX11_post_29 fl_11_27 s0 (by decide) r4 rfl ?_
  refine pa_callv (pc' := 35) (vs := [.inl (nI n), .inr (.inr (some 2))]) (rest := []) dX11_post_32 ml_11_102 (by decide) rfl rfl rfl (fun d' hd' => zPa.two (zPa.of (S_306 d' (by show 5 ≤ d'; omega) [.inr (.inr (some 82)), .inl (nI n), .inr (.inr (some 2))] (zsI h 0 1 0) ⟨⟨82, List.mem_cons_self, rfl⟩, ⟨_, rfl, aR1_in (lo := 0) (hi := 1000) (by rw [nI_toInt (by omega)]; omega) (by rw [nI_toInt (by omega)]; omega)⟩, ⟨2, List.mem_cons_self, rfl⟩, trivial⟩ ho2 ⟨fun q hq => (nomatch hq), fun q hq => (nomatch hq)⟩)) (by
    obtain ⟨e, rfl⟩ : ∃ e, d' = e + 1 := ⟨d' - 1, by omega⟩
    exact C_text (y := h.2.1 1) (c := 2) (by unfold cc2; decide) e1 ho2.2.2.1 hy (by omega))) (fun v g hq => ?_)
  obtain ⟨⟨ho3, hf3, p3, hp3, hret3, -, hpre3, -⟩, hq⟩ := hq
  have s0g : zsh g 0 = some (11, 16) := ho3.1 0 (11, 16) (by decide +kernel)
  have hrg : lV g rv1 := fun q hq => (hf3.2.2.2.1 q.1.1 q.1.2 (by
    have : ∀ q ∈ rv1, inM [(82, 6, 7)] q.1.1 q.1.2 = false := by decide
    exact this q hq)).trans (hr q hq)
  cases er : sText (h.2.1 1) n (n + 1) pA0 0 with
  | inl e =>
    rw [er] at hq
    obtain ⟨ev, hf⟩ := hq
    subst ev
    show zPn N none (d + 1) mX11_post (35, [(0, .inr (.inr (some 0))), (1, .inl (nI n))], [.inl 0], g) _
    refine pa_if_f (x := 0) (pc' := 38) dX11_post_35 (by decide) (by decide) rfl ?_
    refine pa_aload_n (pc' := 39) dX11_post_38 rfl rfl ?_
    refine pa_iconst (v := 4) (pc' := 40) dX11_post_39 (by decide) rfl ?_
    refine pa_callv (pc' := 43) (vs := [.inl 4]) (rest := []) dX11_post_40 ml_11_98 (by decide) rfl rfl rfl (fun d' _ => c_ref s0g) (fun v g2 hq => ?_)
    obtain ⟨ev, eg⟩ := hq
    subst ev; subst eg
    exact pa_iret dX11_post_43 rfl rfl ⟨rfl, ⟨by rw [zsI_no (by omega)]; exact hf.1, by rw [zsI_no (by omega)]; exact hf.2⟩, zsI_eq, fun a k h1 h2 => ((zsI_no (by omega)).trans (hf3.2.2.1 a k (inM_by (fun x => Nat.ble (x + 1) 42 || Nat.ble (42 + 40) x) (by decide +kernel) (pB_f h1 h2)))).trans (zsI_no (by omega)), hf3.2.2.2.1 0 3 rfl, ((zsI_no (by omega)).trans (hf3.2.2.1 0 15 (by decide))).trans (zsI_no (by omega))⟩
  | inr A =>
    rw [er] at hq
    obtain ⟨ev, hC, hI⟩ := hq
    subst ev
    show zPn N none (d + 1) mX11_post (35, [(0, .inr (.inr (some 0))), (1, .inl (nI n))], [.inl 1], g) _
    refine pa_if_t (x := 1) (pc' := 44) dX11_post_35 (by decide) (by decide) ?_
    refine pa_aload_n (pc' := 45) dX11_post_44 rfl rfl ?_
    refine pa_callv (pc' := 48) (vs := []) (rest := []) dX11_post_45 ml_11_106 (by decide) rfl rfl rfl (fun d' hd' => zPa.of (S_308 d' (by show 1 ≤ d'; omega) [.inr (.inr (some 0))] g ⟨⟨0, List.mem_cons_self, rfl⟩, trivial⟩ ho3 ⟨fun q hq => (nomatch hq), hrg⟩)) (fun v g2 hq => ?_)
    obtain ⟨ho4, hf4, p, hp, hret, -, hpre, hpr⟩ := hq
    have hall : ct_308.2.2.2.1.all (fun p => decide (p.1 = none) && p.2.2.2.any (fun q => decide (q = ((0, 3), 2)))) = true := by decide +kernel
    have hb := List.all_eq_true.mp hall p hp
    rw [Bool.and_eq_true] at hb
    have ev : v = none := by
      rw [of_decide_eq_true hb.1] at hret
      exact hret
    have z15 : g2.2.1 0 15 = 0 := e0s_in (c := ct_308) (by decide +kernel) hp hret (fun x e => by rw [ev] at e; cases e) hpre
    have z11 : g.2.1 82 11 = 0 := e0s_in (c := ct_306) (by decide +kernel) hp3 hret3 (fun x e => by cases e; decide) hpre3
    subst ev
    have fr : ∀ a k, 2 ≤ a → a < 82 → g2.2.1 a k = g.2.1 a k := fun a k h1 h2 => hf4.2.2.1 a k (inM_mid (by decide) h1 h2)
    have s0h : zsh g2 0 = some (11, 16) := ho4.1 0 (11, 16) (by decide +kernel)
    have sch : zsh g2 2 = some (4, 15) := ho4.1 2 (4, 15) (by decide +kernel)
    have r3 : g2.2.2.2.1 0 3 = some 2 := by
      obtain ⟨q, hq, e⟩ := List.any_eq_true.mp hb.2
      have e := of_decide_eq_true e
      subst e
      exact hpr _ hq
    have k4 : g2.2.1 2 4 = nI (cI A) := (fr _ _ (by decide) (by decide)).trans hC.2.1
    show zPn N none (d + 1) mX11_post (48, [(0, .inr (.inr (some 0))), (1, .inl (nI n))], [], g2) _
    refine pa_aload_n (pc' := 49) dX11_post_48 rfl rfl ?_
    refine pa_aload_n (pc' := 50) dX11_post_49 rfl rfl ?_
    refine pa_getR (pc' := 53) (n := 16) (r := 2) dX11_post_50 fl_11_23 s0h (by decide) r3 rfl ?_
    refine pa_getI (pc' := 56) (n := 15) dX11_post_53 fl_11_109 sch (by decide) k4 rfl ?_
    refine pa_callv (pc' := 59) (vs := [.inl (nI (cI A))]) (rest := []) dX11_post_56 ml_11_112 (by decide) rfl rfl rfl (fun d' _ => c_gra s0h) (fun v g3 hq => ?_)
    obtain ⟨ev, eg⟩ := hq
    subst ev; subst eg
    exact pa_iret dX11_post_59 rfl rfl ⟨rfl, rcC.frM (by unfold cc2; decide) hI (fun a k h1 h2 => (zsI_no (by omega)).trans (fr a k h1 h2)) hC, hI, r3, (zsI_no (by omega)).trans ((hf4.2.2.1 82 11 (by decide)).trans z11), zsI_eq, (zsI_no (by omega)).trans z15, sText_cI _ _ _ er⟩
end PCL
end Pk6
section Pk7
/-! every number of a post is told -/
def tA (A : pA) : Prop := (A.1 ≠ 0 → ∀ s, 1 ≤ s → s ≤ 3 → A.2.2.1 (1000 + s) ≠ []) ∧ (∀ k, k < cW A → A.2.2.1 (1000 + (61 + 4 * k)) ≠ [] ∧ A.2.2.1 (1000 + (62 + 4 * k)) ≠ []) ∧ (∀ k, k < cH A → ∀ s, s < 4 → A.2.2.1 (1000 + (107 + 4 * k + s)) ≠ []) ∧ (∀ k, k < cB A → ∀ s, s < 4 → A.2.2.1 (1000 + (127 + 4 * k + s)) ≠ []) ∧ (∀ k, k < cS A → A.2.2.1 (1000 + (160 + 3 * k)) ≠ [])
theorem xS_at {S : Nat → List Int32} {i j : Nat} {x : Int32} (e : j = i) : xS S i x (1000 + j) ≠ [] := by
  rw [upX, if_pos e]
  exact List.cons_ne_nil _ _
theorem xS_ne {S : Nat → List Int32} {i j : Nat} {x : Int32} (e : S (1000 + j) ≠ []) : xS S i x (1000 + j) ≠ [] := by
  rw [upX]
  split
  · exact List.cons_ne_nil _ _
  · exact e
section RD7
variable {y : Nat → Int32} {n p q : Nat} {A A' : pA}
theorem inr_tA {r : sR} {B : pA} {q' : Nat} (e : (Sum.inr (B, q') : sR) = .inr (A', q)) (k : tA B) : tA A' := by
  have := congrArg Prod.fst (Sum.inr.inj e)
  dsimp only at this
  rw [← this]
  exact k
theorem sHead_tA (hI : pI A) (k : tA A) (h0 : A.1 = 0) (e : sHead y n A p = .inr (A', q)) : tA A' := by
  have z := hI.2.1 h0
  unfold sHead at e
  split at e
  · cases e
  split at e
  · cases e
  split at e
  · cases e
  split at e
  · cases e
  refine inr_tA (r := .inl (0, 0)) e ⟨fun _ s h1 h2 => ?_, fun k hk => ?_, fun k hk => ?_, fun k hk => ?_, fun k hk => ?_⟩
  · have : s = 1 ∨ s = 2 ∨ s = 3 := by omega
    rcases this with e | e | e
    · exact xS_ne (xS_ne (xS_at e))
    · exact xS_ne (xS_at e)
    · exact xS_at e
  · have hk : k < cW A := hk
    omega
  · have hk : k < cH A := hk
    omega
  · have hk : k < cB A := hk
    omega
  · have hk : k < cS A := hk
    omega
theorem sIsland_tA (k : tA A) (hi : cI A < 7) (e : sIsland y n A p = .inr (A', q)) : tA A' := by
  obtain ⟨k1, k2, k3, k4, k5⟩ := k
  unfold sIsland at e
  split at e
  · cases e
  split at e
  · split at e
    · split at e
      · cases e
      · refine inr_tA (r := .inl (0, 0)) e ⟨fun h0 s h1 h2 => ?_, fun k hk => ?_, fun k hk s hs => ?_, fun k hk s hs => ?_, fun k hk => ?_⟩
        · show upA A.2.2.1 (cI A) _ (1000 + s) ≠ []
          rw [upI_hi (by omega)]
          exact k1 h0 s h1 h2
        · show upA A.2.2.1 (cI A) _ (1000 + (61 + 4 * k)) ≠ [] ∧ upA A.2.2.1 (cI A) _ (1000 + (62 + 4 * k)) ≠ []
          rw [upI_hi (by omega), upI_hi (by omega)]
          exact k2 k hk
        · show upA A.2.2.1 (cI A) _ (1000 + (107 + 4 * k + s)) ≠ []
          rw [upI_hi (by omega)]
          exact k3 k hk s hs
        · show upA A.2.2.1 (cI A) _ (1000 + (127 + 4 * k + s)) ≠ []
          rw [upI_hi (by omega)]
          exact k4 k hk s hs
        · show upA A.2.2.1 (cI A) _ (1000 + (160 + 3 * k)) ≠ []
          rw [upI_hi (by omega)]
          exact k5 k hk
    · cases e
  · cases e
theorem sWay_tA (k : tA A) (e : sWay y n A p = .inr (A', q)) : tA A' := by
  obtain ⟨k1, k2, k3, k4, k5⟩ := k
  unfold sWay at e
  split at e
  · cases e
  split at e
  · cases e
  split at e
  · cases e
  split at e
  · cases e
  split at e
  · cases e
  refine inr_tA (r := .inl (0, 0)) e ⟨fun h0 s h1 h2 => xS_ne (xS_ne (k1 h0 s h1 h2)), fun k hk => ?_, fun k hk s hs => xS_ne (xS_ne (k3 k hk s hs)), fun k hk s hs => xS_ne (xS_ne (k4 k hk s hs)), fun k hk => xS_ne (xS_ne (k5 k hk))⟩
  have hk : k < cW A + 1 := hk
  by_cases z : k = cW A
  · exact ⟨xS_ne (xS_at (by rw [z])), xS_at (by rw [z])⟩
  · have := k2 k (by omega)
    exact ⟨xS_ne (xS_ne this.1), xS_ne (xS_ne this.2)⟩
theorem x4_ne {S : Nat → List Int32} {b j : Nat} {x0 x1 x2 x3 : Int32} (e : S (1000 + j) ≠ [] ∨ (b ≤ j ∧ j < b + 4)) : xS (xS (xS (xS S b x0) (1 + b) x1) (2 + b) x2) (3 + b) x3 (1000 + j) ≠ [] := by
  rcases e with e | e
  · exact xS_ne (xS_ne (xS_ne (xS_ne e)))
  · have : j = b ∨ j = 1 + b ∨ j = 2 + b ∨ j = 3 + b := by omega
    rcases this with z | z | z | z
    · exact xS_ne (xS_ne (xS_ne (xS_at z)))
    · exact xS_ne (xS_ne (xS_at z))
    · exact xS_ne (xS_at z)
    · exact xS_at z
theorem sWhale_tA (k : tA A) (e : sWhale y n A p = .inr (A', q)) : tA A' := by
  obtain ⟨k1, k2, k3, k4, k5⟩ := k
  unfold sWhale at e
  split at e
  · cases e
  split at e
  · split at e
    · cases e
    split at e
    · cases e
    split at e
    · cases e
    split at e
    · cases e
    have e1 : 108 + 4 * cH A = 1 + (107 + 4 * cH A) := by omega
    have e2 : 109 + 4 * cH A = 2 + (107 + 4 * cH A) := by omega
    have e3 : 110 + 4 * cH A = 3 + (107 + 4 * cH A) := by omega
    rw [e1, e2, e3] at e
    refine inr_tA (r := .inl (0, 0)) e ⟨fun h0 s h1 h2 => x4_ne (.inl (k1 h0 s h1 h2)), fun k hk => ⟨x4_ne (.inl (k2 k hk).1), x4_ne (.inl (k2 k hk).2)⟩, fun k hk s hs => ?_, fun k hk s hs => x4_ne (.inl (k4 k hk s hs)), fun k hk => x4_ne (.inl (k5 k hk))⟩
    have hk : k < cH A + 1 := hk
    by_cases z : k = cH A
    · exact x4_ne (.inr (by omega))
    · exact x4_ne (.inl (k3 k (by omega) s hs))
  · cases e
theorem sBox_tA (k : tA A) (e : sBox y n A p = .inr (A', q)) : tA A' := by
  obtain ⟨k1, k2, k3, k4, k5⟩ := k
  unfold sBox at e
  split at e
  · cases e
  split at e
  · cases e
  split at e
  · cases e
  split at e
  · cases e
  split at e
  · cases e
  split at e
  · cases e
  split at e
  · cases e
  have e1 : 128 + 4 * cB A = 1 + (127 + 4 * cB A) := by omega
  have e2 : 129 + 4 * cB A = 2 + (127 + 4 * cB A) := by omega
  have e3 : 130 + 4 * cB A = 3 + (127 + 4 * cB A) := by omega
  rw [e1, e2, e3] at e
  refine inr_tA (r := .inl (0, 0)) e ⟨fun h0 s h1 h2 => x4_ne (.inl (k1 h0 s h1 h2)), fun k hk => ⟨x4_ne (.inl (k2 k hk).1), x4_ne (.inl (k2 k hk).2)⟩, fun k hk s hs => x4_ne (.inl (k3 k hk s hs)), fun k hk s hs => ?_, fun k hk => x4_ne (.inl (k5 k hk))⟩
  have hk : k < cB A + 1 := hk
  by_cases z : k = cB A
  · exact x4_ne (.inr (by omega))
  · exact x4_ne (.inl (k4 k (by omega) s hs))
theorem sSpout_tA (k : tA A) (e : sSpout y n A p = .inr (A', q)) : tA A' := by
  obtain ⟨k1, k2, k3, k4, k5⟩ := k
  unfold sSpout at e
  split at e
  · cases e
  split at e
  · cases e
  split at e
  · cases e
  refine inr_tA (r := .inl (0, 0)) e ⟨fun h0 s h1 h2 => xS_ne (k1 h0 s h1 h2), fun k hk => ⟨xS_ne (k2 k hk).1, xS_ne (k2 k hk).2⟩, fun k hk s hs => xS_ne (k3 k hk s hs), fun k hk s hs => xS_ne (k4 k hk s hs), fun k hk => ?_⟩
  have hk : k < cS A + 1 := hk
  by_cases z : k = cS A
  · exact xS_at (by rw [z])
  · exact xS_ne (k5 k (by omega))
theorem sLine_tA (hI : pI A) (k : tA A) (e : sLine y n A p = .inr (A', q)) : tA A' := by
  unfold sLine at e
  split at e
  · split at e
    · next h0 => exact sHead_tA hI k h0 e
    · cases e
  split at e
  · split at e
    · cases e
    split at e
    · next h7 => exact sIsland_tA k h7 e
    · cases e
  split at e
  · split at e
    · cases e
    split at e
    · exact sWay_tA k e
    · cases e
  split at e
  · split at e
    · cases e
    split at e
    · exact sWhale_tA k e
    · cases e
  split at e
  · split at e
    · cases e
    split at e
    · exact sBox_tA k e
    · cases e
  split at e
  · split at e
    · cases e
    split at e
    · exact sSpout_tA k e
    · cases e
  · cases e
theorem sText_tA : ∀ (f : Nat) (A : pA) (p : Nat) {B : pA}, pI A → tA A → p ≤ n → sText y n f A p = .inr B → tA B := by
  intro f
  induction f with
  | zero => intro A p B _ _ _ e; cases e
  | succ f ih =>
    intro A p B hI k hp e
    rw [sText_fin] at e
    cases er : sLine y n A p with
    | inl z =>
      rw [er] at e
      cases e
    | inr z =>
      obtain ⟨A', q'⟩ := z
      rw [er] at e
      have k' := sLine_tA hI k er
      have hI' := sLine_pI hI hp er
      have ge := sLine_ge hp er
      unfold sFin at e
      dsimp only at e
      split at e
      · split at e
        · cases e
        · cases e
          exact k'
      · split at e
        · next t59 => exact ih A' _ hI' k' (t59_gt (y := y) ge.2 t59).2 e
        · cases e
theorem tA_0 : tA pA0 := ⟨fun z => absurd rfl z, fun k hk => absurd hk (Nat.not_lt_zero k), fun k hk => absurd hk (Nat.not_lt_zero k), fun k hk => absurd hk (Nat.not_lt_zero k), fun k hk => absurd hk (Nat.not_lt_zero k)⟩
end RD7
end Pk7
