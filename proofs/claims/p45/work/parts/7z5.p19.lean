/-! the reference: ways -/
section MDB
variable {R0 : Nat → Nat → Int32} {y : Nat → Int32} {n d N p k s : Nat} {h h' g : zH} {A : pA} {nm : Nat → List Int32} {e : sF} {r : sF ⊕ Nat}
def jP (g : zH) (a b : Int32) (k : Nat) : Prop := (g.2.1 200 (59 + 4 * k) = a ∧ g.2.1 200 (59 + 4 * k + 1) = b) ∨ (g.2.1 200 (59 + 4 * k) = b ∧ g.2.1 200 (59 + 4 * k + 1) = a)
theorem M_joins {a b : Int32} (s200 : zsh g 200 = some (14, 363)) (hk : k < 12) : zPa d mX12_joins [.inr (.inr (some 200)), .inl (nI k), .inl a, .inl b] g (fun v h' => h' = g ∧ ((v = some (.inl 1) ∧ jP g a b k) ∨ (v = some (.inl 0) ∧ ¬ jP g a b k))) := by
  intro N
  show zPn N none d mX12_joins (0, [(0, .inr (.inr (some 200))), (1, .inl (nI k)), (2, .inl a), (3, .inl b)], [], g) _
  refine pa_aload_n (pc' := 1) dX12_joins_0 rfl rfl ?_
  refine pa_bipush (v := nI 59) (pc' := 3) dX12_joins_1 (by decide) rfl ?_
  refine pa_iconst (v := nI 4) (pc' := 4) dX12_joins_3 (by decide) rfl ?_
  refine pa_iload_n (pc' := 5) dX12_joins_4 rfl rfl ?_
  refine pa_imul (pc' := 6) (v := nI (4 * k)) dX12_joins_5 (nI_mul _ _) rfl ?_
  refine pa_iadd (pc' := 7) (v := nI (59 + 4 * k)) dX12_joins_6 (nI_add _ _) rfl ?_
  refine pa_iald (pc' := 8) (n := 363) dX12_joins_7 s200 rfl (fun _ => ?_)
  rw [nI_clamp (by omega)]
  refine pa_istore (pc' := 10) dX12_joins_8 (by decide) rfl rfl ?_
  refine pa_aload_n (pc' := 11) dX12_joins_10 rfl rfl ?_
  refine pa_bipush (v := nI 59) (pc' := 13) dX12_joins_11 (by decide) rfl ?_
  refine pa_iconst (v := nI 4) (pc' := 14) dX12_joins_13 (by decide) rfl ?_
  refine pa_iload_n (pc' := 15) dX12_joins_14 rfl rfl ?_
  refine pa_imul (pc' := 16) (v := nI (4 * k)) dX12_joins_15 (nI_mul _ _) rfl ?_
  refine pa_iadd (pc' := 17) (v := nI (59 + 4 * k)) dX12_joins_16 (nI_add _ _) rfl ?_
  refine pa_iconst (v := nI 1) (pc' := 18) dX12_joins_17 (by decide) rfl ?_
  refine pa_iadd (pc' := 19) (v := nI (59 + 4 * k + 1)) dX12_joins_18 (nI_add _ _) rfl ?_
  refine pa_iald (pc' := 20) (n := 363) dX12_joins_19 s200 rfl (fun _ => ?_)
  rw [nI_clamp (by omega)]
  refine pa_istore (pc' := 22) dX12_joins_20 (by decide) rfl rfl ?_
  have yes : jP g a b k → ∀ ls : zL, zPn N none d mX12_joins (46, ls, [], g) (fun v h' => h' = g ∧ ((v = some (.inl 1) ∧ jP g a b k) ∨ (v = some (.inl 0) ∧ ¬ jP g a b k))) := by
    intro z ls
    refine pa_iconst (v := 1) (pc' := 47) dX12_joins_46 (by decide) rfl ?_
    refine pa_goto (pc' := 51) dX12_joins_47 (by decide) ?_
    exact pa_iret dX12_joins_51 rfl rfl ⟨rfl, .inl ⟨rfl, z⟩⟩
  have no : ¬ jP g a b k → ∀ ls : zL, zPn N none d mX12_joins (50, ls, [], g) (fun v h' => h' = g ∧ ((v = some (.inl 1) ∧ jP g a b k) ∨ (v = some (.inl 0) ∧ ¬ jP g a b k))) := by
    intro z ls
    refine pa_iconst (v := 0) (pc' := 51) dX12_joins_50 (by decide) rfl ?_
    exact pa_iret dX12_joins_51 rfl rfl ⟨rfl, .inr ⟨rfl, z⟩⟩
  have two : ¬ (g.2.1 200 (59 + 4 * k) = a ∧ g.2.1 200 (59 + 4 * k + 1) = b) → zPn N none d mX12_joins (34, [(5, .inl (g.2.1 200 (59 + 4 * k + 1))), (4, .inl (g.2.1 200 (59 + 4 * k))), (0, .inr (.inr (some 200))), (1, .inl (nI k)), (2, .inl a), (3, .inl b)], [], g) (fun v h' => h' = g ∧ ((v = some (.inl 1) ∧ jP g a b k) ∨ (v = some (.inl 0) ∧ ¬ jP g a b k))) := by
    intro w
    refine pa_iload (pc' := 36) dX12_joins_34 rfl rfl ?_
    refine pa_iload_n (pc' := 37) dX12_joins_36 rfl rfl ?_
    refine pa_icmp (pc' := 50) (pc2 := 40) dX12_joins_37 (by decide) rfl (fun cd => no (fun z => ?_) _) (fun cd => ?_)
    · have cd : ¬ g.2.1 200 (59 + 4 * k) = b := by simpa [zcond] using cd
      rcases z with z | z
      · exact w z
      · exact cd z.1
    · have cd : g.2.1 200 (59 + 4 * k) = b := by simpa [zcond] using cd
      refine pa_iload (pc' := 42) dX12_joins_40 rfl rfl ?_
      refine pa_iload_n (pc' := 43) dX12_joins_42 rfl rfl ?_
      refine pa_icmp (pc' := 50) (pc2 := 46) dX12_joins_43 (by decide) rfl (fun cd2 => no (fun z => ?_) _) (fun cd2 => ?_)
      · have cd2 : ¬ g.2.1 200 (59 + 4 * k + 1) = a := by simpa [zcond] using cd2
        rcases z with z | z
        · exact w z
        · exact cd2 z.2
      · have cd2 : g.2.1 200 (59 + 4 * k + 1) = a := by simpa [zcond] using cd2
        exact yes (.inr ⟨cd, cd2⟩) _
  refine pa_iload (pc' := 24) dX12_joins_22 rfl rfl ?_
  refine pa_iload_n (pc' := 25) dX12_joins_24 rfl rfl ?_
  refine pa_icmp (pc' := 34) (pc2 := 28) dX12_joins_25 (by decide) rfl (fun cd => two (fun z => ?_)) (fun cd => ?_)
  · have cd : ¬ g.2.1 200 (59 + 4 * k) = a := by simpa [zcond] using cd
    exact cd z.1
  · have cd : g.2.1 200 (59 + 4 * k) = a := by simpa [zcond] using cd
    refine pa_iload (pc' := 30) dX12_joins_28 rfl rfl ?_
    refine pa_iload_n (pc' := 31) dX12_joins_30 rfl rfl ?_
    refine pa_icmp (pc' := 46) (pc2 := 34) dX12_joins_31 (by decide) rfl (fun cd2 => ?_) (fun cd2 => two (fun z => ?_))
    · have cd2 : g.2.1 200 (59 + 4 * k + 1) = b := by simpa [zcond] using cd2
      exact yes (.inl ⟨cd, cd2⟩) _
    · have cd2 : ¬ g.2.1 200 (59 + 4 * k + 1) = b := by simpa [zcond] using cd2
      exact cd2 z.2
theorem wr_wy (hI : pI A) (hW : cW A < 12) {t : Nat} (ht : t < 4) : wr2 A (59 + 4 * cW A + t) := by
  obtain ⟨b1, b2, b3, b4, b5⟩ := hI.2.2.1
  exact ⟨by omega, by omega, fun _ => by omega, fun i hi => by omega, fun i hi => by omega, fun i hi => by omega, fun i _ ok => by unfold okX at ok; omega⟩
theorem rmC.wayed {a b : Nat} {u w : Int32} (hI : pI A) (hW : cW A < 12) (K : rmC A h) (va : h.2.1 200 (59 + 4 * cW A) = nI a) (vb : h.2.1 200 (59 + 4 * cW A + 1) = nI b) (v2 : h.2.1 200 (59 + 4 * cW A + 2) = u) (v3 : h.2.1 200 (59 + 4 * cW A + 3) = w) : rmC (A.1, nm, xS (xS A.2.2.1 (61 + 4 * cW A) u) (62 + 4 * cW A) w, upA A.2.2.2.1 (cW A) (a, b), A.2.2.2.2.1, cI A, cW A + 1, cH A, cB A, cS A) (zsI h 200 5 (nI (cW A + 1))) := by
  obtain ⟨b1, b2, b3, b4, b5⟩ := hI.2.2.1
  obtain ⟨k1, k2, k3, k4, k5, k6, k7, k8, k9, k10, k11⟩ := K
  refine ⟨by rw [zsI_no (by omega)]; exact k1, fun z => by rw [zsI_no (by omega)]; exact k2 z, by rw [zsI_no (by omega)]; exact k3, zsI_eq, by rw [zsI_no (by omega)]; exact k5, by rw [zsI_no (by omega)]; exact k6, by rw [zsI_no (by omega)]; exact k7, fun i hi => ?_, fun i hi => ?_, fun i hi => ?_, ?_⟩
  · have hi : i < cI A := hi
    show (zsI h 200 5 _).2.1 200 (10 + 7 * i) = nI (xS (xS A.2.2.1 (61 + 4 * cW A) u) (62 + 4 * cW A) w i).length ∧ ∀ k, k < (xS (xS A.2.2.1 (61 + 4 * cW A) u) (62 + 4 * cW A) w i).length → (zsI h 200 5 _).2.1 200 (10 + 7 * i + 1 + k) = (xS (xS A.2.2.1 (61 + 4 * cW A) u) (62 + 4 * cW A) w i).getD k 0 - 97
    rw [xS2 (by omega)]
    exact ⟨by rw [zsI_no (by omega)]; exact (k8 i hi).1, fun q hq => by rw [zsI_no (by omega)]; exact (k8 i hi).2 q hq⟩
  · have hi : i < cW A + 1 := hi
    show (zsI h 200 5 _).2.1 200 (59 + 4 * i) = nI (upA A.2.2.2.1 (cW A) (a, b) i).1 ∧ (zsI h 200 5 _).2.1 200 (59 + 4 * i + 1) = nI (upA A.2.2.2.1 (cW A) (a, b) i).2
    rw [zsI_no (by omega), zsI_no (by omega), upA_at]
    split
    · next z => subst z; exact ⟨va, vb⟩
    · exact k9 i (by omega)
  · rw [zsI_no (by omega), zsI_no (by omega)]; exact k10 i hi
  · have g : mX (okX (A.1, nm, A.2.2.1, A.2.2.2.1, A.2.2.2.2.1, cI A, cW A + 1, cH A, cB A, cS A)) A.2.2.1 (zsI h 200 5 (nI (cW A + 1))) := (k11.cnt (k := 5) (v := nI (cW A + 1)) (by decide) (by decide) hI).mono (fun j ok => ok.up id (Nat.le_succ _) (Nat.le_refl _) (Nat.le_refl _) (Nat.le_refl _))
    have ok : ∀ s, s < 4 → okX (A.1, nm, A.2.2.1, A.2.2.2.1, A.2.2.2.2.1, cI A, cW A + 1, cH A, cB A, cS A) (59 + 4 * cW A + s) := fun s hs => .inr (.inl ⟨by omega, by show 59 + 4 * cW A + s < 59 + 4 * (cW A + 1); omega⟩)
    have e1 : 61 + 4 * cW A = 59 + 4 * cW A + 2 := by omega
    have e2 : 62 + 4 * cW A = 59 + 4 * cW A + 3 := by omega
    rw [e1, e2]
    exact (g.add (ok 2 (by decide)) ((zsI_no (by omega)).trans v2)).add (ok 3 (by decide)) ((zsI_no (by omega)).trans v3)
set_option maxRecDepth 8000 in
theorem M_way (hI : pI A) (hW : cW A < 12) (K : mS R0 y n A A.2.1 p h) : zPa d mX12_wayLine [.inr (.inr (some 196))] h (lnM R0 y n (sWay y n A p)) := by
  intro N
  have hx := K.1.1
  have s196 := hx.sh sh_196
  have s200 := hx.sh sh_200
  have r196_16 := hx.2.1 _ _ _ rf_196_16
  have hf := K.2.1
  have k5 := K.2.2.1.2.2.2.1
  have hn := hI.2.2.2.2.1
  show zPn N none d mX12_wayLine (0, [(0, .inr (.inr (some 196)))], [], h) _
  refine pa_aload_n (pc' := 1) dX12_wayLine_0 rfl rfl ?_
  refine pa_getI (pc' := 4) (n := 39) dX12_wayLine_1 fl_12_100 s196 (by decide) hf rfl ?_
  refine pa_if_t (pc' := 8) dX12_wayLine_4 (by decide) (by decide) ?_
  refine pa_bipush (v := nI 59) (pc' := 10) dX12_wayLine_8 (by decide) rfl ?_
  refine pa_iconst (v := nI 4) (pc' := 11) dX12_wayLine_10 (by decide) rfl ?_
  refine pa_aload_n (pc' := 12) dX12_wayLine_11 rfl rfl ?_
  refine pa_getR (pc' := 15) (n := 39) (r := 200) dX12_wayLine_12 fl_12_23 s196 (by decide) r196_16 rfl ?_
  refine pa_iconst (v := nI 5) (pc' := 16) dX12_wayLine_15 (by decide) rfl ?_
  refine pa_iald (pc' := 17) (n := 363) dX12_wayLine_16 s200 rfl (fun _ => ?_)
  rw [nI_clamp (by omega), k5]
  refine pa_imul (pc' := 18) (v := nI (4 * cW A)) dX12_wayLine_17 (nI_mul _ _) rfl ?_
  refine pa_iadd (pc' := 19) (v := nI (59 + 4 * cW A)) dX12_wayLine_18 (nI_add _ _) rfl ?_
  refine pa_istore_n (pc' := 20) (ls' := [(1, .inl (nI (59 + 4 * cW A))), (0, .inr (.inr (some 196)))]) dX12_wayLine_19 (by decide) rfl rfl ?_
  refine pa_aload_n (pc' := 21) dX12_wayLine_20 rfl rfl ?_
  refine pa_callv (pc' := 24) (vs := []) (rest := []) dX12_wayLine_21 ml_12_161 (by decide) rfl rfl rfl (fun d' _ => M_passed (r := .inr p) hn K) (fun v g1 hq => ?_)
  obtain ⟨xa, er, K1, hfr1, ca⟩ := hq.E
  subst er
  refine pa_istore_n (pc' := 25) (v := xa) (ls' := [(2, .inl xa), (1, .inl (nI (59 + 4 * cW A))), (0, .inr (.inr (some 196)))]) (st := []) dX12_wayLine_24 (by decide) rfl rfl ?_
  refine pa_aload_n (pc' := 26) dX12_wayLine_25 rfl rfl ?_
  refine pa_iconst (v := nI 0) (pc' := 27) dX12_wayLine_26 (by decide) rfl ?_
  refine pa_bipush (v := nI 6) (pc' := 29) dX12_wayLine_27 (by decide) rfl ?_
  refine pa_callv (pc' := 32) (vs := [.inl (nI 0), .inl (nI 6)]) (rest := []) dX12_wayLine_29 ml_12_153 (by decide) rfl rfl rfl (fun d' _ => M_named (by decide) hn K1) (fun v g2 hq2 => ?_)
  obtain ⟨hfr2, xb, er, hq2⟩ := hq2
  subst er
  have cs : (∃ e, mF R0 y n e g2 ∧ sWay y n A p = .inl e) ∨ (∃ a b q1 q2, sOld y n A.2.1 0 6 p = .inr (a, q1) ∧ sOld y n A.2.1 0 6 q1 = .inr (b, q2) ∧ q2 = tE y n q1 ∧ xa = nI a ∧ xb = nI b ∧ a < 7 ∧ b < 7 ∧ mS R0 y n A A.2.1 q1 g2) := by
    cases e1 : sOld y n A.2.1 0 6 p with
    | inl e =>
      simp only [bindS, e1, sndS] at hq2
      exact .inl ⟨e, hq2.1, by simp only [sWay, e1]⟩
    | inr z1 =>
      obtain ⟨a, q1⟩ := z1
      have ca := ca a q1 e1
      cases e2 : sOld y n A.2.1 0 6 q1 with
      | inl e =>
        simp only [bindS, e1, e2, sndS] at hq2
        exact .inl ⟨e, hq2.1, by simp only [sWay, e1, e2]⟩
      | inr z2 =>
        obtain ⟨b, q2⟩ := z2
        simp only [bindS, e1, e2, sndS] at hq2
        obtain ⟨eb, p', ep, eq, K2⟩ := hq2
        cases ep
        exact .inr ⟨a, b, q1, q2, rfl, e2, eq, ca, eb, sOld_6 e1, sOld_6 e2, K2⟩
  have x2 : mx R0 y n g2 := by
    rcases cs with ⟨e, z, -⟩ | ⟨a, b, q1, q2, -, -, -, -, -, -, -, z⟩
    · exact z.1
    · exact z.1.1
  have frr : ∀ j, g2.2.1 200 j = h.2.1 200 j := fun j => (hfr2 200 j (by omega) (by omega)).trans (hfr1 200 j (by omega) (by omega))
  have s196 := x2.sh sh_196
  have s200 := x2.sh sh_200
  have r196_16 := x2.2.1 _ _ _ rf_196_16
  have k5 : g2.2.1 200 5 = nI (cW A) := (frr 5).trans k5
  have kw := K.2.2.1.2.2.2.2.2.2.2.2.1
  clear hq hq2 K1
  refine pa_istore_n (pc' := 33) (v := xb) (ls' := [(3, .inl xb), (2, .inl xa), (1, .inl (nI (59 + 4 * cW A))), (0, .inr (.inr (some 196)))]) (st := []) dX12_wayLine_32 (by decide) rfl rfl ?_
  have tail : ∀ (N : Nat) (t : Int32) (ls : zL), (t = 0 ∨ t = 1) → (t = 1 ↔ (xa = xb ∨ ∃ k, k < cW A ∧ jP g2 xa xb k)) → zget ls 0 = some (.inr (.inr (some 196))) → zget ls 1 = some (.inl (nI (59 + 4 * cW A))) → zget ls 2 = some (.inl xa) → zget ls 3 = some (.inl xb) → zget ls 4 = some (.inl t) → zPn N none d mX12_wayLine (91, ls, [], g2) (lnM R0 y n (sWay y n A p)) := by
    intro N t ls ht hti hl0 hl1 hl2 hl3 hl4
    have endF : ∀ {e : sF} {g : zH}, mF R0 y n e g → sWay y n A p = .inl e → zPn N none d mX12_wayLine (112, ls, [], g) (lnM R0 y n (sWay y n A p)) := by
      intro e g hF he
      have s196 := hF.1.sh sh_196
      have hf := hF.2.1
      refine pa_aload_n (pc' := 113) dX12_wayLine_112 hl0 rfl ?_
      refine pa_getI (pc' := 116) (n := 39) dX12_wayLine_113 fl_12_100 s196 (by decide) hf rfl ?_
      refine pa_if_f (pc' := 119) dX12_wayLine_116 (by decide) (by decide) rfl ?_
      refine pa_vret dX12_wayLine_119 rfl ⟨rfl, ?_⟩
      rw [he]
      exact hF
    rcases cs with ⟨e, hF, he⟩ | ⟨a, b, q1, q2, e1, e2, eq, ea, eb, ha, hb, K2⟩
    · have hf := hF.2.1
      refine pa_aload_n (pc' := 92) dX12_wayLine_91 hl0 rfl ?_
      refine pa_getI (pc' := 95) (n := 39) dX12_wayLine_92 fl_12_100 s196 (by decide) hf rfl ?_
      refine pa_if_t (pc' := 112) dX12_wayLine_95 (by decide) (by decide) ?_
      exact endF hF he
    · have hf := K2.2.1
      have hq1 := K2.1.2.1
      have k4 := K2.1.2.2.1
      subst ea; subst eb
      have hany : (t = 1) ↔ (a = b ∨ (List.range (cW A)).any (joinsB A.2.2.2.1 a b) = true) := by
        rw [hti, nI_ne (by omega) (by omega)]
        refine or_congr Iff.rfl ?_
        rw [List.any_eq_true]
        constructor
        · rintro ⟨k, hk, z⟩
          refine ⟨k, List.mem_range.mpr hk, ?_⟩
          obtain ⟨w1, w2⟩ := kw k hk
          obtain ⟨o1, o2⟩ := hI.2.2.2.2.2.2.1 k hk
          unfold jP at z
          rw [frr, frr, w1, w2, nI_ne (by omega) (by omega), nI_ne (by omega) (by omega), nI_ne (by omega) (by omega), nI_ne (by omega) (by omega)] at z
          unfold joinsB
          rcases z with z | z
          · rw [decide_eq_true (Prod.ext z.1 z.2)]; rfl
          · rw [decide_eq_true (p := A.2.2.2.1 k = (b, a)) (Prod.ext z.1 z.2)]; simp
        · rintro ⟨k, hk, z⟩
          have hk := List.mem_range.mp hk
          obtain ⟨w1, w2⟩ := kw k hk
          obtain ⟨o1, o2⟩ := hI.2.2.2.2.2.2.1 k hk
          refine ⟨k, hk, ?_⟩
          unfold jP
          rw [frr, frr, w1, w2, nI_ne (by omega) (by omega), nI_ne (by omega) (by omega), nI_ne (by omega) (by omega), nI_ne (by omega) (by omega)]
          unfold joinsB at z
          rw [Bool.or_eq_true, decide_eq_true_eq, decide_eq_true_eq] at z
          rcases z with z | z
          · rw [z]; exact .inl ⟨rfl, rfl⟩
          · rw [z]; exact .inr ⟨rfl, rfl⟩
      refine pa_aload_n (pc' := 92) dX12_wayLine_91 hl0 rfl ?_
      refine pa_getI (pc' := 95) (n := 39) dX12_wayLine_92 fl_12_100 s196 (by decide) hf rfl ?_
      refine pa_if_f (pc' := 98) dX12_wayLine_95 (by decide) (by decide) rfl ?_
      refine pa_iload (pc' := 100) dX12_wayLine_98 hl4 rfl ?_
      rcases ht with rfl | rfl
      · have nany : ¬ (a = b ∨ (List.range A.2.2.2.2.2.2.1).any (joinsB A.2.2.2.1 a b) = true) := fun z => absurd (hany.mpr z) (by decide)
        refine pa_if_t (pc' := 112) dX12_wayLine_100 (by decide) (by decide) ?_
        refine pa_aload_n (pc' := 113) dX12_wayLine_112 hl0 rfl ?_
        refine pa_getI (pc' := 116) (n := 39) dX12_wayLine_113 fl_12_100 s196 (by decide) hf rfl ?_
        refine pa_if_t (pc' := 120) dX12_wayLine_116 (by decide) (by decide) ?_
        refine pa_aload_n (pc' := 121) dX12_wayLine_120 hl0 rfl ?_
        refine pa_callv (pc' := 124) (vs := []) (rest := []) dX12_wayLine_121 ml_12_121 (by decide) rfl rfl rfl (fun d' _ => m_next K2.1.1 K2.1.2.2.2.1 (tE_sp hq1).2.1) (fun v g3 hq => ?_)
        obtain ⟨er, hq⟩ := hq
        subst er
        have K1 : mE R0 y n A A.2.1 (.inr q2) g3 := by rw [eq]; exact K2.nx hq (tE_sp hq1).2.1
        show zPn N none d mX12_wayLine (124, ls, [], g3) _
        refine pa_aload_n (pc' := 125) dX12_wayLine_124 hl0 rfl ?_
        refine pa_getR (pc' := 128) (n := 39) (r := 200) dX12_wayLine_125 fl_12_23 (K1.mx.sh sh_196) (by decide) (K1.mx.2.1 _ _ _ rf_196_16) rfl ?_
        refine pa_iload_n (pc' := 129) dX12_wayLine_128 hl1 rfl ?_
        refine pa_iload_n (pc' := 130) dX12_wayLine_129 hl2 rfl ?_
        refine pa_iast (pc' := 131) (n := 363) dX12_wayLine_130 (K1.mx.sh sh_200) rfl (fun _ => ?_)
        rw [nI_clamp (by omega)]
        have va : (zsI g3 200 (59 + 4 * cW A) (nI a)).2.1 200 (59 + 4 * cW A) = nI a := zsI_eq
        have K1 := K1.zs (j := 59 + 4 * cW A) (v := nI a) hI (wr_wy (t := 0) hI hW (by omega))
        generalize zsI g3 200 (59 + 4 * cW A) (nI a) = g4 at va K1 ⊢
        refine pa_aload_n (pc' := 132) dX12_wayLine_131 hl0 rfl ?_
        refine pa_getR (pc' := 135) (n := 39) (r := 200) dX12_wayLine_132 fl_12_23 (K1.mx.sh sh_196) (by decide) (K1.mx.2.1 _ _ _ rf_196_16) rfl ?_
        refine pa_iload_n (pc' := 136) dX12_wayLine_135 hl1 rfl ?_
        refine pa_iconst (v := nI 1) (pc' := 137) dX12_wayLine_136 (by decide) rfl ?_
        refine pa_iadd (pc' := 138) (v := nI (59 + 4 * cW A + 1)) dX12_wayLine_137 (nI_add _ _) rfl ?_
        refine pa_iload_n (pc' := 139) dX12_wayLine_138 hl3 rfl ?_
        refine pa_iast (pc' := 140) (n := 363) dX12_wayLine_139 (K1.mx.sh sh_200) rfl (fun _ => ?_)
        rw [nI_clamp (by omega)]
        have va : (zsI g4 200 (59 + 4 * cW A + 1) (nI b)).2.1 200 (59 + 4 * cW A) = nI a := by rw [zsI_no (by omega)]; exact va
        have vb : (zsI g4 200 (59 + 4 * cW A + 1) (nI b)).2.1 200 (59 + 4 * cW A + 1) = nI b := zsI_eq
        have K1 := K1.zs (j := 59 + 4 * cW A + 1) (v := nI b) hI (wr_wy hI hW (by omega))
        generalize zsI g4 200 (59 + 4 * cW A + 1) (nI b) = g5 at va vb K1 ⊢
        refine pa_aload_n (pc' := 141) dX12_wayLine_140 hl0 rfl ?_
        refine pa_getR (pc' := 144) (n := 39) (r := 200) dX12_wayLine_141 fl_12_23 (K1.mx.sh sh_196) (by decide) (K1.mx.2.1 _ _ _ rf_196_16) rfl ?_
        refine pa_iload_n (pc' := 145) dX12_wayLine_144 hl1 rfl ?_
        refine pa_iconst (v := nI 2) (pc' := 146) dX12_wayLine_145 (by decide) rfl ?_
        refine pa_iadd (pc' := 147) (v := nI (59 + 4 * cW A + 2)) dX12_wayLine_146 (nI_add _ _) rfl ?_
        refine pa_aload_n (pc' := 148) dX12_wayLine_147 hl0 rfl ?_
        refine pa_ldc (pc' := 150) dX12_wayLine_148 cl_12_234 rfl rfl ?_
        refine pa_iconst (v := 1) (pc' := 151) dX12_wayLine_150 (by decide) rfl ?_
        refine pa_bipush (v := 99) (pc' := 153) dX12_wayLine_151 (by decide) rfl ?_
        refine pa_callv (pc' := 156) (vs := [.inr (.inr (some 1000044)), .inl 1, .inl 99]) (rest := [.inl (nI (59 + 4 * cW A + 2)), .inr (.inr (some 200))]) dX12_wayLine_153 ml_12_213 (by decide) rfl rfl rfl (fun d' _ => M_after K1 (bs := wDays) rfl) (fun v f1 hq => ?_)
        obtain ⟨v1, er, K2, hfr1, c1⟩ := hq.E
        subst er
        refine pa_iast (pc' := 157) (n := 363) (v := v1) dX12_wayLine_156 (K2.mx.sh sh_200) rfl (fun _ => ?_)
        rw [nI_clamp (by omega)]
        have K1 := K2.zs (j := 59 + 4 * cW A + 2) (v := v1) hI (wr_wy hI hW (by omega))
        clear K2
        have va := (zsI_no (h := f1) (a := 200) (k := 59 + 4 * cW A + 2) (x := v1) (by omega)).trans ((hfr1 200 _ (by omega) (by omega)).trans va)
        have vb := (zsI_no (h := f1) (a := 200) (k := 59 + 4 * cW A + 2) (x := v1) (by omega)).trans ((hfr1 200 _ (by omega) (by omega)).trans vb)
        have w1 : (zsI f1 200 (59 + 4 * cW A + 2) v1).2.1 200 (59 + 4 * cW A + 2) = v1 := zsI_eq
        refine pa_aload_n (pc' := 158) dX12_wayLine_157 hl0 rfl ?_
        refine pa_getR (pc' := 161) (n := 39) (r := 200) dX12_wayLine_158 fl_12_23 (K1.mx.sh sh_196) (by decide) (K1.mx.2.1 _ _ _ rf_196_16) rfl ?_
        refine pa_iload_n (pc' := 162) dX12_wayLine_161 hl1 rfl ?_
        refine pa_iconst (v := nI 3) (pc' := 163) dX12_wayLine_162 (by decide) rfl ?_
        refine pa_iadd (pc' := 164) (v := nI (59 + 4 * cW A + 3)) dX12_wayLine_163 (nI_add _ _) rfl ?_
        refine pa_aload_n (pc' := 165) dX12_wayLine_164 hl0 rfl ?_
        refine pa_ldc (pc' := 167) dX12_wayLine_165 cl_12_235 rfl rfl ?_
        refine pa_iconst (v := 1) (pc' := 168) dX12_wayLine_167 (by decide) rfl ?_
        refine pa_bipush (v := 15) (pc' := 170) dX12_wayLine_168 (by decide) rfl ?_
        refine pa_callv (pc' := 173) (vs := [.inr (.inr (some 1000045)), .inl 1, .inl 15]) (rest := [.inl (nI (59 + 4 * cW A + 3)), .inr (.inr (some 200))]) dX12_wayLine_170 ml_12_213 (by decide) rfl rfl rfl (fun d' _ => M_after K1 (bs := wOpen) rfl) (fun v f2 hq => ?_)
        obtain ⟨v2, er, K2, hfr2, c2⟩ := hq.E
        subst er
        refine pa_iast (pc' := 174) (n := 363) (v := v2) dX12_wayLine_173 (K2.mx.sh sh_200) rfl (fun _ => ?_)
        rw [nI_clamp (by omega)]
        have K1 := K2.zs (j := 59 + 4 * cW A + 3) (v := v2) hI (wr_wy hI hW (by omega))
        clear K2
        have va := (zsI_no (h := f2) (a := 200) (k := 59 + 4 * cW A + 3) (x := v2) (by omega)).trans ((hfr2 200 _ (by omega) (by omega)).trans va)
        have vb := (zsI_no (h := f2) (a := 200) (k := 59 + 4 * cW A + 3) (x := v2) (by omega)).trans ((hfr2 200 _ (by omega) (by omega)).trans vb)
        have w1 := (zsI_no (h := f2) (a := 200) (k := 59 + 4 * cW A + 3) (x := v2) (by omega)).trans ((hfr2 200 _ (by omega) (by omega)).trans w1)
        have w2 : (zsI f2 200 (59 + 4 * cW A + 3) v2).2.1 200 (59 + 4 * cW A + 3) = v2 := zsI_eq
        have hff := K1.fb
        have s196 := K1.mx.sh sh_196
        have s200 := K1.mx.sh sh_200
        have r196_16 := K1.mx.2.1 _ _ _ rf_196_16
        refine pa_aload_n (pc' := 175) dX12_wayLine_174 hl0 rfl ?_
        refine pa_getI (pc' := 178) (n := 39) dX12_wayLine_175 fl_12_100 s196 (by decide) hff rfl ?_
        have bad : ∀ {e : sF} {g : zH}, mF R0 y n e g → sWay y n A p = .inl e → zPn N none d mX12_wayLine (191, ls, [], g) (lnM R0 y n (sWay y n A p)) := by
          intro e g hF he
          refine pa_vret dX12_wayLine_191 rfl ⟨rfl, ?_⟩
          rw [he]
          exact hF
        clear hff
        cases e3 : sWN y n wDays 1 99 q2 with
        | inl e =>
          simp only [e3, bindS, sndS] at K1 ⊢
          exact pa_if_t (pc' := 191) dX12_wayLine_178 rfl (by decide) (bad K1 (by simp only [sWay, e1, e2, if_neg nany, e3]))
        | inr q3 =>
          obtain ⟨x3, q3⟩ := q3
          cases e4 : sWN y n wOpen 1 15 q3 with
          | inl e =>
            simp only [e3, e4, bindS, sndS] at K1 ⊢
            exact pa_if_t (pc' := 191) dX12_wayLine_178 rfl (by decide) (bad K1 (by simp only [sWay, e1, e2, if_neg nany, e3, e4]))
          | inr q4 =>
            obtain ⟨x4, q4⟩ := q4
            simp only [e3, e4, bindS, sndS] at K1 ⊢
            refine pa_if_f (pc' := 181) dX12_wayLine_178 rfl (by decide) rfl ?_
            have k5 := (show mS R0 y n A _ q4 _ from K1).2.2.1.2.2.2.1
            refine pa_aload_n (pc' := 182) dX12_wayLine_181 hl0 rfl ?_
            refine pa_getR (pc' := 185) (n := 39) (r := 200) dX12_wayLine_182 fl_12_23 s196 (by decide) r196_16 rfl ?_
            refine pa_iconst (v := nI 5) (pc' := 186) dX12_wayLine_185 (by decide) rfl ?_
            refine pa_dup2 (pc' := 187) dX12_wayLine_186 ⟨rfl, rfl⟩ rfl ?_
            refine pa_iald (pc' := 188) (n := 363) dX12_wayLine_187 s200 rfl (fun _ => ?_)
            rw [nI_clamp (by omega), k5]
            refine pa_iconst (v := nI 1) (pc' := 189) dX12_wayLine_188 (by decide) rfl ?_
            refine pa_iadd (pc' := 190) (v := nI (cW A + 1)) dX12_wayLine_189 (nI_add _ _) rfl ?_
            refine pa_iast (pc' := 191) (n := 363) dX12_wayLine_190 s200 rfl (fun _ => ?_)
            rw [nI_clamp (by omega)]
            refine pa_vret dX12_wayLine_191 rfl ⟨rfl, ?_⟩
            simp only [sWay, e1, e2, if_neg nany, e3, e4]
            have K1 : mS R0 y n A _ q4 _ := K1
            have c1 := c1 x3 q3 (by simp only [e3, bindS, sndS])
            have c2 := c2 x4 q4 (by simp only [e3, e4, bindS, sndS])
            exact ⟨K1.1.zs, by rw [zsI_no (by omega)]; exact K1.2.1, K1.2.2.1.wayed hI hW va vb (w1.trans c1) (w2.trans c2), K1.2.2.2.zs (by omega)⟩
      · refine pa_if_f (pc' := 103) dX12_wayLine_100 (by decide) (by decide) rfl ?_
        refine pa_aload_n (pc' := 104) dX12_wayLine_103 hl0 rfl ?_
        refine pa_iconst (v := 3) (pc' := 105) dX12_wayLine_104 (by decide) rfl ?_
        refine pa_aload_n (pc' := 106) dX12_wayLine_105 hl0 rfl ?_
        refine pa_getI (pc' := 109) (n := 39) dX12_wayLine_106 fl_12_81 s196 (by decide) k4 rfl ?_
        refine pa_callv (pc' := 112) (vs := [.inl 3, .inl (nI (tS y n q1))]) (rest := []) dX12_wayLine_109 ml_12_127 (by decide) rfl rfl rfl (fun d' _ => m_wrong K2.1.1 hf rfl) (fun v g3 hq => ?_)
        obtain ⟨er, hq⟩ := hq
        subst er; subst hq
        exact endF (wrg_mF K2.1.1) (by simp only [sWay, e1, e2]; rw [if_pos (hany.mp rfl)])
  have loop : ∀ (N j : Nat) (t : Int32) (ls : zL), j ≤ cW A → (t = 0 ∨ t = 1) → (t = 1 ↔ (xa = xb ∨ ∃ k, k < j ∧ jP g2 xa xb k)) → zget ls 0 = some (.inr (.inr (some 196))) → zget ls 1 = some (.inl (nI (59 + 4 * cW A))) → zget ls 2 = some (.inl xa) → zget ls 3 = some (.inl xb) → zget ls 4 = some (.inl t) → zget ls 5 = some (.inl (nI j)) → zPn N none d mX12_wayLine (48, ls, [], g2) (lnM R0 y n (sWay y n A p)) := by
    intro N
    induction N with
    | zero => intro j t ls _ _ _ _ _ _ _ _ _; exact zPn.zero
    | succ N ih =>
      intro j t ls hj ht hti hl0 hl1 hl2 hl3 hl4 hl5
      refine pa_iload (pc' := 50) dX12_wayLine_48 hl5 rfl ?_
      refine pa_aload_n (pc' := 51) dX12_wayLine_50 hl0 rfl ?_
      refine pa_getR (pc' := 54) (n := 39) (r := 200) dX12_wayLine_51 fl_12_23 s196 (by decide) r196_16 rfl ?_
      refine pa_iconst (v := nI 5) (pc' := 55) dX12_wayLine_54 (by decide) rfl ?_
      refine pa_iald (pc' := 56) (n := 363) dX12_wayLine_55 s200 rfl (fun _ => ?_)
      rw [nI_clamp (by omega), k5]
      refine pa_icmp (pc' := 91) (pc2 := 59) dX12_wayLine_56 (by decide) rfl (fun cd => ?_) (fun cd => ?_)
      · have cd := zi_nlt (zk_ge_lt cd)
        rw [nI_toInt (by omega), nI_toInt (by omega)] at cd
        have ej : j = cW A := by omega
        rw [ej] at hti
        exact tail (N + 1) t ls ht hti hl0 hl1 hl2 hl3 hl4
      · have cd := zi_lt (zk_ge_lt cd)
        rw [nI_toInt (by omega), nI_toInt (by omega)] at cd
        have nxt : ∀ (t' : Int32), (t' = 0 ∨ t' = 1) → (t' = 1 ↔ (xa = xb ∨ ∃ k, k < j + 1 ∧ jP g2 xa xb k)) → zPn (N + 1) none d mX12_wayLine (83, ls, [.inl t'], g2) (lnM R0 y n (sWay y n A p)) := by
          intro t' d1 d2
          refine pa_istore (pc' := 85) dX12_wayLine_83 (by decide) rfl rfl ?_
          refine pa_iinc (pc' := 88) (v := nI (j + 1)) dX12_wayLine_85 (zget_s1 hl5 (by decide) (by simp [zcat])) (by decide) (nI_add j 1) rfl rfl ?_
          refine pa_gotos (pc' := 48) dX12_wayLine_88 (by decide) ?_
          exact ih (j + 1) t' _ (by omega) d1 d2 (zget_s1 (zget_s1 hl0 (by decide) (by simp [zcat])) (by decide) (by simp [zcat])) (zget_s1 (zget_s1 hl1 (by decide) (by simp [zcat])) (by decide) (by simp [zcat])) (zget_s1 (zget_s1 hl2 (by decide) (by simp [zcat])) (by decide) (by simp [zcat])) (zget_s1 (zget_s1 hl3 (by decide) (by simp [zcat])) (by decide) (by simp [zcat])) (zget_s1 zget_s1e (by decide) (by simp [zcat])) zget_s1e
        have one : (xa = xb ∨ ∃ k, k < j + 1 ∧ jP g2 xa xb k) → zPn (N + 1) none d mX12_wayLine (78, ls, [], g2) (lnM R0 y n (sWay y n A p)) := by
          intro z
          refine pa_iconst (v := 1) (pc' := 79) dX12_wayLine_78 (by decide) rfl ?_
          refine pa_goto (pc' := 83) dX12_wayLine_79 (by decide) ?_
          exact nxt 1 (.inr rfl) ⟨fun _ => z, fun _ => rfl⟩
        refine pa_iload (pc' := 61) dX12_wayLine_59 hl4 rfl ?_
        rcases ht with rfl | rfl
        · refine pa_if_f (pc' := 64) dX12_wayLine_61 (by decide) (by decide) rfl ?_
          refine pa_aload_n (pc' := 65) dX12_wayLine_64 hl0 rfl ?_
          refine pa_getR (pc' := 68) (n := 39) (r := 200) dX12_wayLine_65 fl_12_23 s196 (by decide) r196_16 rfl ?_
          refine pa_iload (pc' := 70) dX12_wayLine_68 hl5 rfl ?_
          refine pa_iload_n (pc' := 71) dX12_wayLine_70 hl2 rfl ?_
          refine pa_iload_n (pc' := 72) dX12_wayLine_71 hl3 rfl ?_
          refine pa_calls (pc' := 75) (kd := 1) (vs := [.inr (.inr (some 200)), .inl (nI j), .inl xa, .inl xb]) (rest := []) dX12_wayLine_72 ml_12_230 (.inl rfl) rfl rfl rfl (fun d' _ => M_joins s200 (by omega)) (fun v g3 hq => ?_)
          obtain ⟨eg, hq⟩ := hq
          subst eg
          rcases hq with ⟨er, z⟩ | ⟨er, z⟩ <;> subst er
          · exact pa_if_f (x := 1) (pc' := 78) dX12_wayLine_75 (by decide) (by decide) rfl (one (.inr ⟨j, by omega, z⟩))
          · refine pa_if_t (x := 0) (pc' := 82) dX12_wayLine_75 (by decide) (by decide) ?_
            refine pa_iconst (v := 0) (pc' := 83) dX12_wayLine_82 (by decide) rfl ?_
            refine nxt 0 (.inl rfl) ⟨fun w => absurd w (by decide), fun w => hti.mpr (w.imp id (fun ⟨k, hk, q⟩ => ⟨k, ?_, q⟩))⟩
            rcases Nat.lt_or_ge k j with u | u
            · exact u
            · have : k = j := by omega
              subst this
              exact absurd q z
        · refine pa_if_t (pc' := 78) dX12_wayLine_61 (by decide) (by decide) ?_
          exact one ((hti.mp rfl).imp id (fun ⟨k, hk, q⟩ => ⟨k, by omega, q⟩))
  refine pa_iload_n (pc' := 34) dX12_wayLine_33 rfl rfl ?_
  refine pa_iload_n (pc' := 35) dX12_wayLine_34 rfl rfl ?_
  refine pa_icmp (pc' := 42) (pc2 := 38) dX12_wayLine_35 (by decide) rfl (fun cd => ?_) (fun cd => ?_)
  · have cd : ¬ xa = xb := by simpa [zcond] using cd
    refine pa_iconst (v := 0) (pc' := 43) dX12_wayLine_42 (by decide) rfl ?_
    refine pa_istore (pc' := 45) dX12_wayLine_43 (by decide) rfl rfl ?_
    refine pa_iconst (v := nI 0) (pc' := 46) dX12_wayLine_45 (by decide) rfl ?_
    refine pa_istore (pc' := 48) dX12_wayLine_46 (by decide) rfl rfl ?_
    exact loop N 0 0 _ (Nat.zero_le _) (.inl rfl) ⟨fun w => absurd w (by decide), fun w => w.elim (fun z => absurd z cd) (fun ⟨k, hk, _⟩ => absurd hk (Nat.not_lt_zero k))⟩ rfl rfl rfl rfl rfl rfl
  · have cd : xa = xb := by simpa [zcond] using cd
    refine pa_iconst (v := 1) (pc' := 39) dX12_wayLine_38 (by decide) rfl ?_
    refine pa_goto (pc' := 43) dX12_wayLine_39 (by decide) ?_
    refine pa_istore (pc' := 45) dX12_wayLine_43 (by decide) rfl rfl ?_
    refine pa_iconst (v := nI 0) (pc' := 46) dX12_wayLine_45 (by decide) rfl ?_
    refine pa_istore (pc' := 48) dX12_wayLine_46 (by decide) rfl rfl ?_
    exact loop N 0 1 _ (Nat.zero_le _) (.inr rfl) ⟨fun _ => .inl cd, fun _ => rfl⟩ rfl rfl rfl rfl rfl rfl
end MDB
