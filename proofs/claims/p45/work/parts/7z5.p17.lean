/-! the reference: boxes and whales -/
def nmX (y : Nat → Int32) (n : Nat) (nm : Nat → List Int32) (i p : Nat) : Nat → List Int32 := match sNew y n nm p with
  | .inl _ => nm
  | .inr _ => upA nm i (tW y n p)
section MDZ
variable {R0 : Nat → Nat → Int32} {y : Nat → Int32} {n d N p k s : Nat} {h h' g : zH} {A : pA} {nm : Nat → List Int32} {e : sF} {r : sF ⊕ Nat}
theorem neM.E {i : Nat} {v : Option zV} (hn : nmI nm) (q : neM R0 y n A nm i (.inr p) h v h') : v = none ∧ fr7 h h' ∧ mE R0 y n A (nmX y n nm i p) (sNew y n nm p) h' ∧ nmI (nmX y n nm i p) := by
  obtain ⟨q1, q2, q3⟩ := q
  have q3 : (match sNew y n nm p with
    | .inl e => mF R0 y n e h'
    | .inr q => ∃ p', (.inr p : sF ⊕ Nat) = .inr p' ∧ mS R0 y n A (upA nm i (tW y n p')) q h' ∧ nmI (upA nm i (tW y n p')) ∧ tW y n p' ≠ []) := q3
  unfold nmX
  cases eN : sNew y n nm p with
  | inl e =>
    rw [eN] at q3
    exact ⟨q1, q2, q3, hn⟩
  | inr q =>
    rw [eN] at q3
    obtain ⟨p', e1, e2, e3, -⟩ := q3
    cases e1
    exact ⟨q1, q2, e2, e3⟩
theorem wr_bx (hI : pI A) {j : Nat} (hj : 127 + 4 * cB A ≤ j ∧ j < 159) : wr2 A j := by
  obtain ⟨b1, b2, b3, b4, b5⟩ := hI.2.2.1
  exact ⟨by omega, by omega, fun _ => by omega, fun i hi => by omega, fun i hi => by omega, fun i hi => by omega, fun i _ ok => by unfold okX at ok; omega⟩
theorem wr_wh (hI : pI A) {j : Nat} (hj : 107 + 4 * cH A ≤ j ∧ j < 127) : wr2 A j := by
  obtain ⟨b1, b2, b3, b4, b5⟩ := hI.2.2.1
  exact ⟨by omega, by omega, fun _ => by omega, fun i hi => by omega, fun i hi => by omega, fun i hi => by omega, fun i _ ok => by unfold okX at ok; omega⟩
/-- a count is written: no told number lies there -/
theorem mX.cnt {k : Nat} {v : Int32} (hk : 4 ≤ k) (hk2 : k < 10) (K : mX (okX A) A.2.2.1 h) (hI : pI A) : mX (okX A) A.2.2.1 (zsI h 200 k v) := by
  obtain ⟨b1, b2, b3, b4, b5⟩ := hI.2.2.1
  exact K.fr (fun i _ ok => zsI_no (by unfold okX at ok; omega))
theorem rmC.boxed {x0 x1 x2 x3 : Int32} (hI : pI A) (hB : cB A < 8) (K : rmC A h) (v0 : h.2.1 200 (127 + 4 * cB A) = x0) (v1 : h.2.1 200 (127 + 4 * cB A + 1) = x1) (v2 : h.2.1 200 (127 + 4 * cB A + 2) = x2) (v3 : h.2.1 200 (127 + 4 * cB A + 3) = x3) : rmC (A.1, nm, xS (xS (xS (xS A.2.2.1 (127 + 4 * cB A) x0) (128 + 4 * cB A) x1) (129 + 4 * cB A) x2) (130 + 4 * cB A) x3, A.2.2.2.1, A.2.2.2.2.1, cI A, cW A, cH A, cB A + 1, cS A) (zsI h 200 7 (nI (cB A + 1))) := by
  obtain ⟨b1, b2, b3, b4, b5⟩ := hI.2.2.1
  obtain ⟨k1, k2, k3, k4, k5, k6, k7, k8, k9, k10, k11⟩ := K
  refine ⟨by rw [zsI_no (by omega)]; exact k1, fun z => by rw [zsI_no (by omega)]; exact k2 z, by rw [zsI_no (by omega)]; exact k3, by rw [zsI_no (by omega)]; exact k4, by rw [zsI_no (by omega)]; exact k5, zsI_eq, by rw [zsI_no (by omega)]; exact k7, fun i hi => ?_, fun i hi => ?_, fun i hi => ?_, ?_⟩
  · have hi : i < cI A := hi
    show (zsI h 200 7 _).2.1 200 (10 + 7 * i) = nI (xS (xS (xS (xS A.2.2.1 (127 + 4 * cB A) x0) (128 + 4 * cB A) x1) (129 + 4 * cB A) x2) (130 + 4 * cB A) x3 i).length ∧ ∀ k, k < (xS (xS (xS (xS A.2.2.1 (127 + 4 * cB A) x0) (128 + 4 * cB A) x1) (129 + 4 * cB A) x2) (130 + 4 * cB A) x3 i).length → (zsI h 200 7 _).2.1 200 (10 + 7 * i + 1 + k) = (xS (xS (xS (xS A.2.2.1 (127 + 4 * cB A) x0) (128 + 4 * cB A) x1) (129 + 4 * cB A) x2) (130 + 4 * cB A) x3 i).getD k 0 - 97
    rw [xS4 (by omega)]
    exact ⟨by rw [zsI_no (by omega)]; exact (k8 i hi).1, fun q hq => by rw [zsI_no (by omega)]; exact (k8 i hi).2 q hq⟩
  · rw [zsI_no (by omega), zsI_no (by omega)]; exact k9 i hi
  · rw [zsI_no (by omega), zsI_no (by omega)]; exact k10 i hi
  · have g : mX (okX (A.1, nm, A.2.2.1, A.2.2.2.1, A.2.2.2.2.1, cI A, cW A, cH A, cB A + 1, cS A)) A.2.2.1 (zsI h 200 7 (nI (cB A + 1))) := (k11.cnt (k := 7) (v := nI (cB A + 1)) (by decide) (by decide) hI).mono (fun j ok => ok.up id (Nat.le_refl _) (Nat.le_refl _) (Nat.le_succ _) (Nat.le_refl _))
    have ok : ∀ s, s < 4 → okX (A.1, nm, A.2.2.1, A.2.2.2.1, A.2.2.2.2.1, cI A, cW A, cH A, cB A + 1, cS A) (127 + 4 * cB A + s) := fun s hs => .inr (.inr (.inr (.inl ⟨by omega, by show 127 + 4 * cB A + s < 127 + 4 * (cB A + 1); omega⟩)))
    have e1 : 128 + 4 * cB A = 127 + 4 * cB A + 1 := by omega
    have e2 : 129 + 4 * cB A = 127 + 4 * cB A + 2 := by omega
    have e3 : 130 + 4 * cB A = 127 + 4 * cB A + 3 := by omega
    rw [e1, e2, e3]
    exact (((g.add (ok 0 (by decide)) ((zsI_no (by omega)).trans v0)).add (ok 1 (by decide)) ((zsI_no (by omega)).trans v1)).add (ok 2 (by decide)) ((zsI_no (by omega)).trans v2)).add (ok 3 (by decide)) ((zsI_no (by omega)).trans v3)
theorem rmC.whaled {x0 x1 x2 x3 : Int32} (hI : pI A) (hH : cH A < 5) (K : rmC A h) (v0 : h.2.1 200 (107 + 4 * cH A) = x0) (v1 : h.2.1 200 (107 + 4 * cH A + 1) = x1) (v2 : h.2.1 200 (107 + 4 * cH A + 2) = x2) (v3 : h.2.1 200 (107 + 4 * cH A + 3) = x3) : rmC (A.1, nm, xS (xS (xS (xS A.2.2.1 (107 + 4 * cH A) x0) (108 + 4 * cH A) x1) (109 + 4 * cH A) x2) (110 + 4 * cH A) x3, A.2.2.2.1, A.2.2.2.2.1, cI A, cW A, cH A + 1, cB A, cS A) (zsI h 200 6 (nI (cH A + 1))) := by
  obtain ⟨b1, b2, b3, b4, b5⟩ := hI.2.2.1
  obtain ⟨k1, k2, k3, k4, k5, k6, k7, k8, k9, k10, k11⟩ := K
  refine ⟨by rw [zsI_no (by omega)]; exact k1, fun z => by rw [zsI_no (by omega)]; exact k2 z, by rw [zsI_no (by omega)]; exact k3, by rw [zsI_no (by omega)]; exact k4, zsI_eq, by rw [zsI_no (by omega)]; exact k6, by rw [zsI_no (by omega)]; exact k7, fun i hi => ?_, fun i hi => ?_, fun i hi => ?_, ?_⟩
  · have hi : i < cI A := hi
    show (zsI h 200 6 _).2.1 200 (10 + 7 * i) = nI (xS (xS (xS (xS A.2.2.1 (107 + 4 * cH A) x0) (108 + 4 * cH A) x1) (109 + 4 * cH A) x2) (110 + 4 * cH A) x3 i).length ∧ ∀ k, k < (xS (xS (xS (xS A.2.2.1 (107 + 4 * cH A) x0) (108 + 4 * cH A) x1) (109 + 4 * cH A) x2) (110 + 4 * cH A) x3 i).length → (zsI h 200 6 _).2.1 200 (10 + 7 * i + 1 + k) = (xS (xS (xS (xS A.2.2.1 (107 + 4 * cH A) x0) (108 + 4 * cH A) x1) (109 + 4 * cH A) x2) (110 + 4 * cH A) x3 i).getD k 0 - 97
    rw [xS4 (by omega)]
    exact ⟨by rw [zsI_no (by omega)]; exact (k8 i hi).1, fun q hq => by rw [zsI_no (by omega)]; exact (k8 i hi).2 q hq⟩
  · rw [zsI_no (by omega), zsI_no (by omega)]; exact k9 i hi
  · rw [zsI_no (by omega), zsI_no (by omega)]; exact k10 i hi
  · have g : mX (okX (A.1, nm, A.2.2.1, A.2.2.2.1, A.2.2.2.2.1, cI A, cW A, cH A + 1, cB A, cS A)) A.2.2.1 (zsI h 200 6 (nI (cH A + 1))) := (k11.cnt (k := 6) (v := nI (cH A + 1)) (by decide) (by decide) hI).mono (fun j ok => ok.up id (Nat.le_refl _) (Nat.le_succ _) (Nat.le_refl _) (Nat.le_refl _))
    have ok : ∀ s, s < 4 → okX (A.1, nm, A.2.2.1, A.2.2.2.1, A.2.2.2.2.1, cI A, cW A, cH A + 1, cB A, cS A) (107 + 4 * cH A + s) := fun s hs => .inr (.inr (.inl ⟨by omega, by show 107 + 4 * cH A + s < 107 + 4 * (cH A + 1); omega⟩))
    have e1 : 108 + 4 * cH A = 107 + 4 * cH A + 1 := by omega
    have e2 : 109 + 4 * cH A = 107 + 4 * cH A + 2 := by omega
    have e3 : 110 + 4 * cH A = 107 + 4 * cH A + 3 := by omega
    rw [e1, e2, e3]
    exact (((g.add (ok 0 (by decide)) ((zsI_no (by omega)).trans v0)).add (ok 1 (by decide)) ((zsI_no (by omega)).trans v1)).add (ok 2 (by decide)) ((zsI_no (by omega)).trans v2)).add (ok 3 (by decide)) ((zsI_no (by omega)).trans v3)
set_option maxRecDepth 8000 in
theorem M_box (hI : pI A) (hB : cB A < 8) (K : mS R0 y n A A.2.1 p h) : zPa d mX12_boxLine [.inr (.inr (some 196))] h (lnM R0 y n (sBox y n A p)) := by
  intro N
  have hx := K.1.1
  have s196 := hx.sh sh_196
  have s200 := hx.sh sh_200
  have r196_16 := hx.2.1 _ _ _ rf_196_16
  have hf := K.2.1
  have k7 := K.2.2.1.2.2.2.2.2.1
  have hn := hI.2.2.2.2.1
  show zPn N none d mX12_boxLine (0, [(0, .inr (.inr (some 196)))], [], h) _
  refine pa_aload_n (pc' := 1) dX12_boxLine_0 rfl rfl ?_
  refine pa_getI (pc' := 4) (n := 39) dX12_boxLine_1 fl_12_100 s196 (by decide) hf rfl ?_
  refine pa_if_t (pc' := 8) dX12_boxLine_4 (by decide) (by decide) ?_
  refine pa_bipush (v := nI 127) (pc' := 10) dX12_boxLine_8 (by decide) rfl ?_
  refine pa_iconst (v := nI 4) (pc' := 11) dX12_boxLine_10 (by decide) rfl ?_
  refine pa_aload_n (pc' := 12) dX12_boxLine_11 rfl rfl ?_
  refine pa_getR (pc' := 15) (n := 39) (r := 200) dX12_boxLine_12 fl_12_23 s196 (by decide) r196_16 rfl ?_
  refine pa_bipush (v := nI 7) (pc' := 17) dX12_boxLine_15 (by decide) rfl ?_
  refine pa_iald (pc' := 18) (n := 363) dX12_boxLine_17 s200 rfl (fun _ => ?_)
  rw [nI_clamp (by omega), k7]
  refine pa_imul (pc' := 19) (v := nI (4 * cB A)) dX12_boxLine_18 (nI_mul _ _) rfl ?_
  refine pa_iadd (pc' := 20) (v := nI (127 + 4 * cB A)) dX12_boxLine_19 (nI_add _ _) rfl ?_
  refine pa_istore_n (pc' := 21) (ls' := [(1, .inl (nI (127 + 4 * cB A))), (0, .inr (.inr (some 196)))]) dX12_boxLine_20 (by decide) rfl rfl ?_
  refine pa_aload_n (pc' := 22) dX12_boxLine_21 rfl rfl ?_
  refine pa_bipush (v := nI 12) (pc' := 24) dX12_boxLine_22 (by decide) rfl ?_
  refine pa_aload_n (pc' := 25) dX12_boxLine_24 rfl rfl ?_
  refine pa_getR (pc' := 28) (n := 39) (r := 200) dX12_boxLine_25 fl_12_23 s196 (by decide) r196_16 rfl ?_
  refine pa_bipush (v := nI 7) (pc' := 30) dX12_boxLine_28 (by decide) rfl ?_
  refine pa_iald (pc' := 31) (n := 363) dX12_boxLine_30 s200 rfl (fun _ => ?_)
  rw [nI_clamp (by omega), k7]
  refine pa_iadd (pc' := 32) (v := nI (12 + cB A)) dX12_boxLine_31 (nI_add _ _) rfl ?_
  refine pa_callv (pc' := 35) (vs := [.inl (nI (12 + cB A))]) (rest := []) dX12_boxLine_32 ml_12_223 (by decide) rfl rfl rfl (fun d' _ => M_new (r := .inr p) (by omega) hI hn K) (fun v g1 hq => ?_)
  obtain ⟨er, hfr0, K1, hn⟩ := hq.E hn
  subst er
  show zPn N none d mX12_boxLine (35, [(1, .inl (nI (127 + 4 * cB A))), (0, .inr (.inr (some 196)))], [], g1) _
  refine pa_aload_n (pc' := 36) dX12_boxLine_35 rfl rfl ?_
  refine pa_getR (pc' := 39) (n := 39) (r := 200) dX12_boxLine_36 fl_12_23 (K1.mx.sh sh_196) (by decide) (K1.mx.2.1 _ _ _ rf_196_16) rfl ?_
  refine pa_iload_n (pc' := 40) dX12_boxLine_39 rfl rfl ?_
  refine pa_aload_n (pc' := 41) dX12_boxLine_40 rfl rfl ?_
  refine pa_ldc (pc' := 43) dX12_boxLine_41 cl_12_254 rfl rfl ?_
  refine pa_callv (pc' := 46) (vs := [.inr (.inr (some 1000053))]) (rest := [.inl (nI (127 + 4 * cB A)), .inr (.inr (some 200))]) dX12_boxLine_43 ml_12_246 (by decide) rfl rfl rfl (fun d' _ => M_behind hn K1 (bs := wFrom) rfl) (fun v f1 hq => ?_)
  obtain ⟨v1, er, K2, hfr1, c1⟩ := hq.E
  subst er
  refine pa_iast (pc' := 47) (n := 363) (v := v1) dX12_boxLine_46 (K2.mx.sh sh_200) rfl (fun _ => ?_)
  rw [nI_clamp (by omega)]
  have K1 := K2.zs (j := 127 + 4 * cB A) (v := v1) hI (wr_bx hI (by omega))
  clear K2
  have w1 : (zsI f1 200 (127 + 4 * cB A) v1).2.1 200 (127 + 4 * cB A) = v1 := zsI_eq
  refine pa_aload_n (pc' := 48) dX12_boxLine_47 rfl rfl ?_
  refine pa_getR (pc' := 51) (n := 39) (r := 200) dX12_boxLine_48 fl_12_23 (K1.mx.sh sh_196) (by decide) (K1.mx.2.1 _ _ _ rf_196_16) rfl ?_
  refine pa_iload_n (pc' := 52) dX12_boxLine_51 rfl rfl ?_
  refine pa_iconst (v := nI 1) (pc' := 53) dX12_boxLine_52 (by decide) rfl ?_
  refine pa_iadd (pc' := 54) (v := nI (127 + 4 * cB A + 1)) dX12_boxLine_53 (nI_add _ _) rfl ?_
  refine pa_aload_n (pc' := 55) dX12_boxLine_54 rfl rfl ?_
  refine pa_ldcw (pc' := 58) dX12_boxLine_55 cl_12_256 rfl rfl ?_
  refine pa_callv (pc' := 61) (vs := [.inr (.inr (some 1000054))]) (rest := [.inl (nI (127 + 4 * cB A + 1)), .inr (.inr (some 200))]) dX12_boxLine_58 ml_12_246 (by decide) rfl rfl rfl (fun d' _ => M_behind hn K1 (bs := wTo) rfl) (fun v f2 hq => ?_)
  obtain ⟨v2, er, K2, hfr2, c2⟩ := hq.E
  subst er
  refine pa_iast (pc' := 62) (n := 363) (v := v2) dX12_boxLine_61 (K2.mx.sh sh_200) rfl (fun _ => ?_)
  rw [nI_clamp (by omega)]
  have K1 := K2.zs (j := 127 + 4 * cB A + 1) (v := v2) hI (wr_bx hI (by omega))
  clear K2
  have w1 := (zsI_no (h := f2) (a := 200) (k := 127 + 4 * cB A + 1) (x := v2) (by omega)).trans ((hfr2 200 _ (by omega) (by omega)).trans w1)
  have w2 : (zsI f2 200 (127 + 4 * cB A + 1) v2).2.1 200 (127 + 4 * cB A + 1) = v2 := zsI_eq
  refine pa_aload_n (pc' := 63) dX12_boxLine_62 rfl rfl ?_
  refine pa_getR (pc' := 66) (n := 39) (r := 200) dX12_boxLine_63 fl_12_23 (K1.mx.sh sh_196) (by decide) (K1.mx.2.1 _ _ _ rf_196_16) rfl ?_
  refine pa_iload_n (pc' := 67) dX12_boxLine_66 rfl rfl ?_
  refine pa_iconst (v := nI 2) (pc' := 68) dX12_boxLine_67 (by decide) rfl ?_
  refine pa_iadd (pc' := 69) (v := nI (127 + 4 * cB A + 2)) dX12_boxLine_68 (nI_add _ _) rfl ?_
  refine pa_aload_n (pc' := 70) dX12_boxLine_69 rfl rfl ?_
  refine pa_ldcw (pc' := 73) dX12_boxLine_70 cl_12_258 rfl rfl ?_
  refine pa_iconst (v := 1) (pc' := 74) dX12_boxLine_73 (by decide) rfl ?_
  refine pa_bipush (v := 99) (pc' := 76) dX12_boxLine_74 (by decide) rfl ?_
  refine pa_callv (pc' := 79) (vs := [.inr (.inr (some 1000055)), .inl 1, .inl 99]) (rest := [.inl (nI (127 + 4 * cB A + 2)), .inr (.inr (some 200))]) dX12_boxLine_76 ml_12_213 (by decide) rfl rfl rfl (fun d' _ => M_after K1 (bs := wWeighs) rfl) (fun v f3 hq => ?_)
  obtain ⟨v3, er, K2, hfr3, c3⟩ := hq.E
  subst er
  refine pa_iast (pc' := 80) (n := 363) (v := v3) dX12_boxLine_79 (K2.mx.sh sh_200) rfl (fun _ => ?_)
  rw [nI_clamp (by omega)]
  have K1 := K2.zs (j := 127 + 4 * cB A + 2) (v := v3) hI (wr_bx hI (by omega))
  clear K2
  have w1 := (zsI_no (h := f3) (a := 200) (k := 127 + 4 * cB A + 2) (x := v3) (by omega)).trans ((hfr3 200 _ (by omega) (by omega)).trans w1)
  have w2 := (zsI_no (h := f3) (a := 200) (k := 127 + 4 * cB A + 2) (x := v3) (by omega)).trans ((hfr3 200 _ (by omega) (by omega)).trans w2)
  have w3 : (zsI f3 200 (127 + 4 * cB A + 2) v3).2.1 200 (127 + 4 * cB A + 2) = v3 := zsI_eq
  refine pa_aload_n (pc' := 81) dX12_boxLine_80 rfl rfl ?_
  refine pa_getR (pc' := 84) (n := 39) (r := 200) dX12_boxLine_81 fl_12_23 (K1.mx.sh sh_196) (by decide) (K1.mx.2.1 _ _ _ rf_196_16) rfl ?_
  refine pa_iload_n (pc' := 85) dX12_boxLine_84 rfl rfl ?_
  refine pa_iconst (v := nI 3) (pc' := 86) dX12_boxLine_85 (by decide) rfl ?_
  refine pa_iadd (pc' := 87) (v := nI (127 + 4 * cB A + 3)) dX12_boxLine_86 (nI_add _ _) rfl ?_
  refine pa_aload_n (pc' := 88) dX12_boxLine_87 rfl rfl ?_
  refine pa_ldcw (pc' := 91) dX12_boxLine_88 cl_12_260 rfl rfl ?_
  refine pa_iconst (v := 0) (pc' := 92) dX12_boxLine_91 (by decide) rfl ?_
  refine pa_sipush (v := 9999) (pc' := 95) dX12_boxLine_92 (by decide) rfl ?_
  refine pa_callv (pc' := 98) (vs := [.inr (.inr (some 1000056)), .inl 0, .inl 9999]) (rest := [.inl (nI (127 + 4 * cB A + 3)), .inr (.inr (some 200))]) dX12_boxLine_95 ml_12_213 (by decide) rfl rfl rfl (fun d' _ => M_after K1 (bs := wDay) rfl) (fun v f4 hq => ?_)
  obtain ⟨v4, er, K2, hfr4, c4⟩ := hq.E
  subst er
  refine pa_iast (pc' := 99) (n := 363) (v := v4) dX12_boxLine_98 (K2.mx.sh sh_200) rfl (fun _ => ?_)
  rw [nI_clamp (by omega)]
  have K1 := K2.zs (j := 127 + 4 * cB A + 3) (v := v4) hI (wr_bx hI (by omega))
  clear K2
  have w1 := (zsI_no (h := f4) (a := 200) (k := 127 + 4 * cB A + 3) (x := v4) (by omega)).trans ((hfr4 200 _ (by omega) (by omega)).trans w1)
  have w2 := (zsI_no (h := f4) (a := 200) (k := 127 + 4 * cB A + 3) (x := v4) (by omega)).trans ((hfr4 200 _ (by omega) (by omega)).trans w2)
  have w3 := (zsI_no (h := f4) (a := 200) (k := 127 + 4 * cB A + 3) (x := v4) (by omega)).trans ((hfr4 200 _ (by omega) (by omega)).trans w3)
  have w4 : (zsI f4 200 (127 + 4 * cB A + 3) v4).2.1 200 (127 + 4 * cB A + 3) = v4 := zsI_eq
  have hff := K1.fb
  have s196 := K1.mx.sh sh_196
  have s200 := K1.mx.sh sh_200
  have r196_16 := K1.mx.2.1 _ _ _ rf_196_16
  refine pa_aload_n (pc' := 100) dX12_boxLine_99 rfl rfl ?_
  refine pa_getI (pc' := 103) (n := 39) dX12_boxLine_100 fl_12_100 s196 (by decide) hff rfl ?_
  have bad : ∀ {e : sF} {g : zH}, mF R0 y n e g → sBox y n A p = .inl e → zPn N none d mX12_boxLine (117, [(1, .inl (nI (127 + 4 * cB A))), (0, .inr (.inr (some 196)))], [], g) (lnM R0 y n (sBox y n A p)) := by
    intro e g hF he
    refine pa_vret dX12_boxLine_117 rfl ⟨rfl, ?_⟩
    rw [he]
    exact hF
  clear hq hfr0 K hff
  cases e0 : sNew y n A.2.1 p with
  | inl e =>
    simp only [e0, bindS, sndS, nmX] at K1 ⊢
    exact pa_if_t (pc' := 117) dX12_boxLine_103 rfl (by decide) (bad K1 (by simp only [sBox, e0]))
  | inr q0 =>
    simp only [e0, nmX] at K1 hn ⊢
    cases e1 : sWord y n wFrom q0 with
    | inl e =>
      simp only [e1, bindS, sndS] at K1 ⊢
      exact pa_if_t (pc' := 117) dX12_boxLine_103 rfl (by decide) (bad K1 (by simp only [sBox, e0, e1]))
    | inr q1 =>
      cases e2 : sOld y n (upA A.2.1 (12 + cB A) (tW y n p)) 0 6 q1 with
      | inl e =>
        simp only [e1, e2, bindS, sndS] at K1 ⊢
        exact pa_if_t (pc' := 117) dX12_boxLine_103 rfl (by decide) (bad K1 (by simp only [sBox, e0, e1, e2]))
      | inr q2 =>
        obtain ⟨x2, q2⟩ := q2
        cases e3 : sWord y n wTo q2 with
        | inl e =>
          simp only [e1, e2, e3, bindS, sndS] at K1 ⊢
          exact pa_if_t (pc' := 117) dX12_boxLine_103 rfl (by decide) (bad K1 (by simp only [sBox, e0, e1, e2, e3]))
        | inr q3 =>
          cases e4 : sOld y n (upA A.2.1 (12 + cB A) (tW y n p)) 0 6 q3 with
          | inl e =>
            simp only [e1, e2, e3, e4, bindS, sndS] at K1 ⊢
            exact pa_if_t (pc' := 117) dX12_boxLine_103 rfl (by decide) (bad K1 (by simp only [sBox, e0, e1, e2, e3, e4]))
          | inr q4 =>
            obtain ⟨x4, q4⟩ := q4
            cases e5 : sWN y n wWeighs 1 99 q4 with
            | inl e =>
              simp only [e1, e2, e3, e4, e5, bindS, sndS] at K1 ⊢
              exact pa_if_t (pc' := 117) dX12_boxLine_103 rfl (by decide) (bad K1 (by simp only [sBox, e0, e1, e2, e3, e4, e5]))
            | inr q5 =>
              obtain ⟨x5, q5⟩ := q5
              cases e6 : sWN y n wDay 0 9999 q5 with
              | inl e =>
                simp only [e1, e2, e3, e4, e5, e6, bindS, sndS] at K1 ⊢
                exact pa_if_t (pc' := 117) dX12_boxLine_103 rfl (by decide) (bad K1 (by simp only [sBox, e0, e1, e2, e3, e4, e5, e6]))
              | inr q6 =>
                obtain ⟨x6, q6⟩ := q6
                simp only [e1, e2, e3, e4, e5, e6, bindS, sndS] at K1 ⊢
                refine pa_if_f (pc' := 106) dX12_boxLine_103 rfl (by decide) rfl ?_
                have k7 := (show mS R0 y n A _ q6 _ from K1).2.2.1.2.2.2.2.2.1
                refine pa_aload_n (pc' := 107) dX12_boxLine_106 rfl rfl ?_
                refine pa_getR (pc' := 110) (n := 39) (r := 200) dX12_boxLine_107 fl_12_23 s196 (by decide) r196_16 rfl ?_
                refine pa_bipush (v := nI 7) (pc' := 112) dX12_boxLine_110 (by decide) rfl ?_
                refine pa_dup2 (pc' := 113) dX12_boxLine_112 ⟨rfl, rfl⟩ rfl ?_
                refine pa_iald (pc' := 114) (n := 363) dX12_boxLine_113 s200 rfl (fun _ => ?_)
                rw [nI_clamp (by omega), k7]
                refine pa_iconst (v := nI 1) (pc' := 115) dX12_boxLine_114 (by decide) rfl ?_
                refine pa_iadd (pc' := 116) (v := nI (cB A + 1)) dX12_boxLine_115 (nI_add _ _) rfl ?_
                refine pa_iast (pc' := 117) (n := 363) dX12_boxLine_116 s200 rfl (fun _ => ?_)
                rw [nI_clamp (by omega)]
                refine pa_vret dX12_boxLine_117 rfl ⟨rfl, ?_⟩
                simp only [sBox, e0, e1, e2, e3, e4, e5, e6]
                have K1 : mS R0 y n A _ q6 _ := K1
                have c1 := c1 x2 q2 (by simp only [e0, e1, e2, bindS, sndS, nmX])
                have c2 := c2 x4 q4 (by simp only [e0, e1, e2, e3, e4, bindS, sndS, nmX])
                have c3 := c3 x5 q5 (by simp only [e0, e1, e2, e3, e4, e5, bindS, sndS, nmX])
                have c4 := c4 x6 q6 (by simp only [e0, e1, e2, e3, e4, e5, e6, bindS, sndS, nmX])
                exact ⟨K1.1.zs, by rw [zsI_no (by omega)]; exact K1.2.1, K1.2.2.1.boxed hI hB (w1.trans c1) (w2.trans c2) (w3.trans c3) (w4.trans c4), K1.2.2.2.zs (by omega)⟩
end MDZ
