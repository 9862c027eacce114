/-! the reference: writes into its row; the beginnings of lines -/
def sndS {α : Type} (r : sF ⊕ (α × Nat)) : sF ⊕ Nat := bindS r (fun q => .inr q.2)
def wr2 (A : pA) (j : Nat) : Prop := j < 183 ∧ ¬ (4 ≤ j ∧ j ≤ 9) ∧ (A.1 ≠ 0 → j ≠ 0) ∧ (∀ i, i < cI A → ¬ (10 + 7 * i ≤ j ∧ j < 17 + 7 * i)) ∧ (∀ k, k < cW A → ¬ (59 + 4 * k ≤ j ∧ j < 61 + 4 * k)) ∧ (∀ k, k < cS A → ¬ (159 + 3 * k ≤ j ∧ j < 162 + 3 * k)) ∧ (∀ i, A.2.2.1 (1000 + i) ≠ [] → okX A i → i ≠ j)
section MDY
variable {R0 : Nat → Nat → Int32} {y : Nat → Int32} {n d N p k s : Nat} {h h' g : zH} {A : pA} {nm : Nat → List Int32} {e : sF} {r : sF ⊕ Nat}
theorem song6 (hI : pI A) {i : Nat} (hi : i < cI A) : (A.2.2.1 i).length ≤ 6 := by
  have := (hI.2.2.2.2.2.1 i hi).1
  unfold okSong at this
  simp only [Bool.and_eq_true, decide_eq_true_eq] at this
  exact this.2.1
theorem mF.zs {j : Nat} {v : Int32} (K : mF R0 y n e h) : mF R0 y n e (zsI h 200 j v) := ⟨K.1.zs (by omega) (by omega), by rw [zsI_no (by omega)]; exact K.2.1, by rw [zsI_no (by omega)]; exact K.2.2.1, by rw [zsI_no (by omega)]; exact K.2.2.2⟩
theorem mT.zs {j : Nat} {v : Int32} (K : mT R0 y n p h) : mT R0 y n p (zsI h 200 j v) := by
  obtain ⟨k1, k2, k3, k4, k5, k6, k7⟩ := K
  refine ⟨k1.zs (by omega) (by omega), k2, by rw [zsI_no (by omega)]; exact k3, by rw [zsI_no (by omega)]; exact k4, by rw [zsI_no (by omega)]; exact k5, fun z => ⟨by rw [zsI_no (by omega)]; exact (k6 z).1, fun i hi => by rw [zsI_no (by omega)]; exact (k6 z).2 i hi⟩, fun z => by rw [zsI_no (by omega)]; exact k7 z⟩
theorem rmN.zs {j : Nat} {v : Int32} (K : rmN nm h) (hj : j < 183) : rmN nm (zsI h 200 j v) := fun i hi => ⟨by rw [zsI_no (by omega)]; exact (K i hi).1, fun q hq => by rw [zsI_no (by omega)]; exact (K i hi).2 q hq⟩
theorem rmC.zs {j : Nat} {v : Int32} (hI : pI A) (K : rmC A h) (w : wr2 A j) : rmC A (zsI h 200 j v) := by
  obtain ⟨w1, w2, w3, w4, w5, w6, w7⟩ := w
  obtain ⟨k1, k2, k3, k4, k5, k6, k7, k8, k9, k10, k11⟩ := K
  refine ⟨by rw [zsI_no (by omega)]; exact k1, fun z => by rw [zsI_no (by have := w3 z; omega)]; exact k2 z, by rw [zsI_no (by omega)]; exact k3, by rw [zsI_no (by omega)]; exact k4, by rw [zsI_no (by omega)]; exact k5, by rw [zsI_no (by omega)]; exact k6, by rw [zsI_no (by omega)]; exact k7, fun i hi => ⟨?_, fun q hq => ?_⟩, fun i hi => ?_, fun i hi => ?_, k11.fr (fun i ht ok => zsI_no (fun z => w7 i ht ok z.2))⟩
  · have := w4 i hi
    rw [zsI_no (by omega)]; exact (k8 i hi).1
  · have := w4 i hi
    have := song6 hI hi
    rw [zsI_no (by omega)]; exact (k8 i hi).2 q hq
  · have := w5 i hi
    rw [zsI_no (by omega), zsI_no (by omega)]; exact k9 i hi
  · have := w6 i hi
    rw [zsI_no (by omega), zsI_no (by omega)]; exact k10 i hi
theorem mE.zs {j : Nat} {v : Int32} (hI : pI A) (K : mE R0 y n A nm r h) (w : wr2 A j) : mE R0 y n A nm r (zsI h 200 j v) := by
  cases r with
  | inl e => exact mF.zs K
  | inr p => exact ⟨K.1.zs, by rw [zsI_no (by omega)]; exact K.2.1, K.2.2.1.zs hI w, K.2.2.2.zs w.1⟩
theorem nuM.E {r : sF ⊕ (Int32 × Nat)} {v : Option zV} (q : nuM R0 y n A nm h r v h') : ∃ x, v = some (.inl x) ∧ mE R0 y n A nm (sndS r) h' ∧ fr6 h h' ∧ ∀ z p, r = .inr (z, p) → x = z := by
  obtain ⟨q1, x, q2, q3⟩ := q
  refine ⟨x, q2, ?_, q1, fun z p e => ?_⟩
  · cases r with
    | inl e => exact q3
    | inr z => exact q3.2
  · rw [e] at q3
    exact q3.1
theorem olM.E {r : sF ⊕ (Nat × Nat)} {v : Option zV} (q : olM R0 y n A nm h r v h') : ∃ x, v = some (.inl x) ∧ mE R0 y n A nm (sndS r) h' ∧ fr6 h h' ∧ ∀ z p, r = .inr (z, p) → x = nI z := by
  obtain ⟨q1, x, q2, q3⟩ := q
  refine ⟨x, q2, ?_, q1, fun z p e => ?_⟩
  · cases r with
    | inl e => exact q3.1
    | inr z => exact q3.2
  · rw [e] at q3
    exact q3.1
/-- failed or not -/
def fb (r : sF ⊕ Nat) : Int32 := match r with
  | .inl _ => 1
  | .inr _ => 0
theorem mE.fb (K : mE R0 y n A nm r h) : h.2.1 196 13 = fb r := by
  cases r with
  | inl e => exact K.2.1
  | inr p => exact K.2.1
/-- a line of the reference -/
def lnM (R0 : Nat → Nat → Int32) (y : Nat → Int32) (n : Nat) (r : sR) (v : Option zV) (h' : zH) : Prop := v = none ∧ (match r with
  | .inl e => mF R0 y n e h'
  | .inr q => mS R0 y n q.1 q.1.2.1 q.2 h')
theorem rmC.head {t : Int32} (hI : pI A) (h0 : A.1 = 0) (ht : t ≠ 0) (K : rmC A h) (e0 : h.2.1 200 0 = t) : rmC (t, A.2) (zsI h 200 9 1) := by
  obtain ⟨b1, b2, b3, b4, b5⟩ := hI.2.2.1
  obtain ⟨k1, k2, k3, k4, k5, k6, k7, k8, k9, k10, k11⟩ := K
  have z := hI.2.1 h0
  refine ⟨?_, fun _ => by rw [zsI_no (by omega)]; exact e0, by rw [zsI_no (by omega)]; exact k3, by rw [zsI_no (by omega)]; exact k4, by rw [zsI_no (by omega)]; exact k5, by rw [zsI_no (by omega)]; exact k6, by rw [zsI_no (by omega)]; exact k7, fun i hi => ?_, fun i hi => ?_, fun i hi => ?_, fun j hj => ?_⟩
  · rw [zsI_eq, if_neg ht]
  · have hi : i < cI A := hi
    omega
  · have hi : i < cW A := hi
    omega
  · have hi : i < cS A := hi
    omega
  · rcases (k11 j hj).1 with ⟨_, _, z2⟩ | z2 | z2 | z2 | z2
    · exact absurd h0 z2
    all_goals omega
theorem rmC.headed {u v w : Int32} (hI : pI A) (h0 : A.1 ≠ 0) (K : rmC A h) (v1 : h.2.1 200 1 = u) (v2 : h.2.1 200 2 = v) (v3 : h.2.1 200 3 = w) : rmC (A.1, A.2.1, xS (xS (xS A.2.2.1 1 u) 2 v) 3 w, A.2.2.2) h := by
  obtain ⟨b1, b2, b3, b4, b5⟩ := hI.2.2.1
  obtain ⟨k1, k2, k3, k4, k5, k6, k7, k8, k9, k10, k11⟩ := K
  refine ⟨k1, k2, k3, k4, k5, k6, k7, fun i hi => ?_, k9, k10, ((k11.add (i := 1) (.inl ⟨by omega, by omega, h0⟩) v1).add (i := 2) (.inl ⟨by omega, by omega, h0⟩) v2).add (i := 3) (.inl ⟨by omega, by omega, h0⟩) v3⟩
  have hi : i < cI A := hi
  show h.2.1 200 (10 + 7 * i) = nI (xS (xS (xS A.2.2.1 1 u) 2 v) 3 w i).length ∧ ∀ k, k < (xS (xS (xS A.2.2.1 1 u) 2 v) 3 w i).length → h.2.1 200 (10 + 7 * i + 1 + k) = (xS (xS (xS A.2.2.1 1 u) 2 v) 3 w i).getD k 0 - 97
  rw [xS3 (by omega)]
  exact k8 i hi
theorem wr_00 (hI : pI A) (h0 : A.1 = 0) {j : Nat} (hj : j < 4) : wr2 A j := by
  obtain ⟨b1, b2, b3, b4, b5⟩ := hI.2.2.1
  have z := hI.2.1 h0
  exact ⟨by omega, by omega, fun w => absurd h0 w, fun i hi => by omega, fun i hi => by omega, fun i hi => by omega, fun i _ ok => by
    rcases ok with ⟨_, _, z2⟩ | z2 | z2 | z2 | z2
    · exact absurd h0 z2
    all_goals omega⟩
theorem sWN_24 {bs : List Int32} {x : Int32} {q : Nat} (e : sWN y n bs 2 4 p = .inr (x, q)) : x = 2 ∨ x = 3 ∨ x = 4 := by
  unfold sWN at e
  split at e
  · cases e
  · exact sNum_24 e
theorem M_head (hI : pI A) (K : mS R0 y n A A.2.1 p h) : zPa d mX12_postLine [.inr (.inr (some 196))] h (lnM R0 y n (if A.1 = 0 then sHead y n A (tE y n p) else .inl (3, tS y n p))) := by
  intro N
  have hx := K.1.1
  have hp := K.1.2.1
  have s196 := hx.sh sh_196
  have s200 := hx.sh sh_200
  have r196_16 := hx.2.1 _ _ _ rf_196_16
  have k4 := K.1.2.2.1
  have hf := K.2.1
  have k9 := K.2.2.1.1
  show zPn N none d mX12_postLine (0, [(0, .inr (.inr (some 196)))], [], h) _
  refine pa_aload_n (pc' := 1) dX12_postLine_0 rfl rfl ?_
  refine pa_getR (pc' := 4) (n := 39) (r := 200) dX12_postLine_1 fl_12_23 s196 (by decide) r196_16 rfl ?_
  refine pa_bipush (v := nI 9) (pc' := 6) dX12_postLine_4 (by decide) rfl ?_
  refine pa_iald (pc' := 7) (n := 363) dX12_postLine_6 s200 rfl (fun _ => ?_)
  rw [nI_clamp (by omega), k9]
  refine pa_iconst (v := 1) (pc' := 8) dX12_postLine_7 (by decide) rfl ?_
  by_cases h0 : A.1 = 0
  · rw [if_pos h0, if_pos h0]
    refine pa_icmp_t (pc' := 20) dX12_postLine_8 (by decide) (by decide) ?_
    refine pa_aload_n (pc' := 21) dX12_postLine_20 rfl rfl ?_
    refine pa_getI (pc' := 24) (n := 39) dX12_postLine_21 fl_12_100 s196 (by decide) hf rfl ?_
    refine pa_if_t (pc' := 28) dX12_postLine_24 (by decide) (by decide) ?_
    refine pa_aload_n (pc' := 29) dX12_postLine_28 rfl rfl ?_
    refine pa_callv (pc' := 32) (vs := []) (rest := []) dX12_postLine_29 ml_12_121 (by decide) rfl rfl rfl (fun d' _ => m_next hx K.1.2.2.2.1 (tE_sp hp).2.1) (fun v g hq => ?_)
    obtain ⟨er, hq⟩ := hq
    subst er
    have K1 : mE R0 y n A A.2.1 (.inr (tE y n p)) g := K.nx hq (tE_sp hp).2.1
    clear s196 s200 r196_16
    show zPn N none d mX12_postLine (32, [(0, .inr (.inr (some 196)))], [], g) _
    have s200 := K1.mx.sh sh_200
    refine pa_aload_n (pc' := 33) dX12_postLine_32 rfl rfl ?_
    refine pa_getR (pc' := 36) (n := 39) (r := 200) dX12_postLine_33 fl_12_23 (K1.mx.sh sh_196) (by decide) (K1.mx.2.1 _ _ _ rf_196_16) rfl ?_
    refine pa_iconst (v := nI 0) (pc' := 37) dX12_postLine_36 (by decide) rfl ?_
    refine pa_aload_n (pc' := 38) dX12_postLine_37 rfl rfl ?_
    refine pa_ldc (pc' := 40) dX12_postLine_38 cl_12_211 rfl rfl ?_
    refine pa_iconst (v := 2) (pc' := 41) dX12_postLine_40 (by decide) rfl ?_
    refine pa_iconst (v := 4) (pc' := 42) dX12_postLine_41 (by decide) rfl ?_
    refine pa_callv (pc' := 45) (vs := [.inr (.inr (some 1000035)), .inl 2, .inl 4]) (rest := [.inl (nI 0), .inr (.inr (some 200))]) dX12_postLine_42 ml_12_213 (by decide) rfl rfl rfl (fun d' _ => M_after K1 (bs := wNotes) rfl) (fun v f1 hq => ?_)
    obtain ⟨v1, er, K2, hfr1, c1⟩ := hq.E
    subst er
    refine pa_iast (pc' := 46) (n := 363) (v := v1) dX12_postLine_45 (K2.mx.sh sh_200) rfl (fun _ => ?_)
    rw [nI_clamp (by omega)]
    have w0 : (zsI f1 200 0 v1).2.1 200 0 = v1 := zsI_eq
    have K1 := K2.zs (j := 0) (v := v1) hI (wr_00 hI h0 (by omega))
    clear K2
    have s200 := K1.mx.sh sh_200
    refine pa_aload_n (pc' := 47) dX12_postLine_46 rfl rfl ?_
    refine pa_getR (pc' := 50) (n := 39) (r := 200) dX12_postLine_47 fl_12_23 (K1.mx.sh sh_196) (by decide) (K1.mx.2.1 _ _ _ rf_196_16) rfl ?_
    refine pa_iconst (v := nI 1) (pc' := 51) dX12_postLine_50 (by decide) rfl ?_
    refine pa_aload_n (pc' := 52) dX12_postLine_51 rfl rfl ?_
    refine pa_ldc (pc' := 54) dX12_postLine_52 cl_12_217 rfl rfl ?_
    refine pa_iconst (v := 0) (pc' := 55) dX12_postLine_54 (by decide) rfl ?_
    refine pa_iconst (v := 3) (pc' := 56) dX12_postLine_55 (by decide) rfl ?_
    refine pa_callv (pc' := 59) (vs := [.inr (.inr (some 1000036)), .inl 0, .inl 3]) (rest := [.inl (nI 1), .inr (.inr (some 200))]) dX12_postLine_56 ml_12_213 (by decide) rfl rfl rfl (fun d' _ => M_after K1 (bs := wErrors) rfl) (fun v f2 hq => ?_)
    obtain ⟨v2, er, K2, hfr2, c2⟩ := hq.E
    subst er
    refine pa_iast (pc' := 60) (n := 363) (v := v2) dX12_postLine_59 (K2.mx.sh sh_200) rfl (fun _ => ?_)
    rw [nI_clamp (by omega)]
    have w0 : (zsI f2 200 1 v2).2.1 200 0 = v1 := by rw [zsI_no (by omega)]; exact (hfr2 200 0 (by omega) (by omega)).trans w0
    have w1 : (zsI f2 200 1 v2).2.1 200 1 = v2 := zsI_eq
    have K1 := K2.zs (j := 1) (v := v2) hI (wr_00 hI h0 (by omega))
    clear K2
    have s200 := K1.mx.sh sh_200
    refine pa_aload_n (pc' := 61) dX12_postLine_60 rfl rfl ?_
    refine pa_getR (pc' := 64) (n := 39) (r := 200) dX12_postLine_61 fl_12_23 (K1.mx.sh sh_196) (by decide) (K1.mx.2.1 _ _ _ rf_196_16) rfl ?_
    refine pa_iconst (v := nI 2) (pc' := 65) dX12_postLine_64 (by decide) rfl ?_
    refine pa_aload_n (pc' := 66) dX12_postLine_65 rfl rfl ?_
    refine pa_ldc (pc' := 68) dX12_postLine_66 cl_12_219 rfl rfl ?_
    refine pa_iconst (v := 0) (pc' := 69) dX12_postLine_68 (by decide) rfl ?_
    refine pa_bipush (v := 50) (pc' := 71) dX12_postLine_69 (by decide) rfl ?_
    refine pa_callv (pc' := 74) (vs := [.inr (.inr (some 1000037)), .inl 0, .inl 50]) (rest := [.inl (nI 2), .inr (.inr (some 200))]) dX12_postLine_71 ml_12_213 (by decide) rfl rfl rfl (fun d' _ => M_after K1 (bs := wDrift) rfl) (fun v f3 hq => ?_)
    obtain ⟨v3, er, K2, hfr3, c3⟩ := hq.E
    subst er
    refine pa_iast (pc' := 75) (n := 363) (v := v3) dX12_postLine_74 (K2.mx.sh sh_200) rfl (fun _ => ?_)
    rw [nI_clamp (by omega)]
    have w0 : (zsI f3 200 2 v3).2.1 200 0 = v1 := by rw [zsI_no (by omega)]; exact (hfr3 200 0 (by omega) (by omega)).trans w0
    have w1 : (zsI f3 200 2 v3).2.1 200 1 = v2 := by rw [zsI_no (by omega)]; exact (hfr3 200 1 (by omega) (by omega)).trans w1
    have w2 : (zsI f3 200 2 v3).2.1 200 2 = v3 := zsI_eq
    have K1 := K2.zs (j := 2) (v := v3) hI (wr_00 hI h0 (by omega))
    clear K2
    have s200 := K1.mx.sh sh_200
    refine pa_aload_n (pc' := 76) dX12_postLine_75 rfl rfl ?_
    refine pa_getR (pc' := 79) (n := 39) (r := 200) dX12_postLine_76 fl_12_23 (K1.mx.sh sh_196) (by decide) (K1.mx.2.1 _ _ _ rf_196_16) rfl ?_
    refine pa_iconst (v := nI 3) (pc' := 80) dX12_postLine_79 (by decide) rfl ?_
    refine pa_aload_n (pc' := 81) dX12_postLine_80 rfl rfl ?_
    refine pa_ldc (pc' := 83) dX12_postLine_81 cl_12_221 rfl rfl ?_
    refine pa_iconst (v := 0) (pc' := 84) dX12_postLine_83 (by decide) rfl ?_
    refine pa_bipush (v := 100) (pc' := 86) dX12_postLine_84 (by decide) rfl ?_
    refine pa_callv (pc' := 89) (vs := [.inr (.inr (some 1000038)), .inl 0, .inl 100]) (rest := [.inl (nI 3), .inr (.inr (some 200))]) dX12_postLine_86 ml_12_213 (by decide) rfl rfl rfl (fun d' _ => M_after K1 (bs := wSlip) rfl) (fun v f4 hq => ?_)
    obtain ⟨v4, er, K2, hfr4, c4⟩ := hq.E
    subst er
    refine pa_iast (pc' := 90) (n := 363) (v := v4) dX12_postLine_89 (K2.mx.sh sh_200) rfl (fun _ => ?_)
    rw [nI_clamp (by omega)]
    have w0 : (zsI f4 200 3 v4).2.1 200 0 = v1 := by rw [zsI_no (by omega)]; exact (hfr4 200 0 (by omega) (by omega)).trans w0
    have w1 : (zsI f4 200 3 v4).2.1 200 1 = v2 := by rw [zsI_no (by omega)]; exact (hfr4 200 1 (by omega) (by omega)).trans w1
    have w2 : (zsI f4 200 3 v4).2.1 200 2 = v3 := by rw [zsI_no (by omega)]; exact (hfr4 200 2 (by omega) (by omega)).trans w2
    have w3 : (zsI f4 200 3 v4).2.1 200 3 = v4 := zsI_eq
    have K1 := K2.zs (j := 3) (v := v4) hI (wr_00 hI h0 (by omega))
    clear K2
    have hff := K1.fb
    have s196 := K1.mx.sh sh_196
    have s200 := K1.mx.sh sh_200
    have r196_16 := K1.mx.2.1 _ _ _ rf_196_16
    refine pa_aload_n (pc' := 91) dX12_postLine_90 rfl rfl ?_
    refine pa_getI (pc' := 94) (n := 39) dX12_postLine_91 fl_12_100 s196 (by decide) hff rfl ?_
    cases e1 : sWN y n wNotes 2 4 (tE y n p) with
    | inl e =>
      simp only [e1, bindS, sndS] at K1 ⊢
      refine pa_if_t (pc' := 105) dX12_postLine_94 rfl (by decide) ?_
      refine pa_vret dX12_postLine_105 rfl ⟨rfl, ?_⟩
      simp only [sHead, e1]
      exact K1
    | inr q1 =>
      obtain ⟨t, q1⟩ := q1
      have c1 := c1 t q1 (by simp only [bindS, e1])
      cases e2 : sWN y n wErrors 0 3 q1 with
      | inl e =>
        simp only [e1, e2, bindS, sndS] at K1 ⊢
        refine pa_if_t (pc' := 105) dX12_postLine_94 rfl (by decide) ?_
        refine pa_vret dX12_postLine_105 rfl ⟨rfl, ?_⟩
        simp only [sHead, e1, e2]
        exact K1
      | inr q2 =>
        obtain ⟨t2, q2⟩ := q2
        cases e3 : sWN y n wDrift 0 50 q2 with
        | inl e =>
          simp only [e1, e2, e3, bindS, sndS] at K1 ⊢
          refine pa_if_t (pc' := 105) dX12_postLine_94 rfl (by decide) ?_
          refine pa_vret dX12_postLine_105 rfl ⟨rfl, ?_⟩
          simp only [sHead, e1, e2, e3]
          exact K1
        | inr q3 =>
          obtain ⟨t3, q3⟩ := q3
          cases e4 : sWN y n wSlip 0 100 q3 with
          | inl e =>
            simp only [e1, e2, e3, e4, bindS, sndS] at K1 ⊢
            refine pa_if_t (pc' := 105) dX12_postLine_94 rfl (by decide) ?_
            refine pa_vret dX12_postLine_105 rfl ⟨rfl, ?_⟩
            simp only [sHead, e1, e2, e3, e4]
            exact K1
          | inr q4 =>
            obtain ⟨t4, q4⟩ := q4
            simp only [e1, e2, e3, e4, bindS, sndS] at K1 ⊢
            refine pa_if_f (pc' := 97) dX12_postLine_94 rfl (by decide) rfl ?_
            refine pa_aload_n (pc' := 98) dX12_postLine_97 rfl rfl ?_
            refine pa_getR (pc' := 101) (n := 39) (r := 200) dX12_postLine_98 fl_12_23 s196 (by decide) r196_16 rfl ?_
            refine pa_bipush (v := nI 9) (pc' := 103) dX12_postLine_101 (by decide) rfl ?_
            refine pa_iconst (v := 1) (pc' := 104) dX12_postLine_103 (by decide) rfl ?_
            refine pa_iast (pc' := 105) (n := 363) dX12_postLine_104 s200 rfl (fun _ => ?_)
            rw [nI_clamp (by omega)]
            refine pa_vret dX12_postLine_105 rfl ⟨rfl, ?_⟩
            simp only [sHead, e1, e2, e3, e4]
            have ht : t ≠ 0 := by
              rcases sWN_24 e1 with z | z | z <;> rw [z] <;> decide
            have K1 : mS R0 y n A A.2.1 q4 _ := K1
            have c2 := c2 t2 q2 (by simp only [bindS, sndS, e1, e2])
            have c3 := c3 t3 q3 (by simp only [bindS, sndS, e1, e2, e3])
            have c4 := c4 t4 q4 (by simp only [bindS, sndS, e1, e2, e3, e4])
            have hI2 := hI.head (t := t) (sWN_24 e1) h0
            exact ⟨K1.1.zs, by rw [zsI_no (by omega)]; exact K1.2.1, (K1.2.2.1.head hI h0 ht (w0.trans c1)).headed hI2 ht ((zsI_no (by omega)).trans (w1.trans c2)) ((zsI_no (by omega)).trans (w2.trans c3)) ((zsI_no (by omega)).trans (w3.trans c4)), K1.2.2.2.zs (by omega)⟩
  · rw [if_neg h0, if_neg h0]
    refine pa_icmp_f (pc' := 11) dX12_postLine_8 (by decide) (by decide) rfl ?_
    refine pa_aload_n (pc' := 12) dX12_postLine_11 rfl rfl ?_
    refine pa_iconst (v := 3) (pc' := 13) dX12_postLine_12 (by decide) rfl ?_
    refine pa_aload_n (pc' := 14) dX12_postLine_13 rfl rfl ?_
    refine pa_getI (pc' := 17) (n := 39) dX12_postLine_14 fl_12_81 s196 (by decide) k4 rfl ?_
    refine pa_callv (pc' := 20) (vs := [.inl 3, .inl (nI (tS y n p))]) (rest := []) dX12_postLine_17 ml_12_127 (by decide) rfl rfl rfl (fun d' _ => m_wrong hx hf rfl) (fun v g hq => ?_)
    obtain ⟨er, hq⟩ := hq
    subst er; subst hq
    have hF : mF R0 y n (3, tS y n p) (wrg h 3 (tS y n p)) := wrg_mF hx
    have hf := hF.2.1
    refine pa_aload_n (pc' := 21) dX12_postLine_20 rfl rfl ?_
    refine pa_getI (pc' := 24) (n := 39) dX12_postLine_21 fl_12_100 (hF.1.sh sh_196) (by decide) hf rfl ?_
    refine pa_if_f (pc' := 27) dX12_postLine_24 (by decide) (by decide) rfl ?_
    exact pa_vret dX12_postLine_27 rfl ⟨rfl, hF⟩
end MDY
