/-! the reference: numbers, names -/
def bindS {α β : Type} (r : sF ⊕ α) (f : α → sF ⊕ β) : sF ⊕ β := match r with
  | .inl e => .inl e
  | .inr a => f a
def fr6 (h h' : zH) : Prop := ∀ a j, a ≠ 196 → a ≠ 198 → h'.2.1 a j = h.2.1 a j
def mE (R0 : Nat → Nat → Int32) (y : Nat → Int32) (n : Nat) (A : pA) (nm : Nat → List Int32) (r : sF ⊕ Nat) (h : zH) : Prop := match r with
  | .inl e => mF R0 y n e h
  | .inr q => mS R0 y n A nm q h
section MDW
variable {R0 : Nat → Nat → Int32} {y : Nat → Int32} {n d N p k s : Nat} {h h' g : zH} {A : pA} {nm : Nat → List Int32} {e : sF} {r : sF ⊕ Nat}
theorem mE.mx (K : mE R0 y n A nm r h) : mx R0 y n h := by
  unfold mE at K
  split at K
  · exact K.1
  · exact K.1.1
theorem wrg_fr {k : Int32} : fr6 h (wrg h k s) := by
  intro a j h1 _
  show (zsI (zsI (zsI h 196 13 1) 196 9 k) 196 10 _).2.1 a j = _
  rw [zsI_no (by omega), zsI_no (by omega), zsI_no (by omega)]
theorem nM_fr (q : nM y n p h h') : fr6 h h' := fun a j h1 h2 => q.2.2.1 a j (by omega) h2
theorem fr6.tr {h1 h2 : zH} (a : fr6 h h1) (b : fr6 h1 h2) : fr6 h h2 := fun x j q1 q2 => (b x j q1 q2).trans (a x j q1 q2)
theorem fr6.rf : fr6 h h := fun _ _ _ _ => rfl
theorem in_ex2 {x lo hi : Int32} : zPa d mX12_in [.inl x, .inl lo, .inl hi] h (fun v h' => h' = h ∧ ((v = some (.inl 1) ∧ lo ≤ x ∧ x ≤ hi) ∨ (v = some (.inl 0) ∧ ¬ (lo ≤ x ∧ x ≤ hi)))) := by
  intro N
  show zPn N none d mX12_in (0, [(0, .inl x), (1, .inl lo), (2, .inl hi)], [], h) _
  refine pa_iload_n (pc' := 1) dX12_in_0 rfl rfl ?_
  refine pa_iload_n (pc' := 2) dX12_in_1 rfl rfl ?_
  refine pa_icmp (pc' := 14) (pc2 := 5) dX12_in_2 (by decide) rfl (fun c => ?_) (fun c => ?_)
  · refine pa_iconst (v := 0) (pc' := 15) dX12_in_14 (by decide) rfl ?_
    exact pa_iret dX12_in_15 rfl rfl ⟨rfl, .inr ⟨rfl, fun q => by have := zi_lt c; have := Int32.le_iff_toInt_le.mp q.1; omega⟩⟩
  · refine pa_iload_n (pc' := 6) dX12_in_5 rfl rfl ?_
    refine pa_iload_n (pc' := 7) dX12_in_6 rfl rfl ?_
    refine pa_icmp (pc' := 14) (pc2 := 10) dX12_in_7 (by decide) rfl (fun c2 => ?_) (fun c2 => ?_)
    · refine pa_iconst (v := 0) (pc' := 15) dX12_in_14 (by decide) rfl ?_
      exact pa_iret dX12_in_15 rfl rfl ⟨rfl, .inr ⟨rfl, fun q => by have := zi_gt c2; have := Int32.le_iff_toInt_le.mp q.2; omega⟩⟩
    · refine pa_iconst (v := 1) (pc' := 11) dX12_in_10 (by decide) rfl ?_
      refine pa_goto (pc' := 15) dX12_in_11 (by decide) ?_
      exact pa_iret dX12_in_15 rfl rfl ⟨rfl, .inl ⟨rfl, Int32.le_iff_toInt_le.mpr (zi_nlt c), Int32.le_iff_toInt_le.mpr (zi_ngt c2)⟩⟩
def nuM (R0 : Nat → Nat → Int32) (y : Nat → Int32) (n : Nat) (A : pA) (nm : Nat → List Int32) (h : zH) (r : sF ⊕ (Int32 × Nat)) (v : Option zV) (h' : zH) : Prop := fr6 h h' ∧ ∃ x, v = some (.inl x) ∧ (match r with
  | .inl e => mF R0 y n e h'
  | .inr q => x = q.1 ∧ mS R0 y n A nm q.2 h')
theorem M_num {lo hi : Int32} (K : mE R0 y n A nm r h) : zPa d mX12_number [.inr (.inr (some 196)), .inl lo, .inl hi] h (nuM R0 y n A nm h (bindS r (sNum y n lo hi))) := by
  intro N
  have hx := K.mx
  have s196 := hx.sh sh_196
  show zPn N none d mX12_number (0, [(0, .inr (.inr (some 196))), (1, .inl lo), (2, .inl hi)], [], h) _
  cases r with
  | inl e =>
    have hf := (show mF R0 y n e h from K).2.1
    refine pa_aload_n (pc' := 1) dX12_number_0 rfl rfl ?_
    refine pa_getI (pc' := 4) (n := 39) dX12_number_1 fl_12_100 s196 (by decide) hf rfl ?_
    refine pa_if_f (pc' := 7) dX12_number_4 (by decide) (by decide) rfl ?_
    refine pa_iload_n (pc' := 8) dX12_number_7 rfl rfl ?_
    exact pa_iret dX12_number_8 rfl rfl ⟨fr6.rf, lo, rfl, K⟩
  | inr p =>
    have K : mS R0 y n A nm p h := K
    obtain ⟨⟨-, hp, k4, k5, k6, k8, k7⟩, hf, K3, K4⟩ := K
    have K : mS R0 y n A nm p h := ⟨⟨hx, hp, k4, k5, k6, k8, k7⟩, hf, K3, K4⟩
    show zPn N none d mX12_number _ (nuM R0 y n A nm h (sNum y n lo hi p))
    have bad : ∀ (g : zH) (e : sF), fr6 h g → mF R0 y n e g → sNum y n lo hi p = .inl e → zPn N none d mX12_number (50, [(0, .inr (.inr (some 196))), (1, .inl lo), (2, .inl hi)], [], g) (nuM R0 y n A nm h (sNum y n lo hi p)) := by
      intro g e hfr hF he
      have s196 := hF.1.sh sh_196
      have hf := hF.2.1
      refine pa_aload_n (pc' := 51) dX12_number_50 rfl rfl ?_
      refine pa_getI (pc' := 54) (n := 39) dX12_number_51 fl_12_100 s196 (by decide) hf rfl ?_
      refine pa_if_f (pc' := 57) dX12_number_54 (by decide) (by decide) rfl ?_
      refine pa_iload_n (pc' := 58) dX12_number_57 rfl rfl ?_
      refine pa_iret dX12_number_58 rfl rfl ⟨hfr, lo, rfl, ?_⟩
      rw [he]
      exact hF
    refine pa_aload_n (pc' := 1) dX12_number_0 rfl rfl ?_
    refine pa_getI (pc' := 4) (n := 39) dX12_number_1 fl_12_100 s196 (by decide) hf rfl ?_
    refine pa_if_t (pc' := 9) dX12_number_4 (by decide) (by decide) ?_
    refine pa_aload_n (pc' := 10) dX12_number_9 rfl rfl ?_
    refine pa_getI (pc' := 13) (n := 39) dX12_number_10 fl_12_90 s196 (by decide) k6 rfl ?_
    refine pa_iconst (v := 3) (pc' := 14) dX12_number_13 (by decide) rfl ?_
    refine pa_icmp (pc' := 29) (pc2 := 17) dX12_number_14 (by decide) rfl (fun cd => ?_) (fun cd => ?_)
    · have t3 : tT y n p = 3 := by simpa [zcond] using cd
      have k7 := k7 t3
      refine pa_aload_n (pc' := 30) dX12_number_29 rfl rfl ?_
      refine pa_getI (pc' := 33) (n := 39) dX12_number_30 fl_12_87 s196 (by decide) k7 rfl ?_
      refine pa_iload_n (pc' := 34) dX12_number_33 rfl rfl ?_
      refine pa_iload_n (pc' := 35) dX12_number_34 rfl rfl ?_
      refine pa_calls (pc' := 38) (kd := 1) (vs := [.inl (tNum y n p), .inl lo, .inl hi]) (rest := []) dX12_number_35 ml_12_149 (.inl rfl) rfl rfl rfl (fun d' _ => in_ex2) (fun r g hq => ?_)
      obtain ⟨eg, hq⟩ := hq
      subst eg
      rcases hq with ⟨er, c1⟩ | ⟨er, c1⟩ <;> subst er
      · refine pa_if_t (x := 1) (pc' := 50) dX12_number_38 (by decide) (by decide) ?_
        refine pa_aload_n (pc' := 51) dX12_number_50 rfl rfl ?_
        refine pa_getI (pc' := 54) (n := 39) dX12_number_51 fl_12_100 s196 (by decide) hf rfl ?_
        refine pa_if_t (pc' := 59) dX12_number_54 (by decide) (by decide) ?_
        refine pa_aload_n (pc' := 60) dX12_number_59 rfl rfl ?_
        refine pa_getI (pc' := 63) (n := 39) dX12_number_60 fl_12_87 s196 (by decide) k7 rfl ?_
        refine pa_istore_n (pc' := 64) dX12_number_63 (by decide) rfl rfl ?_
        refine pa_aload_n (pc' := 65) dX12_number_64 rfl rfl ?_
        refine pa_callv (pc' := 68) (vs := []) (rest := []) dX12_number_65 ml_12_121 (by decide) rfl rfl rfl (fun d' _ => m_next hx k5 (tE_sp hp).2.1) (fun r g2 hq => ?_)
        obtain ⟨er, hq⟩ := hq
        subst er
        refine pa_iload_n (pc' := 69) dX12_number_68 rfl rfl ?_
        refine pa_iret dX12_number_69 rfl rfl ⟨nM_fr hq, tNum y n p, rfl, ?_⟩
        unfold sNum
        rw [if_pos t3, if_pos c1]
        exact ⟨rfl, K.nx hq (tE_sp hp).2.1⟩
      · refine pa_if_f (x := 0) (pc' := 41) dX12_number_38 (by decide) (by decide) rfl ?_
        refine pa_aload_n (pc' := 42) dX12_number_41 rfl rfl ?_
        refine pa_iconst (v := 4) (pc' := 43) dX12_number_42 (by decide) rfl ?_
        refine pa_aload_n (pc' := 44) dX12_number_43 rfl rfl ?_
        refine pa_getI (pc' := 47) (n := 39) dX12_number_44 fl_12_81 s196 (by decide) k4 rfl ?_
        refine pa_callv (pc' := 50) (vs := [.inl 4, .inl (nI (tS y n p))]) (rest := []) dX12_number_47 ml_12_127 (by decide) rfl rfl rfl (fun d' _ => m_wrong hx hf rfl) (fun r g2 hq => ?_)
        obtain ⟨er, hq⟩ := hq
        subst er; subst hq
        exact bad _ (4, tS y n p) wrg_fr (wrg_mF hx) (by unfold sNum; rw [if_pos t3, if_neg c1])
    · have t3 : ¬ tT y n p = 3 := by simpa [zcond] using cd
      refine pa_aload_n (pc' := 18) dX12_number_17 rfl rfl ?_
      refine pa_iconst (v := 1) (pc' := 19) dX12_number_18 (by decide) rfl ?_
      refine pa_aload_n (pc' := 20) dX12_number_19 rfl rfl ?_
      refine pa_getI (pc' := 23) (n := 39) dX12_number_20 fl_12_81 s196 (by decide) k4 rfl ?_
      refine pa_callv (pc' := 26) (vs := [.inl 1, .inl (nI (tS y n p))]) (rest := []) dX12_number_23 ml_12_127 (by decide) rfl rfl rfl (fun d' _ => m_wrong hx hf rfl) (fun r g2 hq => ?_)
      obtain ⟨er, hq⟩ := hq
      subst er; subst hq
      refine pa_goto (pc' := 50) dX12_number_26 (by decide) ?_
      exact bad _ (1, tS y n p) wrg_fr (wrg_mF hx) (by unfold sNum; rw [if_neg t3])
theorem M_mustE {a : Nat} {bs : List Int32} (K : mE R0 y n A nm r h) (hz : zsc a = some bs) : zPa d mX12_must [.inr (.inr (some 196)), .inr (.inr (some a))] h (fun v h' => v = none ∧ fr6 h h' ∧ mE R0 y n A nm (bindS r (sWord y n bs)) h') := by
  cases r with
  | inl e => exact (M_mustF K.1 K.2.1).mono (fun v h' hq => ⟨hq.1, by rw [hq.2]; exact fr6.rf, by rw [hq.2]; exact K⟩)
  | inr p =>
    refine (M_must K hz).mono (fun v h' hq => ⟨hq.1, fun a j h1 h2 => hq.2.1 a j h1 h2, ?_⟩)
    show mE R0 y n A nm (sWord y n bs p) h'
    have h3 := hq.2.2
    unfold mE
    split
    · next e1 => rw [e1] at h3; exact h3
    · next e1 => rw [e1] at h3; exact h3
theorem M_after {a : Nat} {bs : List Int32} {lo hi : Int32} (K : mE R0 y n A nm r h) (hz : zsc a = some bs) : zPa d mX12_after [.inr (.inr (some 196)), .inr (.inr (some a)), .inl lo, .inl hi] h (nuM R0 y n A nm h (bindS r (sWN y n bs lo hi))) := by
  intro N
  show zPn N none d mX12_after (0, [(0, .inr (.inr (some 196))), (1, .inr (.inr (some a))), (2, .inl lo), (3, .inl hi)], [], h) _
  refine pa_aload_n (pc' := 1) dX12_after_0 rfl rfl ?_
  refine pa_aload_n (pc' := 2) dX12_after_1 rfl rfl ?_
  refine pa_callv (pc' := 5) (vs := [.inr (.inr (some a))]) (rest := []) dX12_after_2 ml_12_157 (by decide) rfl rfl rfl (fun d' _ => M_mustE K hz) (fun v g hq => ?_)
  obtain ⟨er, hfr, K1⟩ := hq
  subst er
  show zPn N none d mX12_after (5, [(0, .inr (.inr (some 196))), (1, .inr (.inr (some a))), (2, .inl lo), (3, .inl hi)], [], g) _
  refine pa_aload_n (pc' := 6) dX12_after_5 rfl rfl ?_
  refine pa_iload_n (pc' := 7) dX12_after_6 rfl rfl ?_
  refine pa_iload_n (pc' := 8) dX12_after_7 rfl rfl ?_
  refine pa_callv (pc' := 11) (vs := [.inl lo, .inl hi]) (rest := []) dX12_after_8 ml_12_164 (by decide) rfl rfl rfl (fun d' _ => M_num K1) (fun v g2 hq => ?_)
  obtain ⟨hfr2, x, er, hq⟩ := hq
  subst er
  refine pa_iret (x := x) dX12_after_11 rfl rfl ⟨hfr.tr hfr2, x, rfl, ?_⟩
  have eb : bindS (bindS r (sWord y n bs)) (sNum y n lo hi) = bindS r (sWN y n bs lo hi) := by
    cases r with
    | inl e => rfl
    | inr p =>
      show bindS (sWord y n bs p) (sNum y n lo hi) = sWN y n bs lo hi p
      unfold sWN bindS
      cases sWord y n bs p <;> rfl
  rw [eb] at hq
  exact hq
/-! names -/
theorem M_mustName (K : mS R0 y n A nm p h) : zPa d mX12_mustName [.inr (.inr (some 196))] h (fun v h' => v = none ∧ ((isNb y n p = true ∧ h' = h) ∨ (isNb y n p = false ∧ h' = wrg h 1 (tS y n p)))) := by
  intro N
  have hx := K.1.1
  have s196 := hx.sh sh_196
  have k4 := K.1.2.2.1
  have k6 := K.1.2.2.2.2.1
  have hf := K.2.1
  show zPn N none d mX12_mustName (0, [(0, .inr (.inr (some 196)))], [], h) _
  have bad : ¬ isN y n p → zPn N none d mX12_mustName (62, [(0, .inr (.inr (some 196)))], [], h) (fun v h' => v = none ∧ ((isNb y n p = true ∧ h' = h) ∨ (isNb y n p = false ∧ h' = wrg h 1 (tS y n p)))) := by
    intro z
    refine pa_aload_n (pc' := 63) dX12_mustName_62 rfl rfl ?_
    refine pa_iconst (v := 1) (pc' := 64) dX12_mustName_63 (by decide) rfl ?_
    refine pa_aload_n (pc' := 65) dX12_mustName_64 rfl rfl ?_
    refine pa_getI (pc' := 68) (n := 39) dX12_mustName_65 fl_12_81 s196 (by decide) k4 rfl ?_
    refine pa_callv (pc' := 71) (vs := [.inl 1, .inl (nI (tS y n p))]) (rest := []) dX12_mustName_68 ml_12_127 (by decide) rfl rfl rfl (fun d' _ => m_wrong hx hf rfl) (fun r g2 hq => ?_)
    obtain ⟨er, hq⟩ := hq
    subst er; subst hq
    refine pa_vret dX12_mustName_71 rfl ⟨rfl, .inr ⟨?_, rfl⟩⟩
    cases e : isNb y n p with
    | false => rfl
    | true => exact absurd (isNb_n.mp e) z
  refine pa_aload_n (pc' := 1) dX12_mustName_0 rfl rfl ?_
  refine pa_getI (pc' := 4) (n := 39) dX12_mustName_1 fl_12_90 s196 (by decide) k6 rfl ?_
  refine pa_iconst (v := 2) (pc' := 5) dX12_mustName_4 (by decide) rfl ?_
  refine pa_icmp (pc' := 62) (pc2 := 8) dX12_mustName_5 (by decide) rfl (fun cd => bad (fun z => by
    have cd : ¬ tT y n p = 2 := by simpa [zcond] using cd
    exact cd z.1)) (fun cd => ?_)
  have t2 : tT y n p = 2 := by simpa [zcond] using cd
  have kwb : ∀ {w : List Int32} {x : Int32}, wIs y n p w → (x = 0 ∧ w = wPost ∨ x = 1 ∧ w = wIsland ∨ x = 2 ∧ w = wWay ∨ x = 3 ∧ w = wWhale ∨ x = 4 ∧ w = wBox ∨ x = 5 ∧ w = wSpout) → ¬ isN y n p := by
    intro w x hw hx z
    have hz := z.2
    have : srt y n p x := by
      rcases hx with ⟨e1, e2⟩ | ⟨e1, e2⟩ | ⟨e1, e2⟩ | ⟨e1, e2⟩ | ⟨e1, e2⟩ | ⟨e1, e2⟩
      · exact .inl ⟨e1, e2 ▸ hw⟩
      · exact .inr (.inl ⟨e1, e2 ▸ hw⟩)
      · exact .inr (.inr (.inl ⟨e1, e2 ▸ hw⟩))
      · exact .inr (.inr (.inr (.inl ⟨e1, e2 ▸ hw⟩)))
      · exact .inr (.inr (.inr (.inr (.inl ⟨e1, e2 ▸ hw⟩))))
      · exact .inr (.inr (.inr (.inr (.inr (.inl ⟨e1, e2 ▸ hw⟩)))))
    have := (srt_m2 this).mpr hz
    rcases hx with ⟨e1, _⟩ | ⟨e1, _⟩ | ⟨e1, _⟩ | ⟨e1, _⟩ | ⟨e1, _⟩ | ⟨e1, _⟩ <;> rw [e1] at this <;> exact absurd this (by decide)
  refine pa_aload_n (pc' := 9) dX12_mustName_8 rfl rfl ?_
  refine pa_ldc (pc' := 11) dX12_mustName_9 cl_12_131 rfl rfl ?_
  refine pa_callv (pc' := 14) (vs := [.inr (.inr (some 1000034))]) (rest := []) dX12_mustName_11 ml_12_117 (by decide) rfl rfl rfl (fun d' _ => m_isW K.1 hf (bs := wPost) rfl) (fun r g hq => ?_)
  obtain ⟨eg, hq⟩ := hq
  subst eg
  rcases hq with ⟨er, w1⟩ | ⟨er, w1⟩ <;> subst er
  · exact pa_if_t (x := 1) (pc' := 62) dX12_mustName_14 (by decide) (by decide) (bad (kwb w1 (x := 0) (.inl ⟨rfl, rfl⟩)))
  refine pa_if_f (x := 0) (pc' := 17) dX12_mustName_14 (by decide) (by decide) rfl ?_
  refine pa_aload_n (pc' := 18) dX12_mustName_17 rfl rfl ?_
  refine pa_ldc (pc' := 20) dX12_mustName_18 cl_12_133 rfl rfl ?_
  refine pa_callv (pc' := 23) (vs := [.inr (.inr (some 1000039))]) (rest := []) dX12_mustName_20 ml_12_117 (by decide) rfl rfl rfl (fun d' _ => m_isW K.1 hf (bs := wIsland) rfl) (fun r g hq => ?_)
  obtain ⟨eg, hq⟩ := hq
  subst eg
  rcases hq with ⟨er, w2⟩ | ⟨er, w2⟩ <;> subst er
  · exact pa_if_t (x := 1) (pc' := 62) dX12_mustName_23 (by decide) (by decide) (bad (kwb w2 (x := 1) (.inr (.inl ⟨rfl, rfl⟩))))
  refine pa_if_f (x := 0) (pc' := 26) dX12_mustName_23 (by decide) (by decide) rfl ?_
  refine pa_aload_n (pc' := 27) dX12_mustName_26 rfl rfl ?_
  refine pa_ldc (pc' := 29) dX12_mustName_27 cl_12_135 rfl rfl ?_
  refine pa_callv (pc' := 32) (vs := [.inr (.inr (some 1000040))]) (rest := []) dX12_mustName_29 ml_12_117 (by decide) rfl rfl rfl (fun d' _ => m_isW K.1 hf (bs := wWay) rfl) (fun r g hq => ?_)
  obtain ⟨eg, hq⟩ := hq
  subst eg
  rcases hq with ⟨er, w3⟩ | ⟨er, w3⟩ <;> subst er
  · exact pa_if_t (x := 1) (pc' := 62) dX12_mustName_32 (by decide) (by decide) (bad (kwb w3 (x := 2) (.inr (.inr (.inl ⟨rfl, rfl⟩)))))
  refine pa_if_f (x := 0) (pc' := 35) dX12_mustName_32 (by decide) (by decide) rfl ?_
  refine pa_aload_n (pc' := 36) dX12_mustName_35 rfl rfl ?_
  refine pa_ldc (pc' := 38) dX12_mustName_36 cl_12_137 rfl rfl ?_
  refine pa_callv (pc' := 41) (vs := [.inr (.inr (some 1000041))]) (rest := []) dX12_mustName_38 ml_12_117 (by decide) rfl rfl rfl (fun d' _ => m_isW K.1 hf (bs := wWhale) rfl) (fun r g hq => ?_)
  obtain ⟨eg, hq⟩ := hq
  subst eg
  rcases hq with ⟨er, w4⟩ | ⟨er, w4⟩ <;> subst er
  · exact pa_if_t (x := 1) (pc' := 62) dX12_mustName_41 (by decide) (by decide) (bad (kwb w4 (x := 3) (.inr (.inr (.inr (.inl ⟨rfl, rfl⟩))))))
  refine pa_if_f (x := 0) (pc' := 44) dX12_mustName_41 (by decide) (by decide) rfl ?_
  refine pa_aload_n (pc' := 45) dX12_mustName_44 rfl rfl ?_
  refine pa_ldc (pc' := 47) dX12_mustName_45 cl_12_139 rfl rfl ?_
  refine pa_callv (pc' := 50) (vs := [.inr (.inr (some 1000042))]) (rest := []) dX12_mustName_47 ml_12_117 (by decide) rfl rfl rfl (fun d' _ => m_isW K.1 hf (bs := wBox) rfl) (fun r g hq => ?_)
  obtain ⟨eg, hq⟩ := hq
  subst eg
  rcases hq with ⟨er, w5⟩ | ⟨er, w5⟩ <;> subst er
  · exact pa_if_t (x := 1) (pc' := 62) dX12_mustName_50 (by decide) (by decide) (bad (kwb w5 (x := 4) (.inr (.inr (.inr (.inr (.inl ⟨rfl, rfl⟩)))))))
  refine pa_if_f (x := 0) (pc' := 53) dX12_mustName_50 (by decide) (by decide) rfl ?_
  refine pa_aload_n (pc' := 54) dX12_mustName_53 rfl rfl ?_
  refine pa_ldc (pc' := 56) dX12_mustName_54 cl_12_141 rfl rfl ?_
  refine pa_callv (pc' := 59) (vs := [.inr (.inr (some 1000043))]) (rest := []) dX12_mustName_56 ml_12_117 (by decide) rfl rfl rfl (fun d' _ => m_isW K.1 hf (bs := wSpout) rfl) (fun r g hq => ?_)
  obtain ⟨eg, hq⟩ := hq
  subst eg
  rcases hq with ⟨er, w6⟩ | ⟨er, w6⟩ <;> subst er
  · exact pa_if_f (x := 1) (pc' := 62) dX12_mustName_59 (by decide) (by decide) rfl (bad (kwb w6 (x := 5) (.inr (.inr (.inr (.inr (.inr ⟨rfl, rfl⟩)))))))
  refine pa_if_t (x := 0) (pc' := 71) dX12_mustName_59 (by decide) (by decide) ?_
  exact pa_vret dX12_mustName_71 rfl ⟨rfl, .inl ⟨isNb_n.mpr ⟨t2, .inr (.inr (.inr (.inr (.inr (.inr ⟨rfl, w1, w2, w3, w4, w5, w6⟩)))))⟩, rfl⟩⟩
def fdV (nm : Nat → List Int32) (w : List Int32) : Int32 := match nFind nm w with
  | some i => nI i
  | none => -1
theorem M_find (K : mS R0 y n A nm p h) (hn : nmI nm) (t2 : tT y n p = 2) : zPa d mX12_find [.inr (.inr (some 196))] h (fun v h' => h' = h ∧ v = some (.inl (fdV nm (tW y n p)))) := by
  intro N
  obtain ⟨⟨hx, hp, k4, k5, k6, k8, k7⟩, hf, K3, K4⟩ := K
  obtain ⟨k8, kl⟩ := k8 t2
  obtain ⟨w1, w2, w3⟩ := tW_ok hp t2
  have el : (tW y n p).length = tE y n p - tS y n p := seg_len
  have kw : ∀ j, j < (tW y n p).length → h.2.1 198 j = (tW y n p).getD j 0 := fun j hj => by
    rw [kl j (by omega)]
    unfold tW
    rw [seg_get (by omega)]
  rw [← el] at k8
  have s196 := hx.sh sh_196
  have s198 := hx.sh sh_198
  have s200 := hx.sh sh_200
  have r196_12 := hx.2.1 _ _ _ rf_196_12
  have r196_16 := hx.2.1 _ _ _ rf_196_16
  generalize tW y n p = w at *
  show zPn N none d mX12_find (0, [(0, .inr (.inr (some 196)))], [], h) _
  have inner : ∀ (i : Nat), i < 20 → ∀ (N k : Nat) (b : Int32) (ls : zL) (Q : Option zV → zH → Prop), (b = 0 ∨ b = 1) → (b = 1 → (nm i).length = w.length ∧ ∀ j, j < k → (nm i).getD j 0 = w.getD j 0) → (b = 0 → nm i ≠ w) → k ≤ w.length → zget ls 0 = some (.inr (.inr (some 196))) → zget ls 1 = some (.inl (nI i)) → zget ls 2 = some (.inl b) → zget ls 3 = some (.inl (nI k)) → (∀ N' ls' b', N' ≤ N → ((b' = 1 ∧ nm i = w) ∨ (b' = 0 ∧ nm i ≠ w)) → zget ls' 0 = some (.inr (.inr (some 196))) → zget ls' 1 = some (.inl (nI i)) → zget ls' 2 = some (.inl b') → zPn N' none d mX12_find (94, ls', [], h) Q) → zPn N none d mX12_find (46, ls, [], h) Q := by
    intro i hi N
    induction N with
    | zero => intro k b ls Q _ _ _ _ _ _ _ _ _; exact zPn.zero
    | succ N ih =>
      intro k b ls Q hb hb1 hb0 hk hl0 hl1 hl2 hl3 Kc
      obtain ⟨f1, f2⟩ := K4 i hi
      refine pa_iload_n (pc' := 47) dX12_find_46 hl3 rfl ?_
      refine pa_aload_n (pc' := 48) dX12_find_47 hl0 rfl ?_
      refine pa_getI (pc' := 51) (n := 39) dX12_find_48 fl_12_84 s196 (by decide) k8 rfl ?_
      refine pa_icmp (pc' := 94) (pc2 := 54) dX12_find_51 (by decide) rfl (fun cd => ?_) (fun cd => ?_)
      · have cd := zi_nlt (zk_ge_lt cd)
        rw [nI_toInt (by omega), nI_toInt (by omega)] at cd
        refine Kc (N + 1) ls b (Nat.le_refl _) ?_ hl0 hl1 hl2
        rcases hb with rfl | rfl
        · exact .inr ⟨rfl, hb0 rfl⟩
        · obtain ⟨c1, c2⟩ := hb1 rfl
          exact .inl ⟨rfl, list_get c1 (fun j hj => c2 j (by omega))⟩
      · have cd := zi_lt (zk_ge_lt cd)
        rw [nI_toInt (by omega), nI_toInt (by omega)] at cd
        refine pa_iload_n (pc' := 55) dX12_find_54 hl2 rfl ?_
        rcases hb with rfl | rfl
        · refine pa_if_t (pc' := 94) dX12_find_55 (by decide) (by decide) ?_
          exact Kc (N + 1) ls 0 (Nat.le_refl _) (.inr ⟨rfl, hb0 rfl⟩) hl0 hl1 hl2
        · refine pa_if_f (pc' := 58) dX12_find_55 (by decide) (by decide) rfl ?_
          obtain ⟨c1, c2⟩ := hb1 rfl
          refine pa_aload_n (pc' := 59) dX12_find_58 hl0 rfl ?_
          refine pa_getR (pc' := 62) (n := 39) (r := 200) dX12_find_59 fl_12_23 s196 (by decide) r196_16 rfl ?_
          refine pa_sipush (v := nI 203) (pc' := 65) dX12_find_62 (by decide) rfl ?_
          refine pa_bipush (v := nI 8) (pc' := 67) dX12_find_65 (by decide) rfl ?_
          refine pa_iload_n (pc' := 68) dX12_find_67 hl1 rfl ?_
          refine pa_imul (pc' := 69) (v := nI (8 * i)) dX12_find_68 (nI_mul _ _) rfl ?_
          refine pa_iadd (pc' := 70) (v := nI (203 + 8 * i)) dX12_find_69 (nI_add _ _) rfl ?_
          refine pa_iload_n (pc' := 71) dX12_find_70 hl3 rfl ?_
          refine pa_iadd (pc' := 72) (v := nI (203 + 8 * i + k)) dX12_find_71 (nI_add _ _) rfl ?_
          refine pa_iald (pc' := 73) (n := 363) dX12_find_72 s200 rfl (fun _ => ?_)
          rw [nI_clamp (by omega), f2 k (by omega)]
          refine pa_aload_n (pc' := 74) dX12_find_73 hl0 rfl ?_
          refine pa_getR (pc' := 77) (n := 39) (r := 198) dX12_find_74 fl_12_17 s196 (by decide) r196_12 rfl ?_
          refine pa_iload_n (pc' := 78) dX12_find_77 hl3 rfl ?_
          refine pa_iald (pc' := 79) (n := 8) dX12_find_78 s198 rfl (fun _ => ?_)
          rw [nI_clamp (by omega), kw k (by omega)]
          have nxt : ∀ (b' : Int32), (b' = 0 ∨ b' = 1) → (b' = 1 → (nm i).length = w.length ∧ ∀ j, j < k + 1 → (nm i).getD j 0 = w.getD j 0) → (b' = 0 → nm i ≠ w) → zPn (N + 1) none d mX12_find (87, ls, [.inl b'], h) Q := by
            intro b' d1 d2 d3
            refine pa_istore_n (pc' := 88) dX12_find_87 (by decide) rfl rfl ?_
            refine pa_iinc (pc' := 91) (v := nI (k + 1)) dX12_find_88 (zget_s1 hl3 (by decide) (by simp [zcat])) (by decide) (nI_add k 1) rfl rfl ?_
            refine pa_gotos (pc' := 46) dX12_find_91 (by decide) ?_
            exact ih (k + 1) b' _ Q d1 d2 d3 (by omega) (zget_s1 (zget_s1 hl0 (by decide) (by simp [zcat])) (by decide) (by simp [zcat])) (zget_s1 (zget_s1 hl1 (by decide) (by simp [zcat])) (by decide) (by simp [zcat])) (zget_s1 zget_s1e (by decide) (by simp [zcat])) zget_s1e (fun N' ls' b'' hN => Kc N' ls' b'' (by omega))
          refine pa_icmp (pc' := 86) (pc2 := 82) dX12_find_79 (by decide) rfl (fun cd4 => ?_) (fun cd4 => ?_)
          · have cd4 : ¬ (nm i).getD k 0 = w.getD k 0 := by simpa [zcond] using cd4
            refine pa_iconst (v := 0) (pc' := 87) dX12_find_86 (by decide) rfl ?_
            exact nxt 0 (.inl rfl) (fun z => absurd z (by decide)) (fun _ z => cd4 (by rw [z]))
          · have cd4 : (nm i).getD k 0 = w.getD k 0 := by simpa [zcond] using cd4
            refine pa_iconst (v := 1) (pc' := 83) dX12_find_82 (by decide) rfl ?_
            refine pa_goto (pc' := 87) dX12_find_83 (by decide) ?_
            refine nxt 1 (.inr rfl) (fun _ => ⟨c1, fun j hj => ?_⟩) (fun z => absurd z (by decide))
            rcases Nat.lt_or_ge j k with z | z
            · exact c2 j z
            · have : j = k := by omega
              subst this
              exact cd4
  have outer : ∀ (N i : Nat) (ls : zL), i ≤ 20 → (∀ j, j < i → nm j ≠ w) → zget ls 0 = some (.inr (.inr (some 196))) → zget ls 1 = some (.inl (nI i)) → zPn N none d mX12_find (2, ls, [], h) (fun v h' => h' = h ∧ v = some (.inl (fdV nm w))) := by
    intro N
    induction N with
    | zero => intro i ls _ _ _ _; exact zPn.zero
    | succ N ih =>
      intro i ls hi hno hl0 hl1
      refine pa_iload_n (pc' := 3) dX12_find_2 hl1 rfl ?_
      refine pa_bipush (v := nI 20) (pc' := 5) dX12_find_3 (by decide) rfl ?_
      refine pa_icmp (pc' := 106) (pc2 := 8) dX12_find_5 (by decide) rfl (fun cd => ?_) (fun cd => ?_)
      · have cd := zi_nlt (zk_ge_lt cd)
        rw [nI_toInt (by omega), nI_toInt (by omega)] at cd
        refine pa_iconst (v := (-1)) (pc' := 107) dX12_find_106 (by decide) rfl ?_
        refine pa_iret dX12_find_107 rfl rfl ⟨rfl, ?_⟩
        unfold fdV
        rw [nFind_none (fun j hj => hno j (by omega))]
      · have cd := zi_lt (zk_ge_lt cd)
        rw [nI_toInt (by omega), nI_toInt (by omega)] at cd
        have hi2 : i < 20 := by omega
        obtain ⟨f1, f2⟩ := K4 i hi2
        have hlen : (nm i).length ≤ 8 := by
          by_cases z : nm i = []
          · rw [z]; decide
          · exact (hn.1 i hi2 z).2
        have go : ∀ (b : Int32), (b = 0 ∨ b = 1) → (b = 1 → (nm i).length = w.length) → (b = 0 → nm i ≠ w) → zPn (N + 1) none d mX12_find (43, ls, [.inl b], h) (fun v h' => h' = h ∧ v = some (.inl (fdV nm w))) := by
          intro b d1 d2 d3
          refine pa_istore_n (pc' := 44) dX12_find_43 (by decide) rfl rfl ?_
          refine pa_iconst (v := nI 0) (pc' := 45) dX12_find_44 (by decide) rfl ?_
          refine pa_istore_n (pc' := 46) dX12_find_45 (by decide) rfl rfl ?_
          refine inner i hi2 (N + 1) 0 b _ _ d1 (fun z => ⟨d2 z, fun j hj => absurd hj (Nat.not_lt_zero j)⟩) d3 (Nat.zero_le _) (zget_s1 (zget_s1 hl0 (by decide) (by simp [zcat])) (by decide) (by simp [zcat])) (zget_s1 (zget_s1 hl1 (by decide) (by simp [zcat])) (by decide) (by simp [zcat])) (zget_s1 zget_s1e (by decide) (by simp [zcat])) zget_s1e (fun N' ls' b' hN hb z0 z1 z2 => ?_)
          refine pa_iload_n (pc' := 95) dX12_find_94 z2 rfl ?_
          rcases hb with ⟨eb, ew⟩ | ⟨eb, ew⟩ <;> subst eb
          · refine pa_if_f (pc' := 98) dX12_find_95 (by decide) (by decide) rfl ?_
            refine pa_iload_n (pc' := 99) dX12_find_98 z1 rfl ?_
            refine pa_iret dX12_find_99 rfl rfl ⟨rfl, ?_⟩
            unfold fdV
            rw [nFind_some hn hi2 w3 ew]
          · refine pa_if_t (pc' := 100) dX12_find_95 (by decide) (by decide) ?_
            cases N' with
            | zero => exact zPn.zero
            | succ N' =>
              refine pa_iinc (pc' := 103) (v := nI (i + 1)) dX12_find_100 z1 (by decide) (nI_add i 1) rfl rfl ?_
              refine pa_gotos (pc' := 2) dX12_find_103 (by decide) ?_
              refine (ih (i + 1) _ (by omega) (fun j hj => ?_) (zget_s1 z0 (by decide) (by simp [zcat])) zget_s1e).dn (by omega)
              rcases Nat.lt_or_ge j i with q | q
              · exact hno j q
              · have : j = i := by omega
                subst this
                exact ew
        refine pa_aload_n (pc' := 9) dX12_find_8 hl0 rfl ?_
        refine pa_getR (pc' := 12) (n := 39) (r := 200) dX12_find_9 fl_12_23 s196 (by decide) r196_16 rfl ?_
        refine pa_sipush (v := nI 183) (pc' := 15) dX12_find_12 (by decide) rfl ?_
        refine pa_iload_n (pc' := 16) dX12_find_15 hl1 rfl ?_
        refine pa_iadd (pc' := 17) (v := nI (183 + i)) dX12_find_16 (nI_add _ _) rfl ?_
        refine pa_iald (pc' := 18) (n := 363) dX12_find_17 s200 rfl (fun _ => ?_)
        rw [nI_clamp (by omega), f1]
        refine pa_if (pc' := 42) (pc2 := 21) dX12_find_18 (by decide) rfl (fun cd2 => ?_) (fun cd2 => ?_)
        · have cd2 := zi_ngt (zk_le_gt cd2)
          rw [nI_toInt (by omega), show (0 : Int32).toInt = 0 by decide] at cd2
          refine pa_iconst (v := 0) (pc' := 43) dX12_find_42 (by decide) rfl ?_
          refine go 0 (.inl rfl) (fun z => absurd z (by decide)) (fun _ z => ?_)
          rw [z] at cd2
          exact w3 (List.length_eq_zero_iff.mp (by omega))
        · refine pa_aload_n (pc' := 22) dX12_find_21 hl0 rfl ?_
          refine pa_getR (pc' := 25) (n := 39) (r := 200) dX12_find_22 fl_12_23 s196 (by decide) r196_16 rfl ?_
          refine pa_sipush (v := nI 183) (pc' := 28) dX12_find_25 (by decide) rfl ?_
          refine pa_iload_n (pc' := 29) dX12_find_28 hl1 rfl ?_
          refine pa_iadd (pc' := 30) (v := nI (183 + i)) dX12_find_29 (nI_add _ _) rfl ?_
          refine pa_iald (pc' := 31) (n := 363) dX12_find_30 s200 rfl (fun _ => ?_)
          rw [nI_clamp (by omega), f1]
          refine pa_aload_n (pc' := 32) dX12_find_31 hl0 rfl ?_
          refine pa_getI (pc' := 35) (n := 39) dX12_find_32 fl_12_84 s196 (by decide) k8 rfl ?_
          refine pa_icmp (pc' := 42) (pc2 := 38) dX12_find_35 (by decide) rfl (fun cd3 => ?_) (fun cd3 => ?_)
          · have cd3 : ¬ nI (nm i).length = nI w.length := by simpa [zcond] using cd3
            refine pa_iconst (v := 0) (pc' := 43) dX12_find_42 (by decide) rfl ?_
            exact go 0 (.inl rfl) (fun z => absurd z (by decide)) (fun _ z => cd3 (by rw [z]))
          · have cd3 : nI (nm i).length = nI w.length := by simpa [zcond] using cd3
            rw [nI_ne (by omega) (by omega)] at cd3
            refine pa_iconst (v := 1) (pc' := 39) dX12_find_38 (by decide) rfl ?_
            refine pa_goto (pc' := 43) dX12_find_39 (by decide) ?_
            exact go 1 (.inr rfl) (fun _ => cd3) (fun z => absurd z (by decide))
  refine pa_iconst (v := nI 0) (pc' := 1) dX12_find_0 (by decide) rfl ?_
  refine pa_istore_n (pc' := 2) dX12_find_1 (by decide) rfl rfl ?_
  exact outer N 0 _ (by decide) (fun j hj => absurd hj (Nat.not_lt_zero j)) rfl rfl
end MDW
