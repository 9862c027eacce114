/-! the class: who brings a box, when -/
theorem nI_max {x y : Nat} (hx : x ≤ 2147483647) (hy : y ≤ 2147483647) : (if nI x < nI y then nI y else nI x) = nI (max x y) := by
  by_cases z : x < y
  · rw [if_pos (lt_i.mpr (by rw [nI_toInt (by omega), nI_toInt (by omega)]; omega)), Nat.max_eq_right (by omega)]
  · rw [if_neg (fun q => by have := lt_i.mp q; rw [nI_toInt (by omega), nI_toInt (by omega)] at this; omega), Nat.max_eq_left (by omega)]
section PMX
variable {N : Nat} {scr : Option (Nat × (Nat → Int32))} {d : Nat} {m : zM} {pc pc' : Nat} {ls : zL} {st : List zV} {h : zH} {Q : Option zV → zH → Prop}
theorem pa_max {k na : Nat} {cm : zM} {x y v : Int32} (hd : decode m.1 pc = .ok (.invokestatic k, 3)) (hz : zmth m.2.1 k = some (11, na, cm)) (hv : (if x < y then y else x) = v) (hp : pc + 3 = pc') (kk : zPn N scr d m (pc', ls, .inl v :: st, h) Q) : zPn N scr d m (pc, ls, .inl y :: .inl x :: st, h) Q := by
  subst hp; subst hv
  refine pa_may (C := True) hd (Or.inr rfl) (fun call x' hq => ?_) (fun _ => kk)
  simp only [zexec, hz] at hq
  rw [if_neg (by decide), if_neg (by decide), if_neg (by decide)] at hq
  unfold zprim at hq
  split at hq
  · rw [if_neg (by decide), if_pos rfl] at hq
    simp only at hq
    split at hq
    · cases hq
      exact ⟨trivial, rfl⟩
    · cases hq
  · cases hq
theorem pa_icc {j : Int32} (hd : decode m.1 pc = .ok (.iaload, 1)) (hs : zsh h 1000001 = none) (hp : pc + 1 = pc') (kk : zPn N scr d m (pc', ls, .inl (zcc j.toNatClampNeg) :: st, h) Q) : zPn N scr d m (pc, ls, .inl j :: .inr (.inr (some 1000001)) :: st, h) Q := by
  subst hp
  refine pa_may (C := True) hd (Or.inr rfl) (fun call x hq => ?_) (fun _ => kk)
  have e : zld scr h 14 1000001 j = if zin j 4 = true then some (zcc j.toNatClampNeg) else none := by
    unfold zld
    rw [hs]
    rfl
  simp only [zexec, e] at hq
  by_cases c : zin j 4 = true
  · rw [if_pos c] at hq; cases hq; exact ⟨trivial, rfl⟩
  · rw [if_neg c] at hq; cases hq
end PMX
/-- what is left alone by who brings a box -/
def gF3 (h g : zH) : Prop := g.1 = h.1 ∧ g.2.2 = h.2.2 ∧ ∀ b k, b ≠ 92 → b ≠ 94 → b ≠ 95 → g.2.1 b k = h.2.1 b k
theorem gF3.rf {h : zH} : gF3 h h := ⟨rfl, rfl, fun _ _ _ _ _ => rfl⟩
theorem gF3.tr {h g g2 : zH} (p : gF3 h g) (q : gF3 g g2) : gF3 h g2 := ⟨q.1.trans p.1, q.2.1.trans p.2.1, fun b k e1 e2 e3 => (q.2.2 b k e1 e2 e3).trans (p.2.2 b k e1 e2 e3)⟩
theorem gF.f92 {h g : zH} (f : gF 92 h g) : gF3 h g := ⟨f.1, f.2.1, fun b k e _ _ => f.2.2 b k e⟩
theorem gF.f94 {h g : zH} (f : gF 94 h g) : gF3 h g := ⟨f.1, f.2.1, fun b k _ e _ => f.2.2 b k e⟩
theorem gF.f95 {h g : zH} (f : gF 95 h g) : gF3 h g := ⟨f.1, f.2.1, fun b k _ _ e => f.2.2 b k e⟩
/-- all that it rests on, as the class holds it -/
def bgC (A : pA) (c : Nat) (s : nS) (h : zH) : Prop := (pI A ∧ tA A ∧ tB A ∧ nOK A s) ∧ seC c (cW A) (wa A) (wb A) (dyA A) (opA A) h ∧ sgC c (ntA A) (nu A 2) (nu A 1) A h ∧ nC A s 86 h ∧ (h.2.2.2.1 94 2 = some 92 ∧ h.2.2.2.1 86 2 = some 87 ∧ h.2.2.2.1 86 3 = some 88 ∧ h.2.2.2.1 86 4 = some 89 ∧ h.2.2.2.1 86 6 = some 91 ∧ h.2.2.2.1 c 12 = some (c + 4) ∧ h.2.2.2.1 c 13 = some (c + 5) ∧ (∀ w, w < 5 → h.2.2.2.1 (c + 4) w = some (c + 19 + w)) ∧ ∀ b, b < 8 → h.2.2.2.1 (c + 5) b = some (c + 24 + b)) ∧ (∀ w, w < cH A → h.2.1 (c + 19 + w) 0 = kdA A w ∧ h.2.1 (c + 19 + w) 2 = nI (nu A (109 + 4 * w))) ∧ ∀ b, b < cB A → h.2.1 (c + 24 + b) 0 = nI (nu A (127 + 4 * b)) ∧ h.2.1 (c + 24 + b) 1 = nI (nu A (128 + 4 * b)) ∧ h.2.1 (c + 24 + b) 2 = vA A (129 + 4 * b) ∧ h.2.1 (c + 24 + b) 3 = nI (nu A (130 + 4 * b))
section BRC
variable {d N c w b L y : Nat} {h g : zH} {A : pA} {s : nS}
theorem bgC.fr (B : bgC A c s h) (f : gF3 h g) : bgC A c s g := by
  obtain ⟨B1, B2, B3, ⟨n1, n2, n3, n4⟩, B5, B6, B7⟩ := B
  have hc : c = 2 ∨ c = 42 := B2.2.1
  have e : ∀ a k, (2 ≤ a ∧ a < 92) → g.2.1 a k = h.2.1 a k := fun a k ha => f.2.2 a k (by omega) (by omega) (by omega)
  have b3 := B1.1.2.2.1.2.2.1
  have b4 := B1.1.2.2.1.2.2.2.1
  have b1 := B1.1.2.2.1.1
  refine ⟨B1, ?_, ?_, ⟨(e _ _ (by omega)).trans n1, (e _ _ (by omega)).trans n2, fun w hw => ⟨(e _ _ (by omega)).trans (n3 w hw).1, (e _ _ (by omega)).trans (n3 w hw).2⟩, fun b hb => ⟨(e _ _ (by omega)).trans (n4 b hb).1, (e _ _ (by omega)).trans (n4 b hb).2.1, (e _ _ (by omega)).trans (n4 b hb).2.2⟩⟩, by rw [f.2.1]; exact B5, fun w hw => ⟨(e _ _ (by omega)).trans (B6 w hw).1, (e _ _ (by omega)).trans (B6 w hw).2⟩, fun b hb => ⟨(e _ _ (by omega)).trans (B7 b hb).1, (e _ _ (by omega)).trans (B7 b hb).2.1, (e _ _ (by omega)).trans (B7 b hb).2.2.1, (e _ _ (by omega)).trans (B7 b hb).2.2.2⟩⟩
  · obtain ⟨k1, k2, k3, k4, k5, k6⟩ := B2
    refine ⟨f.1.trans k1, k2, k3, by rw [f.2.1]; exact k4, (e _ _ (by omega)).trans k5, fun k hk => ?_⟩
    rw [e _ _ (by omega), e _ _ (by omega), e _ _ (by omega), e _ _ (by omega)]
    exact k6 k hk
  · obtain ⟨k1, k2, k3, ⟨k4, k5, k6, k7⟩, k8, k9⟩ := B3
    refine ⟨f.1.trans k1, k2, by rw [f.2.1]; exact k3, ⟨(e _ _ (by omega)).trans k4, (e _ _ (by omega)).trans k5, (e _ _ (by omega)).trans k6, (e _ _ (by omega)).trans k7⟩, k8, fun i hi => ?_⟩
    rw [e _ _ (by omega), e _ _ (by omega)]
    exact k9 i hi
theorem bgC.sh (B : bgC A c s h) : zsh h c = some (4, 15) ∧ zsh h (c + 2) = some (14, 7) ∧ zsh h (c + 4) = some (20, 5) ∧ zsh h (c + 5) = some (16, 8) ∧ (∀ w, w < 5 → zsh h (c + 19 + w) = some (10, 4)) ∧ ∀ b, b < 8 → zsh h (c + 24 + b) = some (0, 4) := by
  have h1 := B.2.1.1
  have hc : c = 2 ∨ c = 42 := B.2.1.2.1
  have ew : ∀ w, w < 5 → zsh hh_487 (2 + 19 + w) = some (10, 4) ∧ zsh hh_487 (42 + 19 + w) = some (10, 4) := by decide +kernel
  have eb : ∀ w, w < 8 → zsh hh_487 (2 + 24 + w) = some (0, 4) ∧ zsh hh_487 (42 + 24 + w) = some (0, 4) := by decide +kernel
  rcases hc with z | z <;> subst z
  · exact ⟨zsh_by h1 (by decide +kernel), zsh_by h1 (by decide +kernel), zsh_by h1 (by decide +kernel), zsh_by h1 (by decide +kernel), fun w hw => zsh_by h1 (ew w hw).1, fun w hw => zsh_by h1 (eb w hw).1⟩
  · exact ⟨zsh_by h1 (by decide +kernel), zsh_by h1 (by decide +kernel), zsh_by h1 (by decide +kernel), zsh_by h1 (by decide +kernel), fun w hw => zsh_by h1 (ew w hw).2, fun w hw => zsh_by h1 (eb w hw).2⟩
theorem N_isSent (B : bgC A c s h) (hb : b < cB A) : zPa d mX2_isSent [.inr (.inr (some 86)), .inl (nI b)] h (fun v g => v = some (.inl (match s.2.2.2.2.1 b with | some _ => 1 | none => 0)) ∧ g = h) := by
  intro N
  have b4 := B.1.1.2.2.1.2.2.2.1
  have s86 : zsh h 86 = some (2, 7) := zsh_by B.2.1.1 (by decide +kernel)
  have s89 : zsh h 89 = some (14, 8) := zsh_by B.2.1.1 (by decide +kernel)
  have r4 := B.2.2.2.2.1.2.2.2.1
  have e := (B.2.2.2.1.2.2.2 b hb).1
  have bd := ((B.1.2.2.2.2.2 b hb).2.2)
  show zPn N none d mX2_isSent (0, [(0, .inr (.inr (some 86))), (1, .inl (nI b))], [], h) _
  refine pa_aload_n (pc' := 1) dX2_isSent_0 rfl rfl ?_
  refine pa_getR (pc' := 4) (n := 7) (r := 89) dX2_isSent_1 fl_2_25 s86 (by decide) r4 rfl ?_
  refine pa_iload_n (pc' := 5) dX2_isSent_4 rfl rfl ?_
  refine pa_iald (pc' := 6) dX2_isSent_5 s89 rfl (fun _ => ?_)
  rw [nI_clamp (by omega), e]
  refine pa_bipush (v := (-2)) (pc' := 8) dX2_isSent_6 (by decide) rfl ?_
  cases o : s.2.2.2.2.1 b with
  | none =>
    refine pa_icmp_t (pc' := 15) dX2_isSent_8 (by decide) (by decide) ?_
    refine pa_iconst (v := 0) (pc' := 16) dX2_isSent_15 (by decide) rfl ?_
    refine pa_iret dX2_isSent_16 rfl rfl ?_
    exact ⟨rfl, rfl⟩
  | some p =>
    have hp := (bd p o).2
    have nb : nSn s (cB A) ≤ cB A := by
      have : ∀ n, nSn s n ≤ n := by
        intro n
        induction n with
        | zero => exact Nat.le_refl 0
        | succ n ih =>
          show nSn s n + (match s.2.2.2.2.1 n with | some _ => 1 | none => 0) ≤ n + 1
          split <;> omega
      exact this _
    have nz : ¬ (sDy (some p) = -2) := fun q => by
      have := congrArg Int32.toInt q
      rw [show sDy (some p) = nI p.1 from rfl, nI_toInt (by omega), show (-2 : Int32).toInt = -2 by decide] at this
      omega
    refine pa_icmp_f (pc' := 11) dX2_isSent_8 (decide_eq_false nz) (by decide) rfl ?_
    refine pa_iconst (v := 1) (pc' := 12) dX2_isSent_11 (by decide) rfl ?_
    refine pa_goto (pc' := 16) dX2_isSent_12 (by decide) ?_
    refine pa_iret dX2_isSent_16 rfl rfl ?_
    exact ⟨rfl, rfl⟩
theorem N_boxLength (B : bgC A c s h) (hb : b < cB A) : zPa d mX4_boxLength [.inr (.inr (some c)), .inl (nI b)] h (fun v g => v = some (.inl (nI (lB A b))) ∧ g = h) := by
  intro N
  have b1 := B.1.1.2.2.1.1
  have b4 := B.1.1.2.2.1.2.2.2.1
  obtain ⟨sc, sc2, -, sc5, -, sb⟩ := B.sh
  have sb := sb b (by omega)
  have r10 := B.2.2.1.2.2.1.2.2
  have r13 := B.2.2.2.2.1.2.2.2.2.2.2.1
  have rb := B.2.2.2.2.1.2.2.2.2.2.2.2.2 b (by omega)
  have e1 := (B.2.2.2.2.2.2 b hb).2.1
  obtain ⟨-, q2, -⟩ := num_box B.1.1 B.1.2.2.1 B.1.2.1 hb
  have el := (B.2.2.1.2.2.2.2.2 (nu A (128 + 4 * b)) q2).1
  show zPn N none d mX4_boxLength (0, [(0, .inr (.inr (some c))), (1, .inl (nI b))], [], h) _
  refine pa_aload_n (pc' := 1) dX4_boxLength_0 rfl rfl ?_
  refine pa_getR (pc' := 4) (n := 15) (r := c + 2) dX4_boxLength_1 fl_4_15 sc (by decide) r10 rfl ?_
  refine pa_aload_n (pc' := 5) dX4_boxLength_4 rfl rfl ?_
  refine pa_getR (pc' := 8) (n := 15) (r := c + 5) dX4_boxLength_5 fl_4_32 sc (by decide) r13 rfl ?_
  refine pa_iload_n (pc' := 9) dX4_boxLength_8 rfl rfl ?_
  refine pa_aald (pc' := 10) (r := c + 24 + b) dX4_boxLength_9 sc5 (by decide) (zn_in (by omega) (by omega)) (by rw [nI_clamp (by omega)]; exact rb) rfl ?_
  refine pa_getI (pc' := 13) (n := 4) (v := nI (nu A (128 + 4 * b))) dX4_boxLength_10 fl_4_74 sb (by decide) e1 rfl ?_
  refine pa_iald (pc' := 14) dX4_boxLength_13 sc2 rfl (fun _ => ?_)
  rw [nI_clamp (by omega), el]
  refine pa_iret dX4_boxLength_14 rfl rfl ?_
  exact ⟨rfl, rfl⟩
theorem nSn_le (s : nS) : ∀ n, nSn s n ≤ n
  | 0 => Nat.le_refl 0
  | n + 1 => by
    have := nSn_le s n
    show nSn s n + (match s.2.2.2.2.1 n with | some _ => 1 | none => 0) ≤ n + 1
    split <;> omega
theorem nSn_lt {s : nS} {b : Nat} (hb : s.2.2.2.2.1 b = none) : ∀ n, b < n → nSn s n < n
  | 0, h => absurd h (Nat.not_lt_zero b)
  | n + 1, h => by
    show nSn s n + (match s.2.2.2.2.1 n with | some _ => 1 | none => 0) < n + 1
    by_cases z : b = n
    · subst z
      have := nSn_le s b
      rw [hb]
      dsimp only
      omega
    · have := nSn_lt hb n (by omega)
      split <;> omega
theorem N_brings (B : bgC A c s h) (hw : w < cH A) (hb : b < cB A) : zPa d mX6_dayOfBringing [.inr (.inr (some 94)), .inl (nI w), .inl (nI b)] h (fun v g => v = some (.inl (brR A w (brV A s w b))) ∧ gF3 h g ∧ ∀ p, brV A s w b = some p → g.2.1 94 4 = nI p.2.2 ∧ g.2.1 94 5 = nI p.1 ∧ g.2.1 94 6 = nI p.2.1) := by
  intro N
  obtain ⟨hI, hT, hB, hN⟩ := B.1
  obtain ⟨b1, b2, b3, b4, b5⟩ := hI.2.2.1
  have h1 := B.2.1.1
  have s94 : zsh h 94 = some (6, 7) := zsh_by h1 (by decide +kernel)
  have s86 : zsh h 86 = some (2, 7) := zsh_by h1 (by decide +kernel)
  have s91 : zsh h 91 = some (14, 8) := zsh_by h1 (by decide +kernel)
  have s1m : zsh h 1000001 = none := zsh_by h1 (by decide +kernel)
  obtain ⟨sc, sc2, sc4, sc5, sw, sb⟩ := B.sh
  have sw := sw w (by omega)
  have sb := sb b (by omega)
  obtain ⟨r0, r1, r3, r11, rwy⟩ := B.2.1.2.2.2.1
  obtain ⟨r942, r862, r863, r864, r866, rc12, rc13, rw_, rb⟩ := B.2.2.2.2.1
  have rw_ := rw_ w (by omega)
  have rb := rb b (by omega)
  obtain ⟨ek, ekp⟩ := B.2.2.2.2.2.1 w hw
  obtain ⟨ef, eto, ewg, edy⟩ := B.2.2.2.2.2.2 b hb
  obtain ⟨ny, ncl, nw, nb⟩ := B.2.2.2.1
  obtain ⟨nat, nfr⟩ := nw w hw
  obtain ⟨ncm, ngt, nsg⟩ := nb b hb
  obtain ⟨⟨kd0, kd3⟩, -, kp9, -, -⟩ := num_whale hI hB hT hw
  obtain ⟨bf, bto, ⟨wg1, wg2⟩, bdy, bv⟩ := num_box hI hB hT hb
  obtain ⟨hy, hwh, hbx⟩ := hN
  obtain ⟨atl, frl⟩ := hwh w hw
  obtain ⟨sok, slen, -⟩ := hbx b hb
  have lb6 : lB A b ≤ 6 := (B.2.2.1.2.2.2.2.2 _ bto).2.2.2
  show zPn N none d mX6_dayOfBringing (0, [(0, .inr (.inr (some 94))), (1, .inl (nI w)), (2, .inl (nI b))], [], h) _
  refine pa_aload_n (pc' := 1) dX6_dayOfBringing_0 rfl rfl ?_
  refine pa_getR (pc' := 4) (n := 7) (r := c) dX6_dayOfBringing_1 fl_6_25 s94 (by decide) r0 rfl ?_
  refine pa_getR (pc' := 7) (n := 15) (r := c + 4) dX6_dayOfBringing_4 fl_6_88 sc (by decide) rc12 rfl ?_
  refine pa_iload_n (pc' := 8) dX6_dayOfBringing_7 rfl rfl ?_
  refine pa_aald (pc' := 9) (r := c + 19 + w) dX6_dayOfBringing_8 sc4 (by decide) (zn_in (by omega) (by omega)) (by rw [nI_clamp (by omega)]; exact rw_) rfl ?_
  refine pa_astore_n (pc' := 10) dX6_dayOfBringing_9 (by decide) rfl rfl ?_
  refine pa_aload_n (pc' := 11) dX6_dayOfBringing_10 rfl rfl ?_
  refine pa_getR (pc' := 14) (n := 7) (r := c) dX6_dayOfBringing_11 fl_6_25 s94 (by decide) r0 rfl ?_
  refine pa_getR (pc' := 17) (n := 15) (r := c + 5) dX6_dayOfBringing_14 fl_6_92 sc (by decide) rc13 rfl ?_
  refine pa_iload_n (pc' := 18) dX6_dayOfBringing_17 rfl rfl ?_
  refine pa_aald (pc' := 19) (r := c + 24 + b) dX6_dayOfBringing_18 sc5 (by decide) (zn_in (by omega) (by omega)) (by rw [nI_clamp (by omega)]; exact rb) rfl ?_
  refine pa_astore (pc' := 21) dX6_dayOfBringing_19 (by decide) rfl rfl ?_
  refine pa_aload_n (pc' := 22) dX6_dayOfBringing_21 rfl rfl ?_
  refine pa_getR (pc' := 25) (n := 7) (r := 86) dX6_dayOfBringing_22 fl_6_29 s94 (by decide) r1 rfl ?_
  refine pa_iload_n (pc' := 26) dX6_dayOfBringing_25 rfl rfl ?_
  refine pa_callv (pc' := 29) (vs := [.inl (nI b)]) (rest := []) dX6_dayOfBringing_26 ml_6_96 (by decide) rfl rfl rfl (fun d' _ => N_isSent B hb) (fun v g9 hq => ?_)
  obtain ⟨ev, eh⟩ := hq
  subst ev
  rw [eh]
  show zPn N none d mX6_dayOfBringing (29, _, [.inl (match s.2.2.2.2.1 b with | some _ => 1 | none => 0)], h) _
  unfold brV
  cases o : s.2.2.2.2.1 b with
  | some p0 =>
    refine pa_if_t (pc' := 48) dX6_dayOfBringing_29 (show zcond .ne (1 : Int32) 0 = true by decide) (by decide) ?_
    refine pa_bipush (v := (-2)) (pc' := 50) dX6_dayOfBringing_48 (by decide) rfl ?_
    refine pa_iret dX6_dayOfBringing_50 rfl rfl ?_
    exact ⟨rfl, gF3.rf, fun p e => nomatch e⟩
  | none =>
    have sl := nSn_lt o (cB A) hb
    refine pa_if_f (pc' := 32) dX6_dayOfBringing_29 (show zcond .ne (0 : Int32) 0 = false by decide) (by decide) rfl ?_
    refine pa_aload (pc' := 34) dX6_dayOfBringing_32 rfl rfl ?_
    refine pa_getI (pc' := 37) (n := 4) (v := vA A (129 + 4 * b)) dX6_dayOfBringing_34 fl_6_99 sb (by decide) ewg rfl ?_
    refine pa_gets (pc' := 40) dX6_dayOfBringing_37 rfl rfl ?_
    refine pa_aload_n (pc' := 41) dX6_dayOfBringing_40 rfl rfl ?_
    refine pa_getI (pc' := 44) (n := 4) (v := kdA A w) dX6_dayOfBringing_41 fl_6_107 sw (by decide) ek rfl ?_
    refine pa_icc (pc' := 45) dX6_dayOfBringing_44 s1m rfl ?_
    have ecl : (kdA A w).toNatClampNeg = (kdA A w).toInt.toNat := rfl
    rw [ecl]
    dsimp only
    by_cases zz : (zcc (kdA A w).toInt.toNat).toInt < (vA A (129 + 4 * b)).toInt
    · rw [if_pos zz]
      refine pa_icmp_f (pc' := 48) dX6_dayOfBringing_45 (by rw [zcond_i]; exact decide_eq_false (by omega)) (by decide) rfl ?_
      refine pa_bipush (v := (-2)) (pc' := 50) dX6_dayOfBringing_48 (by decide) rfl ?_
      refine pa_iret dX6_dayOfBringing_50 rfl rfl ?_
      exact ⟨rfl, gF3.rf, fun p e => nomatch e⟩
    · rw [if_neg zz]
      refine pa_icmp_t (pc' := 51) dX6_dayOfBringing_45 (by rw [zcond_i]; exact decide_eq_true (by omega)) (by decide) ?_
      refine pa_aload_n (pc' := 52) dX6_dayOfBringing_51 rfl rfl ?_
      refine pa_aload_n (pc' := 53) dX6_dayOfBringing_52 rfl rfl ?_
      refine pa_getR (pc' := 56) (n := 7) (r := 92) dX6_dayOfBringing_53 fl_6_33 s94 (by decide) r942 rfl ?_
      refine pa_aload_n (pc' := 57) dX6_dayOfBringing_56 rfl rfl ?_
      refine pa_getR (pc' := 60) (n := 7) (r := 86) dX6_dayOfBringing_57 fl_6_29 s94 (by decide) r1 rfl ?_
      refine pa_getR (pc' := 63) (n := 7) (r := 91) dX6_dayOfBringing_60 fl_6_112 s86 (by decide) r866 rfl ?_
      refine pa_iload_n (pc' := 64) dX6_dayOfBringing_63 rfl rfl ?_
      refine pa_iald (pc' := 65) dX6_dayOfBringing_64 s91 rfl (fun _ => ?_)
      rw [nI_clamp (by omega), nsg]
      refine pa_aload_n (pc' := 66) dX6_dayOfBringing_65 rfl rfl ?_
      refine pa_getR (pc' := 69) (n := 7) (r := c) dX6_dayOfBringing_66 fl_6_25 s94 (by decide) r0 rfl ?_
      refine pa_iload_n (pc' := 70) dX6_dayOfBringing_69 rfl rfl ?_
      refine pa_callv (pc' := 73) (vs := [.inl (nI b)]) (rest := [.inl (codeS (s.2.2.2.2.2 b)), .inr (.inr (some 92)), .inr (.inr (some 94))]) dX6_dayOfBringing_70 ml_6_115 (by decide) rfl rfl rfl (fun d' _ => N_boxLength B hb) (fun v g9 hq => ?_)
      obtain ⟨ev, eh⟩ := hq
      subst ev
      rw [eh]
      show zPn N none d mX6_dayOfBringing (73, _, [.inl (nI (lB A b)), .inl (codeS (s.2.2.2.2.2 b)), .inr (.inr (some 92)), .inr (.inr (some 94))], h) _
      refine pa_aload_n (pc' := 74) dX6_dayOfBringing_73 rfl rfl ?_
      refine pa_getR (pc' := 77) (n := 7) (r := 86) dX6_dayOfBringing_74 fl_6_29 s94 (by decide) r1 rfl ?_
      refine pa_getI (pc' := 80) (n := 7) (v := nI s.1) dX6_dayOfBringing_77 fl_6_119 s86 (by decide) ny rfl ?_
      refine pa_callv (pc' := 83) (vs := [.inl (codeS (s.2.2.2.2.2 b)), .inl (nI (lB A b)), .inl (nI s.1)]) (rest := [.inr (.inr (some 94))]) dX6_dayOfBringing_80 ml_6_122 (by decide) rfl rfl rfl (fun d' _ => N_hearerOf B.2.2.1 sok slen lb6 (by omega)) (fun v g1 hq => ?_)
      obtain ⟨ev, eh⟩ := hq
      subst ev
      show zPn N none d mX6_dayOfBringing (83, _, [.inl (hRe (nu A 1) (hFo A ((s.2.2.2.2.2 b).map (rsL (ntA A) (fL (nu A 2) (ntA A) s.1))) (cI A))), .inr (.inr (some 94))], g1) _
      obtain ⟨f1, -, -⟩ := eh
      have ehe : hRe (nu A 1) (hFo A ((s.2.2.2.2.2 b).map (rsL (ntA A) (fL (nu A 2) (ntA A) s.1))) (cI A)) = heA A (s.2.2.2.2.2 b) s.1 := hear_eq B.2.2.1.2.2.2.2.1.1 B.2.2.1.2.2.2.2.1.2.1 B.2.2.1.2.2.2.2.1.2.2.2.1 (fun i hi => (B.2.2.1.2.2.2.2.2 i hi).2.2.1) sok (by omega)
      rw [ehe]
      have hgl := heA_i hI (s.2.2.2.2.2 b) s.1
      unfold brG
      generalize heA A (s.2.2.2.2.2 b) s.1 = gl at hgl ⊢
      have s94a : zsh g1 94 = some (6, 7) := zsh_by (f1.1.trans h1) (by decide +kernel)
      refine pa_putI (pc' := 86) (n := 7) dX6_dayOfBringing_83 fl_6_15 s94a (Or.inl rfl) (Or.inl rfl) rfl ?_
      have F2 : gF3 h (zsI g1 94 4 gl) := (f1.f92).tr (gF.st (B := 94)).f94
      have B2 := B.fr F2
      have g4 : (zsI g1 94 4 gl).2.1 94 4 = gl := zsI_eq
      have s94b : zsh (zsI g1 94 4 gl) 94 = some (6, 7) := s94a
      refine pa_aload_n (pc' := 87) dX6_dayOfBringing_86 rfl rfl ?_
      refine pa_getI (pc' := 90) (n := 7) (v := gl) dX6_dayOfBringing_87 fl_6_15 s94b (by decide) g4 rfl ?_
      refine pa_bipush (v := (-2)) (pc' := 92) dX6_dayOfBringing_90 (by decide) rfl ?_
      rcases hgl with e2 | ⟨q, hq, e2, e3, e4, -⟩
      · rw [if_pos e2]
        refine pa_icmp_f (pc' := 95) dX6_dayOfBringing_92 (decide_eq_false (not_not_intro e2)) (by decide) rfl ?_
        refine pa_bipush (v := (-2)) (pc' := 97) dX6_dayOfBringing_95 (by decide) rfl ?_
        refine pa_iret dX6_dayOfBringing_97 rfl rfl ?_
        exact ⟨rfl, F2, fun p e => nomatch e⟩
      · rw [if_neg e4]
        refine pa_icmp_t (pc' := 98) dX6_dayOfBringing_92 (decide_eq_true e4) (by decide) ?_
        have s86b : zsh (zsI g1 94 4 gl) 86 = some (2, 7) := zsh_by B2.2.1.1 (by decide +kernel)
        have s87b : zsh (zsI g1 94 4 gl) 87 = some (14, 5) := zsh_by B2.2.1.1 (by decide +kernel)
        have s88b : zsh (zsI g1 94 4 gl) 88 = some (14, 5) := zsh_by B2.2.1.1 (by decide +kernel)
        obtain ⟨-, -, -, -, swb, sbb⟩ := B2.sh
        have swb := swb w (by omega)
        have sbb := sbb b (by omega)
        obtain ⟨r0b, r1b, r3b, -, -⟩ := B2.2.1.2.2.2.1
        obtain ⟨-, r862b, r863b, -, -, -, -, -, -⟩ := B2.2.2.2.2.1
        obtain ⟨ekb, ekpb⟩ := B2.2.2.2.2.2.1 w hw
        obtain ⟨efb, -, -, edyb⟩ := B2.2.2.2.2.2.2 b hb
        obtain ⟨natb, nfrb⟩ := B2.2.2.2.1.2.2.1 w hw
        have dq := days_eq (x0 := s.2.2.2.1 w) (n := cI A) (W := cW A) (dyG_R hI hB hT (kdA A w) s.2.1 (s.2.2.1 w)) (wab hB) atl
        have fr7 : s.2.2.2.1 w ≤ 700000 := by
          have := Nat.mul_le_mul_left 88722 (show nSn s (cB A) ≤ 7 by omega)
          omega
        have days : ∀ d, zPa d mX6_firstDayAt [.inr (.inr (some 94)), .inl (kdA A w), .inl (nI (s.2.2.1 w)), .inl (nI (nu A (127 + 4 * b))), .inl (nI (s.2.2.2.1 w))] (zsI g1 94 4 gl) (fun v g => v = some (.inl (arV (dyD A (kdA A w) s.2.1 (s.2.2.1 w) (s.2.2.2.1 w)) (nu A (127 + 4 * b)))) ∧ gF 95 (zsI g1 94 4 gl) g) := fun d => by
          have := N_firstDayAt (d := d) (kd := kdA A w) B2.2.1 B2.2.2.2.1.2.1 B2.2.2.1.2.2.2.1.2.2.2 b1 (fm := s.2.2.1 w) (by omega) (to := nu A (127 + 4 * b)) (by omega) fr7 (dyG_R hI hB hT (kdA A w) s.2.1 (s.2.2.1 w))
          rw [dq] at this
          exact this.mono (fun v g e => ⟨e.1, e.2.1⟩)
        refine pa_aload_n (pc' := 99) dX6_dayOfBringing_98 rfl rfl ?_
        refine pa_aload_n (pc' := 100) dX6_dayOfBringing_99 rfl rfl ?_
        refine pa_getI (pc' := 103) (n := 4) (v := kdA A w) dX6_dayOfBringing_100 fl_6_107 swb (by decide) ekb rfl ?_
        refine pa_aload_n (pc' := 104) dX6_dayOfBringing_103 rfl rfl ?_
        refine pa_getR (pc' := 107) (n := 7) (r := 86) dX6_dayOfBringing_104 fl_6_29 s94b (by decide) r1b rfl ?_
        refine pa_getR (pc' := 110) (n := 7) (r := 87) dX6_dayOfBringing_107 fl_6_127 s86b (by decide) r862b rfl ?_
        refine pa_iload_n (pc' := 111) dX6_dayOfBringing_110 rfl rfl ?_
        refine pa_iald (pc' := 112) dX6_dayOfBringing_111 s87b rfl (fun _ => ?_)
        rw [nI_clamp (by omega), natb]
        refine pa_aload (pc' := 114) dX6_dayOfBringing_112 rfl rfl ?_
        refine pa_getI (pc' := 117) (n := 4) (v := nI (nu A (127 + 4 * b))) dX6_dayOfBringing_114 fl_6_130 sbb (by decide) efb rfl ?_
        refine pa_aload_n (pc' := 118) dX6_dayOfBringing_117 rfl rfl ?_
        refine pa_getR (pc' := 121) (n := 7) (r := 86) dX6_dayOfBringing_118 fl_6_29 s94b (by decide) r1b rfl ?_
        refine pa_getR (pc' := 124) (n := 7) (r := 88) dX6_dayOfBringing_121 fl_6_133 s86b (by decide) r863b rfl ?_
        refine pa_iload_n (pc' := 125) dX6_dayOfBringing_124 rfl rfl ?_
        refine pa_iald (pc' := 126) dX6_dayOfBringing_125 s88b rfl (fun _ => ?_)
        rw [nI_clamp (by omega), nfrb]
        refine pa_callv (pc' := 129) (vs := [.inl (kdA A w), .inl (nI (s.2.2.1 w)), .inl (nI (nu A (127 + 4 * b))), .inl (nI (s.2.2.2.1 w))]) (rest := []) dX6_dayOfBringing_126 ml_6_136 (by decide) rfl rfl rfl (fun d' _ => days d') (fun v g3 hq => ?_)
        obtain ⟨ev, eh⟩ := hq
        subst ev
        show zPn N none d mX6_dayOfBringing (129, _, [.inl (arV (dyD A (kdA A w) s.2.1 (s.2.2.1 w) (s.2.2.2.1 w)) (nu A (127 + 4 * b)))], g3) _
        refine pa_istore (pc' := 131) dX6_dayOfBringing_129 (by decide) rfl rfl ?_
        have F3 : gF3 h g3 := F2.tr eh.f95
        have B3 := B.fr F3
        have e94 : ∀ k, g3.2.1 94 k = (zsI g1 94 4 gl).2.1 94 k := fun k => eh.2.2 94 k (by decide)
        refine pa_iload (pc' := 133) dX6_dayOfBringing_131 rfl rfl ?_
        refine pa_bipush (v := (-2)) (pc' := 135) dX6_dayOfBringing_133 (by decide) rfl ?_
        cases ed : dyD A (kdA A w) s.2.1 (s.2.2.1 w) (s.2.2.2.1 w) (nu A (127 + 4 * b)) with
        | none =>
          dsimp only
          refine pa_icmp_f (pc' := 138) dX6_dayOfBringing_135 (by unfold arV; rw [ed]; decide) (by decide) rfl ?_
          refine pa_bipush (v := (-2)) (pc' := 140) dX6_dayOfBringing_138 (by decide) rfl ?_
          refine pa_iret dX6_dayOfBringing_140 rfl rfl ?_
          exact ⟨rfl, F3, fun p e => nomatch e⟩
        | some x =>
          have hx := dyD_le hI hB hT ed
          have ea : arV (dyD A (kdA A w) s.2.1 (s.2.2.1 w) (s.2.2.2.1 w)) (nu A (127 + 4 * b)) = nI x := by unfold arV; rw [ed]
          rw [ea]
          dsimp only
          refine pa_icmp_t (pc' := 141) dX6_dayOfBringing_135 (decide_eq_true (fun z => by have := congrArg Int32.toInt z; rw [nI_toInt (by omega), show (-2 : Int32).toInt = -2 by decide] at this; omega)) (by decide) ?_
          have s94c : zsh g3 94 = some (6, 7) := zsh_by B3.2.1.1 (by decide +kernel)
          obtain ⟨-, -, -, -, swc, sbc⟩ := B3.sh
          have swc := swc w (by omega)
          have sbc := sbc b (by omega)
          obtain ⟨ekc, ekpc⟩ := B3.2.2.2.2.2.1 w hw
          obtain ⟨efc, -, -, edyc⟩ := B3.2.2.2.2.2.2 b hb
          refine pa_aload_n (pc' := 142) dX6_dayOfBringing_141 rfl rfl ?_
          refine pa_iload (pc' := 144) dX6_dayOfBringing_142 rfl rfl ?_
          refine pa_aload (pc' := 146) dX6_dayOfBringing_144 rfl rfl ?_
          refine pa_getI (pc' := 149) (n := 4) (v := nI (nu A (130 + 4 * b))) dX6_dayOfBringing_146 fl_6_140 sbc (by decide) edyc rfl ?_
          refine pa_max (pc' := 152) dX6_dayOfBringing_149 ml_6_143 (nI_max (by omega) (by omega)) rfl ?_
          refine pa_putI (pc' := 155) (n := 7) dX6_dayOfBringing_152 fl_6_19 s94c (Or.inl rfl) (Or.inl rfl) rfl ?_
          generalize et : max x (nu A (130 + 4 * b)) = tk
          have htk : tk ≤ 700000 := by
            have := Nat.mul_le_mul_left 88722 (show nSn s (cB A) ≤ 7 by omega)
            omega
          have F4 : gF3 h (zsI g3 94 5 (nI tk)) := F3.tr (gF.st (B := 94)).f94
          have B4 := B.fr F4
          have s94d : zsh (zsI g3 94 5 (nI tk)) 94 = some (6, 7) := s94c
          have swd : zsh (zsI g3 94 5 (nI tk)) (c + 19 + w) = some (10, 4) := swc
          have sbd : zsh (zsI g3 94 5 (nI tk)) (c + 24 + b) = some (0, 4) := sbc
          obtain ⟨ekd, ekpd⟩ := B4.2.2.2.2.2.1 w hw
          obtain ⟨efd, -, -, edyd⟩ := B4.2.2.2.2.2.2 b hb
          have q4 : (zsI g3 94 5 (nI tk)).2.1 94 4 = nI q := by rw [zsI_no (by omega), e94, ← e2]; exact g4
          have q5 : (zsI g3 94 5 (nI tk)).2.1 94 5 = nI tk := zsI_eq
          have dq2 := days_eq (x0 := tk) (n := cI A) (W := cW A) (dyG_R hI hB hT (kdA A w) s.2.1 (nu A (127 + 4 * b))) (wab hB) bf
          have days2 : ∀ d, zPa d mX6_firstDayAt [.inr (.inr (some 94)), .inl (kdA A w), .inl (nI (nu A (127 + 4 * b))), .inl (nI q), .inl (nI tk)] (zsI g3 94 5 (nI tk)) (fun v g => v = some (.inl (arV (dyD A (kdA A w) s.2.1 (nu A (127 + 4 * b)) tk) q)) ∧ gF 95 (zsI g3 94 5 (nI tk)) g) := fun d => by
            have := N_firstDayAt (d := d) (kd := kdA A w) B4.2.1 B4.2.2.2.1.2.1 B4.2.2.1.2.2.2.1.2.2.2 b1 (fm := nu A (127 + 4 * b)) (by omega) (to := q) (by omega) htk (dyG_R hI hB hT (kdA A w) s.2.1 (nu A (127 + 4 * b)))
            rw [dq2] at this
            exact this.mono (fun v g e => ⟨e.1, e.2.1⟩)
          refine pa_aload_n (pc' := 156) dX6_dayOfBringing_155 rfl rfl ?_
          refine pa_aload_n (pc' := 157) dX6_dayOfBringing_156 rfl rfl ?_
          refine pa_aload_n (pc' := 158) dX6_dayOfBringing_157 rfl rfl ?_
          refine pa_getI (pc' := 161) (n := 4) (v := kdA A w) dX6_dayOfBringing_158 fl_6_107 swd (by decide) ekd rfl ?_
          refine pa_aload (pc' := 163) dX6_dayOfBringing_161 rfl rfl ?_
          refine pa_getI (pc' := 166) (n := 4) (v := nI (nu A (127 + 4 * b))) dX6_dayOfBringing_163 fl_6_130 sbd (by decide) efd rfl ?_
          refine pa_aload_n (pc' := 167) dX6_dayOfBringing_166 rfl rfl ?_
          refine pa_getI (pc' := 170) (n := 7) (v := nI q) dX6_dayOfBringing_167 fl_6_15 s94d (by decide) q4 rfl ?_
          refine pa_aload_n (pc' := 171) dX6_dayOfBringing_170 rfl rfl ?_
          refine pa_getI (pc' := 174) (n := 7) (v := nI tk) dX6_dayOfBringing_171 fl_6_19 s94d (by decide) q5 rfl ?_
          refine pa_callv (pc' := 177) (vs := [.inl (kdA A w), .inl (nI (nu A (127 + 4 * b))), .inl (nI q), .inl (nI tk)]) (rest := [.inr (.inr (some 94))]) dX6_dayOfBringing_174 ml_6_136 (by decide) rfl rfl rfl (fun d' _ => days2 d') (fun v g5 hq => ?_)
          obtain ⟨ev, eh⟩ := hq
          subst ev
          show zPn N none d mX6_dayOfBringing (177, _, [.inl (arV (dyD A (kdA A w) s.2.1 (nu A (127 + 4 * b)) tk) q), .inr (.inr (some 94))], g5) _
          have F5 : gF3 h g5 := F4.tr eh.f95
          have B5 := B.fr F5
          have s94e : zsh g5 94 = some (6, 7) := zsh_by B5.2.1.1 (by decide +kernel)
          rw [e3]
          refine pa_putI (pc' := 180) (n := 7) dX6_dayOfBringing_177 fl_6_22 s94e (Or.inl rfl) (Or.inl rfl) rfl ?_
          generalize ev : arV (dyD A (kdA A w) s.2.1 (nu A (127 + 4 * b)) tk) q = av
          have F6 : gF3 h (zsI g5 94 6 av) := F5.tr (gF.st (B := 94)).f94
          have B6 := B.fr F6
          have s94f : zsh (zsI g5 94 6 av) 94 = some (6, 7) := s94e
          obtain ⟨-, -, -, -, swf, -⟩ := B6.sh
          have swf := swf w (by omega)
          obtain ⟨-, ekpf⟩ := B6.2.2.2.2.2.1 w hw
          have q6 : (zsI g5 94 6 av).2.1 94 6 = av := zsI_eq
          have k4 : (zsI g5 94 6 av).2.1 94 4 = nI q := by rw [zsI_no (by omega), eh.2.2 94 4 (by decide)]; exact q4
          have k5 : (zsI g5 94 6 av).2.1 94 5 = nI tk := by rw [zsI_no (by omega), eh.2.2 94 5 (by decide)]; exact q5
          refine pa_aload_n (pc' := 181) dX6_dayOfBringing_180 rfl rfl ?_
          refine pa_getI (pc' := 184) (n := 7) (v := av) dX6_dayOfBringing_181 fl_6_22 s94f (by decide) q6 rfl ?_
          refine pa_bipush (v := (-2)) (pc' := 186) dX6_dayOfBringing_184 (by decide) rfl ?_
          cases ed2 : dyD A (kdA A w) s.2.1 (nu A (127 + 4 * b)) tk q with
          | none =>
            dsimp only
            have ea2 : av = -2 := by rw [← ev]; unfold arV; rw [ed2]
            refine pa_icmp_f (pc' := 189) dX6_dayOfBringing_186 (decide_eq_false (not_not_intro ea2)) (by decide) rfl ?_
            refine pa_bipush (v := (-2)) (pc' := 191) dX6_dayOfBringing_189 (by decide) rfl ?_
            refine pa_goto (pc' := 203) dX6_dayOfBringing_191 (by decide) ?_
            refine pa_iret dX6_dayOfBringing_203 rfl rfl ?_
            exact ⟨rfl, F6, fun p e => nomatch e⟩
          | some z2 =>
            dsimp only
            have hz := dyD_le hI hB hT ed2
            have ea2 : av = nI z2 := by rw [← ev]; unfold arV; rw [ed2]
            subst ea2
            refine pa_icmp_t (pc' := 194) dX6_dayOfBringing_186 (decide_eq_true (fun z => by have := congrArg Int32.toInt z; rw [nI_toInt (by omega), show (-2 : Int32).toInt = -2 by decide] at this; omega)) (by decide) ?_
            refine pa_aload_n (pc' := 195) dX6_dayOfBringing_194 rfl rfl ?_
            refine pa_getI (pc' := 198) (n := 7) (v := nI z2) dX6_dayOfBringing_195 fl_6_22 s94f (by decide) q6 rfl ?_
            refine pa_aload_n (pc' := 199) dX6_dayOfBringing_198 rfl rfl ?_
            refine pa_getI (pc' := 202) (n := 4) (v := nI (nu A (109 + 4 * w))) dX6_dayOfBringing_199 fl_6_149 swf (by decide) ekpf rfl ?_
            refine pa_iadd (pc' := 203) (v := nI (z2 + (nu A (109 + 4 * w)))) dX6_dayOfBringing_202 (nI_add _ _) rfl ?_
            refine pa_iret dX6_dayOfBringing_203 rfl rfl ?_
            exact ⟨rfl, F6, fun p e => by cases e; exact ⟨k4, k5, q6⟩⟩
end BRC
/-! the reference: who brings a box, when -/
def gF4 (h g : zH) : Prop := g.1 = h.1 ∧ g.2.2 = h.2.2 ∧ ∀ b k, b ≠ 205 → b ≠ 206 → (b = 196 → k ≠ 26 ∧ k ≠ 27) → g.2.1 b k = h.2.1 b k
theorem gF4.rf {h : zH} : gF4 h h := ⟨rfl, rfl, fun _ _ _ _ _ => rfl⟩
theorem gF4.tr {h g g2 : zH} (p : gF4 h g) (q : gF4 g g2) : gF4 h g2 := ⟨q.1.trans p.1, q.2.1.trans p.2.1, fun b k e1 e2 e3 => (q.2.2 b k e1 e2 e3).trans (p.2.2 b k e1 e2 e3)⟩
theorem gF2.f4 {h g : zH} (f : gF2 h g) : gF4 h g := ⟨f.1, f.2.1, fun b k e1 e2 _ => f.2.2 b k e1 e2⟩
theorem gF4.st {h : zH} {k : Nat} {v : Int32} (hk : k = 26 ∨ k = 27) : gF4 h (zsI h 196 k v) := ⟨rfl, rfl, fun b j _ _ e => zsI_no (fun z => by
  have := e z.1
  omega)⟩
def bgM (A : pA) (s : nS) (h : zH) : Prop := (pI A ∧ tA A ∧ tB A ∧ nOK A s) ∧ seM (cI A) (cW A) (wa A) (wb A) (dyA A) (opA A) s.2.1 h ∧ sgM (ntA A) (nu A 2) (nu A 1) A h ∧ nMo A s 201 0 h ∧ (∀ w, w < cH A → ∀ j, j < 4 → h.2.1 199 (107 + 4 * w + j) = vA A (107 + 4 * w + j)) ∧ ∀ b, b < cB A → ∀ j, j < 4 → h.2.1 199 (127 + 4 * b + j) = vA A (127 + 4 * b + j)
section BRM
variable {d N w b L y : Nat} {h g : zH} {A : pA} {s : nS}
theorem bgM.fr (B : bgM A s h) (f : gF4 h g) : bgM A s g := by
  obtain ⟨B1, B2, B3, ⟨n1, n2, n3, n4⟩, B5, B6⟩ := B
  have e : ∀ a k, (a = 199 ∨ a = 201) → g.2.1 a k = h.2.1 a k := fun a k ha => f.2.2 a k (by omega) (by omega) (by omega)
  refine ⟨B1, ?_, ?_, ⟨(e _ _ (.inr rfl)).trans n1, (e _ _ (.inr rfl)).trans n2, fun w hw => ⟨(e _ _ (.inr rfl)).trans (n3 w hw).1, (e _ _ (.inr rfl)).trans (n3 w hw).2⟩, fun b hb => ⟨(e _ _ (.inr rfl)).trans (n4 b hb).1, (e _ _ (.inr rfl)).trans (n4 b hb).2.1, fun k hk => (e _ _ (.inr rfl)).trans ((n4 b hb).2.2 k hk)⟩⟩, fun w hw j hj => (e _ _ (.inl rfl)).trans (B5 w hw j hj), fun b hb j hj => (e _ _ (.inl rfl)).trans (B6 b hb j hj)⟩
  · obtain ⟨k1, k2, k3, k4, ⟨k5, k6, k7⟩, k8⟩ := B2
    refine ⟨f.1.trans k1, k2, k3, by rw [f.2.1]; exact k4, ⟨(e _ _ (.inl rfl)).trans k5, (e _ _ (.inl rfl)).trans k6, (e _ _ (.inr rfl)).trans k7⟩, fun k hk => ?_⟩
    rw [e _ _ (.inl rfl), e _ _ (.inl rfl), e _ _ (.inl rfl), e _ _ (.inl rfl)]
    exact k8 k hk
  · obtain ⟨k1, k2, ⟨k3, k4, k5, k6⟩, k7, k8⟩ := B3
    refine ⟨f.1.trans k1, by rw [f.2.1]; exact k2, ⟨(e _ _ (.inl rfl)).trans k3, (e _ _ (.inl rfl)).trans k4, (e _ _ (.inl rfl)).trans k5, (e _ _ (.inl rfl)).trans k6⟩, k7, fun i hi => ?_⟩
    obtain ⟨a1, a2, a3⟩ := k8 i hi
    exact ⟨(e _ _ (.inl rfl)).trans a1, fun k hk => (e _ _ (.inl rfl)).trans (a2 k hk), a3⟩
theorem M_ofWhale {j : Nat} (B : bgM A s h) (hw : w < cH A) (hj : j < 4) : zPa d mX12_ofWhale [.inr (.inr (some 196)), .inl (nI w), .inl (nI j)] h (fun v g => v = some (.inl (vA A (107 + 4 * w + j))) ∧ g = h) := by
  intro N
  have b3 := B.1.1.2.2.1.2.2.1
  have s196 := sh_196' B.2.1.1
  have s199 : zsh h 199 = some (14, 363) := zsh_by B.2.1.1 (by decide +kernel)
  have r15 := B.2.2.1.2.1.1
  have e := B.2.2.2.2.1 w hw j hj
  show zPn N none d mX12_ofWhale (0, [(0, .inr (.inr (some 196))), (1, .inl (nI w)), (2, .inl (nI j))], [], h) _
  refine pa_aload_n (pc' := 1) dX12_ofWhale_0 rfl rfl ?_
  refine pa_getR (pc' := 4) (n := 39) (r := 199) dX12_ofWhale_1 fl_12_20 s196 (by decide) r15 rfl ?_
  refine pa_bipush (v := nI 107) (pc' := 6) dX12_ofWhale_4 (by decide) rfl ?_
  refine pa_iconst (v := nI 4) (pc' := 7) dX12_ofWhale_6 (by decide) rfl ?_
  refine pa_iload_n (pc' := 8) dX12_ofWhale_7 rfl rfl ?_
  refine pa_imul (pc' := 9) (v := nI (4 * w)) dX12_ofWhale_8 (nI_mul _ _) rfl ?_
  refine pa_iadd (pc' := 10) (v := nI (107 + 4 * w)) dX12_ofWhale_9 (nI_add _ _) rfl ?_
  refine pa_iload_n (pc' := 11) dX12_ofWhale_10 rfl rfl ?_
  refine pa_iadd (pc' := 12) (v := nI (107 + 4 * w + j)) dX12_ofWhale_11 (nI_add _ _) rfl ?_
  refine pa_iald (pc' := 13) dX12_ofWhale_12 s199 rfl (fun _ => ?_)
  rw [nI_clamp (by omega), e]
  refine pa_iret dX12_ofWhale_13 rfl rfl ?_
  exact ⟨rfl, rfl⟩
theorem M_ofBoxA {j : Nat} (B : bgM A s h) (hb : b < cB A) (hj : j < 4) : zPa d mX12_ofBox [.inr (.inr (some 196)), .inl (nI b), .inl (nI j)] h (fun v g => v = some (.inl (vA A (127 + 4 * b + j))) ∧ g = h) := by
  have b4 := B.1.1.2.2.1.2.2.2.1
  exact M_ofBox B.2.1.1 B.2.2.1.2.1.1 (by omega) hj (B.2.2.2.2.2 b hb j hj)
theorem M_heardNow (B : bgM A s h) (hb : b < cB A) : zPa d mX12_heardNow [.inr (.inr (some 196)), .inl (nI b)] h (fun v g => v = some (.inl (heA A (s.2.2.2.2.2 b) s.1)) ∧ g = h) := by
  intro N
  obtain ⟨hI, hT, hB, hy, hwh, hbx⟩ := B.1
  have b4 := hI.2.2.1.2.2.2.1
  obtain ⟨bf, bto, -, -, bv⟩ := num_box hI hB hT hb
  obtain ⟨sok, slen, -⟩ := hbx b hb
  have lb6 : lB A b ≤ 6 := (B.2.2.1.2.2.2.2 _ bto).2.2.2
  have s196 := sh_196' B.2.1.1
  have s201 : zsh h 201 = some (14, 76) := zsh_by B.2.1.1 (by decide +kernel)
  have r17 := B.2.2.1.2.1.2
  have ny := B.2.2.2.1.1
  have e1 : h.2.1 199 (127 + 4 * b + 1) = nI (nu A (128 + 4 * b)) := by
    have := (B.2.2.2.2.2 b hb 1 (by decide)).trans (bv 1 (by decide))
    rw [show 127 + 4 * b + 1 = 128 + 4 * b by omega] at this ⊢
    exact this
  have hc : ∀ k, k < lB A b → (if nI k = -1 then 0 else h.2.1 201 (28 + 6 * b + k)) = nI (dg ((s.2.2.2.2.2 b).getD k 0)) := fun k hk => by
    rw [if_neg (fun z => by have := congrArg Int32.toInt z; rw [nI_toInt (by omega), show (-1 : Int32).toInt = -1 by decide] at this; omega)]
    have := (B.2.2.2.1.2.2.2 b hb).2.2 k (by omega)
    rw [Nat.zero_add] at this
    exact this
  have hr : ∀ d, zPa d mX12_hearsIn [.inr (.inr (some 196)), .inl (nI b), .inl (nI s.1), .inl (-1), .inl 0] h (fun v g => v = some (.inl (heA A (s.2.2.2.2.2 b) s.1)) ∧ g = h) := fun d => M_hearsIn B.2.2.1 (by omega) e1 bto rfl (by omega) hc slen sok
  show zPn N none d mX12_heardNow (0, [(0, .inr (.inr (some 196))), (1, .inl (nI b))], [], h) _
  refine pa_aload_n (pc' := 1) dX12_heardNow_0 rfl rfl ?_
  refine pa_iload_n (pc' := 2) dX12_heardNow_1 rfl rfl ?_
  refine pa_aload_n (pc' := 3) dX12_heardNow_2 rfl rfl ?_
  refine pa_getR (pc' := 6) (n := 39) (r := 201) dX12_heardNow_3 fl_12_26 s196 (by decide) r17 rfl ?_
  refine pa_iconst (v := nI 0) (pc' := 7) dX12_heardNow_6 (by decide) rfl ?_
  refine pa_iald (pc' := 8) dX12_heardNow_7 s201 rfl (fun _ => ?_)
  rw [nI_clamp (by omega), ny]
  refine pa_iconst (v := (-1)) (pc' := 9) dX12_heardNow_8 (by decide) rfl ?_
  refine pa_iconst (v := 0) (pc' := 10) dX12_heardNow_9 (by decide) rfl ?_
  refine pa_callv (pc' := 13) (vs := [.inl (nI b), .inl (nI s.1), .inl ((-1)), .inl 0]) (rest := []) dX12_heardNow_10 ml_12_291 (by decide) rfl rfl rfl (fun d' _ => hr d') (fun v g9 hq => ?_)
  obtain ⟨ev, eh⟩ := hq
  subst ev
  rw [eh]
  show zPn N none d mX12_heardNow (13, _, [.inl (heA A (s.2.2.2.2.2 b) s.1)], h) _
  refine pa_iret dX12_heardNow_13 rfl rfl ?_
  exact ⟨rfl, rfl⟩
theorem M_later {x y : Nat} (hx : x ≤ 2147483647) (hy : y ≤ 2147483647) : zPa d mX12_later [.inl (nI x), .inl (nI y)] h (fun v g => v = some (.inl (nI (max x y))) ∧ g = h) := by
  intro N
  show zPn N none d mX12_later (0, [(0, .inl (nI x)), (1, .inl (nI y))], [], h) _
  refine pa_iload_n (pc' := 1) dX12_later_0 rfl rfl ?_
  refine pa_iload_n (pc' := 2) dX12_later_1 rfl rfl ?_
  by_cases z : x ≤ y
  · refine pa_icmp_t (pc' := 9) dX12_later_2 (by rw [zcond_i]; exact decide_eq_true (by rw [nI_toInt (by omega), nI_toInt (by omega)]; omega)) (by decide) ?_
    refine pa_iload_n (pc' := 10) dX12_later_9 rfl rfl ?_
    refine pa_iret dX12_later_10 rfl rfl ?_
    exact ⟨by rw [Nat.max_eq_right z], rfl⟩
  · refine pa_icmp_f (pc' := 5) dX12_later_2 (by rw [zcond_i]; exact decide_eq_false (by rw [nI_toInt (by omega), nI_toInt (by omega)]; omega)) (by decide) rfl ?_
    refine pa_iload_n (pc' := 6) dX12_later_5 rfl rfl ?_
    refine pa_goto (pc' := 10) dX12_later_6 (by decide) ?_
    refine pa_iret dX12_later_10 rfl rfl ?_
    exact ⟨by rw [Nat.max_eq_left (by omega)], rfl⟩
theorem zcc_k : ∀ k, k < 4 → zcc k = if k = 0 then 3 else if k = 2 then 99 else 9 := by decide
theorem M_lays (B : bgM A s h) (hw : w < cH A) (hb : b < cB A) : zPa d mX12_lays [.inr (.inr (some 196)), .inl (nI w), .inl (nI b)] h (fun v g => v = some (.inl (match brV A s w b with | some _ => 1 | none => 0)) ∧ gF4 h g ∧ ∀ p, brV A s w b = some p → g.2.1 196 26 = nI p.1 ∧ g.2.1 196 27 = nI p.2.1) := by
  intro N
  obtain ⟨hI, hT, hB, hN⟩ := B.1
  obtain ⟨b1, b2, b3, b4, b5⟩ := hI.2.2.1
  have h1 := B.2.1.1
  have s196 := sh_196' h1
  have s201 : zsh h 201 = some (14, 76) := zsh_by h1 (by decide +kernel)
  obtain ⟨r15, r17, r24, r25⟩ := B.2.1.2.2.2.1
  obtain ⟨⟨kd0, kd3⟩, -, kp9, -, wv⟩ := num_whale hI hB hT hw
  obtain ⟨bf, bto, ⟨wg1, wg2⟩, bdy, bv⟩ := num_box hI hB hT hb
  obtain ⟨hy, hwh, hbx⟩ := hN
  obtain ⟨atl, frl⟩ := hwh w hw
  obtain ⟨sok, slen, snt⟩ := hbx b hb
  have nle := nSn_le s (cB A)
  obtain ⟨-, -, nw, nb⟩ := B.2.2.2.1
  have nat : h.2.1 201 (2 + w) = nI (s.2.2.1 w) := by
    have := (nw w hw).1
    rw [Nat.zero_add] at this
    exact this
  have nfr : h.2.1 201 (7 + w) = nI (s.2.2.2.1 w) := by
    have := (nw w hw).2
    rw [Nat.zero_add] at this
    exact this
  have ncm : h.2.1 201 (12 + b) = tDy (s.2.2.2.2.1 b) := by
    have := (nb b hb).1
    rw [Nat.zero_add] at this
    exact this
  have ekd : (kdA A w).toInt = 0 ∨ (kdA A w).toInt = 1 ∨ (kdA A w).toInt = 2 ∨ (kdA A w).toInt = 3 := by omega
  have capk := zcc_k (kdA A w).toInt.toNat (by omega)
  have rest : ∀ ms : Int32, ms = zcc (kdA A w).toInt.toNat → zPn N none d mX12_lays (27, zset1 [(0, .inr (.inr (some 196))), (1, .inl (nI w)), (2, .inl (nI b))] 3 (.inl (kdA A w)), [.inl ms], h) (fun v g => v = some (.inl (match brV A s w b with | some _ => 1 | none => 0)) ∧ gF4 h g ∧ ∀ p, brV A s w b = some p → g.2.1 196 26 = nI p.1 ∧ g.2.1 196 27 = nI p.2.1) := fun ms hms => by
    unfold brV
    rw [← hms]
    have hgl := heA_i hI (s.2.2.2.2.2 b) s.1
    refine pa_istore (pc' := 29) dX12_lays_27 (by decide) rfl rfl ?_
    refine pa_aload_n (pc' := 30) dX12_lays_29 rfl rfl ?_
    refine pa_iload_n (pc' := 31) dX12_lays_30 rfl rfl ?_
    refine pa_callv (pc' := 34) (vs := [.inl (nI b)]) (rest := []) dX12_lays_31 ml_12_295 (by decide) rfl rfl rfl (fun d' _ => M_heardNow B hb) (fun v g9 hq => ?_)
    obtain ⟨ev, eh⟩ := hq
    subst ev
    rw [eh]
    show zPn N none d mX12_lays (34, _, [.inl (heA A (s.2.2.2.2.2 b) s.1)], h) _
    unfold brG
    generalize heA A (s.2.2.2.2.2 b) s.1 = gl at hgl ⊢
    refine pa_istore (pc' := 36) dX12_lays_34 (by decide) rfl rfl ?_
    refine pa_aload_n (pc' := 37) dX12_lays_36 rfl rfl ?_
    refine pa_iload_n (pc' := 38) dX12_lays_37 rfl rfl ?_
    refine pa_iconst (v := nI 2) (pc' := 39) dX12_lays_38 (by decide) rfl ?_
    refine pa_callv (pc' := 42) (vs := [.inl (nI b), .inl (nI 2)]) (rest := []) dX12_lays_39 ml_12_262 (by decide) rfl rfl rfl (fun d' _ => M_ofBoxA B hb (by omega)) (fun v g9 hq => ?_)
    obtain ⟨ev, eh⟩ := hq
    subst ev
    rw [eh]
    show zPn N none d mX12_lays (42, _, [.inl (vA A (127 + 4 * b + 2))], h) _
    refine pa_iload (pc' := 44) dX12_lays_42 rfl rfl ?_
    rw [show 127 + 4 * b + 2 = 129 + 4 * b by omega]
    have no : ∀ (r : Option (Nat × Nat × Nat)), r = none → zPn N none d mX12_lays (64, zset1 (zset1 (zset1 [(0, .inr (.inr (some 196))), (1, .inl (nI w)), (2, .inl (nI b))] 3 (.inl (kdA A w))) 4 (.inl ms)) 5 (.inl gl), [], h) (fun v g => v = some (.inl (match r with | some _ => 1 | none => 0)) ∧ gF4 h g ∧ ∀ p, r = some p → g.2.1 196 26 = nI p.1 ∧ g.2.1 196 27 = nI p.2.1) := fun r hr => by
      subst hr
      refine pa_iconst (v := 0) (pc' := 65) dX12_lays_64 (by decide) rfl ?_
      refine pa_iret dX12_lays_65 rfl rfl ?_
      exact ⟨rfl, gF4.rf, fun p e => nomatch e⟩
    by_cases zz : ms.toInt < (vA A (129 + 4 * b)).toInt
    · refine pa_icmp_t (pc' := 64) dX12_lays_44 (by rw [zcond_i]; exact decide_eq_true (by omega)) (by decide) ?_
      refine no _ ?_
      rw [if_pos zz]
      cases s.2.2.2.2.1 b <;> rfl
    · refine pa_icmp_f (pc' := 47) dX12_lays_44 (by rw [zcond_i]; exact decide_eq_false (by omega)) (by decide) rfl ?_
      refine pa_aload_n (pc' := 48) dX12_lays_47 rfl rfl ?_
      refine pa_getR (pc' := 51) (n := 39) (r := 201) dX12_lays_48 fl_12_26 s196 (by decide) r17 rfl ?_
      refine pa_bipush (v := nI 12) (pc' := 53) dX12_lays_51 (by decide) rfl ?_
      refine pa_iload_n (pc' := 54) dX12_lays_53 rfl rfl ?_
      refine pa_iadd (pc' := 55) (v := nI (12 + b)) dX12_lays_54 (nI_add _ _) rfl ?_
      refine pa_iald (pc' := 56) dX12_lays_55 s201 rfl (fun _ => ?_)
      rw [nI_clamp (by omega), ncm]
      rw [if_neg zz]
      cases o : s.2.2.2.2.1 b with
      | some p0 =>
        have hp := (snt p0 o).2
        refine pa_if_t (pc' := 64) dX12_lays_56 (zgt_t (by rw [show tDy (some p0) = nI (p0.1 + 1) from rfl, nI_toInt (by omega)]; omega)) (by decide) ?_
        exact no _ rfl
      | none =>
        have sl := nSn_lt o (cB A) hb
        have fr7 : s.2.2.2.1 w ≤ 700000 := by
          have := Nat.mul_le_mul_left 88722 (show nSn s (cB A) ≤ 7 by omega)
          omega
        refine pa_if_f (pc' := 59) dX12_lays_56 (by decide) (by decide) rfl ?_
        refine pa_iload (pc' := 61) dX12_lays_59 rfl rfl ?_
        rcases hgl with e2 | ⟨q, hq, e2, e3, e4, e5⟩
        · refine pa_if_f (pc' := 64) dX12_lays_61 (by rw [e2]; decide) (by decide) rfl ?_
          refine no _ ?_
          dsimp only
          rw [if_pos e2]
        · dsimp only
          rw [if_neg e4]
          have K2 := B.2.1
          have hop : ∀ k, k < cW A → opK (opA A k) := fun k _ => (opA_ok hI hB hT k).1
          have arr : ∀ d, zPa d mX12_arrivalOf [.inr (.inr (some 196)), .inl (kdA A w), .inl (nI (s.2.2.1 w)), .inl (nI (nu A (127 + 4 * b))), .inl (nI (s.2.2.2.1 w))] h (fun v g => v = some (.inl (arV (dyD A (kdA A w) s.2.1 (s.2.2.1 w) (s.2.2.2.1 w)) (nu A (127 + 4 * b)))) ∧ gF2 h g) := fun d => (M_arrivalOf K2 hop (dyG_R hI hB hT (kdA A w) s.2.1 (s.2.2.1 w)) (by omega) (by omega) fr7).mono (fun v g e => ⟨e.1, e.2.1⟩)
          refine pa_if_t (pc' := 66) dX12_lays_61 (by rw [zcond_i]; exact decide_eq_true (by rw [show (0 : Int32).toInt = 0 by decide]; omega)) (by decide) ?_
          refine pa_aload_n (pc' := 67) dX12_lays_66 rfl rfl ?_
          refine pa_iload_n (pc' := 68) dX12_lays_67 rfl rfl ?_
          refine pa_aload_n (pc' := 69) dX12_lays_68 rfl rfl ?_
          refine pa_getR (pc' := 72) (n := 39) (r := 201) dX12_lays_69 fl_12_26 s196 (by decide) r17 rfl ?_
          refine pa_iconst (v := nI 2) (pc' := 73) dX12_lays_72 (by decide) rfl ?_
          refine pa_iload_n (pc' := 74) dX12_lays_73 rfl rfl ?_
          refine pa_iadd (pc' := 75) (v := nI (2 + w)) dX12_lays_74 (nI_add _ _) rfl ?_
          refine pa_iald (pc' := 76) dX12_lays_75 s201 rfl (fun _ => ?_)
          rw [nI_clamp (by omega), nat]
          refine pa_aload_n (pc' := 77) dX12_lays_76 rfl rfl ?_
          refine pa_iload_n (pc' := 78) dX12_lays_77 rfl rfl ?_
          refine pa_iconst (v := nI 0) (pc' := 79) dX12_lays_78 (by decide) rfl ?_
          refine pa_callv (pc' := 82) (vs := [.inl (nI b), .inl (nI 0)]) (rest := [.inl (nI (s.2.2.1 w)), .inl (kdA A w), .inr (.inr (some 196))]) dX12_lays_79 ml_12_262 (by decide) rfl rfl rfl (fun d' _ => M_ofBoxA B hb (by omega)) (fun v g9 hq => ?_)
          obtain ⟨ev, eh⟩ := hq
          subst ev
          rw [eh]
          show zPn N none d mX12_lays (82, _, [.inl (vA A (127 + 4 * b + 0)), .inl (nI (s.2.2.1 w)), .inl (kdA A w), .inr (.inr (some 196))], h) _
          have eb0 : vA A (127 + 4 * b + 0) = nI (nu A (127 + 4 * b)) := bv 0 (by decide)
          rw [eb0]
          refine pa_aload_n (pc' := 83) dX12_lays_82 rfl rfl ?_
          refine pa_getR (pc' := 86) (n := 39) (r := 201) dX12_lays_83 fl_12_26 s196 (by decide) r17 rfl ?_
          refine pa_bipush (v := nI 7) (pc' := 88) dX12_lays_86 (by decide) rfl ?_
          refine pa_iload_n (pc' := 89) dX12_lays_88 rfl rfl ?_
          refine pa_iadd (pc' := 90) (v := nI (7 + w)) dX12_lays_89 (nI_add _ _) rfl ?_
          refine pa_iald (pc' := 91) dX12_lays_90 s201 rfl (fun _ => ?_)
          rw [nI_clamp (by omega), nfr]
          refine pa_callv (pc' := 94) (vs := [.inl (kdA A w), .inl (nI (s.2.2.1 w)), .inl (nI (nu A (127 + 4 * b))), .inl (nI (s.2.2.2.1 w))]) (rest := []) dX12_lays_91 ml_12_352 (by decide) rfl rfl rfl (fun d' _ => arr d') (fun v g1 hq => ?_)
          obtain ⟨ev, eh⟩ := hq
          subst ev
          show zPn N none d mX12_lays (94, _, [.inl (arV (dyD A (kdA A w) s.2.1 (s.2.2.1 w) (s.2.2.2.1 w)) (nu A (127 + 4 * b)))], g1) _
          refine pa_istore (pc' := 96) dX12_lays_94 (by decide) rfl rfl ?_
          refine pa_iload (pc' := 98) dX12_lays_96 rfl rfl ?_
          have F1 : gF4 h g1 := eh.f4
          have B1 := B.fr F1
          cases ed : dyD A (kdA A w) s.2.1 (s.2.2.1 w) (s.2.2.2.1 w) (nu A (127 + 4 * b)) with
          | none =>
            refine pa_if_f (pc' := 101) dX12_lays_98 (by unfold arV; rw [ed]; decide) (by decide) rfl ?_
            refine pa_iconst (v := 0) (pc' := 102) dX12_lays_101 (by decide) rfl ?_
            refine pa_iret dX12_lays_102 rfl rfl ?_
            exact ⟨rfl, F1, fun p e => nomatch e⟩
          | some x =>
            have hx := dyD_le hI hB hT ed
            have ea : arV (dyD A (kdA A w) s.2.1 (s.2.2.1 w) (s.2.2.2.1 w)) (nu A (127 + 4 * b)) = nI x := by unfold arV; rw [ed]
            rw [ea]
            dsimp only
            refine pa_if_t (pc' := 103) dX12_lays_98 (by rw [zcond_i]; exact decide_eq_true (by rw [nI_toInt (by omega), show (0 : Int32).toInt = 0 by decide]; omega)) (by decide) ?_
            have s196b := sh_196' B1.2.1.1
            refine pa_aload_n (pc' := 104) dX12_lays_103 rfl rfl ?_
            refine pa_iload (pc' := 106) dX12_lays_104 rfl rfl ?_
            refine pa_aload_n (pc' := 107) dX12_lays_106 rfl rfl ?_
            refine pa_iload_n (pc' := 108) dX12_lays_107 rfl rfl ?_
            refine pa_iconst (v := nI 3) (pc' := 109) dX12_lays_108 (by decide) rfl ?_
            refine pa_callv (pc' := 112) (vs := [.inl (nI b), .inl (nI 3)]) (rest := [.inl (nI x), .inr (.inr (some 196))]) dX12_lays_109 ml_12_262 (by decide) rfl rfl rfl (fun d' _ => M_ofBoxA B1 hb (by omega)) (fun v g9 hq => ?_)
            obtain ⟨ev, eh⟩ := hq
            subst ev
            rw [eh]
            show zPn N none d mX12_lays (112, _, [.inl (vA A (127 + 4 * b + 3)), .inl (nI x), .inr (.inr (some 196))], g1) _
            have eb3 : vA A (127 + 4 * b + 3) = nI (nu A (130 + 4 * b)) := (bv 3 (by decide)).trans (congrArg (fun z => nI (nu A z)) (by omega))
            rw [eb3]
            refine pa_calls (pc' := 115) (kd := 1) (vs := [.inl (nI x), .inl (nI (nu A (130 + 4 * b)))]) (rest := [.inr (.inr (some 196))]) dX12_lays_112 ml_12_355 (.inl rfl) rfl rfl rfl (fun d' _ => M_later (by omega) (by omega)) (fun v g9 hq => ?_)
            obtain ⟨ev, eh⟩ := hq
            subst ev
            rw [eh]
            show zPn N none d mX12_lays (115, _, [.inl (nI (max x (nu A (130 + 4 * b)))), .inr (.inr (some 196))], g1) _
            refine pa_putI (pc' := 118) (n := 39) dX12_lays_115 fl_12_358 s196b (Or.inl rfl) (Or.inl rfl) rfl ?_
            generalize et : max x (nu A (130 + 4 * b)) = tk
            have htk : tk ≤ 700000 := by
              have := Nat.mul_le_mul_left 88722 (show nSn s (cB A) ≤ 7 by omega)
              omega
            have F2 : gF4 h (zsI g1 196 26 (nI tk)) := F1.tr (gF4.st (.inl rfl))
            have B2 := B.fr F2
            have s196c := sh_196' B2.2.1.1
            have q26 : (zsI g1 196 26 (nI tk)).2.1 196 26 = nI tk := zsI_eq
            have arr2 : ∀ d, zPa d mX12_arrivalOf [.inr (.inr (some 196)), .inl (kdA A w), .inl (nI (nu A (127 + 4 * b))), .inl (nI q), .inl (nI tk)] (zsI g1 196 26 (nI tk)) (fun v g => v = some (.inl (arV (dyD A (kdA A w) s.2.1 (nu A (127 + 4 * b)) tk) q)) ∧ gF2 (zsI g1 196 26 (nI tk)) g) := fun d => (M_arrivalOf B2.2.1 hop (dyG_R hI hB hT (kdA A w) s.2.1 (nu A (127 + 4 * b))) (by omega) (by omega) htk).mono (fun v g e => ⟨e.1, e.2.1⟩)
            subst e2
            refine pa_aload_n (pc' := 119) dX12_lays_118 rfl rfl ?_
            refine pa_aload_n (pc' := 120) dX12_lays_119 rfl rfl ?_
            refine pa_iload_n (pc' := 121) dX12_lays_120 rfl rfl ?_
            refine pa_aload_n (pc' := 122) dX12_lays_121 rfl rfl ?_
            refine pa_iload_n (pc' := 123) dX12_lays_122 rfl rfl ?_
            refine pa_iconst (v := nI 0) (pc' := 124) dX12_lays_123 (by decide) rfl ?_
            refine pa_callv (pc' := 127) (vs := [.inl (nI b), .inl (nI 0)]) (rest := [.inl (kdA A w), .inr (.inr (some 196)), .inr (.inr (some 196))]) dX12_lays_124 ml_12_262 (by decide) rfl rfl rfl (fun d' _ => M_ofBoxA B2 hb (by omega)) (fun v g9 hq => ?_)
            obtain ⟨ev, eh⟩ := hq
            subst ev
            rw [eh]
            show zPn N none d mX12_lays (127, _, [.inl (vA A (127 + 4 * b + 0)), .inl (kdA A w), .inr (.inr (some 196)), .inr (.inr (some 196))], zsI g1 196 26 (nI tk)) _
            rw [eb0]
            refine pa_iload (pc' := 129) dX12_lays_127 rfl rfl ?_
            refine pa_aload_n (pc' := 130) dX12_lays_129 rfl rfl ?_
            refine pa_getI (pc' := 133) (n := 39) (v := nI tk) dX12_lays_130 fl_12_358 s196c (by decide) q26 rfl ?_
            refine pa_callv (pc' := 136) (vs := [.inl (kdA A w), .inl (nI (nu A (127 + 4 * b))), .inl (nI q), .inl (nI tk)]) (rest := [.inr (.inr (some 196))]) dX12_lays_133 ml_12_352 (by decide) rfl rfl rfl (fun d' _ => arr2 d') (fun v g3 hq => ?_)
            obtain ⟨ev, eh⟩ := hq
            subst ev
            show zPn N none d mX12_lays (136, _, [.inl (arV (dyD A (kdA A w) s.2.1 (nu A (127 + 4 * b)) tk) q), .inr (.inr (some 196))], g3) _
            have F3 : gF4 h g3 := F2.tr eh.f4
            have B3 := B.fr F3
            have s196d := sh_196' B3.2.1.1
            rw [e3]
            generalize ev : arV (dyD A (kdA A w) s.2.1 (nu A (127 + 4 * b)) tk) q = av
            refine pa_putI (pc' := 139) (n := 39) dX12_lays_136 fl_12_361 s196d (Or.inl rfl) (Or.inl rfl) rfl ?_
            have F4 : gF4 h (zsI g3 196 27 av) := F3.tr (gF4.st (.inr rfl))
            have s196e : zsh (zsI g3 196 27 av) 196 = some (12, 39) := s196d
            have q27 : (zsI g3 196 27 av).2.1 196 27 = av := zsI_eq
            have k26 : (zsI g3 196 27 av).2.1 196 26 = nI tk := by rw [zsI_no (by omega), eh.2.2 196 26 (by decide) (by decide)]; exact q26
            refine pa_aload_n (pc' := 140) dX12_lays_139 rfl rfl ?_
            refine pa_getI (pc' := 143) (n := 39) (v := av) dX12_lays_140 fl_12_361 s196e (by decide) q27 rfl ?_
            cases ed2 : dyD A (kdA A w) s.2.1 (nu A (127 + 4 * b)) tk q with
            | none =>
              have ea2 : av = -2 := by rw [← ev]; unfold arV; rw [ed2]
              refine pa_if_t (pc' := 150) dX12_lays_143 (by rw [ea2]; decide) (by decide) ?_
              refine pa_iconst (v := 0) (pc' := 151) dX12_lays_150 (by decide) rfl ?_
              refine pa_iret dX12_lays_151 rfl rfl ?_
              exact ⟨rfl, F4, fun p e => nomatch e⟩
            | some z2 =>
              have hz := dyD_le hI hB hT ed2
              have ea2 : av = nI z2 := by rw [← ev]; unfold arV; rw [ed2]
              subst ea2
              refine pa_if_f (pc' := 146) dX12_lays_143 (by rw [zcond_i]; exact decide_eq_false (by rw [nI_toInt (by omega), show (0 : Int32).toInt = 0 by decide]; omega)) (by decide) rfl ?_
              refine pa_iconst (v := 1) (pc' := 147) dX12_lays_146 (by decide) rfl ?_
              refine pa_goto (pc' := 151) dX12_lays_147 (by decide) ?_
              refine pa_iret dX12_lays_151 rfl rfl ?_
              exact ⟨rfl, F4, fun p e => by cases e; exact ⟨k26, q27⟩⟩
  show zPn N none d mX12_lays (0, [(0, .inr (.inr (some 196))), (1, .inl (nI w)), (2, .inl (nI b))], [], h) _
  refine pa_aload_n (pc' := 1) dX12_lays_0 rfl rfl ?_
  refine pa_iload_n (pc' := 2) dX12_lays_1 rfl rfl ?_
  refine pa_iconst (v := nI 0) (pc' := 3) dX12_lays_2 (by decide) rfl ?_
  refine pa_callv (pc' := 6) (vs := [.inl (nI w), .inl (nI 0)]) (rest := []) dX12_lays_3 ml_12_271 (by decide) rfl rfl rfl (fun d' _ => M_ofWhale B hw (by omega)) (fun v g9 hq => ?_)
  obtain ⟨ev, eh⟩ := hq
  subst ev
  rw [eh]
  show zPn N none d mX12_lays (6, _, [.inl (vA A (107 + 4 * w + 0))], h) _
  have ek0 : vA A (107 + 4 * w + 0) = kdA A w := rfl
  rw [ek0]
  refine pa_istore_n (pc' := 7) dX12_lays_6 (by decide) rfl rfl ?_
  refine pa_iload_n (pc' := 8) dX12_lays_7 rfl rfl ?_
  have kn : ∀ j : Nat, j < 4 → (kdA A w = nI j ↔ (kdA A w).toInt = j) := fun j hj => ⟨fun e => by rw [e, nI_toInt (by omega)], fun e => Int32.toInt_inj.mp (by rw [e, nI_toInt (by omega)])⟩
  by_cases z0 : (kdA A w).toInt = 0
  · have e0 : kdA A w = 0 := (kn 0 (by decide)).mpr z0
    refine pa_if_f (pc' := 11) dX12_lays_8 (decide_eq_false (not_not_intro e0)) (by decide) rfl ?_
    refine pa_iconst (v := 3) (pc' := 12) dX12_lays_11 (by decide) rfl ?_
    refine pa_goto (pc' := 27) dX12_lays_12 (by decide) ?_
    refine rest 3 ?_
    rw [capk, if_pos (by omega)]
  · have e0 : ¬ kdA A w = 0 := fun e => z0 ((kn 0 (by decide)).mp e)
    refine pa_if_t (pc' := 15) dX12_lays_8 (decide_eq_true e0) (by decide) ?_
    refine pa_iload_n (pc' := 16) dX12_lays_15 rfl rfl ?_
    refine pa_iconst (v := 2) (pc' := 17) dX12_lays_16 (by decide) rfl ?_
    by_cases z2 : (kdA A w).toInt = 2
    · have e2 : kdA A w = 2 := (kn 2 (by decide)).mpr z2
      refine pa_icmp_f (pc' := 20) dX12_lays_17 (decide_eq_false (not_not_intro e2)) (by decide) rfl ?_
      refine pa_bipush (v := 99) (pc' := 22) dX12_lays_20 (by decide) rfl ?_
      refine pa_goto (pc' := 27) dX12_lays_22 (by decide) ?_
      refine rest 99 ?_
      rw [capk, if_neg (by omega), if_pos (by omega)]
    · have e2 : ¬ kdA A w = 2 := fun e => z2 ((kn 2 (by decide)).mp e)
      refine pa_icmp_t (pc' := 25) dX12_lays_17 (decide_eq_true e2) (by decide) ?_
      refine pa_bipush (v := 9) (pc' := 27) dX12_lays_25 (by decide) rfl ?_
      refine rest 9 ?_
      rw [capk, if_neg (by omega), if_neg (by omega)]
theorem M_bringsOf (B : bgM A s h) (hw : w < cH A) (hb : b < cB A) : zPa d mX12_bringsOf [.inr (.inr (some 196)), .inl (nI w), .inl (nI b)] h (fun v g => v = some (.inl (brR A w (brV A s w b))) ∧ gF4 h g) := by
  intro N
  obtain ⟨-, -, kp9, -, wv⟩ := num_whale B.1.1 B.1.2.2.1 B.1.2.1 hw
  show zPn N none d mX12_bringsOf (0, [(0, .inr (.inr (some 196))), (1, .inl (nI w)), (2, .inl (nI b))], [], h) _
  refine pa_aload_n (pc' := 1) dX12_bringsOf_0 rfl rfl ?_
  refine pa_iload_n (pc' := 2) dX12_bringsOf_1 rfl rfl ?_
  refine pa_iload_n (pc' := 3) dX12_bringsOf_2 rfl rfl ?_
  refine pa_callv (pc' := 6) (vs := [.inl (nI w), .inl (nI b)]) (rest := []) dX12_bringsOf_3 ml_12_364 (by decide) rfl rfl rfl (fun d' _ => M_lays B hw hb) (fun v g1 hq => ?_)
  obtain ⟨ev, eh⟩ := hq
  subst ev
  show zPn N none d mX12_bringsOf (6, _, [.inl (match brV A s w b with | some _ => 1 | none => 0)], g1) _
  obtain ⟨F1, K1⟩ := eh
  have B1 := B.fr F1
  cases o : brV A s w b with
  | none =>
    refine pa_if_t (pc' := 23) dX12_bringsOf_6 (by decide) (by decide) ?_
    refine pa_bipush (v := (-2)) (pc' := 25) dX12_bringsOf_23 (by decide) rfl ?_
    refine pa_iret dX12_bringsOf_25 rfl rfl ?_
    exact ⟨rfl, F1⟩
  | some p =>
    have s196b := sh_196' B1.2.1.1
    have q27 := (K1 p o).2
    refine pa_if_f (pc' := 9) dX12_bringsOf_6 (show zcond .eq (1 : Int32) 0 = false by decide) (by decide) rfl ?_
    refine pa_aload_n (pc' := 10) dX12_bringsOf_9 rfl rfl ?_
    refine pa_getI (pc' := 13) (n := 39) (v := nI p.2.1) dX12_bringsOf_10 fl_12_361 s196b (by decide) q27 rfl ?_
    refine pa_aload_n (pc' := 14) dX12_bringsOf_13 rfl rfl ?_
    refine pa_iload_n (pc' := 15) dX12_bringsOf_14 rfl rfl ?_
    refine pa_iconst (v := nI 2) (pc' := 16) dX12_bringsOf_15 (by decide) rfl ?_
    refine pa_callv (pc' := 19) (vs := [.inl (nI w), .inl (nI 2)]) (rest := [.inl (nI p.2.1)]) dX12_bringsOf_16 ml_12_271 (by decide) rfl rfl rfl (fun d' _ => M_ofWhale B1 hw (by omega)) (fun v g9 hq => ?_)
    obtain ⟨ev, eh⟩ := hq
    subst ev
    rw [eh]
    show zPn N none d mX12_bringsOf (19, _, [.inl (vA A (107 + 4 * w + 2)), .inl (nI p.2.1)], g1) _
    have e2 : vA A (107 + 4 * w + 2) = nI (nu A (109 + 4 * w)) := (wv 2 (by decide)).trans (congrArg (fun z => nI (nu A z)) (by omega))
    rw [e2]
    refine pa_iadd (pc' := 20) (v := nI (p.2.1 + (nu A (109 + 4 * w)))) dX12_bringsOf_19 (nI_add _ _) rfl ?_
    refine pa_goto (pc' := 25) dX12_bringsOf_20 (by decide) ?_
    refine pa_iret dX12_bringsOf_25 rfl rfl ?_
    exact ⟨rfl, F1⟩
end BRM
/-! the class: a state is copied, kept, taken back -/
section CPY
variable {N : Nat} {scr : Option (Nat × (Nat → Int32))} {d : Nat} {m : zM} {pc pc' : Nat} {ls : zL} {st : List zV} {h : zH} {Q : Option zV → zH → Prop}
theorem pa_cpy {k na a b n n0 n1 : Nat} {cm : zM} (hd : decode m.1 pc = .ok (.invokestatic k, 3)) (hz : zmth m.2.1 k = some (14, na, cm)) (_ : 0 ≤ n) (hn : n ≤ 2147483647) (hb : zsh h b = some (14, n0)) (ha : zsh h a = some (14, n1)) (hp : pc + 3 = pc') (kk : zPn N scr d m (pc', ls, st, zsRow h a (fun j => if j < n then h.2.1 b j else h.2.1 a j)) Q) : zPn N scr d m (pc, ls, .inl (nI n) :: .inl (nI 0) :: .inr (.inr (some a)) :: .inl (nI 0) :: .inr (.inr (some b)) :: st, h) Q := by
  subst hp
  have hrow : va_cpy (h.2.1 b) (h.2.1 a) 0 0 n = fun j => if j < n then h.2.1 b j else h.2.1 a j := by
    funext j
    by_cases q : j < n
    · rw [pk_cpy_in (Nat.zero_le _) (by omega), if_pos q]; simp
    · rw [pk_cpy_out (by omega), if_neg q]
  have c0 : (nI 0).toNatClampNeg = 0 := nI_clamp (by omega)
  have cn : (nI n).toNatClampNeg = n := nI_clamp (by omega)
  refine pa_may (C := True) hd (Or.inr rfl) (fun call x hq => ?_) (fun _ => kk)
  simp only [zexec, hz] at hq
  rw [if_neg (by decide), if_neg (by decide), if_neg (by decide)] at hq
  unfold zprim at hq
  split at hq
  · rw [if_neg (by decide), if_neg (by decide), if_neg (by decide), if_neg (by decide), if_pos rfl] at hq
    unfold zcopy at hq
    simp only [hb, ha] at hq
    split at hq
    · rw [c0, cn, hrow] at hq
      cases hq
      exact ⟨trivial, rfl⟩
    · cases hq
  · cases hq
theorem pa_mn {k na : Nat} {cm : zM} {x y v : Int32} (hd : decode m.1 pc = .ok (.invokestatic k, 3)) (hz : zmth m.2.1 k = some (12, na, cm)) (hv : (if y < x then y else x) = v) (hp : pc + 3 = pc') (kk : zPn N scr d m (pc', ls, .inl v :: st, h) Q) : zPn N scr d m (pc, ls, .inl y :: .inl x :: st, h) Q := by
  subst hp; subst hv
  refine pa_may (C := True) hd (Or.inr rfl) (fun call x' hq => ?_) (fun _ => kk)
  simp only [zexec, hz] at hq
  rw [if_neg (by decide), if_neg (by decide), if_neg (by decide)] at hq
  unfold zprim at hq
  split at hq
  · rw [if_neg (by decide), if_neg (by decide), if_pos rfl] at hq
    simp only at hq
    split at hq
    · cases hq
      exact ⟨trivial, rfl⟩
    · cases hq
  · cases hq
end CPY
theorem nI_min {x y : Nat} (hx : x ≤ 2147483647) (hy : y ≤ 2147483647) : (if nI y < nI x then nI y else nI x) = nI (min x y) := by
  by_cases z : y < x
  · rw [if_pos (lt_i.mpr (by rw [nI_toInt (by omega), nI_toInt (by omega)]; omega)), Nat.min_eq_right (by omega)]
  · rw [if_neg (fun q => by have := lt_i.mp q; rw [nI_toInt (by omega), nI_toInt (by omega)] at this; omega), Nat.min_eq_left (by omega)]
/-- state object at p copied into state object at q -/
def cpI (I : Nat → Nat → Int32) (q p b k : Nat) : Int32 := if b = q then (if k < 2 then I p k else I q k) else if b = q + 1 then (if k < 5 then I (p + 1) k else I (q + 1) k) else if b = q + 2 then (if k < 5 then I (p + 2) k else I (q + 2) k) else if b = q + 3 then (if k < 8 then I (p + 3) k else I (q + 3) k) else if b = q + 4 then (if k < 8 then I (p + 4) k else I (q + 4) k) else if b = q + 5 then (if k < 8 then I (p + 5) k else I (q + 5) k) else I b k
def nwO (q : Nat) (h : zH) : Prop := (zsh h q = some (2, 7) ∧ zsh h (q + 1) = some (14, 5) ∧ zsh h (q + 2) = some (14, 5) ∧ zsh h (q + 3) = some (14, 8) ∧ zsh h (q + 4) = some (14, 8) ∧ zsh h (q + 5) = some (14, 8)) ∧ h.2.2.2.1 q 2 = some (q + 1) ∧ h.2.2.2.1 q 3 = some (q + 2) ∧ h.2.2.2.1 q 4 = some (q + 3) ∧ h.2.2.2.1 q 5 = some (q + 4) ∧ h.2.2.2.1 q 6 = some (q + 5)
section CPF
variable {d N q p b k : Nat} {h g : zH} {A : pA} {s : nS} {I : Nat → Nat → Int32}
theorem cpI0 (e : k < 2) : cpI I q p q k = I p k := by
  unfold cpI
  rw [if_pos rfl, if_pos e]
theorem cpI1 (e : k < 5) : cpI I q p (q + 1) k = I (p + 1) k := by
  unfold cpI
  rw [if_neg (by omega), if_pos rfl, if_pos e]
theorem cpI2 (e : k < 5) : cpI I q p (q + 2) k = I (p + 2) k := by
  unfold cpI
  rw [if_neg (by omega), if_neg (by omega), if_pos rfl, if_pos e]
theorem cpI3 (e : k < 8) : cpI I q p (q + 3) k = I (p + 3) k := by
  unfold cpI
  rw [if_neg (by omega), if_neg (by omega), if_neg (by omega), if_pos rfl, if_pos e]
theorem cpI4 (e : k < 8) : cpI I q p (q + 4) k = I (p + 4) k := by
  unfold cpI
  rw [if_neg (by omega), if_neg (by omega), if_neg (by omega), if_neg (by omega), if_pos rfl, if_pos e]
theorem cpI5 (e : k < 8) : cpI I q p (q + 5) k = I (p + 5) k := by
  unfold cpI
  rw [if_neg (by omega), if_neg (by omega), if_neg (by omega), if_neg (by omega), if_neg (by omega), if_pos rfl, if_pos e]
theorem cpIo (e : b < q ∨ q + 5 < b) : cpI I q p b k = I b k := by
  unfold cpI
  rw [if_neg (by omega), if_neg (by omega), if_neg (by omega), if_neg (by omega), if_neg (by omega), if_neg (by omega)]
theorem nC.cp (b3 : cH A ≤ 5) (b4 : cB A ≤ 8) (e : ∀ b k, g.2.1 b k = cpI h.2.1 q p b k) (n : nC A s p h) : nC A s q g := by
  obtain ⟨n1, n2, n3, n4⟩ := n
  refine ⟨by rw [e, cpI0 (by decide)]; exact n1, by rw [e, cpI0 (by decide)]; exact n2, fun w hw => ⟨?_, ?_⟩, fun b hb => ⟨?_, ?_, ?_⟩⟩
  · rw [e, cpI1 (by omega)]; exact (n3 w hw).1
  · rw [e, cpI2 (by omega)]; exact (n3 w hw).2
  · rw [e, cpI3 (by omega)]; exact (n4 b hb).1
  · rw [e, cpI4 (by omega)]; exact (n4 b hb).2.1
  · rw [e, cpI5 (by omega)]; exact (n4 b hb).2.2
theorem nC.fr (e : ∀ b k, q ≤ b → b ≤ q + 5 → g.2.1 b k = h.2.1 b k) (n : nC A s q h) : nC A s q g := by
  obtain ⟨n1, n2, n3, n4⟩ := n
  refine ⟨by rw [e _ _ (by omega) (by omega)]; exact n1, by rw [e _ _ (by omega) (by omega)]; exact n2, fun w hw => ?_, fun b hb => ?_⟩
  · rw [e _ _ (by omega) (by omega), e _ _ (by omega) (by omega)]; exact n3 w hw
  · rw [e _ _ (by omega) (by omega), e _ _ (by omega) (by omega), e _ _ (by omega) (by omega)]; exact n4 b hb
theorem N_copyFrom (hq : nwO q h) (hp : nwO p h) (hd : p + 6 ≤ q ∨ q + 6 ≤ p) : zPa d mX2_copyFrom [.inr (.inr (some q)), .inr (.inr (some p))] h (fun v g => v = none ∧ g.1 = h.1 ∧ g.2.2 = h.2.2 ∧ ∀ b k, g.2.1 b k = cpI h.2.1 q p b k) := by
  intro N
  obtain ⟨⟨z0, z1, z2, z3, z4, z5⟩, r1, r2, r3, r4, r5⟩ := hq
  obtain ⟨⟨y0, y1, y2, y3, y4, y5⟩, t1, t2, t3, t4, t5⟩ := hp
  show zPn N none d mX2_copyFrom (0, [(0, .inr (.inr (some q))), (1, .inr (.inr (some p)))], [], h) _
  refine pa_aload_n (pc' := 1) dX2_copyFrom_0 rfl rfl ?_
  refine pa_aload_n (pc' := 2) dX2_copyFrom_1 rfl rfl ?_
  refine pa_getI (pc' := 5) (n := 7) (v := h.2.1 p 0) dX2_copyFrom_2 fl_2_9 y0 (by decide) rfl rfl ?_
  refine pa_putI (pc' := 8) (n := 7) dX2_copyFrom_5 fl_2_9 z0 (Or.inl rfl) (Or.inl rfl) rfl ?_
  refine pa_aload_n (pc' := 9) dX2_copyFrom_8 rfl rfl ?_
  refine pa_aload_n (pc' := 10) dX2_copyFrom_9 rfl rfl ?_
  refine pa_getI (pc' := 13) (n := 7) (v := (zsI h q 0 (h.2.1 p 0)).2.1 p 1) dX2_copyFrom_10 fl_2_15 y0 (by decide) rfl rfl ?_
  refine pa_putI (pc' := 16) (n := 7) dX2_copyFrom_13 fl_2_15 z0 (Or.inl rfl) (Or.inl rfl) rfl ?_
  refine pa_aload_n (pc' := 17) dX2_copyFrom_16 rfl rfl ?_
  refine pa_getR (pc' := 20) (n := 7) (r := p + 1) dX2_copyFrom_17 fl_2_18 y0 (by decide) t1 rfl ?_
  refine pa_iconst (v := nI 0) (pc' := 21) dX2_copyFrom_20 (by decide) rfl ?_
  refine pa_aload_n (pc' := 22) dX2_copyFrom_21 rfl rfl ?_
  refine pa_getR (pc' := 25) (n := 7) (r := q + 1) dX2_copyFrom_22 fl_2_18 z0 (by decide) r1 rfl ?_
  refine pa_iconst (v := nI 0) (pc' := 26) dX2_copyFrom_25 (by decide) rfl ?_
  refine pa_iconst (v := nI 5) (pc' := 27) dX2_copyFrom_26 (by decide) rfl ?_
  refine pa_cpy (pc' := 30) dX2_copyFrom_27 ml_2_63 (by decide) (by omega) y1 z1 rfl ?_
  refine pa_aload_n (pc' := 31) dX2_copyFrom_30 rfl rfl ?_
  refine pa_getR (pc' := 34) (n := 7) (r := p + 2) dX2_copyFrom_31 fl_2_22 y0 (by decide) t2 rfl ?_
  refine pa_iconst (v := nI 0) (pc' := 35) dX2_copyFrom_34 (by decide) rfl ?_
  refine pa_aload_n (pc' := 36) dX2_copyFrom_35 rfl rfl ?_
  refine pa_getR (pc' := 39) (n := 7) (r := q + 2) dX2_copyFrom_36 fl_2_22 z0 (by decide) r2 rfl ?_
  refine pa_iconst (v := nI 0) (pc' := 40) dX2_copyFrom_39 (by decide) rfl ?_
  refine pa_iconst (v := nI 5) (pc' := 41) dX2_copyFrom_40 (by decide) rfl ?_
  refine pa_cpy (pc' := 44) dX2_copyFrom_41 ml_2_63 (by decide) (by omega) y2 z2 rfl ?_
  refine pa_aload_n (pc' := 45) dX2_copyFrom_44 rfl rfl ?_
  refine pa_getR (pc' := 48) (n := 7) (r := p + 3) dX2_copyFrom_45 fl_2_25 y0 (by decide) t3 rfl ?_
  refine pa_iconst (v := nI 0) (pc' := 49) dX2_copyFrom_48 (by decide) rfl ?_
  refine pa_aload_n (pc' := 50) dX2_copyFrom_49 rfl rfl ?_
  refine pa_getR (pc' := 53) (n := 7) (r := q + 3) dX2_copyFrom_50 fl_2_25 z0 (by decide) r3 rfl ?_
  refine pa_iconst (v := nI 0) (pc' := 54) dX2_copyFrom_53 (by decide) rfl ?_
  refine pa_bipush (v := nI 8) (pc' := 56) dX2_copyFrom_54 (by decide) rfl ?_
  refine pa_cpy (pc' := 59) dX2_copyFrom_56 ml_2_63 (by decide) (by omega) y3 z3 rfl ?_
  refine pa_aload_n (pc' := 60) dX2_copyFrom_59 rfl rfl ?_
  refine pa_getR (pc' := 63) (n := 7) (r := p + 4) dX2_copyFrom_60 fl_2_28 y0 (by decide) t4 rfl ?_
  refine pa_iconst (v := nI 0) (pc' := 64) dX2_copyFrom_63 (by decide) rfl ?_
  refine pa_aload_n (pc' := 65) dX2_copyFrom_64 rfl rfl ?_
  refine pa_getR (pc' := 68) (n := 7) (r := q + 4) dX2_copyFrom_65 fl_2_28 z0 (by decide) r4 rfl ?_
  refine pa_iconst (v := nI 0) (pc' := 69) dX2_copyFrom_68 (by decide) rfl ?_
  refine pa_bipush (v := nI 8) (pc' := 71) dX2_copyFrom_69 (by decide) rfl ?_
  refine pa_cpy (pc' := 74) dX2_copyFrom_71 ml_2_63 (by decide) (by omega) y4 z4 rfl ?_
  refine pa_aload_n (pc' := 75) dX2_copyFrom_74 rfl rfl ?_
  refine pa_getR (pc' := 78) (n := 7) (r := p + 5) dX2_copyFrom_75 fl_2_31 y0 (by decide) t5 rfl ?_
  refine pa_iconst (v := nI 0) (pc' := 79) dX2_copyFrom_78 (by decide) rfl ?_
  refine pa_aload_n (pc' := 80) dX2_copyFrom_79 rfl rfl ?_
  refine pa_getR (pc' := 83) (n := 7) (r := q + 5) dX2_copyFrom_80 fl_2_31 z0 (by decide) r5 rfl ?_
  refine pa_iconst (v := nI 0) (pc' := 84) dX2_copyFrom_83 (by decide) rfl ?_
  refine pa_bipush (v := nI 8) (pc' := 86) dX2_copyFrom_84 (by decide) rfl ?_
  refine pa_cpy (pc' := 89) dX2_copyFrom_86 ml_2_63 (by decide) (by omega) y5 z5 rfl ?_
  refine pa_vret dX2_copyFrom_89 rfl ?_
  refine ⟨rfl, rfl, rfl, fun b k => ?_⟩
  dsimp only [zsRow, zsI, zrow, zup, cpI]
  have ck : k = 0 ∨ k = 1 ∨ (2 ≤ k ∧ k < 5) ∨ (5 ≤ k ∧ k < 8) ∨ 8 ≤ k := by omega
  have cb : b = q ∨ b = q + 1 ∨ b = q + 2 ∨ b = q + 3 ∨ b = q + 4 ∨ b = q + 5 ∨ (b < q ∨ q + 5 < b) := by omega
  rcases cb with rfl | rfl | rfl | rfl | rfl | rfl | cb <;> rcases ck with rfl | rfl | ck | ck | ck <;> (repeat (first | rw [if_pos (by omega)] | rw [if_neg (by omega)]))
end CPF
/-- the class's history (newest first) and images -/
def hiC (A : pA) (H : List nS) (h : zH) : Prop := ∃ nw, nw < 12 ∧ h.2.1 0 12 = nI nw ∧ h.2.1 0 13 = nI H.length ∧ H.length ≤ 12 ∧ ∀ k t, H[k]? = some t → nC A t (106 + 6 * ((nw + 12 - k) % 12)) h
def imC (A : pA) (J : List nS) (h : zH) : Prop := h.2.1 0 15 = nI J.length ∧ J.length ≤ 3 ∧ ∀ k t, J[k]? = some t → nC A t (178 + 6 * k) h
/-- the object at q has its arrays -/
def nwR (q : Nat) (h : zH) : Prop := h.2.2.2.1 q 2 = some (q + 1) ∧ h.2.2.2.1 q 3 = some (q + 2) ∧ h.2.2.2.1 q 4 = some (q + 3) ∧ h.2.2.2.1 q 5 = some (q + 4) ∧ h.2.2.2.1 q 6 = some (q + 5)
/-- what stands -/
def nwS (h : zH) : Prop := h.1 = hh_487.1 ∧ h.2.2.2.1 0 6 = some 86 ∧ h.2.2.2.1 0 11 = some 104 ∧ h.2.2.2.1 0 14 = some 105 ∧ (∀ k, k < 12 → h.2.2.2.1 104 k = some (106 + 6 * k)) ∧ (∀ k, k < 3 → h.2.2.2.1 105 k = some (178 + 6 * k)) ∧ nwR 86 h ∧ (∀ k, k < 12 → nwR (106 + 6 * k) h) ∧ ∀ k, k < 3 → nwR (178 + 6 * k) h
/-- all of it: now, history, images -/
def lNC (A : pA) (s : nS) (H J : List nS) (h : zH) : Prop := nC A s 86 h ∧ hiC A H h ∧ imC A J h
/-- what is left alone: all but now, history, images and their numbers -/
def nwF (h g : zH) : Prop := g.1 = h.1 ∧ g.2.2 = h.2.2 ∧ (∀ k, k ≠ 2 → k ≠ 12 → k ≠ 13 → k ≠ 15 → g.2.1 0 k = h.2.1 0 k) ∧ ∀ b k, b ≠ 0 → ¬ (86 ≤ b ∧ b ≤ 91) → ¬ (106 ≤ b ∧ b ≤ 195) → g.2.1 b k = h.2.1 b k
section NWC
variable {d N q p b k : Nat} {h g : zH} {A : pA} {s : nS} {H J : List nS}
theorem nwS.fr (S : nwS h) (e1 : g.1 = h.1) (e2 : g.2.2 = h.2.2) : nwS g := by
  unfold nwS nwR at S ⊢
  rw [e1, e2]
  exact S
theorem nwS.o86 (S : nwS h) : nwO 86 h := by
  obtain ⟨h1, -, -, -, -, -, r, -⟩ := S
  exact ⟨⟨zsh_by h1 (by decide +kernel), zsh_by h1 (by decide +kernel), zsh_by h1 (by decide +kernel), zsh_by h1 (by decide +kernel), zsh_by h1 (by decide +kernel), zsh_by h1 (by decide +kernel)⟩, r⟩
theorem nwS.oH (S : nwS h) (hk : k < 12) : nwO (106 + 6 * k) h := by
  obtain ⟨h1, -, -, -, -, -, -, r, -⟩ := S
  have key : ∀ k, k < 12 → zsh hh_487 (106 + 6 * k) = some (2, 7) ∧ zsh hh_487 (106 + 6 * k + 1) = some (14, 5) ∧ zsh hh_487 (106 + 6 * k + 2) = some (14, 5) ∧ zsh hh_487 (106 + 6 * k + 3) = some (14, 8) ∧ zsh hh_487 (106 + 6 * k + 4) = some (14, 8) ∧ zsh hh_487 (106 + 6 * k + 5) = some (14, 8) := by decide +kernel
  obtain ⟨a0, a1, a2, a3, a4, a5⟩ := key k hk
  exact ⟨⟨zsh_by h1 a0, zsh_by h1 a1, zsh_by h1 a2, zsh_by h1 a3, zsh_by h1 a4, zsh_by h1 a5⟩, r k hk⟩
theorem nwS.oI (S : nwS h) (hk : k < 3) : nwO (178 + 6 * k) h := by
  obtain ⟨h1, -, -, -, -, -, -, -, r⟩ := S
  have key : ∀ k, k < 3 → zsh hh_487 (178 + 6 * k) = some (2, 7) ∧ zsh hh_487 (178 + 6 * k + 1) = some (14, 5) ∧ zsh hh_487 (178 + 6 * k + 2) = some (14, 5) ∧ zsh hh_487 (178 + 6 * k + 3) = some (14, 8) ∧ zsh hh_487 (178 + 6 * k + 4) = some (14, 8) ∧ zsh hh_487 (178 + 6 * k + 5) = some (14, 8) := by decide +kernel
  obtain ⟨a0, a1, a2, a3, a4, a5⟩ := key k hk
  exact ⟨⟨zsh_by h1 a0, zsh_by h1 a1, zsh_by h1 a2, zsh_by h1 a3, zsh_by h1 a4, zsh_by h1 a5⟩, r k hk⟩
theorem nwF.rf : nwF h h := ⟨rfl, rfl, fun _ _ _ _ _ => rfl, fun _ _ _ _ _ => rfl⟩
theorem nwF.tr {f : zH} (a : nwF h g) (b : nwF g f) : nwF h f := ⟨b.1.trans a.1, b.2.1.trans a.2.1, fun k e0 e1 e2 e3 => (b.2.2.1 k e0 e1 e2 e3).trans (a.2.2.1 k e0 e1 e2 e3), fun c k e1 e2 e3 => (b.2.2.2 c k e1 e2 e3).trans (a.2.2.2 c k e1 e2 e3)⟩
/-- kept for undoing -/
theorem N_keep (S : nwS h) (b3 : cH A ≤ 5) (b4 : cB A ≤ 8) (L : lNC A s H J h) : zPa d mX11_keepForUndo [.inr (.inr (some 0))] h (fun v g => v = none ∧ lNC A s ((s :: H).take 12) J g ∧ nwF h g) := by
  intro N
  have s0 : zsh h 0 = some (11, 16) := zsh_by S.1 (by decide +kernel)
  have s104 : zsh h 104 = some (17, 12) := zsh_by S.1 (by decide +kernel)
  obtain ⟨L1, ⟨nw, hn, e12, e13, hl, hh⟩, j1, j2, j3⟩ := L
  have r6 := S.2.1
  have r11 := S.2.2.1
  have hq : (nw + 1) % 12 < 12 := Nat.mod_lt _ (by decide)
  have rq := S.2.2.2.2.1 ((nw + 1) % 12) hq
  have oq := S.oH hq
  have o86 := S.o86
  show zPn N none d mX11_keepForUndo (0, [(0, .inr (.inr (some 0)))], [], h) _
  refine pa_aload_n (pc' := 1) dX11_keepForUndo_0 rfl rfl ?_
  refine pa_aload_n (pc' := 2) dX11_keepForUndo_1 rfl rfl ?_
  refine pa_getI (pc' := 5) (n := 16) (v := nI nw) dX11_keepForUndo_2 fl_11_82 s0 (by decide) e12 rfl ?_
  refine pa_iconst (v := nI 1) (pc' := 6) dX11_keepForUndo_5 (by decide) rfl ?_
  refine pa_iadd (pc' := 7) (v := nI (nw + 1)) dX11_keepForUndo_6 (nI_add _ _) rfl ?_
  refine pa_bipush (v := nI 12) (pc' := 9) dX11_keepForUndo_7 (by decide) rfl ?_
  refine pa_irem (pc' := 10) (v := nI ((nw + 1) % 12)) dX11_keepForUndo_9 (by decide) (nI_rem (by omega) (by omega)) rfl ?_
  refine pa_putI (pc' := 13) (n := 16) dX11_keepForUndo_10 fl_11_82 s0 (Or.inl rfl) (Or.inl rfl) rfl ?_
  refine pa_aload_n (pc' := 14) dX11_keepForUndo_13 rfl rfl ?_
  refine pa_getR (pc' := 17) (n := 16) (r := 104) dX11_keepForUndo_14 fl_11_78 s0 (by decide) r11 rfl ?_
  refine pa_aload_n (pc' := 18) dX11_keepForUndo_17 rfl rfl ?_
  refine pa_getI (pc' := 21) (n := 16) (v := nI ((nw + 1) % 12)) dX11_keepForUndo_18 fl_11_82 s0 (by decide) rfl rfl ?_
  refine pa_aald (pc' := 22) (r := 106 + 6 * ((nw + 1) % 12)) dX11_keepForUndo_21 s104 (by decide) (zn_in (by omega) (by omega)) (by rw [nI_clamp (by omega)]; exact rq) rfl ?_
  refine pa_aload_n (pc' := 23) dX11_keepForUndo_22 rfl rfl ?_
  refine pa_getR (pc' := 26) (n := 16) (r := 86) dX11_keepForUndo_23 fl_11_42 s0 (by decide) r6 rfl ?_
  refine pa_callv (pc' := 29) (vs := [.inr (.inr (some 86))]) (rest := []) dX11_keepForUndo_26 ml_11_359 (by decide) rfl rfl rfl (fun d' _ => (N_copyFrom oq o86 (by omega))) (fun v g hq => ?_)
  obtain ⟨ev, eh⟩ := hq
  subst ev
  show zPn N none d mX11_keepForUndo (29, _, [], g) _
  obtain ⟨g1, g2, e⟩ := eh
  have t0 : zsh g 0 = some (11, 16) := by unfold zsh; rw [g1]; exact s0
  have er : ∀ b k, g.2.2.2.1 b k = h.2.2.2.1 b k := fun b k => by rw [g2]; rfl
  have f13 : g.2.1 0 13 = nI H.length := by rw [e, cpIo (by omega)]; exact e13
  refine pa_aload_n (pc' := 30) dX11_keepForUndo_29 rfl rfl ?_
  refine pa_aload_n (pc' := 31) dX11_keepForUndo_30 rfl rfl ?_
  refine pa_getI (pc' := 34) (n := 16) (v := nI H.length) dX11_keepForUndo_31 fl_11_85 t0 (by decide) f13 rfl ?_
  refine pa_iconst (v := nI 1) (pc' := 35) dX11_keepForUndo_34 (by decide) rfl ?_
  refine pa_iadd (pc' := 36) (v := nI (H.length + 1)) dX11_keepForUndo_35 (nI_add _ _) rfl ?_
  refine pa_bipush (v := nI 12) (pc' := 38) dX11_keepForUndo_36 (by decide) rfl ?_
  refine pa_mn (pc' := 41) dX11_keepForUndo_38 ml_11_394 (nI_min (by omega) (by omega)) rfl ?_
  refine pa_putI (pc' := 44) (n := 16) dX11_keepForUndo_41 fl_11_85 t0 (Or.inl rfl) (Or.inl rfl) rfl ?_
  refine pa_vret dX11_keepForUndo_44 rfl ?_
  have hI : ∀ b k, (zsI g 0 13 (nI (min (H.length + 1) 12))).2.1 b k = if b = 0 ∧ k = 13 then nI (min (H.length + 1) 12) else g.2.1 b k := fun b k => by
    show (if b = 0 then (if k = 13 then _ else g.2.1 b k) else g.2.1 b k) = _
    by_cases z : b = 0
    · by_cases y : k = 13
      · rw [if_pos z, if_pos y, if_pos ⟨z, y⟩]
      · rw [if_pos z, if_neg y, if_neg (fun q => y q.2)]
    · rw [if_neg z, if_neg (fun q => z q.1)]
  have hz : ∀ b k, (zsI h 0 12 (nI ((nw + 1) % 12))).2.1 b k = if b = 0 ∧ k = 12 then nI ((nw + 1) % 12) else h.2.1 b k := fun b k => by
    show (if b = 0 then (if k = 12 then _ else h.2.1 b k) else h.2.1 b k) = _
    by_cases z : b = 0
    · by_cases y : k = 12
      · rw [if_pos z, if_pos y, if_pos ⟨z, y⟩]
      · rw [if_pos z, if_neg y, if_neg (fun q => y q.2)]
    · rw [if_neg z, if_neg (fun q => z q.1)]
  have out : ∀ b k, b ≠ 0 → (b < 106 + 6 * ((nw + 1) % 12) ∨ 106 + 6 * ((nw + 1) % 12) + 5 < b) → (zsI g 0 13 (nI (min (H.length + 1) 12))).2.1 b k = h.2.1 b k := fun b k z w => by
    rw [hI, if_neg (fun q => z q.1), e, cpIo w, hz, if_neg (fun q => z q.1)]
  have L0 : nC A s 86 (zsI h 0 12 (nI ((nw + 1) % 12))) := L1.fr (fun b k w1 w2 => by rw [hz, if_neg (by omega)])
  have Lq : nC A s (106 + 6 * ((nw + 1) % 12)) (zsI g 0 13 (nI (min (H.length + 1) 12))) := (nC.cp b3 b4 e L0).fr (fun b k w1 w2 => by rw [hI, if_neg (by omega)])
  refine ⟨rfl, ⟨L1.fr (fun b k w1 w2 => out b k (by omega) (by omega)), ⟨(nw + 1) % 12, hq, ?_, ?_, ?_, fun k t hk => ?_⟩, ?_, j2, fun k t hk => ?_⟩, g1, g2, fun k w0 w1 w2 w3 => ?_, fun b k w1 w2 w3 => out b k w1 (by omega)⟩
  · rw [hI, if_neg (by omega), e, cpIo (by omega), hz, if_pos ⟨rfl, rfl⟩]
  · rw [hI, if_pos ⟨rfl, rfl⟩]
    congr 1
    rw [List.length_take, List.length_cons]
    exact Nat.min_comm _ _
  · rw [List.length_take]
    exact Nat.min_le_left _ _
  · rw [List.getElem?_take] at hk
    by_cases k12 : k < 12
    · rw [if_pos k12] at hk
      cases k with
      | zero =>
        cases hk
        rw [show ((nw + 1) % 12 + 12 - 0) % 12 = (nw + 1) % 12 by omega]
        exact Lq
      | succ k =>
        have := hh k t hk
        rw [show ((nw + 1) % 12 + 12 - (k + 1)) % 12 = (nw + 12 - k) % 12 by omega]
        exact this.fr (fun b j w1 w2 => out b j (by omega) (by omega))
    · rw [if_neg k12] at hk
      cases hk
  · rw [hI, if_neg (by omega), e, cpIo (by omega), hz, if_neg (by omega)]
    exact j1
  · have kl : k < J.length := (List.getElem?_eq_some_iff.mp hk).1
    exact (j3 k t hk).fr (fun b j w1 w2 => out b j (by omega) (by omega))
  · rw [hI, if_neg (by omega), e, cpIo (by omega), hz, if_neg (by omega)]
end NWC
/-! the class: undo, image, back -/
section UIB
variable {d N q p b k : Nat} {h g : zH} {A : pA} {s : nS} {H J : List nS}
theorem c_hRe {k : Int32} (s0 : zsh h 0 = some (11, 16)) : zPa d mX11_hasRefused [.inr (.inr (some 0)), .inl k] h (fun v h' => v = some (.inl 0) ∧ h' = zsI h 0 2 k) := by
  intro N
  show zPn N none d mX11_hasRefused (0, [(0, .inr (.inr (some 0))), (1, .inl k)], [], h) _
  refine pa_aload_n (pc' := 1) dX11_hasRefused_0 rfl rfl ?_
  refine pa_iload_n (pc' := 2) dX11_hasRefused_1 rfl rfl ?_
  refine pa_putI (pc' := 5) (n := 16) dX11_hasRefused_2 fl_11_17 s0 (Or.inl rfl) (Or.inl rfl) rfl ?_
  refine pa_iconst (v := 0) (pc' := 6) dX11_hasRefused_5 (by decide) rfl ?_
  refine pa_iret dX11_hasRefused_6 rfl rfl ?_
  exact ⟨rfl, rfl⟩
theorem c_hGr (s0 : zsh h 0 = some (11, 16)) : zPa d mX11_hasGranted [.inr (.inr (some 0))] h (fun v h' => v = some (.inl 1) ∧ h' = zsI h 0 2 0) := by
  intro N
  show zPn N none d mX11_hasGranted (0, [(0, .inr (.inr (some 0)))], [], h) _
  refine pa_aload_n (pc' := 1) dX11_hasGranted_0 rfl rfl ?_
  refine pa_iconst (v := nI 0) (pc' := 2) dX11_hasGranted_1 (by decide) rfl ?_
  refine pa_putI (pc' := 5) (n := 16) dX11_hasGranted_2 fl_11_17 s0 (Or.inl rfl) (Or.inl rfl) rfl ?_
  refine pa_iconst (v := nI 1) (pc' := 6) dX11_hasGranted_5 (by decide) rfl ?_
  refine pa_iret dX11_hasGranted_6 rfl rfl ?_
  exact ⟨rfl, rfl⟩
/-- the answer's trouble is written: nothing else -/
theorem lNC.t2 {v : Int32} (L : lNC A s H J h) : lNC A s H J (zsI h 0 2 v) := by
  obtain ⟨L1, ⟨nw, hn, e12, e13, hl, hh⟩, j1, j2, j3⟩ := L
  refine ⟨L1.fr (fun b k w1 w2 => by rw [zsI_at, if_neg (by omega)]), ⟨nw, hn, by rw [zsI_at, if_neg (by omega)]; exact e12, by rw [zsI_at, if_neg (by omega)]; exact e13, hl, fun k t hk => (hh k t hk).fr (fun b j w1 w2 => by rw [zsI_at, if_neg (by omega)])⟩, by rw [zsI_at, if_neg (by omega)]; exact j1, j2, fun k t hk => (j3 k t hk).fr (fun b j w1 w2 => by rw [zsI_at, if_neg (by omega)])⟩
theorem nwF.t2 {v : Int32} : nwF h (zsI h 0 2 v) := ⟨rfl, rfl, fun k w0 w1 w2 w3 => by rw [zsI_at, if_neg (by omega)], fun b k w1 w2 w3 => by rw [zsI_at, if_neg (by omega)]⟩
theorem C_undo (S : nwS h) (b3 : cH A ≤ 5) (b4 : cB A ≤ 8) (L : lNC A s H J h) : zPa d mX11_undo [.inr (.inr (some 0))] h (fun v g => nwF h g ∧ ((H = [] ∧ v = some (.inl 0) ∧ g.2.1 0 2 = 6 ∧ lNC A s H J g) ∨ ∃ t T, H = t :: T ∧ v = some (.inl 1) ∧ g.2.1 0 2 = 0 ∧ lNC A t T J g)) := by
  intro N
  have s0 : zsh h 0 = some (11, 16) := zsh_by S.1 (by decide +kernel)
  have s104 : zsh h 104 = some (17, 12) := zsh_by S.1 (by decide +kernel)
  have r6 := S.2.1
  have r11 := S.2.2.1
  have L' := L
  obtain ⟨L1, ⟨nw, hn, e12, e13, hl, hh⟩, j1, j2, j3⟩ := L
  have rq := S.2.2.2.2.1 nw hn
  have oq := S.oH hn
  have o86 := S.o86
  show zPn N none d mX11_undo (0, [(0, .inr (.inr (some 0)))], [], h) _
  refine pa_aload_n (pc' := 1) dX11_undo_0 rfl rfl ?_
  refine pa_getI (pc' := 4) (n := 16) (v := nI H.length) dX11_undo_1 fl_11_85 s0 (by decide) e13 rfl ?_
  cases H with
  | nil =>
    refine pa_if_f (pc' := 7) dX11_undo_4 (by decide) (by decide) rfl ?_
    refine pa_aload_n (pc' := 8) dX11_undo_7 rfl rfl ?_
    refine pa_bipush (v := nI 6) (pc' := 10) dX11_undo_8 (by decide) rfl ?_
    refine pa_callv (pc' := 13) (vs := [.inl (nI 6)]) (rest := []) dX11_undo_10 ml_11_347 (by decide) rfl rfl rfl (fun d' _ => (c_hRe s0)) (fun v g hq => ?_)
    obtain ⟨ev, eh⟩ := hq
    subst ev
    show zPn N none d mX11_undo (13, _, [.inl 0], g) _
    subst eh
    refine pa_iret dX11_undo_13 rfl rfl ?_
    exact ⟨nwF.t2, .inl ⟨rfl, rfl, by rw [zsI_at, if_pos ⟨rfl, rfl⟩]; rfl, L'.t2⟩⟩
  | cons t T =>
    have hl' : T.length + 1 ≤ 12 := hl
    have e13 : h.2.1 0 13 = nI (T.length + 1) := e13
    have ht : nC A t (106 + 6 * nw) h := by
      have := hh 0 t rfl
      rw [show (nw + 12 - 0) % 12 = nw by omega] at this
      exact this
    refine pa_if_t (pc' := 14) dX11_undo_4 (decide_eq_true (fun q => by have := congrArg Int32.toInt q; rw [nI_toInt (by rw [List.length_cons]; omega), List.length_cons, show (0 : Int32).toInt = 0 by decide] at this; omega)) (by decide) ?_
    refine pa_aload_n (pc' := 15) dX11_undo_14 rfl rfl ?_
    refine pa_getR (pc' := 18) (n := 16) (r := 86) dX11_undo_15 fl_11_42 s0 (by decide) r6 rfl ?_
    refine pa_aload_n (pc' := 19) dX11_undo_18 rfl rfl ?_
    refine pa_getR (pc' := 22) (n := 16) (r := 104) dX11_undo_19 fl_11_78 s0 (by decide) r11 rfl ?_
    refine pa_aload_n (pc' := 23) dX11_undo_22 rfl rfl ?_
    refine pa_getI (pc' := 26) (n := 16) (v := nI nw) dX11_undo_23 fl_11_82 s0 (by decide) e12 rfl ?_
    refine pa_aald (pc' := 27) (r := 106 + 6 * nw) dX11_undo_26 s104 (by decide) (zn_in (by omega) (by omega)) (by rw [nI_clamp (by omega)]; exact rq) rfl ?_
    refine pa_callv (pc' := 30) (vs := [.inr (.inr (some (106 + 6 * nw)))]) (rest := []) dX11_undo_27 ml_11_359 (by decide) rfl rfl rfl (fun d' _ => (N_copyFrom o86 oq (by omega))) (fun v g hq => ?_)
    obtain ⟨ev, eh⟩ := hq
    subst ev
    show zPn N none d mX11_undo (30, _, [], g) _
    obtain ⟨g1, g2, e⟩ := eh
    have t0 : zsh g 0 = some (11, 16) := by unfold zsh; rw [g1]; exact s0
    have f12 : g.2.1 0 12 = nI nw := by rw [e, cpIo (by omega)]; exact e12
    have f13 : g.2.1 0 13 = nI (T.length + 1) := by rw [e, cpIo (by omega)]; exact e13
    refine pa_aload_n (pc' := 31) dX11_undo_30 rfl rfl ?_
    refine pa_aload_n (pc' := 32) dX11_undo_31 rfl rfl ?_
    refine pa_getI (pc' := 35) (n := 16) (v := nI nw) dX11_undo_32 fl_11_82 t0 (by decide) f12 rfl ?_
    refine pa_bipush (v := nI 12) (pc' := 37) dX11_undo_35 (by decide) rfl ?_
    refine pa_iadd (pc' := 38) (v := nI (nw + 12)) dX11_undo_37 (nI_add _ _) rfl ?_
    refine pa_iconst (v := nI 1) (pc' := 39) dX11_undo_38 (by decide) rfl ?_
    refine pa_isub (pc' := 40) (v := nI ((nw + 12) - 1)) dX11_undo_39 (nI_sub (by omega)) rfl ?_
    refine pa_bipush (v := nI 12) (pc' := 42) dX11_undo_40 (by decide) rfl ?_
    refine pa_irem (pc' := 43) (v := nI (((nw + 12) - 1) % 12)) dX11_undo_42 (by decide) (nI_rem (by omega) (by omega)) rfl ?_
    refine pa_putI (pc' := 46) (n := 16) dX11_undo_43 fl_11_82 t0 (Or.inl rfl) (Or.inl rfl) rfl ?_
    refine pa_aload_n (pc' := 47) dX11_undo_46 rfl rfl ?_
    refine pa_dup (pc' := 48) dX11_undo_47 rfl rfl ?_
    refine pa_getI (pc' := 51) (n := 16) (v := nI (T.length + 1)) dX11_undo_48 fl_11_85 t0 (by decide) f13 rfl ?_
    refine pa_iconst (v := nI 1) (pc' := 52) dX11_undo_51 (by decide) rfl ?_
    refine pa_isub (pc' := 53) (v := nI ((T.length + 1) - 1)) dX11_undo_52 (nI_sub (by omega)) rfl ?_
    refine pa_putI (pc' := 56) (n := 16) dX11_undo_53 fl_11_85 t0 (Or.inl rfl) (Or.inl rfl) rfl ?_
    refine pa_aload_n (pc' := 57) dX11_undo_56 rfl rfl ?_
    refine pa_callv (pc' := 60) (vs := []) (rest := []) dX11_undo_57 ml_11_356 (by decide) rfl rfl rfl (fun d' _ => (c_hGr t0)) (fun v g3 hq => ?_)
    obtain ⟨ev, eh⟩ := hq
    subst ev
    show zPn N none d mX11_undo (60, _, [.inl 1], g3) _
    subst eh
    refine pa_iret dX11_undo_60 rfl rfl ?_
    have at' : ∀ b k, (zsI (zsI (zsI g 0 12 (nI ((nw + 12 - 1) % 12))) 0 13 (nI (T.length + 1 - 1))) 0 2 0).2.1 b k = if b = 0 ∧ k = 2 then 0 else if b = 0 ∧ k = 13 then nI (T.length + 1 - 1) else if b = 0 ∧ k = 12 then nI ((nw + 12 - 1) % 12) else cpI h.2.1 86 (106 + 6 * nw) b k := fun b k => by
      rw [zsI_at, zsI_at, zsI_at, e]
    have out : ∀ b k, b ≠ 0 → (b < 86 ∨ 91 < b) → (zsI (zsI (zsI g 0 12 (nI ((nw + 12 - 1) % 12))) 0 13 (nI (T.length + 1 - 1))) 0 2 0).2.1 b k = h.2.1 b k := fun b k z w => by
      rw [at', if_neg (fun q => z q.1), if_neg (fun q => z q.1), if_neg (fun q => z q.1), cpIo (by omega)]
    refine ⟨⟨g1, g2, fun k w0 w1 w2 w3 => ?_, fun b k w1 w2 w3 => out b k w1 (by omega)⟩, .inr ⟨t, T, rfl, rfl, ?_, ?_, ⟨(nw + 12 - 1) % 12, Nat.mod_lt _ (by decide), ?_, ?_, by omega, fun k t' hk => ?_⟩, ?_, j2, fun k t' hk => ?_⟩⟩
    · rw [at', if_neg (by omega), if_neg (by omega), if_neg (by omega), cpIo (by omega)]
    · rw [at', if_pos ⟨rfl, rfl⟩]
    · exact (nC.cp b3 b4 e ht).fr (fun b k w1 w2 => by rw [at', if_neg (by omega), if_neg (by omega), if_neg (by omega), e])
    · rw [at', if_neg (by omega), if_neg (by omega), if_pos ⟨rfl, rfl⟩]
    · rw [at', if_neg (by omega), if_pos ⟨rfl, rfl⟩, Nat.add_sub_cancel]
    · have kl : k < T.length := (List.getElem?_eq_some_iff.mp hk).1
      have := hh (k + 1) t' hk
      rw [show (nw + 12 - (k + 1)) % 12 = ((nw + 12 - 1) % 12 + 12 - k) % 12 by omega] at this
      exact this.fr (fun b j w1 w2 => out b j (by omega) (by omega))
    · rw [at', if_neg (by omega), if_neg (by omega), if_neg (by omega), cpIo (by omega)]
      exact j1
    · have kl : k < J.length := (List.getElem?_eq_some_iff.mp hk).1
      exact (j3 k t' hk).fr (fun b j w1 w2 => out b j (by omega) (by omega))
theorem C_back {i : Int32} (S : nwS h) (b3 : cH A ≤ 5) (b4 : cB A ≤ 8) (L : lNC A s H J h) : zPa d mX11_back [.inr (.inr (some 0)), .inl i] h (fun v g => nwF h g ∧ (((i.toInt < 0 ∨ (J.length : Int) ≤ i.toInt) ∧ v = some (.inl 0) ∧ g.2.1 0 2 = 1 ∧ lNC A s H J g) ∨ ∃ t, 0 ≤ i.toInt ∧ J[i.toInt.toNat]? = some t ∧ v = some (.inl 1) ∧ g.2.1 0 2 = 0 ∧ lNC A t [] J g)) := by
  intro N
  have s0 : zsh h 0 = some (11, 16) := zsh_by S.1 (by decide +kernel)
  have s105 : zsh h 105 = some (17, 3) := zsh_by S.1 (by decide +kernel)
  have r6 := S.2.1
  have r14 := S.2.2.2.1
  have L' := L
  obtain ⟨L1, ⟨nw, hn, e12, e13, hl, hh⟩, j1, j2, j3⟩ := L
  have o86 := S.o86
  have ref : (i.toInt < 0 ∨ (J.length : Int) ≤ i.toInt) → ∀ N, zPn N none d mX11_back (12, [(0, .inr (.inr (some 0))), (1, .inl i)], [], h) (fun v g => nwF h g ∧ (((i.toInt < 0 ∨ (J.length : Int) ≤ i.toInt) ∧ v = some (.inl 0) ∧ g.2.1 0 2 = 1 ∧ lNC A s H J g) ∨ ∃ t, 0 ≤ i.toInt ∧ J[i.toInt.toNat]? = some t ∧ v = some (.inl 1) ∧ g.2.1 0 2 = 0 ∧ lNC A t [] J g)) := fun hr N => by
    refine pa_aload_n (pc' := 13) dX11_back_12 rfl rfl ?_
    refine pa_iconst (v := nI 1) (pc' := 14) dX11_back_13 (by decide) rfl ?_
    refine pa_callv (pc' := 17) (vs := [.inl (nI 1)]) (rest := []) dX11_back_14 ml_11_347 (by decide) rfl rfl rfl (fun d' _ => (c_hRe s0)) (fun v g hq => ?_)
    obtain ⟨ev, eh⟩ := hq
    subst ev
    show zPn N none d mX11_back (17, _, [.inl 0], g) _
    subst eh
    refine pa_iret dX11_back_17 rfl rfl ?_
    exact ⟨nwF.t2, .inl ⟨hr, rfl, by rw [zsI_at, if_pos ⟨rfl, rfl⟩]; rfl, L'.t2⟩⟩
  show zPn N none d mX11_back (0, [(0, .inr (.inr (some 0))), (1, .inl i)], [], h) _
  refine pa_iload_n (pc' := 1) dX11_back_0 rfl rfl ?_
  refine pa_if (pc' := 12) (pc2 := 4) dX11_back_1 (by decide) rfl (fun z1 => ?_) (fun z1 => ?_)
  · exact ref (.inl (lt_i.mp (of_decide_eq_true z1))) _
  refine pa_iload_n (pc' := 5) dX11_back_4 rfl rfl ?_
  refine pa_aload_n (pc' := 6) dX11_back_5 rfl rfl ?_
  refine pa_getI (pc' := 9) (n := 16) (v := nI J.length) dX11_back_6 fl_11_91 s0 (by decide) j1 rfl ?_
  refine pa_icmp (pc' := 18) (pc2 := 12) dX11_back_9 (by decide) rfl (fun z2 => ?_) (fun z2 => ?_)
  · have i0 : 0 ≤ i.toInt := by
      have := of_decide_eq_false z1
      rw [lt_i] at this
      have e0 : (0 : Int32).toInt = 0 := rfl
      omega
    have il : i.toInt < J.length := by
      have := lt_i.mp (of_decide_eq_true z2)
      rw [nI_toInt (by omega)] at this
      exact this
    have hi : i.toInt.toNat < 3 := by omega
    have ei : i = nI i.toInt.toNat := Int32.toInt_inj.mp (by rw [nI_toInt (by omega)]; omega)
    obtain ⟨t, ht⟩ : ∃ t, J[i.toInt.toNat]? = some t := ⟨_, List.getElem?_eq_getElem (by omega)⟩
    have nt := j3 _ t ht
    have rq : h.2.2.2.1 105 i.toNatClampNeg = some (178 + 6 * i.toInt.toNat) := S.2.2.2.2.2.1 _ hi
    have oq := S.oI hi
    have zi : zin i 3 = true := by
      rw [ei]
      exact zn_in (by omega) (by omega)
    refine pa_aload_n (pc' := 19) dX11_back_18 rfl rfl ?_
    refine pa_getR (pc' := 22) (n := 16) (r := 86) dX11_back_19 fl_11_42 s0 (by decide) r6 rfl ?_
    refine pa_aload_n (pc' := 23) dX11_back_22 rfl rfl ?_
    refine pa_getR (pc' := 26) (n := 16) (r := 105) dX11_back_23 fl_11_88 s0 (by decide) r14 rfl ?_
    refine pa_iload_n (pc' := 27) dX11_back_26 rfl rfl ?_
    refine pa_aald (pc' := 28) (r := 178 + 6 * i.toInt.toNat) dX11_back_27 s105 (by decide) zi rq rfl ?_
    refine pa_callv (pc' := 31) (vs := [.inr (.inr (some (178 + 6 * i.toInt.toNat)))]) (rest := []) dX11_back_28 ml_11_359 (by decide) rfl rfl rfl (fun d' _ => (N_copyFrom o86 oq (by omega))) (fun v g hq => ?_)
    obtain ⟨ev, eh⟩ := hq
    subst ev
    show zPn N none d mX11_back (31, _, [], g) _
    obtain ⟨g1, g2, e⟩ := eh
    have t0 : zsh g 0 = some (11, 16) := by unfold zsh; rw [g1]; exact s0
    refine pa_aload_n (pc' := 32) dX11_back_31 rfl rfl ?_
    refine pa_iconst (v := nI 0) (pc' := 33) dX11_back_32 (by decide) rfl ?_
    refine pa_putI (pc' := 36) (n := 16) dX11_back_33 fl_11_85 t0 (Or.inl rfl) (Or.inl rfl) rfl ?_
    refine pa_aload_n (pc' := 37) dX11_back_36 rfl rfl ?_
    refine pa_callv (pc' := 40) (vs := []) (rest := []) dX11_back_37 ml_11_356 (by decide) rfl rfl rfl (fun d' _ => (c_hGr t0)) (fun v g3 hq => ?_)
    obtain ⟨ev, eh⟩ := hq
    subst ev
    show zPn N none d mX11_back (40, _, [.inl 1], g3) _
    subst eh
    refine pa_iret dX11_back_40 rfl rfl ?_
    have at' : ∀ b k, (zsI (zsI g 0 13 (nI 0)) 0 2 0).2.1 b k = if b = 0 ∧ k = 2 then 0 else if b = 0 ∧ k = 13 then nI 0 else cpI h.2.1 86 (178 + 6 * i.toInt.toNat) b k := fun b k => by
      rw [zsI_at, zsI_at, e]
    have out : ∀ b k, b ≠ 0 → (b < 86 ∨ 91 < b) → (zsI (zsI g 0 13 (nI 0)) 0 2 0).2.1 b k = h.2.1 b k := fun b k z w => by
      rw [at', if_neg (fun q => z q.1), if_neg (fun q => z q.1), cpIo (by omega)]
    refine ⟨⟨g1, g2, fun k w0 w1 w2 w3 => ?_, fun b k w1 w2 w3 => out b k w1 (by omega)⟩, .inr ⟨t, i0, ht, rfl, ?_, ?_, ⟨nw, hn, ?_, ?_, Nat.zero_le _, fun k t' hk => ?_⟩, ?_, j2, fun k t' hk => ?_⟩⟩
    · rw [at', if_neg (by omega), if_neg (by omega), cpIo (by omega)]
    · rw [at', if_pos ⟨rfl, rfl⟩]
    · exact (nC.cp b3 b4 e nt).fr (fun b k w1 w2 => by rw [at', if_neg (by omega), if_neg (by omega), e])
    · rw [at', if_neg (by omega), if_neg (by omega), cpIo (by omega)]
      exact e12
    · rw [at', if_neg (by omega), if_pos ⟨rfl, rfl⟩]
      rfl
    · cases hk
    · rw [at', if_neg (by omega), if_neg (by omega), cpIo (by omega)]
      exact j1
    · have kl : k < J.length := (List.getElem?_eq_some_iff.mp hk).1
      exact (j3 k t' hk).fr (fun b j w1 w2 => out b j (by omega) (by omega))
  · refine ref (.inr ?_) _
    have := of_decide_eq_false z2
    rw [lt_i, nI_toInt (by omega)] at this
    omega
end UIB
/-! the reference: states are copied; undo, back -/
def lenO (A : pA) (s : nS) : Prop := ∀ b, b < cB A → (s.2.2.2.2.2 b).length ≤ 6
def hiM (A : pA) (H : List nS) (h : zH) : Prop := h.2.1 196 20 = nI H.length ∧ H.length ≤ 12 ∧ ∀ k t, H[k]? = some t → nMo A t 202 (76 * (H.length - 1 - k)) h ∧ lenO A t
def imM (A : pA) (J : List nS) (h : zH) : Prop := h.2.1 196 21 = nI J.length ∧ J.length ≤ 3 ∧ ∀ k t, J[k]? = some t → nMo A t 203 (76 * k) h ∧ lenO A t
def lNM (A : pA) (s : nS) (H J : List nS) (h : zH) : Prop := (nMo A s 201 0 h ∧ lenO A s) ∧ hiM A H h ∧ imM A J h
def mwS (h : zH) : Prop := h.1 = hh_487.1 ∧ h.2.2.2.1 196 17 = some 201 ∧ h.2.2.2.1 196 18 = some 202 ∧ h.2.2.2.1 196 19 = some 203
def mwF (h g : zH) : Prop := g.1 = h.1 ∧ g.2.2 = h.2.2 ∧ (∀ k, k ≠ 0 → k ≠ 11 → k ≠ 20 → k ≠ 21 → g.2.1 196 k = h.2.1 196 k) ∧ ∀ b k, b ≠ 196 → b ≠ 201 → b ≠ 202 → b ≠ 203 → g.2.1 b k = h.2.1 b k
section UIM
variable {d N q p b k o o2 : Nat} {h g : zH} {A : pA} {s : nS} {H J : List nS}
theorem M_copy {f q a b n nf ng : Nat} (sf : zsh h f = some (14, nf)) (sg : zsh h q = some (14, ng)) (hne : f ≠ q) (ha : a + n ≤ nf) (hb : b + n ≤ ng) (hn : nf < 100000) (hn2 : ng < 100000) : zPa d mX12_copy [.inr (.inr (some f)), .inl (nI a), .inr (.inr (some q)), .inl (nI b), .inl (nI n)] h (fun v h' => v = none ∧ h' = cpyH h f a q b n) := zPa.of (k_copy sf sg hne ha hb hn hn2)
theorem nMo.cp (b3 : cH A ≤ 5) (b4 : cB A ≤ 8) (hl : lenO A s) (e : ∀ k, k < 76 → g.2.1 q (o2 + k) = h.2.1 p (o + k)) (n : nMo A s p o h) : nMo A s q o2 g := by
  obtain ⟨n1, n2, n3, n4⟩ := n
  refine ⟨(e 0 (by decide)).trans n1, (e 1 (by decide)).trans n2, fun w hw => ⟨(e _ (by omega)).trans (n3 w hw).1, (e _ (by omega)).trans (n3 w hw).2⟩, fun b hb => ⟨(e _ (by omega)).trans (n4 b hb).1, (e _ (by omega)).trans (n4 b hb).2.1, fun k hk => ?_⟩⟩
  have h6 := hl b hb
  exact (e _ (by omega)).trans ((n4 b hb).2.2 k hk)
theorem m_isN {k : Int32} (s196 : zsh h 196 = some (12, 39)) : zPa d mX12_isNot [.inr (.inr (some 196)), .inl k] h (fun v h' => v = some (.inl 0) ∧ h' = zsI h 196 11 k) := by
  intro N
  show zPn N none d mX12_isNot (0, [(0, .inr (.inr (some 196))), (1, .inl k)], [], h) _
  refine pa_aload_n (pc' := 1) dX12_isNot_0 rfl rfl ?_
  refine pa_iload_n (pc' := 2) dX12_isNot_1 rfl rfl ?_
  refine pa_putI (pc' := 5) (n := 39) dX12_isNot_2 fl_12_65 s196 (Or.inl rfl) (Or.inl rfl) rfl ?_
  refine pa_iconst (v := 0) (pc' := 6) dX12_isNot_5 (by decide) rfl ?_
  refine pa_iret dX12_isNot_6 rfl rfl ?_
  exact ⟨rfl, rfl⟩
theorem M_undo (S : mwS h) (b3 : cH A ≤ 5) (b4 : cB A ≤ 8) (L : lNM A s H J h) : zPa d mX12_undo [.inr (.inr (some 196))] h (fun v g => mwF h g ∧ ((H = [] ∧ v = some (.inl 0) ∧ g.2.1 196 11 = 6 ∧ lNM A s H J g) ∨ ∃ t T, H = t :: T ∧ v = some (.inl 1) ∧ g.2.1 196 11 = 0 ∧ lNM A t T J g)) := by
  intro N
  have s196 : zsh h 196 = some (12, 39) := zsh_by S.1 (by decide +kernel)
  have s201 : zsh h 201 = some (14, 76) := zsh_by S.1 (by decide +kernel)
  have s202 : zsh h 202 = some (14, 912) := zsh_by S.1 (by decide +kernel)
  have r17 := S.2.1
  have r18 := S.2.2.1
  have L' := L
  obtain ⟨⟨L1, l1⟩, ⟨e20, hl, hh⟩, j1, j2, j3⟩ := L
  have f20 : (zsI (zsI h 196 0 0) 196 11 0).2.1 196 20 = nI H.length := by rw [zsI_at, zsI_at, if_neg (by omega), if_neg (by omega)]; exact e20
  show zPn N none d mX12_undo (0, [(0, .inr (.inr (some 196)))], [], h) _
  refine pa_aload_n (pc' := 1) dX12_undo_0 rfl rfl ?_
  refine pa_callv (pc' := 4) (vs := []) (rest := []) dX12_undo_1 ml_12_167 (by decide) rfl rfl rfl (fun d' _ => (m_good s196)) (fun v g hq => ?_)
  obtain ⟨ev, eh⟩ := hq
  subst ev
  show zPn N none d mX12_undo (4, _, [], g) _
  subst eh
  refine pa_aload_n (pc' := 5) dX12_undo_4 rfl rfl ?_
  refine pa_getI (pc' := 8) (n := 39) (v := nI H.length) dX12_undo_5 fl_12_183 s196 (by decide) f20 rfl ?_
  cases H with
  | nil =>
    refine pa_if_f (pc' := 11) dX12_undo_8 (by decide) (by decide) rfl ?_
    refine pa_aload_n (pc' := 12) dX12_undo_11 rfl rfl ?_
    refine pa_bipush (v := nI 6) (pc' := 14) dX12_undo_12 (by decide) rfl ?_
    refine pa_callv (pc' := 17) (vs := [.inl (nI 6)]) (rest := []) dX12_undo_14 ml_12_427 (by decide) rfl rfl rfl (fun d' _ => (m_isN s196)) (fun v g hq => ?_)
    obtain ⟨ev, eh⟩ := hq
    subst ev
    show zPn N none d mX12_undo (17, _, [.inl 0], g) _
    subst eh
    refine pa_iret dX12_undo_17 rfl rfl ?_
    have at' : ∀ b k, (zsI (zsI (zsI h 196 0 0) 196 11 0) 196 11 (nI 6)).2.1 b k = if b = 196 ∧ k = 11 then nI 6 else if b = 196 ∧ k = 11 then 0 else if b = 196 ∧ k = 0 then 0 else h.2.1 b k := fun b k => by rw [zsI_at, zsI_at, zsI_at]
    have out : ∀ b k, (b = 196 → k ≠ 0 ∧ k ≠ 11) → (zsI (zsI (zsI h 196 0 0) 196 11 0) 196 11 (nI 6)).2.1 b k = h.2.1 b k := fun b k w => by rw [at', if_neg (by omega), if_neg (by omega), if_neg (by omega)]
    refine ⟨⟨rfl, rfl, fun k w1 w2 w3 w4 => out _ _ (fun _ => ⟨w1, w2⟩), fun b k w1 w2 w3 w4 => out _ _ (fun z => absurd z w1)⟩, .inl ⟨rfl, rfl, ?_, ⟨⟨nMo.cp b3 b4 l1 (fun k hk => out _ _ (by omega)) L1, l1⟩, ⟨(out _ _ (by omega)).trans e20, hl, fun k t hk => ?_⟩, (out _ _ (by omega)).trans j1, j2, fun k t hk => ⟨nMo.cp b3 b4 (j3 k t hk).2 (fun k hk => out _ _ (by omega)) (j3 k t hk).1, (j3 k t hk).2⟩⟩⟩⟩
    · rw [at', if_pos ⟨rfl, rfl⟩]; rfl
    · cases hk
  | cons t T =>
    have hl' : T.length + 1 ≤ 12 := hl
    have f20 : (zsI (zsI h 196 0 0) 196 11 0).2.1 196 20 = nI (T.length + 1) := f20
    obtain ⟨ht, lt⟩ := hh 0 t rfl
    refine pa_if_t (pc' := 18) dX12_undo_8 (decide_eq_true (fun q => by have := congrArg Int32.toInt q; rw [nI_toInt (by rw [List.length_cons]; omega), List.length_cons, show (0 : Int32).toInt = 0 by decide] at this; omega)) (by decide) ?_
    refine pa_aload_n (pc' := 19) dX12_undo_18 rfl rfl ?_
    refine pa_dup (pc' := 20) dX12_undo_19 rfl rfl ?_
    refine pa_getI (pc' := 23) (n := 39) (v := nI (T.length + 1)) dX12_undo_20 fl_12_183 s196 (by decide) f20 rfl ?_
    refine pa_iconst (v := nI 1) (pc' := 24) dX12_undo_23 (by decide) rfl ?_
    refine pa_isub (pc' := 25) (v := nI ((T.length + 1) - 1)) dX12_undo_24 (nI_sub (by omega)) rfl ?_
    refine pa_putI (pc' := 28) (n := 39) dX12_undo_25 fl_12_183 s196 (Or.inl rfl) (Or.inl rfl) rfl ?_
    refine pa_aload_n (pc' := 29) dX12_undo_28 rfl rfl ?_
    refine pa_getR (pc' := 32) (n := 39) (r := 202) dX12_undo_29 fl_12_29 s196 (by decide) r18 rfl ?_
    refine pa_bipush (v := nI 76) (pc' := 34) dX12_undo_32 (by decide) rfl ?_
    refine pa_aload_n (pc' := 35) dX12_undo_34 rfl rfl ?_
    refine pa_getI (pc' := 38) (n := 39) (v := nI (T.length + 1 - 1)) dX12_undo_35 fl_12_183 s196 (by decide) (by rw [zsI_at, if_pos ⟨rfl, rfl⟩]) rfl ?_
    refine pa_imul (pc' := 39) (v := nI (76 * (T.length + 1 - 1))) dX12_undo_38 (nI_mul _ _) rfl ?_
    refine pa_aload_n (pc' := 40) dX12_undo_39 rfl rfl ?_
    refine pa_getR (pc' := 43) (n := 39) (r := 201) dX12_undo_40 fl_12_26 s196 (by decide) r17 rfl ?_
    refine pa_iconst (v := nI 0) (pc' := 44) dX12_undo_43 (by decide) rfl ?_
    refine pa_bipush (v := nI 76) (pc' := 46) dX12_undo_44 (by decide) rfl ?_
    refine pa_calls (pc' := 49) (kd := 1) (vs := [.inr (.inr (some 202)), .inl (nI (76 * (T.length + 1 - 1))), .inr (.inr (some 201)), .inl (nI 0), .inl (nI 76)]) (rest := []) dX12_undo_46 ml_12_176 (.inl rfl) rfl rfl rfl (fun d' _ => (M_copy s202 s201 (by decide) (by omega) (by omega) (by decide) (by decide))) (fun v g hq => ?_)
    obtain ⟨ev, eh⟩ := hq
    subst ev
    show zPn N none d mX12_undo (49, _, [], g) _
    rw [eh]
    refine pa_iconst (v := nI 1) (pc' := 50) dX12_undo_49 (by decide) rfl ?_
    refine pa_iret dX12_undo_50 rfl rfl ?_
    have at' : ∀ b k, (cpyH (zsI (zsI (zsI h 196 0 0) 196 11 0) 196 20 (nI (T.length + 1 - 1))) 202 (76 * (T.length + 1 - 1)) 201 0 76).2.1 b k = if b = 201 ∧ 0 ≤ k ∧ k < 0 + 76 then h.2.1 202 (76 * (T.length + 1 - 1) + (k - 0)) else if b = 196 ∧ k = 20 then nI (T.length + 1 - 1) else if b = 196 ∧ k = 11 then 0 else if b = 196 ∧ k = 0 then 0 else h.2.1 b k := fun b k => by
      rw [cpyH_at, zsI_at, zsI_at, zsI_at, zsI_at, zsI_at, zsI_at, if_neg (show ¬ ((202 : Nat) = 196 ∧ _) by omega), if_neg (show ¬ ((202 : Nat) = 196 ∧ _) by omega), if_neg (show ¬ ((202 : Nat) = 196 ∧ _) by omega)]
    have out : ∀ b k, b ≠ 201 → (b = 196 → k ≠ 0 ∧ k ≠ 11 ∧ k ≠ 20) → (cpyH (zsI (zsI (zsI h 196 0 0) 196 11 0) 196 20 (nI (T.length + 1 - 1))) 202 (76 * (T.length + 1 - 1)) 201 0 76).2.1 b k = h.2.1 b k := fun b k z w => by
      rw [at', if_neg (fun q => z q.1), if_neg (by omega), if_neg (by omega), if_neg (by omega)]
    refine ⟨⟨rfl, rfl, fun k w1 w2 w3 w4 => out _ _ (by decide) (by omega), fun b k w1 w2 w3 w4 => out _ _ w2 (by omega)⟩, .inr ⟨t, T, rfl, rfl, ?_, ⟨nMo.cp b3 b4 lt (fun k hk => ?_) ht, lt⟩, ⟨?_, by omega, fun k t' hk => ?_⟩, (out _ _ (by decide) (by omega)).trans j1, j2, fun k t' hk => ⟨nMo.cp b3 b4 (j3 k t' hk).2 (fun k hk => out _ _ (by decide) (by omega)) (j3 k t' hk).1, (j3 k t' hk).2⟩⟩⟩
    · rw [at', if_neg (by omega), if_neg (by omega), if_pos ⟨rfl, rfl⟩]
    · rw [at', if_pos ⟨rfl, by omega, by omega⟩]
      exact congrArg (h.2.1 202) (by have : (t :: T).length = T.length + 1 := rfl; omega)
    · rw [at', if_neg (by omega), if_pos ⟨rfl, rfl⟩, Nat.add_sub_cancel]
    · have kl : k < T.length := (List.getElem?_eq_some_iff.mp hk).1
      obtain ⟨x1, x2⟩ := hh (k + 1) t' hk
      rw [List.length_cons, show T.length + 1 - 1 - (k + 1) = T.length - 1 - k by omega] at x1
      exact ⟨nMo.cp b3 b4 x2 (fun k hk => out _ _ (by decide) (by omega)) x1, x2⟩
end UIM
/-! no two ways of a post join the same islands -/
def tWy (n : Nat) (wy : Nat → Nat × Nat) : Prop := ∀ i j, i < n → j < n → joinsB wy (wy j).1 (wy j).2 i = true → i = j
def tU (A : pA) : Prop := tWy (cW A) A.2.2.2.1
section RD9
variable {y : Nat → Int32} {n p q : Nat} {A A' : pA} {nm : Nat → List Int32}
theorem inr_tU {B : pA} {q' : Nat} (e : (Sum.inr (B, q') : sR) = .inr (A', q)) (k : tU B) : tU A' := by
  have := congrArg Prod.fst (Sum.inr.inj e)
  dsimp only at this
  rw [← this]
  exact k
theorem sHead_tU (k : tU A) (e : sHead y n A p = .inr (A', q)) : tU A' := by
  unfold sHead at e
  split at e
  · cases e
  split at e
  · cases e
  split at e
  · cases e
  split at e
  · cases e
  exact inr_tU e k
theorem sIsland_tU (k : tU A) (e : sIsland y n A p = .inr (A', q)) : tU A' := by
  unfold sIsland at e
  split at e
  · cases e
  split at e
  · split at e
    · split at e
      · cases e
      · exact inr_tU e k
    · cases e
  · cases e
theorem joinsB_iff {wy : Nat → Nat × Nat} {a b k : Nat} : joinsB wy a b k = true ↔ wy k = (a, b) ∨ wy k = (b, a) := by
  unfold joinsB
  rw [Bool.or_eq_true, decide_eq_true_eq, decide_eq_true_eq]
theorem sWay_tU (k : tU A) (e : sWay y n A p = .inr (A', q)) : tU A' := by
  unfold sWay at e
  split at e
  · cases e
  next a p1 e1 =>
  split at e
  · cases e
  next b p2 e2 =>
  split at e
  · cases e
  next hab =>
  split at e
  · cases e
  next u p3 e3 =>
  split at e
  · cases e
  next v p4 e4 =>
  have hno : ∀ i, i < cW A → ¬ (A.2.2.2.1 i = (a, b) ∨ A.2.2.2.1 i = (b, a)) := fun i hi w => hab (.inr (List.any_eq_true.mpr ⟨i, List.mem_range.mpr hi, joinsB_iff.mpr w⟩))
  refine inr_tU e (fun i j hi hj w => ?_)
  have hi : i < cW A + 1 := hi
  have hj : j < cW A + 1 := hj
  have w : joinsB (upA A.2.2.2.1 (cW A) (a, b)) (upA A.2.2.2.1 (cW A) (a, b) j).1 (upA A.2.2.2.1 (cW A) (a, b) j).2 i = true := w
  rw [joinsB_iff, upA_at, upA_at] at w
  by_cases zi : i = cW A
  · by_cases zj : j = cW A
    · omega
    · rw [if_pos zi, if_neg zj] at w
      exfalso
      refine hno j (by omega) ?_
      rcases w with w | w
      · left
        rw [w]
      · right
        have w1 := congrArg Prod.fst w
        have w2 := congrArg Prod.snd w
        dsimp only at w1 w2
        rw [w1, w2]
  · by_cases zj : j = cW A
    · rw [if_neg zi, if_pos zj] at w
      exact absurd w (hno i (by omega))
    · rw [if_neg zi, if_neg zj] at w
      exact k i j (by omega) (by omega) (joinsB_iff.mpr w)
theorem sWhale_tU (k : tU A) (e : sWhale y n A p = .inr (A', q)) : tU A' := by
  unfold sWhale at e
  split at e
  · cases e
  split at e
  · split at e
    · cases e
    split at e
    · cases e
    split at e
    · cases e
    split at e
    · cases e
    exact inr_tU e k
  · cases e
theorem sBox_tU (k : tU A) (e : sBox y n A p = .inr (A', q)) : tU A' := by
  unfold sBox at e
  split at e
  · cases e
  split at e
  · cases e
  split at e
  · cases e
  split at e
  · cases e
  split at e
  · cases e
  split at e
  · cases e
  split at e
  · cases e
  exact inr_tU e k
theorem sSpout_tU (k : tU A) (e : sSpout y n A p = .inr (A', q)) : tU A' := by
  unfold sSpout at e
  split at e
  · cases e
  split at e
  · cases e
  split at e
  · cases e
  exact inr_tU e k
theorem sLine_tU (k : tU A) (e : sLine y n A p = .inr (A', q)) : tU A' := by
  unfold sLine at e
  split at e
  · split at e
    · exact sHead_tU k e
    · cases e
  split at e
  · split at e
    · cases e
    split at e
    · exact sIsland_tU k e
    · cases e
  split at e
  · split at e
    · cases e
    split at e
    · exact sWay_tU k e
    · cases e
  split at e
  · split at e
    · cases e
    split at e
    · exact sWhale_tU k e
    · cases e
  split at e
  · split at e
    · cases e
    split at e
    · exact sBox_tU k e
    · cases e
  split at e
  · split at e
    · cases e
    split at e
    · exact sSpout_tU k e
    · cases e
  · cases e
theorem sText_tU : ∀ (f : Nat) (A : pA) (p : Nat) {B : pA}, pI A → tU A → p ≤ n → sText y n f A p = .inr B → tU B := by
  intro f
  induction f with
  | zero => intro A p B _ _ _ e; cases e
  | succ f ih =>
    intro A p B hI k hp e
    rw [sText_fin] at e
    cases er : sLine y n A p with
    | inl z =>
      rw [er] at e
      cases e
    | inr z =>
      obtain ⟨A', q'⟩ := z
      rw [er] at e
      have k' := sLine_tU k er
      have hI' := sLine_pI hI hp er
      have ge := sLine_ge hp er
      unfold sFin at e
      dsimp only at e
      split at e
      · split at e
        · cases e
        · cases e
          exact k'
      · split at e
        · next t59 => exact ih A' _ hI' k' (t59_gt (y := y) ge.2 t59).2 e
        · cases e
theorem tU_0 : tU pA0 := fun i j hi _ _ => absurd hi (Nat.not_lt_zero i)
end RD9
