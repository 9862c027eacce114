section Pk0
/-! the class: who brings a box, when -/
theorem nI_max {x y : Nat} (hx : x ≤ 2147483647) (hy : y ≤ 2147483647) : (if nI x < nI y then nI y else nI x) = nI (max x y) := by
  by_cases z : x < y
  · rw [if_pos (lt_i.mpr (by rw [nI_toInt (by omega), nI_toInt (by omega)]; omega)), Nat.max_eq_right (by omega)]
  · rw [if_neg (fun q => by have := lt_i.mp q; rw [nI_toInt (by omega), nI_toInt (by omega)] at this; omega), Nat.max_eq_left (by omega)]
section PMX
variable {N : Nat} {scr : Option (Nat × (Nat → Int32))} {d : Nat} {m : zM} {pc pc' : Nat} {ls : zL} {st : List zV} {h : zH} {Q : Option zV → zH → Prop}
theorem pa_max {k na : Nat} {cm : zM} {x y v : Int32} (hd : decode m.1 pc = .ok (.invokestatic k, 3)) (hz : zmth m.2.1 k = some (11, na, cm)) (hv : (if x < y then y else x) = v) (hp : pc + 3 = pc') (kk : zPn N scr d m (pc', ls, .inl v :: st, h) Q) : zPn N scr d m (pc, ls, .inl y :: .inl x :: st, h) Q := by
  subst hp; subst hv
  refine pa_may (C := True) hd (Or.inr rfl) (fun call x' hq => ?_) (fun _ => kk)
  simp only [zexec, hz] at hq
  rw [if_neg (by decide), if_neg (by decide), if_neg (by decide)] at hq
  unfold zprim at hq
  split at hq
  · rw [if_neg (by decide), if_pos rfl] at hq
    simp only at hq
    split at hq
    · cases hq
      exact ⟨trivial, rfl⟩
    · cases hq
  · cases hq
theorem pa_icc {j : Int32} (hd : decode m.1 pc = .ok (.iaload, 1)) (hs : zsh h 1000001 = none) (hp : pc + 1 = pc') (kk : zPn N scr d m (pc', ls, .inl (zcc j.toNatClampNeg) :: st, h) Q) : zPn N scr d m (pc, ls, .inl j :: .inr (.inr (some 1000001)) :: st, h) Q := by
  subst hp
  refine pa_may (C := True) hd (Or.inr rfl) (fun call x hq => ?_) (fun _ => kk)
  have e : zld scr h 14 1000001 j = if zin j 4 = true then some (zcc j.toNatClampNeg) else none := by
    unfold zld
    rw [hs]
    rfl
  simp only [zexec, e] at hq
  by_cases c : zin j 4 = true
  · rw [if_pos c] at hq; cases hq; exact ⟨trivial, rfl⟩
  · rw [if_neg c] at hq; cases hq
end PMX
/-- what is left alone by who brings a box -/
def gF3 (h g : zH) : Prop := g.1 = h.1 ∧ g.2.2 = h.2.2 ∧ ∀ b k, b ≠ 92 → b ≠ 94 → b ≠ 95 → g.2.1 b k = h.2.1 b k
theorem gF3.rf {h : zH} : gF3 h h := ⟨rfl, rfl, fun _ _ _ _ _ => rfl⟩
theorem gF3.tr {h g g2 : zH} (p : gF3 h g) (q : gF3 g g2) : gF3 h g2 := ⟨q.1.trans p.1, q.2.1.trans p.2.1, fun b k e1 e2 e3 => (q.2.2 b k e1 e2 e3).trans (p.2.2 b k e1 e2 e3)⟩
theorem gF.f92 {h g : zH} (f : gF 92 h g) : gF3 h g := ⟨f.1, f.2.1, fun b k e _ _ => f.2.2 b k e⟩
theorem gF.f94 {h g : zH} (f : gF 94 h g) : gF3 h g := ⟨f.1, f.2.1, fun b k _ e _ => f.2.2 b k e⟩
theorem gF.f95 {h g : zH} (f : gF 95 h g) : gF3 h g := ⟨f.1, f.2.1, fun b k _ _ e => f.2.2 b k e⟩
/-- all that it rests on, as the class holds it -/
def bgC (A : pA) (c : Nat) (s : nS) (h : zH) : Prop := (pI A ∧ tA A ∧ tB A ∧ nOK A s) ∧ seC c (cW A) (wa A) (wb A) (dyA A) (opA A) h ∧ sgC c (ntA A) (nu A 2) (nu A 1) A h ∧ nC A s 86 h ∧ (h.2.2.2.1 94 2 = some 92 ∧ h.2.2.2.1 86 2 = some 87 ∧ h.2.2.2.1 86 3 = some 88 ∧ h.2.2.2.1 86 4 = some 89 ∧ h.2.2.2.1 86 6 = some 91 ∧ h.2.2.2.1 c 12 = some (c + 4) ∧ h.2.2.2.1 c 13 = some (c + 5) ∧ (∀ w, w < 5 → h.2.2.2.1 (c + 4) w = some (c + 19 + w)) ∧ ∀ b, b < 8 → h.2.2.2.1 (c + 5) b = some (c + 24 + b)) ∧ (∀ w, w < cH A → h.2.1 (c + 19 + w) 0 = kdA A w ∧ h.2.1 (c + 19 + w) 2 = nI (nu A (109 + 4 * w))) ∧ ∀ b, b < cB A → h.2.1 (c + 24 + b) 0 = nI (nu A (127 + 4 * b)) ∧ h.2.1 (c + 24 + b) 1 = nI (nu A (128 + 4 * b)) ∧ h.2.1 (c + 24 + b) 2 = vA A (129 + 4 * b) ∧ h.2.1 (c + 24 + b) 3 = nI (nu A (130 + 4 * b))
section BRC
variable {d N c w b L y : Nat} {h g : zH} {A : pA} {s : nS}
theorem bgC.fr (B : bgC A c s h) (f : gF3 h g) : bgC A c s g := by
  obtain ⟨B1, B2, B3, ⟨n1, n2, n3, n4⟩, B5, B6, B7⟩ := B
  have hc : c = 2 ∨ c = 42 := B2.2.1
  have e : ∀ a k, (2 ≤ a ∧ a < 92) → g.2.1 a k = h.2.1 a k := fun a k ha => f.2.2 a k (by omega) (by omega) (by omega)
  have b3 := B1.1.2.2.1.2.2.1
  have b4 := B1.1.2.2.1.2.2.2.1
  have b1 := B1.1.2.2.1.1
  refine ⟨B1, ?_, ?_, ⟨(e _ _ (by omega)).trans n1, (e _ _ (by omega)).trans n2, fun w hw => ⟨(e _ _ (by omega)).trans (n3 w hw).1, (e _ _ (by omega)).trans (n3 w hw).2⟩, fun b hb => ⟨(e _ _ (by omega)).trans (n4 b hb).1, (e _ _ (by omega)).trans (n4 b hb).2.1, (e _ _ (by omega)).trans (n4 b hb).2.2⟩⟩, by rw [f.2.1]; exact B5, fun w hw => ⟨(e _ _ (by omega)).trans (B6 w hw).1, (e _ _ (by omega)).trans (B6 w hw).2⟩, fun b hb => ⟨(e _ _ (by omega)).trans (B7 b hb).1, (e _ _ (by omega)).trans (B7 b hb).2.1, (e _ _ (by omega)).trans (B7 b hb).2.2.1, (e _ _ (by omega)).trans (B7 b hb).2.2.2⟩⟩
  · obtain ⟨k1, k2, k3, k4, k5, k6⟩ := B2
    refine ⟨f.1.trans k1, k2, k3, by rw [f.2.1]; exact k4, (e _ _ (by omega)).trans k5, fun k hk => ?_⟩
    rw [e _ _ (by omega), e _ _ (by omega), e _ _ (by omega), e _ _ (by omega)]
    exact k6 k hk
  · obtain ⟨k1, k2, k3, ⟨k4, k5, k6, k7⟩, k8, k9⟩ := B3
    refine ⟨f.1.trans k1, k2, by rw [f.2.1]; exact k3, ⟨(e _ _ (by omega)).trans k4, (e _ _ (by omega)).trans k5, (e _ _ (by omega)).trans k6, (e _ _ (by omega)).trans k7⟩, k8, fun i hi => ?_⟩
    rw [e _ _ (by omega), e _ _ (by omega)]
    exact k9 i hi
theorem bgC.sh (B : bgC A c s h) : zsh h c = some (4, 15) ∧ zsh h (c + 2) = some (14, 7) ∧ zsh h (c + 4) = some (20, 5) ∧ zsh h (c + 5) = some (16, 8) ∧ (∀ w, w < 5 → zsh h (c + 19 + w) = some (10, 4)) ∧ ∀ b, b < 8 → zsh h (c + 24 + b) = some (0, 4) := by
  have h1 := B.2.1.1
  have hc : c = 2 ∨ c = 42 := B.2.1.2.1
  have ew : ∀ w, w < 5 → zsh hh_487 (2 + 19 + w) = some (10, 4) ∧ zsh hh_487 (42 + 19 + w) = some (10, 4) := by decide +kernel
  have eb : ∀ w, w < 8 → zsh hh_487 (2 + 24 + w) = some (0, 4) ∧ zsh hh_487 (42 + 24 + w) = some (0, 4) := by decide +kernel
  rcases hc with z | z <;> subst z
  · exact ⟨zsh_by h1 (by decide +kernel), zsh_by h1 (by decide +kernel), zsh_by h1 (by decide +kernel), zsh_by h1 (by decide +kernel), fun w hw => zsh_by h1 (ew w hw).1, fun w hw => zsh_by h1 (eb w hw).1⟩
  · exact ⟨zsh_by h1 (by decide +kernel), zsh_by h1 (by decide +kernel), zsh_by h1 (by decide +kernel), zsh_by h1 (by decide +kernel), fun w hw => zsh_by h1 (ew w hw).2, fun w hw => zsh_by h1 (eb w hw).2⟩
theorem N_isSent (B : bgC A c s h) (hb : b < cB A) : zPa d mX2_isSent [.inr (.inr (some 86)), .inl (nI b)] h (fun v g => v = some (.inl (match s.2.2.2.2.1 b with | some _ => 1 | none => 0)) ∧ g = h) := by
  intro N
  have b4 := B.1.1.2.2.1.2.2.2.1
  have s86 : zsh h 86 = some (2, 7) := zsh_by B.2.1.1 (by decide +kernel)
  have s89 : zsh h 89 = some (14, 8) := zsh_by B.2.1.1 (by decide +kernel)
  have r4 := B.2.2.2.2.1.2.2.2.1
  have e := (B.2.2.2.1.2.2.2 b hb).1
  have bd := ((B.1.2.2.2.2.2 b hb).2.2)
  show zPn N none d mX2_isSent (0, [(0, .inr (.inr (some 86))), (1, .inl (nI b))], [], h) _
  refine pa_aload_n (pc' := 1) dX2_isSent_0 rfl rfl ?_
  refine pa_getR (pc' := 4) (n := 7) (r := 89) dX2_isSent_1 fl_2_25 s86 (by decide) r4 rfl ?_
  refine pa_iload_n (pc' := 5) dX2_isSent_4 rfl rfl ?_
  refine pa_iald (pc' := 6) dX2_isSent_5 s89 rfl (fun _ => ?_)
  rw [nI_clamp (by omega), e]
  refine pa_bipush (v := (-2)) (pc' := 8) dX2_isSent_6 (by decide) rfl ?_
  cases o : s.2.2.2.2.1 b with
  | none =>
    refine pa_icmp_t (pc' := 15) dX2_isSent_8 (by decide) (by decide) ?_
    refine pa_iconst (v := 0) (pc' := 16) dX2_isSent_15 (by decide) rfl ?_
    refine pa_iret dX2_isSent_16 rfl rfl ?_
    exact ⟨rfl, rfl⟩
  | some p =>
    have hp := (bd p o).2
    have nb : nSn s (cB A) ≤ cB A := by
      have : ∀ n, nSn s n ≤ n := by
        intro n
        induction n with
        | zero => exact Nat.le_refl 0
        | succ n ih =>
          show nSn s n + (match s.2.2.2.2.1 n with | some _ => 1 | none => 0) ≤ n + 1
          split <;> omega
      exact this _
    have nz : ¬ (sDy (some p) = -2) := fun q => by
      have := congrArg Int32.toInt q
      rw [show sDy (some p) = nI p.1 from rfl, nI_toInt (by omega), show (-2 : Int32).toInt = -2 by decide] at this
      omega
    refine pa_icmp_f (pc' := 11) dX2_isSent_8 (decide_eq_false nz) (by decide) rfl ?_
    refine pa_iconst (v := 1) (pc' := 12) dX2_isSent_11 (by decide) rfl ?_
    refine pa_goto (pc' := 16) dX2_isSent_12 (by decide) ?_
    refine pa_iret dX2_isSent_16 rfl rfl ?_
    exact ⟨rfl, rfl⟩
theorem N_boxLength (B : bgC A c s h) (hb : b < cB A) : zPa d mX4_boxLength [.inr (.inr (some c)), .inl (nI b)] h (fun v g => v = some (.inl (nI (lB A b))) ∧ g = h) := by
  intro N
  have b1 := B.1.1.2.2.1.1
  have b4 := B.1.1.2.2.1.2.2.2.1
  obtain ⟨sc, sc2, -, sc5, -, sb⟩ := B.sh
  have sb := sb b (by omega)
  have r10 := B.2.2.1.2.2.1.2.2
  have r13 := B.2.2.2.2.1.2.2.2.2.2.2.1
  have rb := B.2.2.2.2.1.2.2.2.2.2.2.2.2 b (by omega)
  have e1 := (B.2.2.2.2.2.2 b hb).2.1
  obtain ⟨-, q2, -⟩ := num_box B.1.1 B.1.2.2.1 B.1.2.1 hb
  have el := (B.2.2.1.2.2.2.2.2 (nu A (128 + 4 * b)) q2).1
  show zPn N none d mX4_boxLength (0, [(0, .inr (.inr (some c))), (1, .inl (nI b))], [], h) _
  refine pa_aload_n (pc' := 1) dX4_boxLength_0 rfl rfl ?_
  refine pa_getR (pc' := 4) (n := 15) (r := c + 2) dX4_boxLength_1 fl_4_15 sc (by decide) r10 rfl ?_
  refine pa_aload_n (pc' := 5) dX4_boxLength_4 rfl rfl ?_
  refine pa_getR (pc' := 8) (n := 15) (r := c + 5) dX4_boxLength_5 fl_4_32 sc (by decide) r13 rfl ?_
  refine pa_iload_n (pc' := 9) dX4_boxLength_8 rfl rfl ?_
  refine pa_aald (pc' := 10) (r := c + 24 + b) dX4_boxLength_9 sc5 (by decide) (zn_in (by omega) (by omega)) (by rw [nI_clamp (by omega)]; exact rb) rfl ?_
  refine pa_getI (pc' := 13) (n := 4) (v := nI (nu A (128 + 4 * b))) dX4_boxLength_10 fl_4_74 sb (by decide) e1 rfl ?_
  refine pa_iald (pc' := 14) dX4_boxLength_13 sc2 rfl (fun _ => ?_)
  rw [nI_clamp (by omega), el]
  refine pa_iret dX4_boxLength_14 rfl rfl ?_
  exact ⟨rfl, rfl⟩
theorem nSn_le (s : nS) : ∀ n, nSn s n ≤ n
  | 0 => Nat.le_refl 0
  | n + 1 => by
    have := nSn_le s n
    show nSn s n + (match s.2.2.2.2.1 n with | some _ => 1 | none => 0) ≤ n + 1
    split <;> omega
theorem nSn_lt {s : nS} {b : Nat} (hb : s.2.2.2.2.1 b = none) : ∀ n, b < n → nSn s n < n
  | 0, h => absurd h (Nat.not_lt_zero b)
  | n + 1, h => by
    show nSn s n + (match s.2.2.2.2.1 n with | some _ => 1 | none => 0) < n + 1
    by_cases z : b = n
    · subst z
      have := nSn_le s b
      rw [hb]
      dsimp only
      omega
    · have := nSn_lt hb n (by omega)
      split <;> omega
theorem N_brings (B : bgC A c s h) (hw : w < cH A) (hb : b < cB A) : zPa d mX6_dayOfBringing [.inr (.inr (some 94)), .inl (nI w), .inl (nI b)] h (fun v g => v = some (.inl (brR A w (brV A s w b))) ∧ gF3 h g ∧ ∀ p, brV A s w b = some p → g.2.1 94 4 = nI p.2.2 ∧ g.2.1 94 5 = nI p.1 ∧ g.2.1 94 6 = nI p.2.1) := by
  intro N
  obtain ⟨hI, hT, hB, hN⟩ := B.1
  obtain ⟨b1, b2, b3, b4, b5⟩ := hI.2.2.1
  have h1 := B.2.1.1
  have s94 : zsh h 94 = some (6, 7) := zsh_by h1 (by decide +kernel)
  have s86 : zsh h 86 = some (2, 7) := zsh_by h1 (by decide +kernel)
  have s91 : zsh h 91 = some (14, 8) := zsh_by h1 (by decide +kernel)
  have s1m : zsh h 1000001 = none := zsh_by h1 (by decide +kernel)
  obtain ⟨sc, sc2, sc4, sc5, sw, sb⟩ := B.sh
  have sw := sw w (by omega)
  have sb := sb b (by omega)
  obtain ⟨r0, r1, r3, r11, rwy⟩ := B.2.1.2.2.2.1
  obtain ⟨r942, r862, r863, r864, r866, rc12, rc13, rw_, rb⟩ := B.2.2.2.2.1
  have rw_ := rw_ w (by omega)
  have rb := rb b (by omega)
  obtain ⟨ek, ekp⟩ := B.2.2.2.2.2.1 w hw
  obtain ⟨ef, eto, ewg, edy⟩ := B.2.2.2.2.2.2 b hb
  obtain ⟨ny, ncl, nw, nb⟩ := B.2.2.2.1
  obtain ⟨nat, nfr⟩ := nw w hw
  obtain ⟨ncm, ngt, nsg⟩ := nb b hb
  obtain ⟨⟨kd0, kd3⟩, -, kp9, -, -⟩ := num_whale hI hB hT hw
  obtain ⟨bf, bto, ⟨wg1, wg2⟩, bdy, bv⟩ := num_box hI hB hT hb
  obtain ⟨hy, hwh, hbx⟩ := hN
  obtain ⟨atl, frl⟩ := hwh w hw
  obtain ⟨sok, slen, -⟩ := hbx b hb
  have lb6 : lB A b ≤ 6 := (B.2.2.1.2.2.2.2.2 _ bto).2.2.2
  show zPn N none d mX6_dayOfBringing (0, [(0, .inr (.inr (some 94))), (1, .inl (nI w)), (2, .inl (nI b))], [], h) _
  refine pa_aload_n (pc' := 1) dX6_dayOfBringing_0 rfl rfl ?_
  refine pa_getR (pc' := 4) (n := 7) (r := c) dX6_dayOfBringing_1 fl_6_25 s94 (by decide) r0 rfl ?_
  refine pa_getR (pc' := 7) (n := 15) (r := c + 4) dX6_dayOfBringing_4 fl_6_88 sc (by decide) rc12 rfl ?_
  refine pa_iload_n (pc' := 8) dX6_dayOfBringing_7 rfl rfl ?_
  refine pa_aald (pc' := 9) (r := c + 19 + w) dX6_dayOfBringing_8 sc4 (by decide) (zn_in (by omega) (by omega)) (by rw [nI_clamp (by omega)]; exact rw_) rfl ?_
  refine pa_astore_n (pc' := 10) dX6_dayOfBringing_9 (by decide) rfl rfl ?_
  refine pa_aload_n (pc' := 11) dX6_dayOfBringing_10 rfl rfl ?_
  refine pa_getR (pc' := 14) (n := 7) (r := c) dX6_dayOfBringing_11 fl_6_25 s94 (by decide) r0 rfl ?_
  refine pa_getR (pc' := 17) (n := 15) (r := c + 5) dX6_dayOfBringing_14 fl_6_92 sc (by decide) rc13 rfl ?_
  refine pa_iload_n (pc' := 18) dX6_dayOfBringing_17 rfl rfl ?_
  refine pa_aald (pc' := 19) (r := c + 24 + b) dX6_dayOfBringing_18 sc5 (by decide) (zn_in (by omega) (by omega)) (by rw [nI_clamp (by omega)]; exact rb) rfl ?_
  refine pa_astore (pc' := 21) dX6_dayOfBringing_19 (by decide) rfl rfl ?_
  refine pa_aload_n (pc' := 22) dX6_dayOfBringing_21 rfl rfl ?_
  refine pa_getR (pc' := 25) (n := 7) (r := 86) dX6_dayOfBringing_22 fl_6_29 s94 (by decide) r1 rfl ?_
  refine pa_iload_n (pc' := 26) dX6_dayOfBringing_25 rfl rfl ?_
  refine pa_callv (pc' := 29) (vs := [.inl (nI b)]) (rest := []) dX6_dayOfBringing_26 ml_6_96 (by decide) rfl rfl rfl (fun d' _ => N_isSent B hb) (fun v g9 hq => ?_)
  obtain ⟨ev, eh⟩ := hq
  subst ev
  rw [eh]
  show zPn N none d mX6_dayOfBringing (29, _, [.inl (match s.2.2.2.2.1 b with | some _ => 1 | none => 0)], h) _
  unfold brV
  cases o : s.2.2.2.2.1 b with
  | some p0 =>
    refine pa_if_t (pc' := 48) dX6_dayOfBringing_29 (show zcond .ne (1 : Int32) 0 = true by decide) (by decide) ?_
    refine pa_bipush (v := (-2)) (pc' := 50) dX6_dayOfBringing_48 (by decide) rfl ?_
    refine pa_iret dX6_dayOfBringing_50 rfl rfl ?_
    exact ⟨rfl, gF3.rf, fun p e => nomatch e⟩
  | none =>
    have sl := nSn_lt o (cB A) hb
    refine pa_if_f (pc' := 32) dX6_dayOfBringing_29 (show zcond .ne (0 : Int32) 0 = false by decide) (by decide) rfl ?_
    refine pa_aload (pc' := 34) dX6_dayOfBringing_32 rfl rfl ?_
    refine pa_getI (pc' := 37) (n := 4) (v := vA A (129 + 4 * b)) dX6_dayOfBringing_34 fl_6_99 sb (by decide) ewg rfl ?_
    refine pa_gets (pc' := 40) dX6_dayOfBringing_37 rfl rfl ?_
    refine pa_aload_n (pc' := 41) dX6_dayOfBringing_40 rfl rfl ?_
    refine pa_getI (pc' := 44) (n := 4) (v := kdA A w) dX6_dayOfBringing_41 fl_6_107 sw (by decide) ek rfl ?_
    refine pa_icc (pc' := 45) dX6_dayOfBringing_44 s1m rfl ?_
    have ecl : (kdA A w).toNatClampNeg = (kdA A w).toInt.toNat := rfl
    rw [ecl]
    dsimp only
    by_cases zz : (zcc (kdA A w).toInt.toNat).toInt < (vA A (129 + 4 * b)).toInt
    · rw [if_pos zz]
      refine pa_icmp_f (pc' := 48) dX6_dayOfBringing_45 (by rw [zcond_i]; exact decide_eq_false (by omega)) (by decide) rfl ?_
      refine pa_bipush (v := (-2)) (pc' := 50) dX6_dayOfBringing_48 (by decide) rfl ?_
      refine pa_iret dX6_dayOfBringing_50 rfl rfl ?_
      exact ⟨rfl, gF3.rf, fun p e => nomatch e⟩
    · rw [if_neg zz]
      refine pa_icmp_t (pc' := 51) dX6_dayOfBringing_45 (by rw [zcond_i]; exact decide_eq_true (by omega)) (by decide) ?_
      refine pa_aload_n (pc' := 52) dX6_dayOfBringing_51 rfl rfl ?_
      refine pa_aload_n (pc' := 53) dX6_dayOfBringing_52 rfl rfl ?_
      refine pa_getR (pc' := 56) (n := 7) (r := 92) dX6_dayOfBringing_53 fl_6_33 s94 (by decide) r942 rfl ?_
      refine pa_aload_n (pc' := 57) dX6_dayOfBringing_56 rfl rfl ?_
      refine pa_getR (pc' := 60) (n := 7) (r := 86) dX6_dayOfBringing_57 fl_6_29 s94 (by decide) r1 rfl ?_
      refine pa_getR (pc' := 63) (n := 7) (r := 91) dX6_dayOfBringing_60 fl_6_112 s86 (by decide) r866 rfl ?_
      refine pa_iload_n (pc' := 64) dX6_dayOfBringing_63 rfl rfl ?_
      refine pa_iald (pc' := 65) dX6_dayOfBringing_64 s91 rfl (fun _ => ?_)
      rw [nI_clamp (by omega), nsg]
      refine pa_aload_n (pc' := 66) dX6_dayOfBringing_65 rfl rfl ?_
      refine pa_getR (pc' := 69) (n := 7) (r := c) dX6_dayOfBringing_66 fl_6_25 s94 (by decide) r0 rfl ?_
      refine pa_iload_n (pc' := 70) dX6_dayOfBringing_69 rfl rfl ?_
      refine pa_callv (pc' := 73) (vs := [.inl (nI b)]) (rest := [.inl (codeS (s.2.2.2.2.2 b)), .inr (.inr (some 92)), .inr (.inr (some 94))]) dX6_dayOfBringing_70 ml_6_115 (by decide) rfl rfl rfl (fun d' _ => N_boxLength B hb) (fun v g9 hq => ?_)
      obtain ⟨ev, eh⟩ := hq
      subst ev
      rw [eh]
      show zPn N none d mX6_dayOfBringing (73, _, [.inl (nI (lB A b)), .inl (codeS (s.2.2.2.2.2 b)), .inr (.inr (some 92)), .inr (.inr (some 94))], h) _
      refine pa_aload_n (pc' := 74) dX6_dayOfBringing_73 rfl rfl ?_
      refine pa_getR (pc' := 77) (n := 7) (r := 86) dX6_dayOfBringing_74 fl_6_29 s94 (by decide) r1 rfl ?_
      refine pa_getI (pc' := 80) (n := 7) (v := nI s.1) dX6_dayOfBringing_77 fl_6_119 s86 (by decide) ny rfl ?_
      refine pa_callv (pc' := 83) (vs := [.inl (codeS (s.2.2.2.2.2 b)), .inl (nI (lB A b)), .inl (nI s.1)]) (rest := [.inr (.inr (some 94))]) dX6_dayOfBringing_80 ml_6_122 (by decide) rfl rfl rfl (fun d' _ => N_hearerOf B.2.2.1 sok slen lb6 (by omega)) (fun v g1 hq => ?_)
      obtain ⟨ev, eh⟩ := hq
      subst ev
      show zPn N none d mX6_dayOfBringing (83, _, [.inl (hRe (nu A 1) (hFo A ((s.2.2.2.2.2 b).map (rsL (ntA A) (fL (nu A 2) (ntA A) s.1))) (cI A))), .inr (.inr (some 94))], g1) _
      obtain ⟨f1, -, -⟩ := eh
      have ehe : hRe (nu A 1) (hFo A ((s.2.2.2.2.2 b).map (rsL (ntA A) (fL (nu A 2) (ntA A) s.1))) (cI A)) = heA A (s.2.2.2.2.2 b) s.1 := hear_eq B.2.2.1.2.2.2.2.1.1 B.2.2.1.2.2.2.2.1.2.1 B.2.2.1.2.2.2.2.1.2.2.2.1 (fun i hi => (B.2.2.1.2.2.2.2.2 i hi).2.2.1) sok (by omega)
      rw [ehe]
      have hgl := heA_i hI (s.2.2.2.2.2 b) s.1
      unfold brG
      generalize heA A (s.2.2.2.2.2 b) s.1 = gl at hgl ⊢
      have s94a : zsh g1 94 = some (6, 7) := zsh_by (f1.1.trans h1) (by decide +kernel)
      refine pa_putI (pc' := 86) (n := 7) dX6_dayOfBringing_83 fl_6_15 s94a (Or.inl rfl) (Or.inl rfl) rfl ?_
      have F2 : gF3 h (zsI g1 94 4 gl) := (f1.f92).tr (gF.st (B := 94)).f94
      have B2 := B.fr F2
      have g4 : (zsI g1 94 4 gl).2.1 94 4 = gl := zsI_eq
      have s94b : zsh (zsI g1 94 4 gl) 94 = some (6, 7) := s94a
      refine pa_aload_n (pc' := 87) dX6_dayOfBringing_86 rfl rfl ?_
      refine pa_getI (pc' := 90) (n := 7) (v := gl) dX6_dayOfBringing_87 fl_6_15 s94b (by decide) g4 rfl ?_
      refine pa_bipush (v := (-2)) (pc' := 92) dX6_dayOfBringing_90 (by decide) rfl ?_
      rcases hgl with e2 | ⟨q, hq, e2, e3, e4, -⟩
      · rw [if_pos e2]
        refine pa_icmp_f (pc' := 95) dX6_dayOfBringing_92 (decide_eq_false (not_not_intro e2)) (by decide) rfl ?_
        refine pa_bipush (v := (-2)) (pc' := 97) dX6_dayOfBringing_95 (by decide) rfl ?_
        refine pa_iret dX6_dayOfBringing_97 rfl rfl ?_
        exact ⟨rfl, F2, fun p e => nomatch e⟩
      · rw [if_neg e4]
        refine pa_icmp_t (pc' := 98) dX6_dayOfBringing_92 (decide_eq_true e4) (by decide) ?_
        have s86b : zsh (zsI g1 94 4 gl) 86 = some (2, 7) := zsh_by B2.2.1.1 (by decide +kernel)
        have s87b : zsh (zsI g1 94 4 gl) 87 = some (14, 5) := zsh_by B2.2.1.1 (by decide +kernel)
        have s88b : zsh (zsI g1 94 4 gl) 88 = some (14, 5) := zsh_by B2.2.1.1 (by decide +kernel)
        obtain ⟨-, -, -, -, swb, sbb⟩ := B2.sh
        have swb := swb w (by omega)
        have sbb := sbb b (by omega)
        obtain ⟨r0b, r1b, r3b, -, -⟩ := B2.2.1.2.2.2.1
        obtain ⟨-, r862b, r863b, -, -, -, -, -, -⟩ := B2.2.2.2.2.1
        obtain ⟨ekb, ekpb⟩ := B2.2.2.2.2.2.1 w hw
        obtain ⟨efb, -, -, edyb⟩ := B2.2.2.2.2.2.2 b hb
        obtain ⟨natb, nfrb⟩ := B2.2.2.2.1.2.2.1 w hw
        have dq := days_eq (x0 := s.2.2.2.1 w) (n := cI A) (W := cW A) (dyG_R hI hB hT (kdA A w) s.2.1 (s.2.2.1 w)) (wab hB) atl
        have fr7 : s.2.2.2.1 w ≤ 700000 := by
          have := Nat.mul_le_mul_left 88722 (show nSn s (cB A) ≤ 7 by omega)
          omega
        have days : ∀ d, zPa d mX6_firstDayAt [.inr (.inr (some 94)), .inl (kdA A w), .inl (nI (s.2.2.1 w)), .inl (nI (nu A (127 + 4 * b))), .inl (nI (s.2.2.2.1 w))] (zsI g1 94 4 gl) (fun v g => v = some (.inl (arV (dyD A (kdA A w) s.2.1 (s.2.2.1 w) (s.2.2.2.1 w)) (nu A (127 + 4 * b)))) ∧ gF 95 (zsI g1 94 4 gl) g) := fun d => by
          have := N_firstDayAt (d := d) (kd := kdA A w) B2.2.1 B2.2.2.2.1.2.1 B2.2.2.1.2.2.2.1.2.2.2 b1 (fm := s.2.2.1 w) (by omega) (to := nu A (127 + 4 * b)) (by omega) fr7 (dyG_R hI hB hT (kdA A w) s.2.1 (s.2.2.1 w))
          rw [dq] at this
          exact this.mono (fun v g e => ⟨e.1, e.2.1⟩)
        refine pa_aload_n (pc' := 99) dX6_dayOfBringing_98 rfl rfl ?_
        refine pa_aload_n (pc' := 100) dX6_dayOfBringing_99 rfl rfl ?_
        refine pa_getI (pc' := 103) (n := 4) (v := kdA A w) dX6_dayOfBringing_100 fl_6_107 swb (by decide) ekb rfl ?_
        refine pa_aload_n (pc' := 104) dX6_dayOfBringing_103 rfl rfl ?_
        refine pa_getR (pc' := 107) (n := 7) (r := 86) dX6_dayOfBringing_104 fl_6_29 s94b (by decide) r1b rfl ?_
        refine pa_getR (pc' := 110) (n := 7) (r := 87) dX6_dayOfBringing_107 fl_6_127 s86b (by decide) r862b rfl ?_
        refine pa_iload_n (pc' := 111) dX6_dayOfBringing_110 rfl rfl ?_
        refine pa_iald (pc' := 112) dX6_dayOfBringing_111 s87b rfl (fun _ => ?_)
        rw [nI_clamp (by omega), natb]
        refine pa_aload (pc' := 114) dX6_dayOfBringing_112 rfl rfl ?_
        refine pa_getI (pc' := 117) (n := 4) (v := nI (nu A (127 + 4 * b))) dX6_dayOfBringing_114 fl_6_130 sbb (by decide) efb rfl ?_
        refine pa_aload_n (pc' := 118) dX6_dayOfBringing_117 rfl rfl ?_
        refine pa_getR (pc' := 121) (n := 7) (r := 86) dX6_dayOfBringing_118 fl_6_29 s94b (by decide) r1b rfl ?_
        refine pa_getR (pc' := 124) (n := 7) (r := 88) dX6_dayOfBringing_121 fl_6_133 s86b (by decide) r863b rfl ?_
        refine pa_iload_n (pc' := 125) dX6_dayOfBringing_124 rfl rfl ?_
        refine pa_iald (pc' := 126) dX6_dayOfBringing_125 s88b rfl (fun _ => ?_)
        rw [nI_clamp (by omega), nfrb]
        refine pa_callv (pc' := 129) (vs := [.inl (kdA A w), .inl (nI (s.2.2.1 w)), .inl (nI (nu A (127 + 4 * b))), .inl (nI (s.2.2.2.1 w))]) (rest := []) dX6_dayOfBringing_126 ml_6_136 (by decide) rfl rfl rfl (fun d' _ => days d') (fun v g3 hq => ?_)
        obtain ⟨ev, eh⟩ := hq
        subst ev
        show zPn N none d mX6_dayOfBringing (129, _, [.inl (arV (dyD A (kdA A w) s.2.1 (s.2.2.1 w) (s.2.2.2.1 w)) (nu A (127 + 4 * b)))], g3) _
        refine pa_istore (pc' := 131) dX6_dayOfBringing_129 (by decide) rfl rfl ?_
        have F3 : gF3 h g3 := F2.tr eh.f95
        have B3 := B.fr F3
        have e94 : ∀ k, g3.2.1 94 k = (zsI g1 94 4 gl).2.1 94 k := fun k => eh.2.2 94 k (by decide)
        refine pa_iload (pc' := 133) dX6_dayOfBringing_131 rfl rfl ?_
        refine pa_bipush (v := (-2)) (pc' := 135) dX6_dayOfBringing_133 (by decide) rfl ?_
        cases ed : dyD A (kdA A w) s.2.1 (s.2.2.1 w) (s.2.2.2.1 w) (nu A (127 + 4 * b)) with
        | none =>
          dsimp only
          refine pa_icmp_f (pc' := 138) dX6_dayOfBringing_135 (by unfold arV; rw [ed]; decide) (by decide) rfl ?_
          refine pa_bipush (v := (-2)) (pc' := 140) dX6_dayOfBringing_138 (by decide) rfl ?_
          refine pa_iret dX6_dayOfBringing_140 rfl rfl ?_
          exact ⟨rfl, F3, fun p e => nomatch e⟩
        | some x =>
          have hx := dyD_le hI hB hT ed
          have ea : arV (dyD A (kdA A w) s.2.1 (s.2.2.1 w) (s.2.2.2.1 w)) (nu A (127 + 4 * b)) = nI x := by unfold arV; rw [ed]
          rw [ea]
          dsimp only
          refine pa_icmp_t (pc' := 141) dX6_dayOfBringing_135 (decide_eq_true (fun z => by have := congrArg Int32.toInt z; rw [nI_toInt (by omega), show (-2 : Int32).toInt = -2 by decide] at this; omega)) (by decide) ?_
          have s94c : zsh g3 94 = some (6, 7) := zsh_by B3.2.1.1 (by decide +kernel)
          obtain ⟨-, -, -, -, swc, sbc⟩ := B3.sh
          have swc := swc w (by omega)
          have sbc := sbc b (by omega)
          obtain ⟨ekc, ekpc⟩ := B3.2.2.2.2.2.1 w hw
          obtain ⟨efc, -, -, edyc⟩ := B3.2.2.2.2.2.2 b hb
          refine pa_aload_n (pc' := 142) dX6_dayOfBringing_141 rfl rfl ?_
          refine pa_iload (pc' := 144) dX6_dayOfBringing_142 rfl rfl ?_
          refine pa_aload (pc' := 146) dX6_dayOfBringing_144 rfl rfl ?_
          refine pa_getI (pc' := 149) (n := 4) (v := nI (nu A (130 + 4 * b))) dX6_dayOfBringing_146 fl_6_140 sbc (by decide) edyc rfl ?_
          refine pa_max (pc' := 152) dX6_dayOfBringing_149 ml_6_143 (nI_max (by omega) (by omega)) rfl ?_
          refine pa_putI (pc' := 155) (n := 7) dX6_dayOfBringing_152 fl_6_19 s94c (Or.inl rfl) (Or.inl rfl) rfl ?_
          generalize et : max x (nu A (130 + 4 * b)) = tk
          have htk : tk ≤ 700000 := by
            have := Nat.mul_le_mul_left 88722 (show nSn s (cB A) ≤ 7 by omega)
            omega
          have F4 : gF3 h (zsI g3 94 5 (nI tk)) := F3.tr (gF.st (B := 94)).f94
          have B4 := B.fr F4
          have s94d : zsh (zsI g3 94 5 (nI tk)) 94 = some (6, 7) := s94c
          have swd : zsh (zsI g3 94 5 (nI tk)) (c + 19 + w) = some (10, 4) := swc
          have sbd : zsh (zsI g3 94 5 (nI tk)) (c + 24 + b) = some (0, 4) := sbc
          obtain ⟨ekd, ekpd⟩ := B4.2.2.2.2.2.1 w hw
          obtain ⟨efd, -, -, edyd⟩ := B4.2.2.2.2.2.2 b hb
          have q4 : (zsI g3 94 5 (nI tk)).2.1 94 4 = nI q := by rw [zsI_no (by omega), e94, ← e2]; exact g4
          have q5 : (zsI g3 94 5 (nI tk)).2.1 94 5 = nI tk := zsI_eq
          have dq2 := days_eq (x0 := tk) (n := cI A) (W := cW A) (dyG_R hI hB hT (kdA A w) s.2.1 (nu A (127 + 4 * b))) (wab hB) bf
          have days2 : ∀ d, zPa d mX6_firstDayAt [.inr (.inr (some 94)), .inl (kdA A w), .inl (nI (nu A (127 + 4 * b))), .inl (nI q), .inl (nI tk)] (zsI g3 94 5 (nI tk)) (fun v g => v = some (.inl (arV (dyD A (kdA A w) s.2.1 (nu A (127 + 4 * b)) tk) q)) ∧ gF 95 (zsI g3 94 5 (nI tk)) g) := fun d => by
            have := N_firstDayAt (d := d) (kd := kdA A w) B4.2.1 B4.2.2.2.1.2.1 B4.2.2.1.2.2.2.1.2.2.2 b1 (fm := nu A (127 + 4 * b)) (by omega) (to := q) (by omega) htk (dyG_R hI hB hT (kdA A w) s.2.1 (nu A (127 + 4 * b)))
            rw [dq2] at this
            exact this.mono (fun v g e => ⟨e.1, e.2.1⟩)
          refine pa_aload_n (pc' := 156) dX6_dayOfBringing_155 rfl rfl ?_
          refine pa_aload_n (pc' := 157) dX6_dayOfBringing_156 rfl rfl ?_
          refine pa_aload_n (pc' := 158) dX6_dayOfBringing_157 rfl rfl ?_
          refine pa_getI (pc' := 161) (n := 4) (v := kdA A w) dX6_dayOfBringing_158 fl_6_107 swd (by decide) ekd rfl ?_
          refine pa_aload (pc' := 163) dX6_dayOfBringing_161 rfl rfl ?_
          refine pa_getI (pc' := 166) (n := 4) (v := nI (nu A (127 + 4 * b))) dX6_dayOfBringing_163 fl_6_130 sbd (by decide) efd rfl ?_
          refine pa_aload_n (pc' := 167) dX6_dayOfBringing_166 rfl rfl ?_
          refine pa_getI (pc' := 170) (n := 7) (v := nI q) dX6_dayOfBringing_167 fl_6_15 s94d (by decide) q4 rfl ?_
          refine pa_aload_n (pc' := 171) dX6_dayOfBringing_170 rfl rfl ?_
          refine pa_getI (pc' := 174) (n := 7) (v := nI tk) dX6_dayOfBringing_171 fl_6_19 s94d (by decide) q5 rfl ?_
          refine pa_callv (pc' := 177) (vs := [.inl (kdA A w), .inl (nI (nu A (127 + 4 * b))), .inl (nI q), .inl (nI tk)]) (rest := [.inr (.inr (some 94))]) dX6_dayOfBringing_174 ml_6_136 (by decide) rfl rfl rfl (fun d' _ => days2 d') (fun v g5 hq => ?_)
          obtain ⟨ev, eh⟩ := hq
          subst ev
          show zPn N none d mX6_dayOfBringing (177, _, [.inl (arV (dyD A (kdA A w) s.2.1 (nu A (127 + 4 * b)) tk) q), .inr (.inr (some 94))], g5) _
          have F5 : gF3 h g5 := F4.tr eh.f95
          have B5 := B.fr F5
          have s94e : zsh g5 94 = some (6, 7) := zsh_by B5.2.1.1 (by decide +kernel)
          rw [e3]
          refine pa_putI (pc' := 180) (n := 7) dX6_dayOfBringing_177 fl_6_22 s94e (Or.inl rfl) (Or.inl rfl) rfl ?_
          generalize ev : arV (dyD A (kdA A w) s.2.1 (nu A (127 + 4 * b)) tk) q = av
          have F6 : gF3 h (zsI g5 94 6 av) := F5.tr (gF.st (B := 94)).f94
          have B6 := B.fr F6
          have s94f : zsh (zsI g5 94 6 av) 94 = some (6, 7) := s94e
          obtain ⟨-, -, -, -, swf, -⟩ := B6.sh
          have swf := swf w (by omega)
          obtain ⟨-, ekpf⟩ := B6.2.2.2.2.2.1 w hw
          have q6 : (zsI g5 94 6 av).2.1 94 6 = av := zsI_eq
          have k4 : (zsI g5 94 6 av).2.1 94 4 = nI q := by rw [zsI_no (by omega), eh.2.2 94 4 (by decide)]; exact q4
          have k5 : (zsI g5 94 6 av).2.1 94 5 = nI tk := by rw [zsI_no (by omega), eh.2.2 94 5 (by decide)]; exact q5
          refine pa_aload_n (pc' := 181) dX6_dayOfBringing_180 rfl rfl ?_
          refine pa_getI (pc' := 184) (n := 7) (v := av) dX6_dayOfBringing_181 fl_6_22 s94f (by decide) q6 rfl ?_
          refine pa_bipush (v := (-2)) (pc' := 186) dX6_dayOfBringing_184 (by decide) rfl ?_
          cases ed2 : dyD A (kdA A w) s.2.1 (nu A (127 + 4 * b)) tk q with
          | none =>
            dsimp only
            have ea2 : av = -2 := by rw [← ev]; unfold arV; rw [ed2]
            refine pa_icmp_f (pc' := 189) dX6_dayOfBringing_186 (decide_eq_false (not_not_intro ea2)) (by decide) rfl ?_
            refine pa_bipush (v := (-2)) (pc' := 191) dX6_dayOfBringing_189 (by decide) rfl ?_
            refine pa_goto (pc' := 203) dX6_dayOfBringing_191 (by decide) ?_
            refine pa_iret dX6_dayOfBringing_203 rfl rfl ?_
            exact ⟨rfl, F6, fun p e => nomatch e⟩
          | some z2 =>
            dsimp only
            have hz := dyD_le hI hB hT ed2
            have ea2 : av = nI z2 := by rw [← ev]; unfold arV; rw [ed2]
            subst ea2
            refine pa_icmp_t (pc' := 194) dX6_dayOfBringing_186 (decide_eq_true (fun z => by have := congrArg Int32.toInt z; rw [nI_toInt (by omega), show (-2 : Int32).toInt = -2 by decide] at this; omega)) (by decide) ?_
            refine pa_aload_n (pc' := 195) dX6_dayOfBringing_194 rfl rfl ?_
            refine pa_getI (pc' := 198) (n := 7) (v := nI z2) dX6_dayOfBringing_195 fl_6_22 s94f (by decide) q6 rfl ?_
            refine pa_aload_n (pc' := 199) dX6_dayOfBringing_198 rfl rfl ?_
            refine pa_getI (pc' := 202) (n := 4) (v := nI (nu A (109 + 4 * w))) dX6_dayOfBringing_199 fl_6_149 swf (by decide) ekpf rfl ?_
            refine pa_iadd (pc' := 203) (v := nI (z2 + (nu A (109 + 4 * w)))) dX6_dayOfBringing_202 (nI_add _ _) rfl ?_
            refine pa_iret dX6_dayOfBringing_203 rfl rfl ?_
            exact ⟨rfl, F6, fun p e => by cases e; exact ⟨k4, k5, q6⟩⟩
end BRC
/-! the reference: who brings a box, when -/
def gF4 (h g : zH) : Prop := g.1 = h.1 ∧ g.2.2 = h.2.2 ∧ ∀ b k, b ≠ 205 → b ≠ 206 → (b = 196 → k ≠ 26 ∧ k ≠ 27) → g.2.1 b k = h.2.1 b k
theorem gF4.rf {h : zH} : gF4 h h := ⟨rfl, rfl, fun _ _ _ _ _ => rfl⟩
theorem gF4.tr {h g g2 : zH} (p : gF4 h g) (q : gF4 g g2) : gF4 h g2 := ⟨q.1.trans p.1, q.2.1.trans p.2.1, fun b k e1 e2 e3 => (q.2.2 b k e1 e2 e3).trans (p.2.2 b k e1 e2 e3)⟩
theorem gF2.f4 {h g : zH} (f : gF2 h g) : gF4 h g := ⟨f.1, f.2.1, fun b k e1 e2 _ => f.2.2 b k e1 e2⟩
theorem gF4.st {h : zH} {k : Nat} {v : Int32} (hk : k = 26 ∨ k = 27) : gF4 h (zsI h 196 k v) := ⟨rfl, rfl, fun b j _ _ e => zsI_no (fun z => by
  have := e z.1
  omega)⟩
def bgM (A : pA) (s : nS) (h : zH) : Prop := (pI A ∧ tA A ∧ tB A ∧ nOK A s) ∧ seM (cI A) (cW A) (wa A) (wb A) (dyA A) (opA A) s.2.1 h ∧ sgM (ntA A) (nu A 2) (nu A 1) A h ∧ nMo A s 201 0 h ∧ (∀ w, w < cH A → ∀ j, j < 4 → h.2.1 199 (107 + 4 * w + j) = vA A (107 + 4 * w + j)) ∧ ∀ b, b < cB A → ∀ j, j < 4 → h.2.1 199 (127 + 4 * b + j) = vA A (127 + 4 * b + j)
section BRM
variable {d N w b L y : Nat} {h g : zH} {A : pA} {s : nS}
theorem bgM.fr (B : bgM A s h) (f : gF4 h g) : bgM A s g := by
  obtain ⟨B1, B2, B3, ⟨n1, n2, n3, n4⟩, B5, B6⟩ := B
  have e : ∀ a k, (a = 199 ∨ a = 201) → g.2.1 a k = h.2.1 a k := fun a k ha => f.2.2 a k (by omega) (by omega) (by omega)
  refine ⟨B1, ?_, ?_, ⟨(e _ _ (.inr rfl)).trans n1, (e _ _ (.inr rfl)).trans n2, fun w hw => ⟨(e _ _ (.inr rfl)).trans (n3 w hw).1, (e _ _ (.inr rfl)).trans (n3 w hw).2⟩, fun b hb => ⟨(e _ _ (.inr rfl)).trans (n4 b hb).1, (e _ _ (.inr rfl)).trans (n4 b hb).2.1, fun k hk => (e _ _ (.inr rfl)).trans ((n4 b hb).2.2 k hk)⟩⟩, fun w hw j hj => (e _ _ (.inl rfl)).trans (B5 w hw j hj), fun b hb j hj => (e _ _ (.inl rfl)).trans (B6 b hb j hj)⟩
  · obtain ⟨k1, k2, k3, k4, ⟨k5, k6, k7⟩, k8⟩ := B2
    refine ⟨f.1.trans k1, k2, k3, by rw [f.2.1]; exact k4, ⟨(e _ _ (.inl rfl)).trans k5, (e _ _ (.inl rfl)).trans k6, (e _ _ (.inr rfl)).trans k7⟩, fun k hk => ?_⟩
    rw [e _ _ (.inl rfl), e _ _ (.inl rfl), e _ _ (.inl rfl), e _ _ (.inl rfl)]
    exact k8 k hk
  · obtain ⟨k1, k2, ⟨k3, k4, k5, k6⟩, k7, k8⟩ := B3
    refine ⟨f.1.trans k1, by rw [f.2.1]; exact k2, ⟨(e _ _ (.inl rfl)).trans k3, (e _ _ (.inl rfl)).trans k4, (e _ _ (.inl rfl)).trans k5, (e _ _ (.inl rfl)).trans k6⟩, k7, fun i hi => ?_⟩
    obtain ⟨a1, a2, a3⟩ := k8 i hi
    exact ⟨(e _ _ (.inl rfl)).trans a1, fun k hk => (e _ _ (.inl rfl)).trans (a2 k hk), a3⟩
theorem M_ofWhale {j : Nat} (B : bgM A s h) (hw : w < cH A) (hj : j < 4) : zPa d mX12_ofWhale [.inr (.inr (some 196)), .inl (nI w), .inl (nI j)] h (fun v g => v = some (.inl (vA A (107 + 4 * w + j))) ∧ g = h) := by
  intro N
  have b3 := B.1.1.2.2.1.2.2.1
  have s196 := sh_196' B.2.1.1
  have s199 : zsh h 199 = some (14, 363) := zsh_by B.2.1.1 (by decide +kernel)
  have r15 := B.2.2.1.2.1.1
  have e := B.2.2.2.2.1 w hw j hj
  show zPn N none d mX12_ofWhale (0, [(0, .inr (.inr (some 196))), (1, .inl (nI w)), (2, .inl (nI j))], [], h) _
  refine pa_aload_n (pc' := 1) dX12_ofWhale_0 rfl rfl ?_
  refine pa_getR (pc' := 4) (n := 39) (r := 199) dX12_ofWhale_1 fl_12_20 s196 (by decide) r15 rfl ?_
  refine pa_bipush (v := nI 107) (pc' := 6) dX12_ofWhale_4 (by decide) rfl ?_
  refine pa_iconst (v := nI 4) (pc' := 7) dX12_ofWhale_6 (by decide) rfl ?_
  refine pa_iload_n (pc' := 8) dX12_ofWhale_7 rfl rfl ?_
  refine pa_imul (pc' := 9) (v := nI (4 * w)) dX12_ofWhale_8 (nI_mul _ _) rfl ?_
  refine pa_iadd (pc' := 10) (v := nI (107 + 4 * w)) dX12_ofWhale_9 (nI_add _ _) rfl ?_
  refine pa_iload_n (pc' := 11) dX12_ofWhale_10 rfl rfl ?_
  refine pa_iadd (pc' := 12) (v := nI (107 + 4 * w + j)) dX12_ofWhale_11 (nI_add _ _) rfl ?_
  refine pa_iald (pc' := 13) dX12_ofWhale_12 s199 rfl (fun _ => ?_)
  rw [nI_clamp (by omega), e]
  refine pa_iret dX12_ofWhale_13 rfl rfl ?_
  exact ⟨rfl, rfl⟩
theorem M_ofBoxA {j : Nat} (B : bgM A s h) (hb : b < cB A) (hj : j < 4) : zPa d mX12_ofBox [.inr (.inr (some 196)), .inl (nI b), .inl (nI j)] h (fun v g => v = some (.inl (vA A (127 + 4 * b + j))) ∧ g = h) := by
  have b4 := B.1.1.2.2.1.2.2.2.1
  exact M_ofBox B.2.1.1 B.2.2.1.2.1.1 (by omega) hj (B.2.2.2.2.2 b hb j hj)
theorem M_heardNow (B : bgM A s h) (hb : b < cB A) : zPa d mX12_heardNow [.inr (.inr (some 196)), .inl (nI b)] h (fun v g => v = some (.inl (heA A (s.2.2.2.2.2 b) s.1)) ∧ g = h) := by
  intro N
  obtain ⟨hI, hT, hB, hy, hwh, hbx⟩ := B.1
  have b4 := hI.2.2.1.2.2.2.1
  obtain ⟨bf, bto, -, -, bv⟩ := num_box hI hB hT hb
  obtain ⟨sok, slen, -⟩ := hbx b hb
  have lb6 : lB A b ≤ 6 := (B.2.2.1.2.2.2.2 _ bto).2.2.2
  have s196 := sh_196' B.2.1.1
  have s201 : zsh h 201 = some (14, 76) := zsh_by B.2.1.1 (by decide +kernel)
  have r17 := B.2.2.1.2.1.2
  have ny := B.2.2.2.1.1
  have e1 : h.2.1 199 (127 + 4 * b + 1) = nI (nu A (128 + 4 * b)) := by
    have := (B.2.2.2.2.2 b hb 1 (by decide)).trans (bv 1 (by decide))
    rw [show 127 + 4 * b + 1 = 128 + 4 * b by omega] at this ⊢
    exact this
  have hc : ∀ k, k < lB A b → (if nI k = -1 then 0 else h.2.1 201 (28 + 6 * b + k)) = nI (dg ((s.2.2.2.2.2 b).getD k 0)) := fun k hk => by
    rw [if_neg (fun z => by have := congrArg Int32.toInt z; rw [nI_toInt (by omega), show (-1 : Int32).toInt = -1 by decide] at this; omega)]
    have := (B.2.2.2.1.2.2.2 b hb).2.2 k (by omega)
    rw [Nat.zero_add] at this
    exact this
  have hr : ∀ d, zPa d mX12_hearsIn [.inr (.inr (some 196)), .inl (nI b), .inl (nI s.1), .inl (-1), .inl 0] h (fun v g => v = some (.inl (heA A (s.2.2.2.2.2 b) s.1)) ∧ g = h) := fun d => M_hearsIn B.2.2.1 (by omega) e1 bto rfl (by omega) hc slen sok
  show zPn N none d mX12_heardNow (0, [(0, .inr (.inr (some 196))), (1, .inl (nI b))], [], h) _
  refine pa_aload_n (pc' := 1) dX12_heardNow_0 rfl rfl ?_
  refine pa_iload_n (pc' := 2) dX12_heardNow_1 rfl rfl ?_
  refine pa_aload_n (pc' := 3) dX12_heardNow_2 rfl rfl ?_
  refine pa_getR (pc' := 6) (n := 39) (r := 201) dX12_heardNow_3 fl_12_26 s196 (by decide) r17 rfl ?_
  refine pa_iconst (v := nI 0) (pc' := 7) dX12_heardNow_6 (by decide) rfl ?_
  refine pa_iald (pc' := 8) dX12_heardNow_7 s201 rfl (fun _ => ?_)
  rw [nI_clamp (by omega), ny]
  refine pa_iconst (v := (-1)) (pc' := 9) dX12_heardNow_8 (by decide) rfl ?_
  refine pa_iconst (v := 0) (pc' := 10) dX12_heardNow_9 (by decide) rfl ?_
  refine pa_callv (pc' := 13) (vs := [.inl (nI b), .inl (nI s.1), .inl ((-1)), .inl 0]) (rest := []) dX12_heardNow_10 ml_12_291 (by decide) rfl rfl rfl (fun d' _ => hr d') (fun v g9 hq => ?_)
  obtain ⟨ev, eh⟩ := hq
  subst ev
  rw [eh]
  show zPn N none d mX12_heardNow (13, _, [.inl (heA A (s.2.2.2.2.2 b) s.1)], h) _
  refine pa_iret dX12_heardNow_13 rfl rfl ?_
  exact ⟨rfl, rfl⟩
theorem M_later {x y : Nat} (hx : x ≤ 2147483647) (hy : y ≤ 2147483647) : zPa d mX12_later [.inl (nI x), .inl (nI y)] h (fun v g => v = some (.inl (nI (max x y))) ∧ g = h) := by
  intro N
  show zPn N none d mX12_later (0, [(0, .inl (nI x)), (1, .inl (nI y))], [], h) _
  refine pa_iload_n (pc' := 1) dX12_later_0 rfl rfl ?_
  refine pa_iload_n (pc' := 2) dX12_later_1 rfl rfl ?_
  by_cases z : x ≤ y
  · refine pa_icmp_t (pc' := 9) dX12_later_2 (by rw [zcond_i]; exact decide_eq_true (by rw [nI_toInt (by omega), nI_toInt (by omega)]; omega)) (by decide) ?_
    refine pa_iload_n (pc' := 10) dX12_later_9 rfl rfl ?_
    refine pa_iret dX12_later_10 rfl rfl ?_
    exact ⟨by rw [Nat.max_eq_right z], rfl⟩
  · refine pa_icmp_f (pc' := 5) dX12_later_2 (by rw [zcond_i]; exact decide_eq_false (by rw [nI_toInt (by omega), nI_toInt (by omega)]; omega)) (by decide) rfl ?_
    refine pa_iload_n (pc' := 6) dX12_later_5 rfl rfl ?_
    refine pa_goto (pc' := 10) dX12_later_6 (by decide) ?_
    refine pa_iret dX12_later_10 rfl rfl ?_
    exact ⟨by rw [Nat.max_eq_left (by omega)], rfl⟩
theorem zcc_k : ∀ k, k < 4 → zcc k = if k = 0 then 3 else if k = 2 then 99 else 9 := by decide
theorem M_lays (B : bgM A s h) (hw : w < cH A) (hb : b < cB A) : zPa d mX12_lays [.inr (.inr (some 196)), .inl (nI w), .inl (nI b)] h (fun v g => v = some (.inl (match brV A s w b with | some _ => 1 | none => 0)) ∧ gF4 h g ∧ ∀ p, brV A s w b = some p → g.2.1 196 26 = nI p.1 ∧ g.2.1 196 27 = nI p.2.1) := by
  intro N
  obtain ⟨hI, hT, hB, hN⟩ := B.1
  obtain ⟨b1, b2, b3, b4, b5⟩ := hI.2.2.1
  have h1 := B.2.1.1
  have s196 := sh_196' h1
  have s201 : zsh h 201 = some (14, 76) := zsh_by h1 (by decide +kernel)
  obtain ⟨r15, r17, r24, r25⟩ := B.2.1.2.2.2.1
  obtain ⟨⟨kd0, kd3⟩, -, kp9, -, wv⟩ := num_whale hI hB hT hw
  obtain ⟨bf, bto, ⟨wg1, wg2⟩, bdy, bv⟩ := num_box hI hB hT hb
  obtain ⟨hy, hwh, hbx⟩ := hN
  obtain ⟨atl, frl⟩ := hwh w hw
  obtain ⟨sok, slen, snt⟩ := hbx b hb
  have nle := nSn_le s (cB A)
  obtain ⟨-, -, nw, nb⟩ := B.2.2.2.1
  have nat : h.2.1 201 (2 + w) = nI (s.2.2.1 w) := by
    have := (nw w hw).1
    rw [Nat.zero_add] at this
    exact this
  have nfr : h.2.1 201 (7 + w) = nI (s.2.2.2.1 w) := by
    have := (nw w hw).2
    rw [Nat.zero_add] at this
    exact this
  have ncm : h.2.1 201 (12 + b) = tDy (s.2.2.2.2.1 b) := by
    have := (nb b hb).1
    rw [Nat.zero_add] at this
    exact this
  have ekd : (kdA A w).toInt = 0 ∨ (kdA A w).toInt = 1 ∨ (kdA A w).toInt = 2 ∨ (kdA A w).toInt = 3 := by omega
  have capk := zcc_k (kdA A w).toInt.toNat (by omega)
  have rest : ∀ ms : Int32, ms = zcc (kdA A w).toInt.toNat → zPn N none d mX12_lays (27, zset1 [(0, .inr (.inr (some 196))), (1, .inl (nI w)), (2, .inl (nI b))] 3 (.inl (kdA A w)), [.inl ms], h) (fun v g => v = some (.inl (match brV A s w b with | some _ => 1 | none => 0)) ∧ gF4 h g ∧ ∀ p, brV A s w b = some p → g.2.1 196 26 = nI p.1 ∧ g.2.1 196 27 = nI p.2.1) := fun ms hms => by
    unfold brV
    rw [← hms]
    have hgl := heA_i hI (s.2.2.2.2.2 b) s.1
    refine pa_istore (pc' := 29) dX12_lays_27 (by decide) rfl rfl ?_
    refine pa_aload_n (pc' := 30) dX12_lays_29 rfl rfl ?_
    refine pa_iload_n (pc' := 31) dX12_lays_30 rfl rfl ?_
    refine pa_callv (pc' := 34) (vs := [.inl (nI b)]) (rest := []) dX12_lays_31 ml_12_295 (by decide) rfl rfl rfl (fun d' _ => M_heardNow B hb) (fun v g9 hq => ?_)
    obtain ⟨ev, eh⟩ := hq
    subst ev
    rw [eh]
    show zPn N none d mX12_lays (34, _, [.inl (heA A (s.2.2.2.2.2 b) s.1)], h) _
    unfold brG
    generalize heA A (s.2.2.2.2.2 b) s.1 = gl at hgl ⊢
    refine pa_istore (pc' := 36) dX12_lays_34 (by decide) rfl rfl ?_
    refine pa_aload_n (pc' := 37) dX12_lays_36 rfl rfl ?_
    refine pa_iload_n (pc' := 38) dX12_lays_37 rfl rfl ?_
    refine pa_iconst (v := nI 2) (pc' := 39) dX12_lays_38 (by decide) rfl ?_
    refine pa_callv (pc' := 42) (vs := [.inl (nI b), .inl (nI 2)]) (rest := []) dX12_lays_39 ml_12_262 (by decide) rfl rfl rfl (fun d' _ => M_ofBoxA B hb (by omega)) (fun v g9 hq => ?_)
    obtain ⟨ev, eh⟩ := hq
    subst ev
    rw [eh]
    show zPn N none d mX12_lays (42, _, [.inl (vA A (127 + 4 * b + 2))], h) _
    refine pa_iload (pc' := 44) dX12_lays_42 rfl rfl ?_
    rw [show 127 + 4 * b + 2 = 129 + 4 * b by omega]
    have no : ∀ (r : Option (Nat × Nat × Nat)), r = none → zPn N none d mX12_lays (64, zset1 (zset1 (zset1 [(0, .inr (.inr (some 196))), (1, .inl (nI w)), (2, .inl (nI b))] 3 (.inl (kdA A w))) 4 (.inl ms)) 5 (.inl gl), [], h) (fun v g => v = some (.inl (match r with | some _ => 1 | none => 0)) ∧ gF4 h g ∧ ∀ p, r = some p → g.2.1 196 26 = nI p.1 ∧ g.2.1 196 27 = nI p.2.1) := fun r hr => by
      subst hr
      refine pa_iconst (v := 0) (pc' := 65) dX12_lays_64 (by decide) rfl ?_
      refine pa_iret dX12_lays_65 rfl rfl ?_
      exact ⟨rfl, gF4.rf, fun p e => nomatch e⟩
    by_cases zz : ms.toInt < (vA A (129 + 4 * b)).toInt
    · refine pa_icmp_t (pc' := 64) dX12_lays_44 (by rw [zcond_i]; exact decide_eq_true (by omega)) (by decide) ?_
      refine no _ ?_
      rw [if_pos zz]
      cases s.2.2.2.2.1 b <;> rfl
    · refine pa_icmp_f (pc' := 47) dX12_lays_44 (by rw [zcond_i]; exact decide_eq_false (by omega)) (by decide) rfl ?_
      refine pa_aload_n (pc' := 48) dX12_lays_47 rfl rfl ?_
      refine pa_getR (pc' := 51) (n := 39) (r := 201) dX12_lays_48 fl_12_26 s196 (by decide) r17 rfl ?_
      refine pa_bipush (v := nI 12) (pc' := 53) dX12_lays_51 (by decide) rfl ?_
      refine pa_iload_n (pc' := 54) dX12_lays_53 rfl rfl ?_
      refine pa_iadd (pc' := 55) (v := nI (12 + b)) dX12_lays_54 (nI_add _ _) rfl ?_
      refine pa_iald (pc' := 56) dX12_lays_55 s201 rfl (fun _ => ?_)
      rw [nI_clamp (by omega), ncm]
      rw [if_neg zz]
      cases o : s.2.2.2.2.1 b with
      | some p0 =>
        have hp := (snt p0 o).2
        refine pa_if_t (pc' := 64) dX12_lays_56 (zgt_t (by rw [show tDy (some p0) = nI (p0.1 + 1) from rfl, nI_toInt (by omega)]; omega)) (by decide) ?_
        exact no _ rfl
      | none =>
        have sl := nSn_lt o (cB A) hb
        have fr7 : s.2.2.2.1 w ≤ 700000 := by
          have := Nat.mul_le_mul_left 88722 (show nSn s (cB A) ≤ 7 by omega)
          omega
        refine pa_if_f (pc' := 59) dX12_lays_56 (by decide) (by decide) rfl ?_
        refine pa_iload (pc' := 61) dX12_lays_59 rfl rfl ?_
        rcases hgl with e2 | ⟨q, hq, e2, e3, e4, e5⟩
        · refine pa_if_f (pc' := 64) dX12_lays_61 (by rw [e2]; decide) (by decide) rfl ?_
          refine no _ ?_
          dsimp only
          rw [if_pos e2]
        · dsimp only
          rw [if_neg e4]
          have K2 := B.2.1
          have hop : ∀ k, k < cW A → opK (opA A k) := fun k _ => (opA_ok hI hB hT k).1
          have arr : ∀ d, zPa d mX12_arrivalOf [.inr (.inr (some 196)), .inl (kdA A w), .inl (nI (s.2.2.1 w)), .inl (nI (nu A (127 + 4 * b))), .inl (nI (s.2.2.2.1 w))] h (fun v g => v = some (.inl (arV (dyD A (kdA A w) s.2.1 (s.2.2.1 w) (s.2.2.2.1 w)) (nu A (127 + 4 * b)))) ∧ gF2 h g) := fun d => (M_arrivalOf K2 hop (dyG_R hI hB hT (kdA A w) s.2.1 (s.2.2.1 w)) (by omega) (by omega) fr7).mono (fun v g e => ⟨e.1, e.2.1⟩)
          refine pa_if_t (pc' := 66) dX12_lays_61 (by rw [zcond_i]; exact decide_eq_true (by rw [show (0 : Int32).toInt = 0 by decide]; omega)) (by decide) ?_
          refine pa_aload_n (pc' := 67) dX12_lays_66 rfl rfl ?_
          refine pa_iload_n (pc' := 68) dX12_lays_67 rfl rfl ?_
          refine pa_aload_n (pc' := 69) dX12_lays_68 rfl rfl ?_
          refine pa_getR (pc' := 72) (n := 39) (r := 201) dX12_lays_69 fl_12_26 s196 (by decide) r17 rfl ?_
          refine pa_iconst (v := nI 2) (pc' := 73) dX12_lays_72 (by decide) rfl ?_
          refine pa_iload_n (pc' := 74) dX12_lays_73 rfl rfl ?_
          refine pa_iadd (pc' := 75) (v := nI (2 + w)) dX12_lays_74 (nI_add _ _) rfl ?_
          refine pa_iald (pc' := 76) dX12_lays_75 s201 rfl (fun _ => ?_)
          rw [nI_clamp (by omega), nat]
          refine pa_aload_n (pc' := 77) dX12_lays_76 rfl rfl ?_
          refine pa_iload_n (pc' := 78) dX12_lays_77 rfl rfl ?_
          refine pa_iconst (v := nI 0) (pc' := 79) dX12_lays_78 (by decide) rfl ?_
          refine pa_callv (pc' := 82) (vs := [.inl (nI b), .inl (nI 0)]) (rest := [.inl (nI (s.2.2.1 w)), .inl (kdA A w), .inr (.inr (some 196))]) dX12_lays_79 ml_12_262 (by decide) rfl rfl rfl (fun d' _ => M_ofBoxA B hb (by omega)) (fun v g9 hq => ?_)
          obtain ⟨ev, eh⟩ := hq
          subst ev
          rw [eh]
          show zPn N none d mX12_lays (82, _, [.inl (vA A (127 + 4 * b + 0)), .inl (nI (s.2.2.1 w)), .inl (kdA A w), .inr (.inr (some 196))], h) _
          have eb0 : vA A (127 + 4 * b + 0) = nI (nu A (127 + 4 * b)) := bv 0 (by decide)
          rw [eb0]
          refine pa_aload_n (pc' := 83) dX12_lays_82 rfl rfl ?_
          refine pa_getR (pc' := 86) (n := 39) (r := 201) dX12_lays_83 fl_12_26 s196 (by decide) r17 rfl ?_
          refine pa_bipush (v := nI 7) (pc' := 88) dX12_lays_86 (by decide) rfl ?_
          refine pa_iload_n (pc' := 89) dX12_lays_88 rfl rfl ?_
          refine pa_iadd (pc' := 90) (v := nI (7 + w)) dX12_lays_89 (nI_add _ _) rfl ?_
          refine pa_iald (pc' := 91) dX12_lays_90 s201 rfl (fun _ => ?_)
          rw [nI_clamp (by omega), nfr]
          refine pa_callv (pc' := 94) (vs := [.inl (kdA A w), .inl (nI (s.2.2.1 w)), .inl (nI (nu A (127 + 4 * b))), .inl (nI (s.2.2.2.1 w))]) (rest := []) dX12_lays_91 ml_12_352 (by decide) rfl rfl rfl (fun d' _ => arr d') (fun v g1 hq => ?_)
          obtain ⟨ev, eh⟩ := hq
          subst ev
          show zPn N none d mX12_lays (94, _, [.inl (arV (dyD A (kdA A w) s.2.1 (s.2.2.1 w) (s.2.2.2.1 w)) (nu A (127 + 4 * b)))], g1) _
          refine pa_istore (pc' := 96) dX12_lays_94 (by decide) rfl rfl ?_
          refine pa_iload (pc' := 98) dX12_lays_96 rfl rfl ?_
          have F1 : gF4 h g1 := eh.f4
          have B1 := B.fr F1
          cases ed : dyD A (kdA A w) s.2.1 (s.2.2.1 w) (s.2.2.2.1 w) (nu A (127 + 4 * b)) with
          | none =>
            refine pa_if_f (pc' := 101) dX12_lays_98 (by unfold arV; rw [ed]; decide) (by decide) rfl ?_
            refine pa_iconst (v := 0) (pc' := 102) dX12_lays_101 (by decide) rfl ?_
            refine pa_iret dX12_lays_102 rfl rfl ?_
            exact ⟨rfl, F1, fun p e => nomatch e⟩
          | some x =>
            have hx := dyD_le hI hB hT ed
            have ea : arV (dyD A (kdA A w) s.2.1 (s.2.2.1 w) (s.2.2.2.1 w)) (nu A (127 + 4 * b)) = nI x := by unfold arV; rw [ed]
            rw [ea]
            dsimp only
            refine pa_if_t (pc' := 103) dX12_lays_98 (by rw [zcond_i]; exact decide_eq_true (by rw [nI_toInt (by omega), show (0 : Int32).toInt = 0 by decide]; omega)) (by decide) ?_
            have s196b := sh_196' B1.2.1.1
            refine pa_aload_n (pc' := 104) dX12_lays_103 rfl rfl ?_
            refine pa_iload (pc' := 106) dX12_lays_104 rfl rfl ?_
            refine pa_aload_n (pc' := 107) dX12_lays_106 rfl rfl ?_
            refine pa_iload_n (pc' := 108) dX12_lays_107 rfl rfl ?_
            refine pa_iconst (v := nI 3) (pc' := 109) dX12_lays_108 (by decide) rfl ?_
            refine pa_callv (pc' := 112) (vs := [.inl (nI b), .inl (nI 3)]) (rest := [.inl (nI x), .inr (.inr (some 196))]) dX12_lays_109 ml_12_262 (by decide) rfl rfl rfl (fun d' _ => M_ofBoxA B1 hb (by omega)) (fun v g9 hq => ?_)
            obtain ⟨ev, eh⟩ := hq
            subst ev
            rw [eh]
            show zPn N none d mX12_lays (112, _, [.inl (vA A (127 + 4 * b + 3)), .inl (nI x), .inr (.inr (some 196))], g1) _
            have eb3 : vA A (127 + 4 * b + 3) = nI (nu A (130 + 4 * b)) := (bv 3 (by decide)).trans (congrArg (fun z => nI (nu A z)) (by omega))
            rw [eb3]
            refine pa_calls (pc' := 115) (kd := 1) (vs := [.inl (nI x), .inl (nI (nu A (130 + 4 * b)))]) (rest := [.inr (.inr (some 196))]) dX12_lays_112 ml_12_355 (.inl rfl) rfl rfl rfl (fun d' _ => M_later (by omega) (by omega)) (fun v g9 hq => ?_)
            obtain ⟨ev, eh⟩ := hq
            subst ev
            rw [eh]
            show zPn N none d mX12_lays (115, _, [.inl (nI (max x (nu A (130 + 4 * b)))), .inr (.inr (some 196))], g1) _
            refine pa_putI (pc' := 118) (n := 39) dX12_lays_115 fl_12_358 s196b (Or.inl rfl) (Or.inl rfl) rfl ?_
            generalize et : max x (nu A (130 + 4 * b)) = tk
            have htk : tk ≤ 700000 := by
              have := Nat.mul_le_mul_left 88722 (show nSn s (cB A) ≤ 7 by omega)
              omega
            have F2 : gF4 h (zsI g1 196 26 (nI tk)) := F1.tr (gF4.st (.inl rfl))
            have B2 := B.fr F2
            have s196c := sh_196' B2.2.1.1
            have q26 : (zsI g1 196 26 (nI tk)).2.1 196 26 = nI tk := zsI_eq
            have arr2 : ∀ d, zPa d mX12_arrivalOf [.inr (.inr (some 196)), .inl (kdA A w), .inl (nI (nu A (127 + 4 * b))), .inl (nI q), .inl (nI tk)] (zsI g1 196 26 (nI tk)) (fun v g => v = some (.inl (arV (dyD A (kdA A w) s.2.1 (nu A (127 + 4 * b)) tk) q)) ∧ gF2 (zsI g1 196 26 (nI tk)) g) := fun d => (M_arrivalOf B2.2.1 hop (dyG_R hI hB hT (kdA A w) s.2.1 (nu A (127 + 4 * b))) (by omega) (by omega) htk).mono (fun v g e => ⟨e.1, e.2.1⟩)
            subst e2
            refine pa_aload_n (pc' := 119) dX12_lays_118 rfl rfl ?_
            refine pa_aload_n (pc' := 120) dX12_lays_119 rfl rfl ?_
            refine pa_iload_n (pc' := 121) dX12_lays_120 rfl rfl ?_
            refine pa_aload_n (pc' := 122) dX12_lays_121 rfl rfl ?_
            refine pa_iload_n (pc' := 123) dX12_lays_122 rfl rfl ?_
            refine pa_iconst (v := nI 0) (pc' := 124) dX12_lays_123 (by decide) rfl ?_
            refine pa_callv (pc' := 127) (vs := [.inl (nI b), .inl (nI 0)]) (rest := [.inl (kdA A w), .inr (.inr (some 196)), .inr (.inr (some 196))]) dX12_lays_124 ml_12_262 (by decide) rfl rfl rfl (fun d' _ => M_ofBoxA B2 hb (by omega)) (fun v g9 hq => ?_)
            obtain ⟨ev, eh⟩ := hq
            subst ev
            rw [eh]
            show zPn N none d mX12_lays (127, _, [.inl (vA A (127 + 4 * b + 0)), .inl (kdA A w), .inr (.inr (some 196)), .inr (.inr (some 196))], zsI g1 196 26 (nI tk)) _
            rw [eb0]
            refine pa_iload (pc' := 129) dX12_lays_127 rfl rfl ?_
            refine pa_aload_n (pc' := 130) dX12_lays_129 rfl rfl ?_
            refine pa_getI (pc' := 133) (n := 39) (v := nI tk) dX12_lays_130 fl_12_358 s196c (by decide) q26 rfl ?_
            refine pa_callv (pc' := 136) (vs := [.inl (kdA A w), .inl (nI (nu A (127 + 4 * b))), .inl (nI q), .inl (nI tk)]) (rest := [.inr (.inr (some 196))]) dX12_lays_133 ml_12_352 (by decide) rfl rfl rfl (fun d' _ => arr2 d') (fun v g3 hq => ?_)
            obtain ⟨ev, eh⟩ := hq
            subst ev
            show zPn N none d mX12_lays (136, _, [.inl (arV (dyD A (kdA A w) s.2.1 (nu A (127 + 4 * b)) tk) q), .inr (.inr (some 196))], g3) _
            have F3 : gF4 h g3 := F2.tr eh.f4
            have B3 := B.fr F3
            have s196d := sh_196' B3.2.1.1
            rw [e3]
            generalize ev : arV (dyD A (kdA A w) s.2.1 (nu A (127 + 4 * b)) tk) q = av
            refine pa_putI (pc' := 139) (n := 39) dX12_lays_136 fl_12_361 s196d (Or.inl rfl) (Or.inl rfl) rfl ?_
            have F4 : gF4 h (zsI g3 196 27 av) := F3.tr (gF4.st (.inr rfl))
            have s196e : zsh (zsI g3 196 27 av) 196 = some (12, 39) := s196d
            have q27 : (zsI g3 196 27 av).2.1 196 27 = av := zsI_eq
            have k26 : (zsI g3 196 27 av).2.1 196 26 = nI tk := by rw [zsI_no (by omega), eh.2.2 196 26 (by decide) (by decide)]; exact q26
            refine pa_aload_n (pc' := 140) dX12_lays_139 rfl rfl ?_
            refine pa_getI (pc' := 143) (n := 39) (v := av) dX12_lays_140 fl_12_361 s196e (by decide) q27 rfl ?_
            cases ed2 : dyD A (kdA A w) s.2.1 (nu A (127 + 4 * b)) tk q with
            | none =>
              have ea2 : av = -2 := by rw [← ev]; unfold arV; rw [ed2]
              refine pa_if_t (pc' := 150) dX12_lays_143 (by rw [ea2]; decide) (by decide) ?_
              refine pa_iconst (v := 0) (pc' := 151) dX12_lays_150 (by decide) rfl ?_
              refine pa_iret dX12_lays_151 rfl rfl ?_
              exact ⟨rfl, F4, fun p e => nomatch e⟩
            | some z2 =>
              have hz := dyD_le hI hB hT ed2
              have ea2 : av = nI z2 := by rw [← ev]; unfold arV; rw [ed2]
              subst ea2
              refine pa_if_f (pc' := 146) dX12_lays_143 (by rw [zcond_i]; exact decide_eq_false (by rw [nI_toInt (by omega), show (0 : Int32).toInt = 0 by decide]; omega)) (by decide) rfl ?_
              refine pa_iconst (v := 1) (pc' := 147) dX12_lays_146 (by decide) rfl ?_
              refine pa_goto (pc' := 151) dX12_lays_147 (by decide) ?_
              refine pa_iret dX12_lays_151 rfl rfl ?_
              exact ⟨rfl, F4, fun p e => by cases e; exact ⟨k26, q27⟩⟩
  show zPn N none d mX12_lays (0, [(0, .inr (.inr (some 196))), (1, .inl (nI w)), (2, .inl (nI b))], [], h) _
  refine pa_aload_n (pc' := 1) dX12_lays_0 rfl rfl ?_
  refine pa_iload_n (pc' := 2) dX12_lays_1 rfl rfl ?_
  refine pa_iconst (v := nI 0) (pc' := 3) dX12_lays_2 (by decide) rfl ?_
  refine pa_callv (pc' := 6) (vs := [.inl (nI w), .inl (nI 0)]) (rest := []) dX12_lays_3 ml_12_271 (by decide) rfl rfl rfl (fun d' _ => M_ofWhale B hw (by omega)) (fun v g9 hq => ?_)
  obtain ⟨ev, eh⟩ := hq
  subst ev
  rw [eh]
  show zPn N none d mX12_lays (6, _, [.inl (vA A (107 + 4 * w + 0))], h) _
  have ek0 : vA A (107 + 4 * w + 0) = kdA A w := rfl
  rw [ek0]
  refine pa_istore_n (pc' := 7) dX12_lays_6 (by decide) rfl rfl ?_
  refine pa_iload_n (pc' := 8) dX12_lays_7 rfl rfl ?_
  have kn : ∀ j : Nat, j < 4 → (kdA A w = nI j ↔ (kdA A w).toInt = j) := fun j hj => ⟨fun e => by rw [e, nI_toInt (by omega)], fun e => Int32.toInt_inj.mp (by rw [e, nI_toInt (by omega)])⟩
  by_cases z0 : (kdA A w).toInt = 0
  · have e0 : kdA A w = 0 := (kn 0 (by decide)).mpr z0
    refine pa_if_f (pc' := 11) dX12_lays_8 (decide_eq_false (not_not_intro e0)) (by decide) rfl ?_
    refine pa_iconst (v := 3) (pc' := 12) dX12_lays_11 (by decide) rfl ?_
    refine pa_goto (pc' := 27) dX12_lays_12 (by decide) ?_
    refine rest 3 ?_
    rw [capk, if_pos (by omega)]
  · have e0 : ¬ kdA A w = 0 := fun e => z0 ((kn 0 (by decide)).mp e)
    refine pa_if_t (pc' := 15) dX12_lays_8 (decide_eq_true e0) (by decide) ?_
    refine pa_iload_n (pc' := 16) dX12_lays_15 rfl rfl ?_
    refine pa_iconst (v := 2) (pc' := 17) dX12_lays_16 (by decide) rfl ?_
    by_cases z2 : (kdA A w).toInt = 2
    · have e2 : kdA A w = 2 := (kn 2 (by decide)).mpr z2
      refine pa_icmp_f (pc' := 20) dX12_lays_17 (decide_eq_false (not_not_intro e2)) (by decide) rfl ?_
      refine pa_bipush (v := 99) (pc' := 22) dX12_lays_20 (by decide) rfl ?_
      refine pa_goto (pc' := 27) dX12_lays_22 (by decide) ?_
      refine rest 99 ?_
      rw [capk, if_neg (by omega), if_pos (by omega)]
    · have e2 : ¬ kdA A w = 2 := fun e => z2 ((kn 2 (by decide)).mp e)
      refine pa_icmp_t (pc' := 25) dX12_lays_17 (decide_eq_true e2) (by decide) ?_
      refine pa_bipush (v := 9) (pc' := 27) dX12_lays_25 (by decide) rfl ?_
      refine rest 9 ?_
      rw [capk, if_neg (by omega), if_neg (by omega)]
theorem M_bringsOf (B : bgM A s h) (hw : w < cH A) (hb : b < cB A) : zPa d mX12_bringsOf [.inr (.inr (some 196)), .inl (nI w), .inl (nI b)] h (fun v g => v = some (.inl (brR A w (brV A s w b))) ∧ gF4 h g) := by
  intro N
  obtain ⟨-, -, kp9, -, wv⟩ := num_whale B.1.1 B.1.2.2.1 B.1.2.1 hw
  show zPn N none d mX12_bringsOf (0, [(0, .inr (.inr (some 196))), (1, .inl (nI w)), (2, .inl (nI b))], [], h) _
  refine pa_aload_n (pc' := 1) dX12_bringsOf_0 rfl rfl ?_
  refine pa_iload_n (pc' := 2) dX12_bringsOf_1 rfl rfl ?_
  refine pa_iload_n (pc' := 3) dX12_bringsOf_2 rfl rfl ?_
  refine pa_callv (pc' := 6) (vs := [.inl (nI w), .inl (nI b)]) (rest := []) dX12_bringsOf_3 ml_12_364 (by decide) rfl rfl rfl (fun d' _ => M_lays B hw hb) (fun v g1 hq => ?_)
  obtain ⟨ev, eh⟩ := hq
  subst ev
  show zPn N none d mX12_bringsOf (6, _, [.inl (match brV A s w b with | some _ => 1 | none => 0)], g1) _
  obtain ⟨F1, K1⟩ := eh
  have B1 := B.fr F1
  cases o : brV A s w b with
  | none =>
    refine pa_if_t (pc' := 23) dX12_bringsOf_6 (by decide) (by decide) ?_
    refine pa_bipush (v := (-2)) (pc' := 25) dX12_bringsOf_23 (by decide) rfl ?_
    refine pa_iret dX12_bringsOf_25 rfl rfl ?_
    exact ⟨rfl, F1⟩
  | some p =>
    have s196b := sh_196' B1.2.1.1
    have q27 := (K1 p o).2
    refine pa_if_f (pc' := 9) dX12_bringsOf_6 (show zcond .eq (1 : Int32) 0 = false by decide) (by decide) rfl ?_
    refine pa_aload_n (pc' := 10) dX12_bringsOf_9 rfl rfl ?_
    refine pa_getI (pc' := 13) (n := 39) (v := nI p.2.1) dX12_bringsOf_10 fl_12_361 s196b (by decide) q27 rfl ?_
    refine pa_aload_n (pc' := 14) dX12_bringsOf_13 rfl rfl ?_
    refine pa_iload_n (pc' := 15) dX12_bringsOf_14 rfl rfl ?_
    refine pa_iconst (v := nI 2) (pc' := 16) dX12_bringsOf_15 (by decide) rfl ?_
    refine pa_callv (pc' := 19) (vs := [.inl (nI w), .inl (nI 2)]) (rest := [.inl (nI p.2.1)]) dX12_bringsOf_16 ml_12_271 (by decide) rfl rfl rfl (fun d' _ => M_ofWhale B1 hw (by omega)) (fun v g9 hq => ?_)
    obtain ⟨ev, eh⟩ := hq
    subst ev
    rw [eh]
    show zPn N none d mX12_bringsOf (19, _, [.inl (vA A (107 + 4 * w + 2)), .inl (nI p.2.1)], g1) _
    have e2 : vA A (107 + 4 * w + 2) = nI (nu A (109 + 4 * w)) := (wv 2 (by decide)).trans (congrArg (fun z => nI (nu A z)) (by omega))
    rw [e2]
    refine pa_iadd (pc' := 20) (v := nI (p.2.1 + (nu A (109 + 4 * w)))) dX12_bringsOf_19 (nI_add _ _) rfl ?_
    refine pa_goto (pc' := 25) dX12_bringsOf_20 (by decide) ?_
    refine pa_iret dX12_bringsOf_25 rfl rfl ?_
    exact ⟨rfl, F1⟩
end BRM
/-! the class: a state is copied, kept, taken back -/
section CPY
variable {N : Nat} {scr : Option (Nat × (Nat → Int32))} {d : Nat} {m : zM} {pc pc' : Nat} {ls : zL} {st : List zV} {h : zH} {Q : Option zV → zH → Prop}
theorem pa_cpy {k na a b n n0 n1 : Nat} {cm : zM} (hd : decode m.1 pc = .ok (.invokestatic k, 3)) (hz : zmth m.2.1 k = some (14, na, cm)) (_ : 0 ≤ n) (hn : n ≤ 2147483647) (hb : zsh h b = some (14, n0)) (ha : zsh h a = some (14, n1)) (hp : pc + 3 = pc') (kk : zPn N scr d m (pc', ls, st, zsRow h a (fun j => if j < n then h.2.1 b j else h.2.1 a j)) Q) : zPn N scr d m (pc, ls, .inl (nI n) :: .inl (nI 0) :: .inr (.inr (some a)) :: .inl (nI 0) :: .inr (.inr (some b)) :: st, h) Q := by
  subst hp
  have hrow : va_cpy (h.2.1 b) (h.2.1 a) 0 0 n = fun j => if j < n then h.2.1 b j else h.2.1 a j := by
    funext j
    by_cases q : j < n
    · rw [pk_cpy_in (Nat.zero_le _) (by omega), if_pos q]; simp
    · rw [pk_cpy_out (by omega), if_neg q]
  have c0 : (nI 0).toNatClampNeg = 0 := nI_clamp (by omega)
  have cn : (nI n).toNatClampNeg = n := nI_clamp (by omega)
  refine pa_may (C := True) hd (Or.inr rfl) (fun call x hq => ?_) (fun _ => kk)
  simp only [zexec, hz] at hq
  rw [if_neg (by decide), if_neg (by decide), if_neg (by decide)] at hq
  unfold zprim at hq
  split at hq
  · rw [if_neg (by decide), if_neg (by decide), if_neg (by decide), if_neg (by decide), if_pos rfl] at hq
    unfold zcopy at hq
    simp only [hb, ha] at hq
    split at hq
    · rw [c0, cn, hrow] at hq
      cases hq
      exact ⟨trivial, rfl⟩
    · cases hq
  · cases hq
theorem pa_mn {k na : Nat} {cm : zM} {x y v : Int32} (hd : decode m.1 pc = .ok (.invokestatic k, 3)) (hz : zmth m.2.1 k = some (12, na, cm)) (hv : (if y < x then y else x) = v) (hp : pc + 3 = pc') (kk : zPn N scr d m (pc', ls, .inl v :: st, h) Q) : zPn N scr d m (pc, ls, .inl y :: .inl x :: st, h) Q := by
  subst hp; subst hv
  refine pa_may (C := True) hd (Or.inr rfl) (fun call x' hq => ?_) (fun _ => kk)
  simp only [zexec, hz] at hq
  rw [if_neg (by decide), if_neg (by decide), if_neg (by decide)] at hq
  unfold zprim at hq
  split at hq
  · rw [if_neg (by decide), if_neg (by decide), if_pos rfl] at hq
    simp only at hq
    split at hq
    · cases hq
      exact ⟨trivial, rfl⟩
    · cases hq
  · cases hq
end CPY
theorem nI_min {x y : Nat} (hx : x ≤ 2147483647) (hy : y ≤ 2147483647) : (if nI y < nI x then nI y else nI x) = nI (min x y) := by
  by_cases z : y < x
  · rw [if_pos (lt_i.mpr (by rw [nI_toInt (by omega), nI_toInt (by omega)]; omega)), Nat.min_eq_right (by omega)]
  · rw [if_neg (fun q => by have := lt_i.mp q; rw [nI_toInt (by omega), nI_toInt (by omega)] at this; omega), Nat.min_eq_left (by omega)]
/-- state object at p copied into state object at q -/
def cpI (I : Nat → Nat → Int32) (q p b k : Nat) : Int32 := if b = q then (if k < 2 then I p k else I q k) else if b = q + 1 then (if k < 5 then I (p + 1) k else I (q + 1) k) else if b = q + 2 then (if k < 5 then I (p + 2) k else I (q + 2) k) else if b = q + 3 then (if k < 8 then I (p + 3) k else I (q + 3) k) else if b = q + 4 then (if k < 8 then I (p + 4) k else I (q + 4) k) else if b = q + 5 then (if k < 8 then I (p + 5) k else I (q + 5) k) else I b k
def nwO (q : Nat) (h : zH) : Prop := (zsh h q = some (2, 7) ∧ zsh h (q + 1) = some (14, 5) ∧ zsh h (q + 2) = some (14, 5) ∧ zsh h (q + 3) = some (14, 8) ∧ zsh h (q + 4) = some (14, 8) ∧ zsh h (q + 5) = some (14, 8)) ∧ h.2.2.2.1 q 2 = some (q + 1) ∧ h.2.2.2.1 q 3 = some (q + 2) ∧ h.2.2.2.1 q 4 = some (q + 3) ∧ h.2.2.2.1 q 5 = some (q + 4) ∧ h.2.2.2.1 q 6 = some (q + 5)
section CPF
variable {d N q p b k : Nat} {h g : zH} {A : pA} {s : nS} {I : Nat → Nat → Int32}
theorem cpI0 (e : k < 2) : cpI I q p q k = I p k := by
  unfold cpI
  rw [if_pos rfl, if_pos e]
theorem cpI1 (e : k < 5) : cpI I q p (q + 1) k = I (p + 1) k := by
  unfold cpI
  rw [if_neg (by omega), if_pos rfl, if_pos e]
theorem cpI2 (e : k < 5) : cpI I q p (q + 2) k = I (p + 2) k := by
  unfold cpI
  rw [if_neg (by omega), if_neg (by omega), if_pos rfl, if_pos e]
theorem cpI3 (e : k < 8) : cpI I q p (q + 3) k = I (p + 3) k := by
  unfold cpI
  rw [if_neg (by omega), if_neg (by omega), if_neg (by omega), if_pos rfl, if_pos e]
theorem cpI4 (e : k < 8) : cpI I q p (q + 4) k = I (p + 4) k := by
  unfold cpI
  rw [if_neg (by omega), if_neg (by omega), if_neg (by omega), if_neg (by omega), if_pos rfl, if_pos e]
theorem cpI5 (e : k < 8) : cpI I q p (q + 5) k = I (p + 5) k := by
  unfold cpI
  rw [if_neg (by omega), if_neg (by omega), if_neg (by omega), if_neg (by omega), if_neg (by omega), if_pos rfl, if_pos e]
theorem cpIo (e : b < q ∨ q + 5 < b) : cpI I q p b k = I b k := by
  unfold cpI
  rw [if_neg (by omega), if_neg (by omega), if_neg (by omega), if_neg (by omega), if_neg (by omega), if_neg (by omega)]
theorem nC.cp (b3 : cH A ≤ 5) (b4 : cB A ≤ 8) (e : ∀ b k, g.2.1 b k = cpI h.2.1 q p b k) (n : nC A s p h) : nC A s q g := by
  obtain ⟨n1, n2, n3, n4⟩ := n
  refine ⟨by rw [e, cpI0 (by decide)]; exact n1, by rw [e, cpI0 (by decide)]; exact n2, fun w hw => ⟨?_, ?_⟩, fun b hb => ⟨?_, ?_, ?_⟩⟩
  · rw [e, cpI1 (by omega)]; exact (n3 w hw).1
  · rw [e, cpI2 (by omega)]; exact (n3 w hw).2
  · rw [e, cpI3 (by omega)]; exact (n4 b hb).1
  · rw [e, cpI4 (by omega)]; exact (n4 b hb).2.1
  · rw [e, cpI5 (by omega)]; exact (n4 b hb).2.2
theorem nC.fr (e : ∀ b k, q ≤ b → b ≤ q + 5 → g.2.1 b k = h.2.1 b k) (n : nC A s q h) : nC A s q g := by
  obtain ⟨n1, n2, n3, n4⟩ := n
  refine ⟨by rw [e _ _ (by omega) (by omega)]; exact n1, by rw [e _ _ (by omega) (by omega)]; exact n2, fun w hw => ?_, fun b hb => ?_⟩
  · rw [e _ _ (by omega) (by omega), e _ _ (by omega) (by omega)]; exact n3 w hw
  · rw [e _ _ (by omega) (by omega), e _ _ (by omega) (by omega), e _ _ (by omega) (by omega)]; exact n4 b hb
theorem N_copyFrom (hq : nwO q h) (hp : nwO p h) (hd : p + 6 ≤ q ∨ q + 6 ≤ p) : zPa d mX2_copyFrom [.inr (.inr (some q)), .inr (.inr (some p))] h (fun v g => v = none ∧ g.1 = h.1 ∧ g.2.2 = h.2.2 ∧ ∀ b k, g.2.1 b k = cpI h.2.1 q p b k) := by
  intro N
  obtain ⟨⟨z0, z1, z2, z3, z4, z5⟩, r1, r2, r3, r4, r5⟩ := hq
  obtain ⟨⟨y0, y1, y2, y3, y4, y5⟩, t1, t2, t3, t4, t5⟩ := hp
  show zPn N none d mX2_copyFrom (0, [(0, .inr (.inr (some q))), (1, .inr (.inr (some p)))], [], h) _
  refine pa_aload_n (pc' := 1) dX2_copyFrom_0 rfl rfl ?_
  refine pa_aload_n (pc' := 2) dX2_copyFrom_1 rfl rfl ?_
  refine pa_getI (pc' := 5) (n := 7) (v := h.2.1 p 0) dX2_copyFrom_2 fl_2_9 y0 (by decide) rfl rfl ?_
  refine pa_putI (pc' := 8) (n := 7) dX2_copyFrom_5 fl_2_9 z0 (Or.inl rfl) (Or.inl rfl) rfl ?_
  refine pa_aload_n (pc' := 9) dX2_copyFrom_8 rfl rfl ?_
  refine pa_aload_n (pc' := 10) dX2_copyFrom_9 rfl rfl ?_
  refine pa_getI (pc' := 13) (n := 7) (v := (zsI h q 0 (h.2.1 p 0)).2.1 p 1) dX2_copyFrom_10 fl_2_15 y0 (by decide) rfl rfl ?_
  refine pa_putI (pc' := 16) (n := 7) dX2_copyFrom_13 fl_2_15 z0 (Or.inl rfl) (Or.inl rfl) rfl ?_
  refine pa_aload_n (pc' := 17) dX2_copyFrom_16 rfl rfl ?_
  refine pa_getR (pc' := 20) (n := 7) (r := p + 1) dX2_copyFrom_17 fl_2_18 y0 (by decide) t1 rfl ?_
  refine pa_iconst (v := nI 0) (pc' := 21) dX2_copyFrom_20 (by decide) rfl ?_
  refine pa_aload_n (pc' := 22) dX2_copyFrom_21 rfl rfl ?_
  refine pa_getR (pc' := 25) (n := 7) (r := q + 1) dX2_copyFrom_22 fl_2_18 z0 (by decide) r1 rfl ?_
  refine pa_iconst (v := nI 0) (pc' := 26) dX2_copyFrom_25 (by decide) rfl ?_
  refine pa_iconst (v := nI 5) (pc' := 27) dX2_copyFrom_26 (by decide) rfl ?_
  refine pa_cpy (pc' := 30) dX2_copyFrom_27 ml_2_63 (by decide) (by omega) y1 z1 rfl ?_
  refine pa_aload_n (pc' := 31) dX2_copyFrom_30 rfl rfl ?_
  refine pa_getR (pc' := 34) (n := 7) (r := p + 2) dX2_copyFrom_31 fl_2_22 y0 (by decide) t2 rfl ?_
  refine pa_iconst (v := nI 0) (pc' := 35) dX2_copyFrom_34 (by decide) rfl ?_
  refine pa_aload_n (pc' := 36) dX2_copyFrom_35 rfl rfl ?_
  refine pa_getR (pc' := 39) (n := 7) (r := q + 2) dX2_copyFrom_36 fl_2_22 z0 (by decide) r2 rfl ?_
  refine pa_iconst (v := nI 0) (pc' := 40) dX2_copyFrom_39 (by decide) rfl ?_
  refine pa_iconst (v := nI 5) (pc' := 41) dX2_copyFrom_40 (by decide) rfl ?_
  refine pa_cpy (pc' := 44) dX2_copyFrom_41 ml_2_63 (by decide) (by omega) y2 z2 rfl ?_
  refine pa_aload_n (pc' := 45) dX2_copyFrom_44 rfl rfl ?_
  refine pa_getR (pc' := 48) (n := 7) (r := p + 3) dX2_copyFrom_45 fl_2_25 y0 (by decide) t3 rfl ?_
  refine pa_iconst (v := nI 0) (pc' := 49) dX2_copyFrom_48 (by decide) rfl ?_
  refine pa_aload_n (pc' := 50) dX2_copyFrom_49 rfl rfl ?_
  refine pa_getR (pc' := 53) (n := 7) (r := q + 3) dX2_copyFrom_50 fl_2_25 z0 (by decide) r3 rfl ?_
  refine pa_iconst (v := nI 0) (pc' := 54) dX2_copyFrom_53 (by decide) rfl ?_
  refine pa_bipush (v := nI 8) (pc' := 56) dX2_copyFrom_54 (by decide) rfl ?_
  refine pa_cpy (pc' := 59) dX2_copyFrom_56 ml_2_63 (by decide) (by omega) y3 z3 rfl ?_
  refine pa_aload_n (pc' := 60) dX2_copyFrom_59 rfl rfl ?_
  refine pa_getR (pc' := 63) (n := 7) (r := p + 4) dX2_copyFrom_60 fl_2_28 y0 (by decide) t4 rfl ?_
  refine pa_iconst (v := nI 0) (pc' := 64) dX2_copyFrom_63 (by decide) rfl ?_
  refine pa_aload_n (pc' := 65) dX2_copyFrom_64 rfl rfl ?_
  refine pa_getR (pc' := 68) (n := 7) (r := q + 4) dX2_copyFrom_65 fl_2_28 z0 (by decide) r4 rfl ?_
  refine pa_iconst (v := nI 0) (pc' := 69) dX2_copyFrom_68 (by decide) rfl ?_
  refine pa_bipush (v := nI 8) (pc' := 71) dX2_copyFrom_69 (by decide) rfl ?_
  refine pa_cpy (pc' := 74) dX2_copyFrom_71 ml_2_63 (by decide) (by omega) y4 z4 rfl ?_
  refine pa_aload_n (pc' := 75) dX2_copyFrom_74 rfl rfl ?_
  refine pa_getR (pc' := 78) (n := 7) (r := p + 5) dX2_copyFrom_75 fl_2_31 y0 (by decide) t5 rfl ?_
  refine pa_iconst (v := nI 0) (pc' := 79) dX2_copyFrom_78 (by decide) rfl ?_
  refine pa_aload_n (pc' := 80) dX2_copyFrom_79 rfl rfl ?_
  refine pa_getR (pc' := 83) (n := 7) (r := q + 5) dX2_copyFrom_80 fl_2_31 z0 (by decide) r5 rfl ?_
  refine pa_iconst (v := nI 0) (pc' := 84) dX2_copyFrom_83 (by decide) rfl ?_
  refine pa_bipush (v := nI 8) (pc' := 86) dX2_copyFrom_84 (by decide) rfl ?_
  refine pa_cpy (pc' := 89) dX2_copyFrom_86 ml_2_63 (by decide) (by omega) y5 z5 rfl ?_
  refine pa_vret dX2_copyFrom_89 rfl ?_
  refine ⟨rfl, rfl, rfl, fun b k => ?_⟩
  dsimp only [zsRow, zsI, zrow, zup, cpI]
  have ck : k = 0 ∨ k = 1 ∨ (2 ≤ k ∧ k < 5) ∨ (5 ≤ k ∧ k < 8) ∨ 8 ≤ k := by omega
  have cb : b = q ∨ b = q + 1 ∨ b = q + 2 ∨ b = q + 3 ∨ b = q + 4 ∨ b = q + 5 ∨ (b < q ∨ q + 5 < b) := by omega
  rcases cb with rfl | rfl | rfl | rfl | rfl | rfl | cb <;> rcases ck with rfl | rfl | ck | ck | ck <;> (repeat (first | rw [if_pos (by omega)] | rw [if_neg (by omega)]))
end CPF
/-- the class's history (newest first) and images -/
def hiC (A : pA) (H : List nS) (h : zH) : Prop := ∃ nw, nw < 12 ∧ h.2.1 0 12 = nI nw ∧ h.2.1 0 13 = nI H.length ∧ H.length ≤ 12 ∧ ∀ k t, H[k]? = some t → nC A t (106 + 6 * ((nw + 12 - k) % 12)) h
def imC (A : pA) (J : List nS) (h : zH) : Prop := h.2.1 0 15 = nI J.length ∧ J.length ≤ 3 ∧ ∀ k t, J[k]? = some t → nC A t (178 + 6 * k) h
/-- the object at q has its arrays -/
def nwR (q : Nat) (h : zH) : Prop := h.2.2.2.1 q 2 = some (q + 1) ∧ h.2.2.2.1 q 3 = some (q + 2) ∧ h.2.2.2.1 q 4 = some (q + 3) ∧ h.2.2.2.1 q 5 = some (q + 4) ∧ h.2.2.2.1 q 6 = some (q + 5)
/-- what stands -/
def nwS (h : zH) : Prop := h.1 = hh_487.1 ∧ h.2.2.2.1 0 6 = some 86 ∧ h.2.2.2.1 0 11 = some 104 ∧ h.2.2.2.1 0 14 = some 105 ∧ (∀ k, k < 12 → h.2.2.2.1 104 k = some (106 + 6 * k)) ∧ (∀ k, k < 3 → h.2.2.2.1 105 k = some (178 + 6 * k)) ∧ nwR 86 h ∧ (∀ k, k < 12 → nwR (106 + 6 * k) h) ∧ ∀ k, k < 3 → nwR (178 + 6 * k) h
/-- all of it: now, history, images -/
def lNC (A : pA) (s : nS) (H J : List nS) (h : zH) : Prop := nC A s 86 h ∧ hiC A H h ∧ imC A J h
/-- what is left alone: all but now, history, images and their numbers -/
def nwF (h g : zH) : Prop := g.1 = h.1 ∧ g.2.2 = h.2.2 ∧ (∀ k, k ≠ 2 → k ≠ 12 → k ≠ 13 → k ≠ 15 → g.2.1 0 k = h.2.1 0 k) ∧ ∀ b k, b ≠ 0 → ¬ (86 ≤ b ∧ b ≤ 91) → ¬ (106 ≤ b ∧ b ≤ 195) → g.2.1 b k = h.2.1 b k
section NWC
variable {d N q p b k : Nat} {h g : zH} {A : pA} {s : nS} {H J : List nS}
theorem nwS.fr (S : nwS h) (e1 : g.1 = h.1) (e2 : g.2.2 = h.2.2) : nwS g := by
  unfold nwS nwR at S ⊢
  rw [e1, e2]
  exact S
theorem nwS.o86 (S : nwS h) : nwO 86 h := by
  obtain ⟨h1, -, -, -, -, -, r, -⟩ := S
  exact ⟨⟨zsh_by h1 (by decide +kernel), zsh_by h1 (by decide +kernel), zsh_by h1 (by decide +kernel), zsh_by h1 (by decide +kernel), zsh_by h1 (by decide +kernel), zsh_by h1 (by decide +kernel)⟩, r⟩
theorem nwS.oH (S : nwS h) (hk : k < 12) : nwO (106 + 6 * k) h := by
  obtain ⟨h1, -, -, -, -, -, -, r, -⟩ := S
  have key : ∀ k, k < 12 → zsh hh_487 (106 + 6 * k) = some (2, 7) ∧ zsh hh_487 (106 + 6 * k + 1) = some (14, 5) ∧ zsh hh_487 (106 + 6 * k + 2) = some (14, 5) ∧ zsh hh_487 (106 + 6 * k + 3) = some (14, 8) ∧ zsh hh_487 (106 + 6 * k + 4) = some (14, 8) ∧ zsh hh_487 (106 + 6 * k + 5) = some (14, 8) := by decide +kernel
  obtain ⟨a0, a1, a2, a3, a4, a5⟩ := key k hk
  exact ⟨⟨zsh_by h1 a0, zsh_by h1 a1, zsh_by h1 a2, zsh_by h1 a3, zsh_by h1 a4, zsh_by h1 a5⟩, r k hk⟩
theorem nwS.oI (S : nwS h) (hk : k < 3) : nwO (178 + 6 * k) h := by
  obtain ⟨h1, -, -, -, -, -, -, -, r⟩ := S
  have key : ∀ k, k < 3 → zsh hh_487 (178 + 6 * k) = some (2, 7) ∧ zsh hh_487 (178 + 6 * k + 1) = some (14, 5) ∧ zsh hh_487 (178 + 6 * k + 2) = some (14, 5) ∧ zsh hh_487 (178 + 6 * k + 3) = some (14, 8) ∧ zsh hh_487 (178 + 6 * k + 4) = some (14, 8) ∧ zsh hh_487 (178 + 6 * k + 5) = some (14, 8) := by decide +kernel
  obtain ⟨a0, a1, a2, a3, a4, a5⟩ := key k hk
  exact ⟨⟨zsh_by h1 a0, zsh_by h1 a1, zsh_by h1 a2, zsh_by h1 a3, zsh_by h1 a4, zsh_by h1 a5⟩, r k hk⟩
theorem nwF.rf : nwF h h := ⟨rfl, rfl, fun _ _ _ _ _ => rfl, fun _ _ _ _ _ => rfl⟩
theorem nwF.tr {f : zH} (a : nwF h g) (b : nwF g f) : nwF h f := ⟨b.1.trans a.1, b.2.1.trans a.2.1, fun k e0 e1 e2 e3 => (b.2.2.1 k e0 e1 e2 e3).trans (a.2.2.1 k e0 e1 e2 e3), fun c k e1 e2 e3 => (b.2.2.2 c k e1 e2 e3).trans (a.2.2.2 c k e1 e2 e3)⟩
/-- kept for undoing -/
theorem N_keep (S : nwS h) (b3 : cH A ≤ 5) (b4 : cB A ≤ 8) (L : lNC A s H J h) : zPa d mX11_keepForUndo [.inr (.inr (some 0))] h (fun v g => v = none ∧ lNC A s ((s :: H).take 12) J g ∧ nwF h g) := by
  intro N
  have s0 : zsh h 0 = some (11, 16) := zsh_by S.1 (by decide +kernel)
  have s104 : zsh h 104 = some (17, 12) := zsh_by S.1 (by decide +kernel)
  obtain ⟨L1, ⟨nw, hn, e12, e13, hl, hh⟩, j1, j2, j3⟩ := L
  have r6 := S.2.1
  have r11 := S.2.2.1
  have hq : (nw + 1) % 12 < 12 := Nat.mod_lt _ (by decide)
  have rq := S.2.2.2.2.1 ((nw + 1) % 12) hq
  have oq := S.oH hq
  have o86 := S.o86
  show zPn N none d mX11_keepForUndo (0, [(0, .inr (.inr (some 0)))], [], h) _
  refine pa_aload_n (pc' := 1) dX11_keepForUndo_0 rfl rfl ?_
  refine pa_aload_n (pc' := 2) dX11_keepForUndo_1 rfl rfl ?_
  refine pa_getI (pc' := 5) (n := 16) (v := nI nw) dX11_keepForUndo_2 fl_11_82 s0 (by decide) e12 rfl ?_
  refine pa_iconst (v := nI 1) (pc' := 6) dX11_keepForUndo_5 (by decide) rfl ?_
  refine pa_iadd (pc' := 7) (v := nI (nw + 1)) dX11_keepForUndo_6 (nI_add _ _) rfl ?_
  refine pa_bipush (v := nI 12) (pc' := 9) dX11_keepForUndo_7 (by decide) rfl ?_
  refine pa_irem (pc' := 10) (v := nI ((nw + 1) % 12)) dX11_keepForUndo_9 (by decide) (nI_rem (by omega) (by omega)) rfl ?_
  refine pa_putI (pc' := 13) (n := 16) dX11_keepForUndo_10 fl_11_82 s0 (Or.inl rfl) (Or.inl rfl) rfl ?_
  refine pa_aload_n (pc' := 14) dX11_keepForUndo_13 rfl rfl ?_
  refine pa_getR (pc' := 17) (n := 16) (r := 104) dX11_keepForUndo_14 fl_11_78 s0 (by decide) r11 rfl ?_
  refine pa_aload_n (pc' := 18) dX11_keepForUndo_17 rfl rfl ?_
  refine pa_getI (pc' := 21) (n := 16) (v := nI ((nw + 1) % 12)) dX11_keepForUndo_18 fl_11_82 s0 (by decide) rfl rfl ?_
  refine pa_aald (pc' := 22) (r := 106 + 6 * ((nw + 1) % 12)) dX11_keepForUndo_21 s104 (by decide) (zn_in (by omega) (by omega)) (by rw [nI_clamp (by omega)]; exact rq) rfl ?_
  refine pa_aload_n (pc' := 23) dX11_keepForUndo_22 rfl rfl ?_
  refine pa_getR (pc' := 26) (n := 16) (r := 86) dX11_keepForUndo_23 fl_11_42 s0 (by decide) r6 rfl ?_
  refine pa_callv (pc' := 29) (vs := [.inr (.inr (some 86))]) (rest := []) dX11_keepForUndo_26 ml_11_359 (by decide) rfl rfl rfl (fun d' _ => (N_copyFrom oq o86 (by omega))) (fun v g hq => ?_)
  obtain ⟨ev, eh⟩ := hq
  subst ev
  show zPn N none d mX11_keepForUndo (29, _, [], g) _
  obtain ⟨g1, g2, e⟩ := eh
  have t0 : zsh g 0 = some (11, 16) := by unfold zsh; rw [g1]; exact s0
  have er : ∀ b k, g.2.2.2.1 b k = h.2.2.2.1 b k := fun b k => by rw [g2]; rfl
  have f13 : g.2.1 0 13 = nI H.length := by rw [e, cpIo (by omega)]; exact e13
  refine pa_aload_n (pc' := 30) dX11_keepForUndo_29 rfl rfl ?_
  refine pa_aload_n (pc' := 31) dX11_keepForUndo_30 rfl rfl ?_
  refine pa_getI (pc' := 34) (n := 16) (v := nI H.length) dX11_keepForUndo_31 fl_11_85 t0 (by decide) f13 rfl ?_
  refine pa_iconst (v := nI 1) (pc' := 35) dX11_keepForUndo_34 (by decide) rfl ?_
  refine pa_iadd (pc' := 36) (v := nI (H.length + 1)) dX11_keepForUndo_35 (nI_add _ _) rfl ?_
  refine pa_bipush (v := nI 12) (pc' := 38) dX11_keepForUndo_36 (by decide) rfl ?_
  refine pa_mn (pc' := 41) dX11_keepForUndo_38 ml_11_394 (nI_min (by omega) (by omega)) rfl ?_
  refine pa_putI (pc' := 44) (n := 16) dX11_keepForUndo_41 fl_11_85 t0 (Or.inl rfl) (Or.inl rfl) rfl ?_
  refine pa_vret dX11_keepForUndo_44 rfl ?_
  have hI : ∀ b k, (zsI g 0 13 (nI (min (H.length + 1) 12))).2.1 b k = if b = 0 ∧ k = 13 then nI (min (H.length + 1) 12) else g.2.1 b k := fun b k => by
    show (if b = 0 then (if k = 13 then _ else g.2.1 b k) else g.2.1 b k) = _
    by_cases z : b = 0
    · by_cases y : k = 13
      · rw [if_pos z, if_pos y, if_pos ⟨z, y⟩]
      · rw [if_pos z, if_neg y, if_neg (fun q => y q.2)]
    · rw [if_neg z, if_neg (fun q => z q.1)]
  have hz : ∀ b k, (zsI h 0 12 (nI ((nw + 1) % 12))).2.1 b k = if b = 0 ∧ k = 12 then nI ((nw + 1) % 12) else h.2.1 b k := fun b k => by
    show (if b = 0 then (if k = 12 then _ else h.2.1 b k) else h.2.1 b k) = _
    by_cases z : b = 0
    · by_cases y : k = 12
      · rw [if_pos z, if_pos y, if_pos ⟨z, y⟩]
      · rw [if_pos z, if_neg y, if_neg (fun q => y q.2)]
    · rw [if_neg z, if_neg (fun q => z q.1)]
  have out : ∀ b k, b ≠ 0 → (b < 106 + 6 * ((nw + 1) % 12) ∨ 106 + 6 * ((nw + 1) % 12) + 5 < b) → (zsI g 0 13 (nI (min (H.length + 1) 12))).2.1 b k = h.2.1 b k := fun b k z w => by
    rw [hI, if_neg (fun q => z q.1), e, cpIo w, hz, if_neg (fun q => z q.1)]
  have L0 : nC A s 86 (zsI h 0 12 (nI ((nw + 1) % 12))) := L1.fr (fun b k w1 w2 => by rw [hz, if_neg (by omega)])
  have Lq : nC A s (106 + 6 * ((nw + 1) % 12)) (zsI g 0 13 (nI (min (H.length + 1) 12))) := (nC.cp b3 b4 e L0).fr (fun b k w1 w2 => by rw [hI, if_neg (by omega)])
  refine ⟨rfl, ⟨L1.fr (fun b k w1 w2 => out b k (by omega) (by omega)), ⟨(nw + 1) % 12, hq, ?_, ?_, ?_, fun k t hk => ?_⟩, ?_, j2, fun k t hk => ?_⟩, g1, g2, fun k w0 w1 w2 w3 => ?_, fun b k w1 w2 w3 => out b k w1 (by omega)⟩
  · rw [hI, if_neg (by omega), e, cpIo (by omega), hz, if_pos ⟨rfl, rfl⟩]
  · rw [hI, if_pos ⟨rfl, rfl⟩]
    congr 1
    rw [List.length_take, List.length_cons]
    exact Nat.min_comm _ _
  · rw [List.length_take]
    exact Nat.min_le_left _ _
  · rw [List.getElem?_take] at hk
    by_cases k12 : k < 12
    · rw [if_pos k12] at hk
      cases k with
      | zero =>
        cases hk
        rw [show ((nw + 1) % 12 + 12 - 0) % 12 = (nw + 1) % 12 by omega]
        exact Lq
      | succ k =>
        have := hh k t hk
        rw [show ((nw + 1) % 12 + 12 - (k + 1)) % 12 = (nw + 12 - k) % 12 by omega]
        exact this.fr (fun b j w1 w2 => out b j (by omega) (by omega))
    · rw [if_neg k12] at hk
      cases hk
  · rw [hI, if_neg (by omega), e, cpIo (by omega), hz, if_neg (by omega)]
    exact j1
  · have kl : k < J.length := (List.getElem?_eq_some_iff.mp hk).1
    exact (j3 k t hk).fr (fun b j w1 w2 => out b j (by omega) (by omega))
  · rw [hI, if_neg (by omega), e, cpIo (by omega), hz, if_neg (by omega)]
end NWC
/-! the class: undo, image, back -/
section UIB
variable {d N q p b k : Nat} {h g : zH} {A : pA} {s : nS} {H J : List nS}
theorem c_hRe {k : Int32} (s0 : zsh h 0 = some (11, 16)) : zPa d mX11_hasRefused [.inr (.inr (some 0)), .inl k] h (fun v h' => v = some (.inl 0) ∧ h' = zsI h 0 2 k) := by
  intro N
  show zPn N none d mX11_hasRefused (0, [(0, .inr (.inr (some 0))), (1, .inl k)], [], h) _
  refine pa_aload_n (pc' := 1) dX11_hasRefused_0 rfl rfl ?_
  refine pa_iload_n (pc' := 2) dX11_hasRefused_1 rfl rfl ?_
  refine pa_putI (pc' := 5) (n := 16) dX11_hasRefused_2 fl_11_17 s0 (Or.inl rfl) (Or.inl rfl) rfl ?_
  refine pa_iconst (v := 0) (pc' := 6) dX11_hasRefused_5 (by decide) rfl ?_
  refine pa_iret dX11_hasRefused_6 rfl rfl ?_
  exact ⟨rfl, rfl⟩
theorem c_hGr (s0 : zsh h 0 = some (11, 16)) : zPa d mX11_hasGranted [.inr (.inr (some 0))] h (fun v h' => v = some (.inl 1) ∧ h' = zsI h 0 2 0) := by
  intro N
  show zPn N none d mX11_hasGranted (0, [(0, .inr (.inr (some 0)))], [], h) _
  refine pa_aload_n (pc' := 1) dX11_hasGranted_0 rfl rfl ?_
  refine pa_iconst (v := nI 0) (pc' := 2) dX11_hasGranted_1 (by decide) rfl ?_
  refine pa_putI (pc' := 5) (n := 16) dX11_hasGranted_2 fl_11_17 s0 (Or.inl rfl) (Or.inl rfl) rfl ?_
  refine pa_iconst (v := nI 1) (pc' := 6) dX11_hasGranted_5 (by decide) rfl ?_
  refine pa_iret dX11_hasGranted_6 rfl rfl ?_
  exact ⟨rfl, rfl⟩
/-- the answer's trouble is written: nothing else -/
theorem lNC.t2 {v : Int32} (L : lNC A s H J h) : lNC A s H J (zsI h 0 2 v) := by
  obtain ⟨L1, ⟨nw, hn, e12, e13, hl, hh⟩, j1, j2, j3⟩ := L
  refine ⟨L1.fr (fun b k w1 w2 => by rw [zsI_at, if_neg (by omega)]), ⟨nw, hn, by rw [zsI_at, if_neg (by omega)]; exact e12, by rw [zsI_at, if_neg (by omega)]; exact e13, hl, fun k t hk => (hh k t hk).fr (fun b j w1 w2 => by rw [zsI_at, if_neg (by omega)])⟩, by rw [zsI_at, if_neg (by omega)]; exact j1, j2, fun k t hk => (j3 k t hk).fr (fun b j w1 w2 => by rw [zsI_at, if_neg (by omega)])⟩
theorem nwF.t2 {v : Int32} : nwF h (zsI h 0 2 v) := ⟨rfl, rfl, fun k w0 w1 w2 w3 => by rw [zsI_at, if_neg (by omega)], fun b k w1 w2 w3 => by rw [zsI_at, if_neg (by omega)]⟩
theorem C_undo (S : nwS h) (b3 : cH A ≤ 5) (b4 : cB A ≤ 8) (L : lNC A s H J h) : zPa d mX11_undo [.inr (.inr (some 0))] h (fun v g => nwF h g ∧ ((H = [] ∧ v = some (.inl 0) ∧ g.2.1 0 2 = 6 ∧ lNC A s H J g) ∨ ∃ t T, H = t :: T ∧ v = some (.inl 1) ∧ g.2.1 0 2 = 0 ∧ lNC A t T J g)) := by
  intro N
  have s0 : zsh h 0 = some (11, 16) := zsh_by S.1 (by decide +kernel)
  have s104 : zsh h 104 = some (17, 12) := zsh_by S.1 (by decide +kernel)
  have r6 := S.2.1
  have r11 := S.2.2.1
  have L' := L
  obtain ⟨L1, ⟨nw, hn, e12, e13, hl, hh⟩, j1, j2, j3⟩ := L
  have rq := S.2.2.2.2.1 nw hn
  have oq := S.oH hn
  have o86 := S.o86
  show zPn N none d mX11_undo (0, [(0, .inr (.inr (some 0)))], [], h) _
  refine pa_aload_n (pc' := 1) dX11_undo_0 rfl rfl ?_
  refine pa_getI (pc' := 4) (n := 16) (v := nI H.length) dX11_undo_1 fl_11_85 s0 (by decide) e13 rfl ?_
  cases H with
  | nil =>
    refine pa_if_f (pc' := 7) dX11_undo_4 (by decide) (by decide) rfl ?_
    refine pa_aload_n (pc' := 8) dX11_undo_7 rfl rfl ?_
    refine pa_bipush (v := nI 6) (pc' := 10) dX11_undo_8 (by decide) rfl ?_
    refine pa_callv (pc' := 13) (vs := [.inl (nI 6)]) (rest := []) dX11_undo_10 ml_11_347 (by decide) rfl rfl rfl (fun d' _ => (c_hRe s0)) (fun v g hq => ?_)
    obtain ⟨ev, eh⟩ := hq
    subst ev
    show zPn N none d mX11_undo (13, _, [.inl 0], g) _
    subst eh
    refine pa_iret dX11_undo_13 rfl rfl ?_
    exact ⟨nwF.t2, .inl ⟨rfl, rfl, by rw [zsI_at, if_pos ⟨rfl, rfl⟩]; rfl, L'.t2⟩⟩
  | cons t T =>
    have hl' : T.length + 1 ≤ 12 := hl
    have e13 : h.2.1 0 13 = nI (T.length + 1) := e13
    have ht : nC A t (106 + 6 * nw) h := by
      have := hh 0 t rfl
      rw [show (nw + 12 - 0) % 12 = nw by omega] at this
      exact this
    refine pa_if_t (pc' := 14) dX11_undo_4 (decide_eq_true (fun q => by have := congrArg Int32.toInt q; rw [nI_toInt (by rw [List.length_cons]; omega), List.length_cons, show (0 : Int32).toInt = 0 by decide] at this; omega)) (by decide) ?_
    refine pa_aload_n (pc' := 15) dX11_undo_14 rfl rfl ?_
    refine pa_getR (pc' := 18) (n := 16) (r := 86) dX11_undo_15 fl_11_42 s0 (by decide) r6 rfl ?_
    refine pa_aload_n (pc' := 19) dX11_undo_18 rfl rfl ?_
    refine pa_getR (pc' := 22) (n := 16) (r := 104) dX11_undo_19 fl_11_78 s0 (by decide) r11 rfl ?_
    refine pa_aload_n (pc' := 23) dX11_undo_22 rfl rfl ?_
    refine pa_getI (pc' := 26) (n := 16) (v := nI nw) dX11_undo_23 fl_11_82 s0 (by decide) e12 rfl ?_
    refine pa_aald (pc' := 27) (r := 106 + 6 * nw) dX11_undo_26 s104 (by decide) (zn_in (by omega) (by omega)) (by rw [nI_clamp (by omega)]; exact rq) rfl ?_
    refine pa_callv (pc' := 30) (vs := [.inr (.inr (some (106 + 6 * nw)))]) (rest := []) dX11_undo_27 ml_11_359 (by decide) rfl rfl rfl (fun d' _ => (N_copyFrom o86 oq (by omega))) (fun v g hq => ?_)
    obtain ⟨ev, eh⟩ := hq
    subst ev
    show zPn N none d mX11_undo (30, _, [], g) _
    obtain ⟨g1, g2, e⟩ := eh
    have t0 : zsh g 0 = some (11, 16) := by unfold zsh; rw [g1]; exact s0
    have f12 : g.2.1 0 12 = nI nw := by rw [e, cpIo (by omega)]; exact e12
    have f13 : g.2.1 0 13 = nI (T.length + 1) := by rw [e, cpIo (by omega)]; exact e13
    refine pa_aload_n (pc' := 31) dX11_undo_30 rfl rfl ?_
    refine pa_aload_n (pc' := 32) dX11_undo_31 rfl rfl ?_
    refine pa_getI (pc' := 35) (n := 16) (v := nI nw) dX11_undo_32 fl_11_82 t0 (by decide) f12 rfl ?_
    refine pa_bipush (v := nI 12) (pc' := 37) dX11_undo_35 (by decide) rfl ?_
    refine pa_iadd (pc' := 38) (v := nI (nw + 12)) dX11_undo_37 (nI_add _ _) rfl ?_
    refine pa_iconst (v := nI 1) (pc' := 39) dX11_undo_38 (by decide) rfl ?_
    refine pa_isub (pc' := 40) (v := nI ((nw + 12) - 1)) dX11_undo_39 (nI_sub (by omega)) rfl ?_
    refine pa_bipush (v := nI 12) (pc' := 42) dX11_undo_40 (by decide) rfl ?_
    refine pa_irem (pc' := 43) (v := nI (((nw + 12) - 1) % 12)) dX11_undo_42 (by decide) (nI_rem (by omega) (by omega)) rfl ?_
    refine pa_putI (pc' := 46) (n := 16) dX11_undo_43 fl_11_82 t0 (Or.inl rfl) (Or.inl rfl) rfl ?_
    refine pa_aload_n (pc' := 47) dX11_undo_46 rfl rfl ?_
    refine pa_dup (pc' := 48) dX11_undo_47 rfl rfl ?_
    refine pa_getI (pc' := 51) (n := 16) (v := nI (T.length + 1)) dX11_undo_48 fl_11_85 t0 (by decide) f13 rfl ?_
    refine pa_iconst (v := nI 1) (pc' := 52) dX11_undo_51 (by decide) rfl ?_
    refine pa_isub (pc' := 53) (v := nI ((T.length + 1) - 1)) dX11_undo_52 (nI_sub (by omega)) rfl ?_
    refine pa_putI (pc' := 56) (n := 16) dX11_undo_53 fl_11_85 t0 (Or.inl rfl) (Or.inl rfl) rfl ?_
    refine pa_aload_n (pc' := 57) dX11_undo_56 rfl rfl ?_
    refine pa_callv (pc' := 60) (vs := []) (rest := []) dX11_undo_57 ml_11_356 (by decide) rfl rfl rfl (fun d' _ => (c_hGr t0)) (fun v g3 hq => ?_)
    obtain ⟨ev, eh⟩ := hq
    subst ev
    show zPn N none d mX11_undo (60, _, [.inl 1], g3) _
    subst eh
    refine pa_iret dX11_undo_60 rfl rfl ?_
    have at' : ∀ b k, (zsI (zsI (zsI g 0 12 (nI ((nw + 12 - 1) % 12))) 0 13 (nI (T.length + 1 - 1))) 0 2 0).2.1 b k = if b = 0 ∧ k = 2 then 0 else if b = 0 ∧ k = 13 then nI (T.length + 1 - 1) else if b = 0 ∧ k = 12 then nI ((nw + 12 - 1) % 12) else cpI h.2.1 86 (106 + 6 * nw) b k := fun b k => by
      rw [zsI_at, zsI_at, zsI_at, e]
    have out : ∀ b k, b ≠ 0 → (b < 86 ∨ 91 < b) → (zsI (zsI (zsI g 0 12 (nI ((nw + 12 - 1) % 12))) 0 13 (nI (T.length + 1 - 1))) 0 2 0).2.1 b k = h.2.1 b k := fun b k z w => by
      rw [at', if_neg (fun q => z q.1), if_neg (fun q => z q.1), if_neg (fun q => z q.1), cpIo (by omega)]
    refine ⟨⟨g1, g2, fun k w0 w1 w2 w3 => ?_, fun b k w1 w2 w3 => out b k w1 (by omega)⟩, .inr ⟨t, T, rfl, rfl, ?_, ?_, ⟨(nw + 12 - 1) % 12, Nat.mod_lt _ (by decide), ?_, ?_, by omega, fun k t' hk => ?_⟩, ?_, j2, fun k t' hk => ?_⟩⟩
    · rw [at', if_neg (by omega), if_neg (by omega), if_neg (by omega), cpIo (by omega)]
    · rw [at', if_pos ⟨rfl, rfl⟩]
    · exact (nC.cp b3 b4 e ht).fr (fun b k w1 w2 => by rw [at', if_neg (by omega), if_neg (by omega), if_neg (by omega), e])
    · rw [at', if_neg (by omega), if_neg (by omega), if_pos ⟨rfl, rfl⟩]
    · rw [at', if_neg (by omega), if_pos ⟨rfl, rfl⟩, Nat.add_sub_cancel]
    · have kl : k < T.length := (List.getElem?_eq_some_iff.mp hk).1
      have := hh (k + 1) t' hk
      rw [show (nw + 12 - (k + 1)) % 12 = ((nw + 12 - 1) % 12 + 12 - k) % 12 by omega] at this
      exact this.fr (fun b j w1 w2 => out b j (by omega) (by omega))
    · rw [at', if_neg (by omega), if_neg (by omega), if_neg (by omega), cpIo (by omega)]
      exact j1
    · have kl : k < J.length := (List.getElem?_eq_some_iff.mp hk).1
      exact (j3 k t' hk).fr (fun b j w1 w2 => out b j (by omega) (by omega))
theorem C_back {i : Int32} (S : nwS h) (b3 : cH A ≤ 5) (b4 : cB A ≤ 8) (L : lNC A s H J h) : zPa d mX11_back [.inr (.inr (some 0)), .inl i] h (fun v g => nwF h g ∧ (((i.toInt < 0 ∨ (J.length : Int) ≤ i.toInt) ∧ v = some (.inl 0) ∧ g.2.1 0 2 = 1 ∧ lNC A s H J g) ∨ ∃ t, 0 ≤ i.toInt ∧ J[i.toInt.toNat]? = some t ∧ v = some (.inl 1) ∧ g.2.1 0 2 = 0 ∧ lNC A t [] J g)) := by
  intro N
  have s0 : zsh h 0 = some (11, 16) := zsh_by S.1 (by decide +kernel)
  have s105 : zsh h 105 = some (17, 3) := zsh_by S.1 (by decide +kernel)
  have r6 := S.2.1
  have r14 := S.2.2.2.1
  have L' := L
  obtain ⟨L1, ⟨nw, hn, e12, e13, hl, hh⟩, j1, j2, j3⟩ := L
  have o86 := S.o86
  have ref : (i.toInt < 0 ∨ (J.length : Int) ≤ i.toInt) → ∀ N, zPn N none d mX11_back (12, [(0, .inr (.inr (some 0))), (1, .inl i)], [], h) (fun v g => nwF h g ∧ (((i.toInt < 0 ∨ (J.length : Int) ≤ i.toInt) ∧ v = some (.inl 0) ∧ g.2.1 0 2 = 1 ∧ lNC A s H J g) ∨ ∃ t, 0 ≤ i.toInt ∧ J[i.toInt.toNat]? = some t ∧ v = some (.inl 1) ∧ g.2.1 0 2 = 0 ∧ lNC A t [] J g)) := fun hr N => by
    refine pa_aload_n (pc' := 13) dX11_back_12 rfl rfl ?_
    refine pa_iconst (v := nI 1) (pc' := 14) dX11_back_13 (by decide) rfl ?_
    refine pa_callv (pc' := 17) (vs := [.inl (nI 1)]) (rest := []) dX11_back_14 ml_11_347 (by decide) rfl rfl rfl (fun d' _ => (c_hRe s0)) (fun v g hq => ?_)
    obtain ⟨ev, eh⟩ := hq
    subst ev
    show zPn N none d mX11_back (17, _, [.inl 0], g) _
    subst eh
    refine pa_iret dX11_back_17 rfl rfl ?_
    exact ⟨nwF.t2, .inl ⟨hr, rfl, by rw [zsI_at, if_pos ⟨rfl, rfl⟩]; rfl, L'.t2⟩⟩
  show zPn N none d mX11_back (0, [(0, .inr (.inr (some 0))), (1, .inl i)], [], h) _
  refine pa_iload_n (pc' := 1) dX11_back_0 rfl rfl ?_
  refine pa_if (pc' := 12) (pc2 := 4) dX11_back_1 (by decide) rfl (fun z1 => ?_) (fun z1 => ?_)
  · exact ref (.inl (lt_i.mp (of_decide_eq_true z1))) _
  refine pa_iload_n (pc' := 5) dX11_back_4 rfl rfl ?_
  refine pa_aload_n (pc' := 6) dX11_back_5 rfl rfl ?_
  refine pa_getI (pc' := 9) (n := 16) (v := nI J.length) dX11_back_6 fl_11_91 s0 (by decide) j1 rfl ?_
  refine pa_icmp (pc' := 18) (pc2 := 12) dX11_back_9 (by decide) rfl (fun z2 => ?_) (fun z2 => ?_)
  · have i0 : 0 ≤ i.toInt := by
      have := of_decide_eq_false z1
      rw [lt_i] at this
      have e0 : (0 : Int32).toInt = 0 := rfl
      omega
    have il : i.toInt < J.length := by
      have := lt_i.mp (of_decide_eq_true z2)
      rw [nI_toInt (by omega)] at this
      exact this
    have hi : i.toInt.toNat < 3 := by omega
    have ei : i = nI i.toInt.toNat := Int32.toInt_inj.mp (by rw [nI_toInt (by omega)]; omega)
    obtain ⟨t, ht⟩ : ∃ t, J[i.toInt.toNat]? = some t := ⟨_, List.getElem?_eq_getElem (by omega)⟩
    have nt := j3 _ t ht
    have rq : h.2.2.2.1 105 i.toNatClampNeg = some (178 + 6 * i.toInt.toNat) := S.2.2.2.2.2.1 _ hi
    have oq := S.oI hi
    have zi : zin i 3 = true := by
      rw [ei]
      exact zn_in (by omega) (by omega)
    refine pa_aload_n (pc' := 19) dX11_back_18 rfl rfl ?_
    refine pa_getR (pc' := 22) (n := 16) (r := 86) dX11_back_19 fl_11_42 s0 (by decide) r6 rfl ?_
    refine pa_aload_n (pc' := 23) dX11_back_22 rfl rfl ?_
    refine pa_getR (pc' := 26) (n := 16) (r := 105) dX11_back_23 fl_11_88 s0 (by decide) r14 rfl ?_
    refine pa_iload_n (pc' := 27) dX11_back_26 rfl rfl ?_
    refine pa_aald (pc' := 28) (r := 178 + 6 * i.toInt.toNat) dX11_back_27 s105 (by decide) zi rq rfl ?_
    refine pa_callv (pc' := 31) (vs := [.inr (.inr (some (178 + 6 * i.toInt.toNat)))]) (rest := []) dX11_back_28 ml_11_359 (by decide) rfl rfl rfl (fun d' _ => (N_copyFrom o86 oq (by omega))) (fun v g hq => ?_)
    obtain ⟨ev, eh⟩ := hq
    subst ev
    show zPn N none d mX11_back (31, _, [], g) _
    obtain ⟨g1, g2, e⟩ := eh
    have t0 : zsh g 0 = some (11, 16) := by unfold zsh; rw [g1]; exact s0
    refine pa_aload_n (pc' := 32) dX11_back_31 rfl rfl ?_
    refine pa_iconst (v := nI 0) (pc' := 33) dX11_back_32 (by decide) rfl ?_
    refine pa_putI (pc' := 36) (n := 16) dX11_back_33 fl_11_85 t0 (Or.inl rfl) (Or.inl rfl) rfl ?_
    refine pa_aload_n (pc' := 37) dX11_back_36 rfl rfl ?_
    refine pa_callv (pc' := 40) (vs := []) (rest := []) dX11_back_37 ml_11_356 (by decide) rfl rfl rfl (fun d' _ => (c_hGr t0)) (fun v g3 hq => ?_)
    obtain ⟨ev, eh⟩ := hq
    subst ev
    show zPn N none d mX11_back (40, _, [.inl 1], g3) _
    subst eh
    refine pa_iret dX11_back_40 rfl rfl ?_
    have at' : ∀ b k, (zsI (zsI g 0 13 (nI 0)) 0 2 0).2.1 b k = if b = 0 ∧ k = 2 then 0 else if b = 0 ∧ k = 13 then nI 0 else cpI h.2.1 86 (178 + 6 * i.toInt.toNat) b k := fun b k => by
      rw [zsI_at, zsI_at, e]
    have out : ∀ b k, b ≠ 0 → (b < 86 ∨ 91 < b) → (zsI (zsI g 0 13 (nI 0)) 0 2 0).2.1 b k = h.2.1 b k := fun b k z w => by
      rw [at', if_neg (fun q => z q.1), if_neg (fun q => z q.1), cpIo (by omega)]
    refine ⟨⟨g1, g2, fun k w0 w1 w2 w3 => ?_, fun b k w1 w2 w3 => out b k w1 (by omega)⟩, .inr ⟨t, i0, ht, rfl, ?_, ?_, ⟨nw, hn, ?_, ?_, Nat.zero_le _, fun k t' hk => ?_⟩, ?_, j2, fun k t' hk => ?_⟩⟩
    · rw [at', if_neg (by omega), if_neg (by omega), cpIo (by omega)]
    · rw [at', if_pos ⟨rfl, rfl⟩]
    · exact (nC.cp b3 b4 e nt).fr (fun b k w1 w2 => by rw [at', if_neg (by omega), if_neg (by omega), e])
    · rw [at', if_neg (by omega), if_neg (by omega), cpIo (by omega)]
      exact e12
    · rw [at', if_neg (by omega), if_pos ⟨rfl, rfl⟩]
      rfl
    · cases hk
    · rw [at', if_neg (by omega), if_neg (by omega), cpIo (by omega)]
      exact j1
    · have kl : k < J.length := (List.getElem?_eq_some_iff.mp hk).1
      exact (j3 k t' hk).fr (fun b j w1 w2 => out b j (by omega) (by omega))
  · refine ref (.inr ?_) _
    have := of_decide_eq_false z2
    rw [lt_i, nI_toInt (by omega)] at this
    omega
end UIB
/-! the reference: states are copied; undo, back -/
def lenO (A : pA) (s : nS) : Prop := ∀ b, b < cB A → (s.2.2.2.2.2 b).length ≤ 6
def hiM (A : pA) (H : List nS) (h : zH) : Prop := h.2.1 196 20 = nI H.length ∧ H.length ≤ 12 ∧ ∀ k t, H[k]? = some t → nMo A t 202 (76 * (H.length - 1 - k)) h ∧ lenO A t
def imM (A : pA) (J : List nS) (h : zH) : Prop := h.2.1 196 21 = nI J.length ∧ J.length ≤ 3 ∧ ∀ k t, J[k]? = some t → nMo A t 203 (76 * k) h ∧ lenO A t
def lNM (A : pA) (s : nS) (H J : List nS) (h : zH) : Prop := (nMo A s 201 0 h ∧ lenO A s) ∧ hiM A H h ∧ imM A J h
def mwS (h : zH) : Prop := h.1 = hh_487.1 ∧ h.2.2.2.1 196 17 = some 201 ∧ h.2.2.2.1 196 18 = some 202 ∧ h.2.2.2.1 196 19 = some 203
def mwF (h g : zH) : Prop := g.1 = h.1 ∧ g.2.2 = h.2.2 ∧ (∀ k, k ≠ 0 → k ≠ 11 → k ≠ 20 → k ≠ 21 → g.2.1 196 k = h.2.1 196 k) ∧ ∀ b k, b ≠ 196 → b ≠ 201 → b ≠ 202 → b ≠ 203 → g.2.1 b k = h.2.1 b k
section UIM
variable {d N q p b k o o2 : Nat} {h g : zH} {A : pA} {s : nS} {H J : List nS}
theorem M_copy {f q a b n nf ng : Nat} (sf : zsh h f = some (14, nf)) (sg : zsh h q = some (14, ng)) (hne : f ≠ q) (ha : a + n ≤ nf) (hb : b + n ≤ ng) (hn : nf < 100000) (hn2 : ng < 100000) : zPa d mX12_copy [.inr (.inr (some f)), .inl (nI a), .inr (.inr (some q)), .inl (nI b), .inl (nI n)] h (fun v h' => v = none ∧ h' = cpyH h f a q b n) := zPa.of (k_copy sf sg hne ha hb hn hn2)
theorem nMo.cp (b3 : cH A ≤ 5) (b4 : cB A ≤ 8) (hl : lenO A s) (e : ∀ k, k < 76 → g.2.1 q (o2 + k) = h.2.1 p (o + k)) (n : nMo A s p o h) : nMo A s q o2 g := by
  obtain ⟨n1, n2, n3, n4⟩ := n
  refine ⟨(e 0 (by decide)).trans n1, (e 1 (by decide)).trans n2, fun w hw => ⟨(e _ (by omega)).trans (n3 w hw).1, (e _ (by omega)).trans (n3 w hw).2⟩, fun b hb => ⟨(e _ (by omega)).trans (n4 b hb).1, (e _ (by omega)).trans (n4 b hb).2.1, fun k hk => ?_⟩⟩
  have h6 := hl b hb
  exact (e _ (by omega)).trans ((n4 b hb).2.2 k hk)
theorem m_isN {k : Int32} (s196 : zsh h 196 = some (12, 39)) : zPa d mX12_isNot [.inr (.inr (some 196)), .inl k] h (fun v h' => v = some (.inl 0) ∧ h' = zsI h 196 11 k) := by
  intro N
  show zPn N none d mX12_isNot (0, [(0, .inr (.inr (some 196))), (1, .inl k)], [], h) _
  refine pa_aload_n (pc' := 1) dX12_isNot_0 rfl rfl ?_
  refine pa_iload_n (pc' := 2) dX12_isNot_1 rfl rfl ?_
  refine pa_putI (pc' := 5) (n := 39) dX12_isNot_2 fl_12_65 s196 (Or.inl rfl) (Or.inl rfl) rfl ?_
  refine pa_iconst (v := 0) (pc' := 6) dX12_isNot_5 (by decide) rfl ?_
  refine pa_iret dX12_isNot_6 rfl rfl ?_
  exact ⟨rfl, rfl⟩
theorem M_undo (S : mwS h) (b3 : cH A ≤ 5) (b4 : cB A ≤ 8) (L : lNM A s H J h) : zPa d mX12_undo [.inr (.inr (some 196))] h (fun v g => mwF h g ∧ ((H = [] ∧ v = some (.inl 0) ∧ g.2.1 196 11 = 6 ∧ lNM A s H J g) ∨ ∃ t T, H = t :: T ∧ v = some (.inl 1) ∧ g.2.1 196 11 = 0 ∧ lNM A t T J g)) := by
  intro N
  have s196 : zsh h 196 = some (12, 39) := zsh_by S.1 (by decide +kernel)
  have s201 : zsh h 201 = some (14, 76) := zsh_by S.1 (by decide +kernel)
  have s202 : zsh h 202 = some (14, 912) := zsh_by S.1 (by decide +kernel)
  have r17 := S.2.1
  have r18 := S.2.2.1
  have L' := L
  obtain ⟨⟨L1, l1⟩, ⟨e20, hl, hh⟩, j1, j2, j3⟩ := L
  have f20 : (zsI (zsI h 196 0 0) 196 11 0).2.1 196 20 = nI H.length := by rw [zsI_at, zsI_at, if_neg (by omega), if_neg (by omega)]; exact e20
  show zPn N none d mX12_undo (0, [(0, .inr (.inr (some 196)))], [], h) _
  refine pa_aload_n (pc' := 1) dX12_undo_0 rfl rfl ?_
  refine pa_callv (pc' := 4) (vs := []) (rest := []) dX12_undo_1 ml_12_167 (by decide) rfl rfl rfl (fun d' _ => (m_good s196)) (fun v g hq => ?_)
  obtain ⟨ev, eh⟩ := hq
  subst ev
  show zPn N none d mX12_undo (4, _, [], g) _
  subst eh
  refine pa_aload_n (pc' := 5) dX12_undo_4 rfl rfl ?_
  refine pa_getI (pc' := 8) (n := 39) (v := nI H.length) dX12_undo_5 fl_12_183 s196 (by decide) f20 rfl ?_
  cases H with
  | nil =>
    refine pa_if_f (pc' := 11) dX12_undo_8 (by decide) (by decide) rfl ?_
    refine pa_aload_n (pc' := 12) dX12_undo_11 rfl rfl ?_
    refine pa_bipush (v := nI 6) (pc' := 14) dX12_undo_12 (by decide) rfl ?_
    refine pa_callv (pc' := 17) (vs := [.inl (nI 6)]) (rest := []) dX12_undo_14 ml_12_427 (by decide) rfl rfl rfl (fun d' _ => (m_isN s196)) (fun v g hq => ?_)
    obtain ⟨ev, eh⟩ := hq
    subst ev
    show zPn N none d mX12_undo (17, _, [.inl 0], g) _
    subst eh
    refine pa_iret dX12_undo_17 rfl rfl ?_
    have at' : ∀ b k, (zsI (zsI (zsI h 196 0 0) 196 11 0) 196 11 (nI 6)).2.1 b k = if b = 196 ∧ k = 11 then nI 6 else if b = 196 ∧ k = 11 then 0 else if b = 196 ∧ k = 0 then 0 else h.2.1 b k := fun b k => by rw [zsI_at, zsI_at, zsI_at]
    have out : ∀ b k, (b = 196 → k ≠ 0 ∧ k ≠ 11) → (zsI (zsI (zsI h 196 0 0) 196 11 0) 196 11 (nI 6)).2.1 b k = h.2.1 b k := fun b k w => by rw [at', if_neg (by omega), if_neg (by omega), if_neg (by omega)]
    refine ⟨⟨rfl, rfl, fun k w1 w2 w3 w4 => out _ _ (fun _ => ⟨w1, w2⟩), fun b k w1 w2 w3 w4 => out _ _ (fun z => absurd z w1)⟩, .inl ⟨rfl, rfl, ?_, ⟨⟨nMo.cp b3 b4 l1 (fun k hk => out _ _ (by omega)) L1, l1⟩, ⟨(out _ _ (by omega)).trans e20, hl, fun k t hk => ?_⟩, (out _ _ (by omega)).trans j1, j2, fun k t hk => ⟨nMo.cp b3 b4 (j3 k t hk).2 (fun k hk => out _ _ (by omega)) (j3 k t hk).1, (j3 k t hk).2⟩⟩⟩⟩
    · rw [at', if_pos ⟨rfl, rfl⟩]; rfl
    · cases hk
  | cons t T =>
    have hl' : T.length + 1 ≤ 12 := hl
    have f20 : (zsI (zsI h 196 0 0) 196 11 0).2.1 196 20 = nI (T.length + 1) := f20
    obtain ⟨ht, lt⟩ := hh 0 t rfl
    refine pa_if_t (pc' := 18) dX12_undo_8 (decide_eq_true (fun q => by have := congrArg Int32.toInt q; rw [nI_toInt (by rw [List.length_cons]; omega), List.length_cons, show (0 : Int32).toInt = 0 by decide] at this; omega)) (by decide) ?_
    refine pa_aload_n (pc' := 19) dX12_undo_18 rfl rfl ?_
    refine pa_dup (pc' := 20) dX12_undo_19 rfl rfl ?_
    refine pa_getI (pc' := 23) (n := 39) (v := nI (T.length + 1)) dX12_undo_20 fl_12_183 s196 (by decide) f20 rfl ?_
    refine pa_iconst (v := nI 1) (pc' := 24) dX12_undo_23 (by decide) rfl ?_
    refine pa_isub (pc' := 25) (v := nI ((T.length + 1) - 1)) dX12_undo_24 (nI_sub (by omega)) rfl ?_
    refine pa_putI (pc' := 28) (n := 39) dX12_undo_25 fl_12_183 s196 (Or.inl rfl) (Or.inl rfl) rfl ?_
    refine pa_aload_n (pc' := 29) dX12_undo_28 rfl rfl ?_
    refine pa_getR (pc' := 32) (n := 39) (r := 202) dX12_undo_29 fl_12_29 s196 (by decide) r18 rfl ?_
    refine pa_bipush (v := nI 76) (pc' := 34) dX12_undo_32 (by decide) rfl ?_
    refine pa_aload_n (pc' := 35) dX12_undo_34 rfl rfl ?_
    refine pa_getI (pc' := 38) (n := 39) (v := nI (T.length + 1 - 1)) dX12_undo_35 fl_12_183 s196 (by decide) (by rw [zsI_at, if_pos ⟨rfl, rfl⟩]) rfl ?_
    refine pa_imul (pc' := 39) (v := nI (76 * (T.length + 1 - 1))) dX12_undo_38 (nI_mul _ _) rfl ?_
    refine pa_aload_n (pc' := 40) dX12_undo_39 rfl rfl ?_
    refine pa_getR (pc' := 43) (n := 39) (r := 201) dX12_undo_40 fl_12_26 s196 (by decide) r17 rfl ?_
    refine pa_iconst (v := nI 0) (pc' := 44) dX12_undo_43 (by decide) rfl ?_
    refine pa_bipush (v := nI 76) (pc' := 46) dX12_undo_44 (by decide) rfl ?_
    refine pa_calls (pc' := 49) (kd := 1) (vs := [.inr (.inr (some 202)), .inl (nI (76 * (T.length + 1 - 1))), .inr (.inr (some 201)), .inl (nI 0), .inl (nI 76)]) (rest := []) dX12_undo_46 ml_12_176 (.inl rfl) rfl rfl rfl (fun d' _ => (M_copy s202 s201 (by decide) (by omega) (by omega) (by decide) (by decide))) (fun v g hq => ?_)
    obtain ⟨ev, eh⟩ := hq
    subst ev
    show zPn N none d mX12_undo (49, _, [], g) _
    rw [eh]
    refine pa_iconst (v := nI 1) (pc' := 50) dX12_undo_49 (by decide) rfl ?_
    refine pa_iret dX12_undo_50 rfl rfl ?_
    have at' : ∀ b k, (cpyH (zsI (zsI (zsI h 196 0 0) 196 11 0) 196 20 (nI (T.length + 1 - 1))) 202 (76 * (T.length + 1 - 1)) 201 0 76).2.1 b k = if b = 201 ∧ 0 ≤ k ∧ k < 0 + 76 then h.2.1 202 (76 * (T.length + 1 - 1) + (k - 0)) else if b = 196 ∧ k = 20 then nI (T.length + 1 - 1) else if b = 196 ∧ k = 11 then 0 else if b = 196 ∧ k = 0 then 0 else h.2.1 b k := fun b k => by
      rw [cpyH_at, zsI_at, zsI_at, zsI_at, zsI_at, zsI_at, zsI_at, if_neg (show ¬ ((202 : Nat) = 196 ∧ _) by omega), if_neg (show ¬ ((202 : Nat) = 196 ∧ _) by omega), if_neg (show ¬ ((202 : Nat) = 196 ∧ _) by omega)]
    have out : ∀ b k, b ≠ 201 → (b = 196 → k ≠ 0 ∧ k ≠ 11 ∧ k ≠ 20) → (cpyH (zsI (zsI (zsI h 196 0 0) 196 11 0) 196 20 (nI (T.length + 1 - 1))) 202 (76 * (T.length + 1 - 1)) 201 0 76).2.1 b k = h.2.1 b k := fun b k z w => by
      rw [at', if_neg (fun q => z q.1), if_neg (by omega), if_neg (by omega), if_neg (by omega)]
    refine ⟨⟨rfl, rfl, fun k w1 w2 w3 w4 => out _ _ (by decide) (by omega), fun b k w1 w2 w3 w4 => out _ _ w2 (by omega)⟩, .inr ⟨t, T, rfl, rfl, ?_, ⟨nMo.cp b3 b4 lt (fun k hk => ?_) ht, lt⟩, ⟨?_, by omega, fun k t' hk => ?_⟩, (out _ _ (by decide) (by omega)).trans j1, j2, fun k t' hk => ⟨nMo.cp b3 b4 (j3 k t' hk).2 (fun k hk => out _ _ (by decide) (by omega)) (j3 k t' hk).1, (j3 k t' hk).2⟩⟩⟩
    · rw [at', if_neg (by omega), if_neg (by omega), if_pos ⟨rfl, rfl⟩]
    · rw [at', if_pos ⟨rfl, by omega, by omega⟩]
      exact congrArg (h.2.1 202) (by have : (t :: T).length = T.length + 1 := rfl; omega)
    · rw [at', if_neg (by omega), if_pos ⟨rfl, rfl⟩, Nat.add_sub_cancel]
    · have kl : k < T.length := (List.getElem?_eq_some_iff.mp hk).1
      obtain ⟨x1, x2⟩ := hh (k + 1) t' hk
      rw [List.length_cons, show T.length + 1 - 1 - (k + 1) = T.length - 1 - k by omega] at x1
      exact ⟨nMo.cp b3 b4 x2 (fun k hk => out _ _ (by decide) (by omega)) x1, x2⟩
end UIM
/-! no two ways of a post join the same islands -/
def tWy (n : Nat) (wy : Nat → Nat × Nat) : Prop := ∀ i j, i < n → j < n → joinsB wy (wy j).1 (wy j).2 i = true → i = j
def tU (A : pA) : Prop := tWy (cW A) A.2.2.2.1
section RD9
variable {y : Nat → Int32} {n p q : Nat} {A A' : pA} {nm : Nat → List Int32}
theorem inr_tU {B : pA} {q' : Nat} (e : (Sum.inr (B, q') : sR) = .inr (A', q)) (k : tU B) : tU A' := by
  have := congrArg Prod.fst (Sum.inr.inj e)
  dsimp only at this
  rw [← this]
  exact k
theorem sHead_tU (k : tU A) (e : sHead y n A p = .inr (A', q)) : tU A' := by
  unfold sHead at e
  split at e
  · cases e
  split at e
  · cases e
  split at e
  · cases e
  split at e
  · cases e
  exact inr_tU e k
theorem sIsland_tU (k : tU A) (e : sIsland y n A p = .inr (A', q)) : tU A' := by
  unfold sIsland at e
  split at e
  · cases e
  split at e
  · split at e
    · split at e
      · cases e
      · exact inr_tU e k
    · cases e
  · cases e
theorem joinsB_iff {wy : Nat → Nat × Nat} {a b k : Nat} : joinsB wy a b k = true ↔ wy k = (a, b) ∨ wy k = (b, a) := by
  unfold joinsB
  rw [Bool.or_eq_true, decide_eq_true_eq, decide_eq_true_eq]
theorem sWay_tU (k : tU A) (e : sWay y n A p = .inr (A', q)) : tU A' := by
  unfold sWay at e
  split at e
  · cases e
  next a p1 e1 =>
  split at e
  · cases e
  next b p2 e2 =>
  split at e
  · cases e
  next hab =>
  split at e
  · cases e
  next u p3 e3 =>
  split at e
  · cases e
  next v p4 e4 =>
  have hno : ∀ i, i < cW A → ¬ (A.2.2.2.1 i = (a, b) ∨ A.2.2.2.1 i = (b, a)) := fun i hi w => hab (.inr (List.any_eq_true.mpr ⟨i, List.mem_range.mpr hi, joinsB_iff.mpr w⟩))
  refine inr_tU e (fun i j hi hj w => ?_)
  have hi : i < cW A + 1 := hi
  have hj : j < cW A + 1 := hj
  have w : joinsB (upA A.2.2.2.1 (cW A) (a, b)) (upA A.2.2.2.1 (cW A) (a, b) j).1 (upA A.2.2.2.1 (cW A) (a, b) j).2 i = true := w
  rw [joinsB_iff, upA_at, upA_at] at w
  by_cases zi : i = cW A
  · by_cases zj : j = cW A
    · omega
    · rw [if_pos zi, if_neg zj] at w
      exfalso
      refine hno j (by omega) ?_
      rcases w with w | w
      · left
        rw [w]
      · right
        have w1 := congrArg Prod.fst w
        have w2 := congrArg Prod.snd w
        dsimp only at w1 w2
        rw [w1, w2]
  · by_cases zj : j = cW A
    · rw [if_neg zi, if_pos zj] at w
      exact absurd w (hno i (by omega))
    · rw [if_neg zi, if_neg zj] at w
      exact k i j (by omega) (by omega) (joinsB_iff.mpr w)
theorem sWhale_tU (k : tU A) (e : sWhale y n A p = .inr (A', q)) : tU A' := by
  unfold sWhale at e
  split at e
  · cases e
  split at e
  · split at e
    · cases e
    split at e
    · cases e
    split at e
    · cases e
    split at e
    · cases e
    exact inr_tU e k
  · cases e
theorem sBox_tU (k : tU A) (e : sBox y n A p = .inr (A', q)) : tU A' := by
  unfold sBox at e
  split at e
  · cases e
  split at e
  · cases e
  split at e
  · cases e
  split at e
  · cases e
  split at e
  · cases e
  split at e
  · cases e
  split at e
  · cases e
  exact inr_tU e k
theorem sSpout_tU (k : tU A) (e : sSpout y n A p = .inr (A', q)) : tU A' := by
  unfold sSpout at e
  split at e
  · cases e
  split at e
  · cases e
  split at e
  · cases e
  exact inr_tU e k
theorem sLine_tU (k : tU A) (e : sLine y n A p = .inr (A', q)) : tU A' := by
  unfold sLine at e
  split at e
  · split at e
    · exact sHead_tU k e
    · cases e
  split at e
  · split at e
    · cases e
    split at e
    · exact sIsland_tU k e
    · cases e
  split at e
  · split at e
    · cases e
    split at e
    · exact sWay_tU k e
    · cases e
  split at e
  · split at e
    · cases e
    split at e
    · exact sWhale_tU k e
    · cases e
  split at e
  · split at e
    · cases e
    split at e
    · exact sBox_tU k e
    · cases e
  split at e
  · split at e
    · cases e
    split at e
    · exact sSpout_tU k e
    · cases e
  · cases e
theorem sText_tU : ∀ (f : Nat) (A : pA) (p : Nat) {B : pA}, pI A → tU A → p ≤ n → sText y n f A p = .inr B → tU B := by
  intro f
  induction f with
  | zero => intro A p B _ _ _ e; cases e
  | succ f ih =>
    intro A p B hI k hp e
    rw [sText_fin] at e
    cases er : sLine y n A p with
    | inl z =>
      rw [er] at e
      cases e
    | inr z =>
      obtain ⟨A', q'⟩ := z
      rw [er] at e
      have k' := sLine_tU k er
      have hI' := sLine_pI hI hp er
      have ge := sLine_ge hp er
      unfold sFin at e
      dsimp only at e
      split at e
      · split at e
        · cases e
        · cases e
          exact k'
      · split at e
        · next t59 => exact ih A' _ hI' k' (t59_gt (y := y) ge.2 t59).2 e
        · cases e
theorem tU_0 : tU pA0 := fun i j hi _ _ => absurd hi (Nat.not_lt_zero i)
end RD9
end Pk0
section Pk1
/-! image (class and reference), back (reference) -/
section IMG
variable {d N q p b k c : Nat} {h g : zH} {A : pA} {s : nS} {H J : List nS}
theorem getE_app {α : Type} {J : List α} {s t : α} {k : Nat} (hk : (J ++ [s])[k]? = some t) : (k < J.length ∧ J[k]? = some t) ∨ (k = J.length ∧ t = s) := by
  by_cases z : k < J.length
  · rw [List.getElem?_append_left z] at hk
    exact .inl ⟨z, hk⟩
  · rw [List.getElem?_append_right (by omega)] at hk
    have hl := (List.getElem?_eq_some_iff.mp hk).1
    rw [List.length_singleton] at hl
    have e : k - J.length = 0 := by omega
    rw [e] at hk
    cases hk
    exact .inr ⟨by omega, rfl⟩
theorem C_image (S : nwS h) (hA : lPA A c h) (b3 : cH A ≤ 5) (b4 : cB A ≤ 8) (L : lNC A s H J h) : zPa d mX11_image [.inr (.inr (some 0))] h (fun v g => nwF h g ∧ ((cI A = 0 ∧ v = some (.inl (-1)) ∧ g.2.1 0 2 = 1 ∧ lNC A s H J g) ∨ (cI A ≠ 0 ∧ J.length = 3 ∧ v = some (.inl (-1)) ∧ g.2.1 0 2 = 3 ∧ lNC A s H J g) ∨ (cI A ≠ 0 ∧ J.length < 3 ∧ v = some (.inl (nI J.length)) ∧ g.2.1 0 2 = 0 ∧ lNC A s H (J ++ [s]) g))) := by
  intro N
  have s0 : zsh h 0 = some (11, 16) := zsh_by S.1 (by decide +kernel)
  have s105 : zsh h 105 = some (17, 3) := zsh_by S.1 (by decide +kernel)
  have r6 := S.2.1
  have r14 := S.2.2.2.1
  have L' := L
  obtain ⟨L1, ⟨nw, hn, e12, e13, hl, hh⟩, j1, j2, j3⟩ := L
  have o86 := S.o86
  show zPn N none d mX11_image (0, [(0, .inr (.inr (some 0)))], [], h) _
  refine pa_aload_n (pc' := 1) dX11_image_0 rfl rfl ?_
  refine pa_callv (pc' := 4) (vs := []) (rest := []) dX11_image_1 ml_11_222 (by decide) rfl rfl rfl (fun d' _ => (N_hasPost hA S.1)) (fun v g9 hq => ?_)
  obtain ⟨ev, eh⟩ := hq
  subst ev
  rw [eh]
  show zPn N none d mX11_image (4, _, [.inl (if cI A = 0 then 0 else 1)], h) _
  by_cases z0 : cI A = 0
  · rw [if_pos z0]
    refine pa_if_f (pc' := 7) dX11_image_4 (by decide) (by decide) rfl ?_
    refine pa_aload_n (pc' := 8) dX11_image_7 rfl rfl ?_
    refine pa_iconst (v := nI 1) (pc' := 9) dX11_image_8 (by decide) rfl ?_
    refine pa_callv (pc' := 12) (vs := [.inl (nI 1)]) (rest := []) dX11_image_9 ml_11_98 (by decide) rfl rfl rfl (fun d' _ => (c_ref s0)) (fun v g hq => ?_)
    obtain ⟨ev, eh⟩ := hq
    subst ev
    show zPn N none d mX11_image (12, _, [.inl ((-1))], g) _
    subst eh
    refine pa_iret dX11_image_12 rfl rfl ?_
    exact ⟨nwF.t2, .inl ⟨z0, rfl, by rw [zsI_at, if_pos ⟨rfl, rfl⟩]; rfl, L'.t2⟩⟩
  · rw [if_neg z0]
    refine pa_if_t (pc' := 13) dX11_image_4 (by decide) (by decide) ?_
    refine pa_aload_n (pc' := 14) dX11_image_13 rfl rfl ?_
    refine pa_getI (pc' := 17) (n := 16) (v := nI J.length) dX11_image_14 fl_11_91 s0 (by decide) j1 rfl ?_
    refine pa_iconst (v := nI 3) (pc' := 18) dX11_image_17 (by decide) rfl ?_
    by_cases z1 : J.length < 3
    · refine pa_icmp_t (pc' := 27) dX11_image_18 (decide_eq_true (lt_i.mpr (by rw [nI_toInt (by omega), nI_toInt (by omega)]; omega))) (by decide) ?_
      have rq := S.2.2.2.2.2.1 _ z1
      have oq := S.oI z1
      refine pa_aload_n (pc' := 28) dX11_image_27 rfl rfl ?_
      refine pa_getR (pc' := 31) (n := 16) (r := 105) dX11_image_28 fl_11_88 s0 (by decide) r14 rfl ?_
      refine pa_aload_n (pc' := 32) dX11_image_31 rfl rfl ?_
      refine pa_getI (pc' := 35) (n := 16) (v := nI J.length) dX11_image_32 fl_11_91 s0 (by decide) j1 rfl ?_
      refine pa_aald (pc' := 36) (r := 178 + 6 * J.length) dX11_image_35 s105 (by decide) (zn_in (by omega) (by omega)) (by rw [nI_clamp (by omega)]; exact rq) rfl ?_
      refine pa_aload_n (pc' := 37) dX11_image_36 rfl rfl ?_
      refine pa_getR (pc' := 40) (n := 16) (r := 86) dX11_image_37 fl_11_42 s0 (by decide) r6 rfl ?_
      refine pa_callv (pc' := 43) (vs := [.inr (.inr (some 86))]) (rest := []) dX11_image_40 ml_11_359 (by decide) rfl rfl rfl (fun d' _ => (N_copyFrom oq o86 (by omega))) (fun v g hq => ?_)
      obtain ⟨ev, eh⟩ := hq
      subst ev
      show zPn N none d mX11_image (43, _, [], g) _
      obtain ⟨g1, g2, e⟩ := eh
      have t0 : zsh g 0 = some (11, 16) := by unfold zsh; rw [g1]; exact s0
      have f15 : g.2.1 0 15 = nI J.length := by rw [e, cpIo (by omega)]; exact j1
      refine pa_aload_n (pc' := 44) dX11_image_43 rfl rfl ?_
      refine pa_dup (pc' := 45) dX11_image_44 rfl rfl ?_
      refine pa_getI (pc' := 48) (n := 16) (v := nI J.length) dX11_image_45 fl_11_91 t0 (by decide) f15 rfl ?_
      refine pa_iconst (v := nI 1) (pc' := 49) dX11_image_48 (by decide) rfl ?_
      refine pa_iadd (pc' := 50) (v := nI (J.length + 1)) dX11_image_49 (nI_add _ _) rfl ?_
      refine pa_putI (pc' := 53) (n := 16) dX11_image_50 fl_11_91 t0 (Or.inl rfl) (Or.inl rfl) rfl ?_
      refine pa_aload_n (pc' := 54) dX11_image_53 rfl rfl ?_
      refine pa_aload_n (pc' := 55) dX11_image_54 rfl rfl ?_
      refine pa_getI (pc' := 58) (n := 16) (v := nI (J.length + 1)) dX11_image_55 fl_11_91 t0 (by decide) (by rw [zsI_at, if_pos ⟨rfl, rfl⟩]) rfl ?_
      refine pa_iconst (v := nI 1) (pc' := 59) dX11_image_58 (by decide) rfl ?_
      refine pa_isub (pc' := 60) (v := nI ((J.length + 1) - 1)) dX11_image_59 (nI_sub (by omega)) rfl ?_
      refine pa_callv (pc' := 63) (vs := [.inl (nI ((J.length + 1) - 1))]) (rest := []) dX11_image_60 ml_11_112 (by decide) rfl rfl rfl (fun d' _ => (c_gra t0)) (fun v g3 hq => ?_)
      obtain ⟨ev, eh⟩ := hq
      subst ev
      show zPn N none d mX11_image (63, _, [.inl (nI (J.length + 1 - 1))], g3) _
      subst eh
      refine pa_iret dX11_image_63 rfl rfl ?_
      have at' : ∀ b k, (zsI (zsI g 0 15 (nI (J.length + 1))) 0 2 0).2.1 b k = if b = 0 ∧ k = 2 then 0 else if b = 0 ∧ k = 15 then nI (J.length + 1) else cpI h.2.1 (178 + 6 * J.length) 86 b k := fun b k => by
        rw [zsI_at, zsI_at, e]
      have out : ∀ b k, b ≠ 0 → (b < 178 + 6 * J.length ∨ 178 + 6 * J.length + 5 < b) → (zsI (zsI g 0 15 (nI (J.length + 1))) 0 2 0).2.1 b k = h.2.1 b k := fun b k z w => by
        rw [at', if_neg (fun q => z q.1), if_neg (fun q => z q.1), cpIo (by omega)]
      have Lq : nC A s (178 + 6 * J.length) (zsI (zsI g 0 15 (nI (J.length + 1))) 0 2 0) := (nC.cp b3 b4 e L1).fr (fun b k w1 w2 => by rw [at', if_neg (by omega), if_neg (by omega), e])
      refine ⟨⟨g1, g2, fun k w0 w1 w2 w3 => ?_, fun b k w1 w2 w3 => out b k w1 (by omega)⟩, .inr (.inr ⟨z0, z1, by rw [Nat.add_sub_cancel], ?_, L1.fr (fun b k w1 w2 => out b k (by omega) (by omega)), ⟨nw, hn, ?_, ?_, hl, fun k t hk => ?_⟩, ?_, ?_, fun k t hk => ?_⟩)⟩
      · rw [at', if_neg (by omega), if_neg (by omega), cpIo (by omega)]
      · rw [at', if_pos ⟨rfl, rfl⟩]
      · rw [at', if_neg (by omega), if_neg (by omega), cpIo (by omega)]
        exact e12
      · rw [at', if_neg (by omega), if_neg (by omega), cpIo (by omega)]
        exact e13
      · exact (hh k t hk).fr (fun b j w1 w2 => out b j (by omega) (by omega))
      · rw [at', if_neg (by omega), if_pos ⟨rfl, rfl⟩, List.length_append, List.length_singleton]
      · rw [List.length_append, List.length_singleton]
        omega
      · rcases getE_app hk with ⟨w, hk⟩ | ⟨w, e2⟩
        · exact (j3 k t hk).fr (fun b j w1 w2 => out b j (by omega) (by omega))
        · rw [w, e2]
          exact Lq
    · refine pa_icmp_f (pc' := 21) dX11_image_18 (decide_eq_false (fun q => by have := lt_i.mp q; rw [nI_toInt (by omega), nI_toInt (by omega)] at this; omega)) (by decide) rfl ?_
      refine pa_aload_n (pc' := 22) dX11_image_21 rfl rfl ?_
      refine pa_iconst (v := nI 3) (pc' := 23) dX11_image_22 (by decide) rfl ?_
      refine pa_callv (pc' := 26) (vs := [.inl (nI 3)]) (rest := []) dX11_image_23 ml_11_98 (by decide) rfl rfl rfl (fun d' _ => (c_ref s0)) (fun v g hq => ?_)
      obtain ⟨ev, eh⟩ := hq
      subst ev
      show zPn N none d mX11_image (26, _, [.inl ((-1))], g) _
      subst eh
      refine pa_iret dX11_image_26 rfl rfl ?_
      exact ⟨nwF.t2, .inr (.inl ⟨z0, by omega, rfl, by rw [zsI_at, if_pos ⟨rfl, rfl⟩]; rfl, L'.t2⟩)⟩
/-- the reference: a heap in which only numbers of the model at 0, 11 have changed -/
theorem lNM.ch (b3 : cH A ≤ 5) (b4 : cB A ≤ 8) (L : lNM A s H J h) (e : ∀ b k, 196 ≤ b → b ≤ 203 → (b = 196 → k ≠ 0 ∧ k ≠ 11) → g.2.1 b k = h.2.1 b k) : lNM A s H J g := by
  obtain ⟨⟨L1, l1⟩, ⟨e20, hl, hh⟩, j1, j2, j3⟩ := L
  exact ⟨⟨nMo.cp b3 b4 l1 (fun k hk => e _ _ (by omega) (by omega) (by omega)) L1, l1⟩, ⟨(e _ _ (by omega) (by omega) (by omega)).trans e20, hl, fun k t hk => ⟨nMo.cp b3 b4 (hh k t hk).2 (fun k hk => e _ _ (by omega) (by omega) (by omega)) (hh k t hk).1, (hh k t hk).2⟩⟩, (e _ _ (by omega) (by omega) (by omega)).trans j1, j2, fun k t hk => ⟨nMo.cp b3 b4 (j3 k t hk).2 (fun k hk => e _ _ (by omega) (by omega) (by omega)) (j3 k t hk).1, (j3 k t hk).2⟩⟩
theorem mwF.gd : mwF h (zsI (zsI h 196 0 0) 196 11 0) := ⟨rfl, rfl, fun k w1 w2 w3 w4 => by rw [zsI_at, zsI_at, if_neg (by omega), if_neg (by omega)], fun b k w1 w2 w3 w4 => by rw [zsI_at, zsI_at, if_neg (by omega), if_neg (by omega)]⟩
theorem mwF.t {v : Int32} : mwF h (zsI h 196 11 v) := ⟨rfl, rfl, fun k w1 w2 w3 w4 => by rw [zsI_at, if_neg (by omega)], fun b k w1 w2 w3 w4 => by rw [zsI_at, if_neg (by omega)]⟩
theorem mwF.tr {f : zH} (a : mwF h g) (b : mwF g f) : mwF h f := ⟨b.1.trans a.1, b.2.1.trans a.2.1, fun k e1 e2 e3 e4 => (b.2.2.1 k e1 e2 e3 e4).trans (a.2.2.1 k e1 e2 e3 e4), fun c k e1 e2 e3 e4 => (b.2.2.2 c k e1 e2 e3 e4).trans (a.2.2.2 c k e1 e2 e3 e4)⟩
theorem M_image (S : mwS h) (hA : lPA A c h) (b3 : cH A ≤ 5) (b4 : cB A ≤ 8) (L : lNM A s H J h) : zPa d mX12_image [.inr (.inr (some 196))] h (fun v g => mwF h g ∧ ((cI A = 0 ∧ v = some (.inl (-1)) ∧ g.2.1 196 11 = 1 ∧ lNM A s H J g) ∨ (cI A ≠ 0 ∧ J.length = 3 ∧ v = some (.inl (-1)) ∧ g.2.1 196 11 = 3 ∧ lNM A s H J g) ∨ (cI A ≠ 0 ∧ J.length < 3 ∧ v = some (.inl (nI J.length)) ∧ g.2.1 196 11 = 0 ∧ lNM A s H (J ++ [s]) g))) := by
  intro N
  have s196 : zsh h 196 = some (12, 39) := zsh_by S.1 (by decide +kernel)
  have s201 : zsh h 201 = some (14, 76) := zsh_by S.1 (by decide +kernel)
  have s203 : zsh h 203 = some (14, 228) := zsh_by S.1 (by decide +kernel)
  have r17 := S.2.1
  have r19 := S.2.2.2
  generalize eh1 : zsI (zsI h 196 0 0) 196 11 0 = h1
  have F1 : mwF h h1 := by rw [← eh1]; exact mwF.gd
  have t11 : h1.2.1 196 11 = 0 := by rw [← eh1, zsI_at, if_pos ⟨rfl, rfl⟩]
  have L1 : lNM A s H J h1 := L.ch b3 b4 (fun b k w1 w2 w3 => by rw [← eh1, zsI_at, zsI_at, if_neg (by omega), if_neg (by omega)])
  have e14 : h1.2.1 196 14 = h.2.1 196 14 := F1.2.2.1 14 (by decide) (by decide) (by decide) (by decide)
  have z196 : zsh h1 196 = some (12, 39) := by rw [← eh1]; exact s196
  have z201 : zsh h1 201 = some (14, 76) := by rw [← eh1]; exact s201
  have z203 : zsh h1 203 = some (14, 228) := by rw [← eh1]; exact s203
  have q17 : h1.2.2.2.1 196 17 = some 201 := by rw [← eh1]; exact r17
  have q19 : h1.2.2.2.1 196 19 = some 203 := by rw [← eh1]; exact r19
  have L1' := L1
  obtain ⟨⟨L2, l2⟩, ⟨e20, hl, hh⟩, j1, j2, j3⟩ := L1
  show zPn N none d mX12_image (0, [(0, .inr (.inr (some 196)))], [], h) _
  refine pa_aload_n (pc' := 1) dX12_image_0 rfl rfl ?_
  refine pa_callv (pc' := 4) (vs := []) (rest := []) dX12_image_1 ml_12_167 (by decide) rfl rfl rfl (fun d' _ => (m_good s196)) (fun v g hq => ?_)
  obtain ⟨ev, eh⟩ := hq
  subst ev
  show zPn N none d mX12_image (4, _, [], g) _
  rw [eh1] at eh
  subst eh
  rcases hA.pos with ⟨z0, e14'⟩ | ⟨z0, e14'⟩
  · have e14 := e14.trans e14'
    refine pa_aload_n (pc' := 5) dX12_image_4 rfl rfl ?_
    refine pa_getI (pc' := 8) (n := 39) (v := nI 0) dX12_image_5 fl_12_180 z196 (by decide) e14 rfl ?_
    refine pa_if_f (pc' := 11) dX12_image_8 (by decide) (by decide) rfl ?_
    refine pa_aload_n (pc' := 12) dX12_image_11 rfl rfl ?_
    refine pa_iconst (v := nI 1) (pc' := 13) dX12_image_12 (by decide) rfl ?_
    refine pa_callv (pc' := 16) (vs := [.inl (nI 1)]) (rest := []) dX12_image_13 ml_12_170 (by decide) rfl rfl rfl (fun d' _ => (m_no z196)) (fun v g3 hq => ?_)
    obtain ⟨ev, eh⟩ := hq
    subst ev
    show zPn N none d mX12_image (16, _, [.inl ((-1))], g3) _
    subst eh
    refine pa_iret dX12_image_16 rfl rfl ?_
    exact ⟨F1.tr mwF.t, .inl ⟨z0, rfl, by rw [zsI_at, if_pos ⟨rfl, rfl⟩]; rfl, L1'.ch b3 b4 (fun b k w1 w2 w3 => by rw [zsI_at, if_neg (by omega)])⟩⟩
  · have e14 := e14.trans e14'
    refine pa_aload_n (pc' := 5) dX12_image_4 rfl rfl ?_
    refine pa_getI (pc' := 8) (n := 39) (v := nI 1) dX12_image_5 fl_12_180 z196 (by decide) e14 rfl ?_
    refine pa_if_t (pc' := 17) dX12_image_8 (by decide) (by decide) ?_
    refine pa_aload_n (pc' := 18) dX12_image_17 rfl rfl ?_
    refine pa_getI (pc' := 21) (n := 39) (v := nI J.length) dX12_image_18 fl_12_186 z196 (by decide) j1 rfl ?_
    refine pa_iconst (v := nI 3) (pc' := 22) dX12_image_21 (by decide) rfl ?_
    by_cases z1 : J.length = 3
    · refine pa_icmp_f (pc' := 25) dX12_image_22 (decide_eq_false (not_not_intro (by rw [z1]))) (by decide) rfl ?_
      refine pa_aload_n (pc' := 26) dX12_image_25 rfl rfl ?_
      refine pa_iconst (v := nI 3) (pc' := 27) dX12_image_26 (by decide) rfl ?_
      refine pa_callv (pc' := 30) (vs := [.inl (nI 3)]) (rest := []) dX12_image_27 ml_12_170 (by decide) rfl rfl rfl (fun d' _ => (m_no z196)) (fun v g3 hq => ?_)
      obtain ⟨ev, eh⟩ := hq
      subst ev
      show zPn N none d mX12_image (30, _, [.inl ((-1))], g3) _
      subst eh
      refine pa_iret dX12_image_30 rfl rfl ?_
      exact ⟨F1.tr mwF.t, .inr (.inl ⟨z0, z1, rfl, by rw [zsI_at, if_pos ⟨rfl, rfl⟩]; rfl, L1'.ch b3 b4 (fun b k w1 w2 w3 => by rw [zsI_at, if_neg (by omega)])⟩)⟩
    · refine pa_icmp_t (pc' := 31) dX12_image_22 (decide_eq_true (fun q => z1 (by have := congrArg Int32.toInt q; rw [nI_toInt (by omega), nI_toInt (by omega)] at this; omega))) (by decide) ?_
      refine pa_aload_n (pc' := 32) dX12_image_31 rfl rfl ?_
      refine pa_getR (pc' := 35) (n := 39) (r := 201) dX12_image_32 fl_12_26 z196 (by decide) q17 rfl ?_
      refine pa_iconst (v := nI 0) (pc' := 36) dX12_image_35 (by decide) rfl ?_
      refine pa_aload_n (pc' := 37) dX12_image_36 rfl rfl ?_
      refine pa_getR (pc' := 40) (n := 39) (r := 203) dX12_image_37 fl_12_32 z196 (by decide) q19 rfl ?_
      refine pa_bipush (v := nI 76) (pc' := 42) dX12_image_40 (by decide) rfl ?_
      refine pa_aload_n (pc' := 43) dX12_image_42 rfl rfl ?_
      refine pa_getI (pc' := 46) (n := 39) (v := nI J.length) dX12_image_43 fl_12_186 z196 (by decide) j1 rfl ?_
      refine pa_imul (pc' := 47) (v := nI (76 * J.length)) dX12_image_46 (nI_mul _ _) rfl ?_
      refine pa_bipush (v := nI 76) (pc' := 49) dX12_image_47 (by decide) rfl ?_
      refine pa_calls (pc' := 52) (kd := 1) (vs := [.inr (.inr (some 201)), .inl (nI 0), .inr (.inr (some 203)), .inl (nI (76 * J.length)), .inl (nI 76)]) (rest := []) dX12_image_49 ml_12_176 (.inl rfl) rfl rfl rfl (fun d' _ => (M_copy z201 z203 (by decide) (by omega) (by omega) (by decide) (by decide))) (fun v g3 hq => ?_)
      obtain ⟨ev, eh⟩ := hq
      subst ev
      show zPn N none d mX12_image (52, _, [], g3) _
      rw [eh]
      have f21 : (cpyH g 201 0 203 (76 * J.length) 76).2.1 196 21 = nI J.length := by rw [cpyH_at, if_neg (by omega)]; exact j1
      refine pa_aload_n (pc' := 53) dX12_image_52 rfl rfl ?_
      refine pa_dup (pc' := 54) dX12_image_53 rfl rfl ?_
      refine pa_getI (pc' := 57) (n := 39) (v := nI J.length) dX12_image_54 fl_12_186 z196 (by decide) f21 rfl ?_
      refine pa_iconst (v := nI 1) (pc' := 58) dX12_image_57 (by decide) rfl ?_
      refine pa_iadd (pc' := 59) (v := nI (J.length + 1)) dX12_image_58 (nI_add _ _) rfl ?_
      refine pa_putI (pc' := 62) (n := 39) dX12_image_59 fl_12_186 z196 (Or.inl rfl) (Or.inl rfl) rfl ?_
      refine pa_aload_n (pc' := 63) dX12_image_62 rfl rfl ?_
      refine pa_getI (pc' := 66) (n := 39) (v := nI (J.length + 1)) dX12_image_63 fl_12_186 z196 (by decide) (by rw [zsI_at, if_pos ⟨rfl, rfl⟩]) rfl ?_
      refine pa_iconst (v := nI 1) (pc' := 67) dX12_image_66 (by decide) rfl ?_
      refine pa_isub (pc' := 68) (v := nI ((J.length + 1) - 1)) dX12_image_67 (nI_sub (by omega)) rfl ?_
      refine pa_iret dX12_image_68 rfl rfl ?_
      have at' : ∀ b k, (zsI (cpyH g 201 0 203 (76 * J.length) 76) 196 21 (nI (J.length + 1))).2.1 b k = if b = 196 ∧ k = 21 then nI (J.length + 1) else if b = 203 ∧ 76 * J.length ≤ k ∧ k < 76 * J.length + 76 then g.2.1 201 (0 + (k - 76 * J.length)) else g.2.1 b k := fun b k => by
        rw [zsI_at, cpyH_at]
      have out : ∀ b k, (b = 196 → k ≠ 21) → (b = 203 → k < 76 * J.length) → (zsI (cpyH g 201 0 203 (76 * J.length) 76) 196 21 (nI (J.length + 1))).2.1 b k = g.2.1 b k := fun b k w1 w2 => by
        rw [at', if_neg (by omega), if_neg (by omega)]
      refine ⟨F1.tr ⟨rfl, rfl, fun k w1 w2 w3 w4 => out _ _ (by omega) (by omega), fun b k w1 w2 w3 w4 => out _ _ (by omega) (by omega)⟩, .inr (.inr ⟨z0, by omega, by rw [Nat.add_sub_cancel], (out _ _ (by omega) (by omega)).trans t11, ⟨nMo.cp b3 b4 l2 (fun k hk => out _ _ (by omega) (by omega)) L2, l2⟩, ⟨(out _ _ (by omega) (by omega)).trans e20, hl, fun k t hk => ⟨nMo.cp b3 b4 (hh k t hk).2 (fun k hk => out _ _ (by omega) (by omega)) (hh k t hk).1, (hh k t hk).2⟩⟩, ?_, ?_, fun k t hk => ?_⟩)⟩
      · rw [at', if_pos ⟨rfl, rfl⟩, List.length_append, List.length_singleton]
      · rw [List.length_append, List.length_singleton]
        omega
      · rcases getE_app hk with ⟨w, hk⟩ | ⟨w, e2⟩
        · exact ⟨nMo.cp b3 b4 (j3 k t hk).2 (fun k hk => out _ _ (by omega) (by omega)) (j3 k t hk).1, (j3 k t hk).2⟩
        · rw [w, e2]
          refine ⟨nMo.cp b3 b4 l2 (fun k hk => ?_) L2, l2⟩
          rw [at', if_neg (by omega), if_pos ⟨rfl, by omega, by omega⟩]
          exact congrArg (g.2.1 201) (by omega)
theorem nI_prd4 : ∀ x : Nat, x < 4 → (nI x - 1).toInt = (x : Int) - 1 := by decide
theorem M_back {i : Int32} (S : mwS h) (b3 : cH A ≤ 5) (b4 : cB A ≤ 8) (L : lNM A s H J h) : zPa d mX12_back [.inr (.inr (some 196)), .inl i] h (fun v g => mwF h g ∧ (((i.toInt < 0 ∨ (J.length : Int) ≤ i.toInt) ∧ v = some (.inl 0) ∧ g.2.1 196 11 = 1 ∧ lNM A s H J g) ∨ ∃ t, 0 ≤ i.toInt ∧ J[i.toInt.toNat]? = some t ∧ v = some (.inl 1) ∧ g.2.1 196 11 = 0 ∧ lNM A t [] J g)) := by
  intro N
  have s196 : zsh h 196 = some (12, 39) := zsh_by S.1 (by decide +kernel)
  have s201 : zsh h 201 = some (14, 76) := zsh_by S.1 (by decide +kernel)
  have s203 : zsh h 203 = some (14, 228) := zsh_by S.1 (by decide +kernel)
  have r17 := S.2.1
  have r19 := S.2.2.2
  generalize eh1 : zsI (zsI h 196 0 0) 196 11 0 = h1
  have F1 : mwF h h1 := by rw [← eh1]; exact mwF.gd
  have t11 : h1.2.1 196 11 = 0 := by rw [← eh1, zsI_at, if_pos ⟨rfl, rfl⟩]
  have L1 : lNM A s H J h1 := L.ch b3 b4 (fun b k w1 w2 w3 => by rw [← eh1, zsI_at, zsI_at, if_neg (by omega), if_neg (by omega)])
  have z196 : zsh h1 196 = some (12, 39) := by rw [← eh1]; exact s196
  have z201 : zsh h1 201 = some (14, 76) := by rw [← eh1]; exact s201
  have z203 : zsh h1 203 = some (14, 228) := by rw [← eh1]; exact s203
  have q17 : h1.2.2.2.1 196 17 = some 201 := by rw [← eh1]; exact r17
  have q19 : h1.2.2.2.1 196 19 = some 203 := by rw [← eh1]; exact r19
  have L1' := L1
  obtain ⟨⟨L2, l2⟩, ⟨e20, hl, hh⟩, j1, j2, j3⟩ := L1
  show zPn N none d mX12_back (0, [(0, .inr (.inr (some 196))), (1, .inl i)], [], h) _
  refine pa_aload_n (pc' := 1) dX12_back_0 rfl rfl ?_
  refine pa_callv (pc' := 4) (vs := []) (rest := []) dX12_back_1 ml_12_167 (by decide) rfl rfl rfl (fun d' _ => (m_good s196)) (fun v g hq => ?_)
  obtain ⟨ev, eh⟩ := hq
  subst ev
  show zPn N none d mX12_back (4, _, [], g) _
  rw [eh1] at eh
  subst eh
  refine pa_iload_n (pc' := 5) dX12_back_4 rfl rfl ?_
  refine pa_iconst (v := 0) (pc' := 6) dX12_back_5 (by decide) rfl ?_
  refine pa_aload_n (pc' := 7) dX12_back_6 rfl rfl ?_
  refine pa_getI (pc' := 10) (n := 39) (v := nI J.length) dX12_back_7 fl_12_186 z196 (by decide) j1 rfl ?_
  refine pa_iconst (v := 1) (pc' := 11) dX12_back_10 (by decide) rfl ?_
  refine pa_isub (pc' := 12) dX12_back_11 rfl rfl ?_
  refine pa_calls (pc' := 15) (kd := 1) (vs := [.inl i, .inl 0, .inl (nI J.length - 1)]) (rest := []) dX12_back_12 ml_12_149 (.inl rfl) rfl rfl rfl (fun d' _ => in_ex2) (fun v g3 hq => ?_)
  obtain ⟨eh, hq⟩ := hq
  rw [eh]
  have pr := nI_prd4 J.length (by omega)
  rcases hq with ⟨ev, w1, w2⟩ | ⟨ev, w⟩
  · subst ev
    have w1 := Int32.le_iff_toInt_le.mp w1
    have w2 := Int32.le_iff_toInt_le.mp w2
    rw [pr] at w2
    rw [show (0 : Int32).toInt = 0 by decide] at w1
    obtain ⟨n, hn⟩ : ∃ n : Nat, i = nI n ∧ n < J.length := ⟨i.toInt.toNat, Int32.toInt_inj.mp (by rw [nI_toInt (by omega)]; omega), by omega⟩
    obtain ⟨ei, hn⟩ := hn
    subst ei
    obtain ⟨t, ht⟩ : ∃ t, J[n]? = some t := ⟨_, List.getElem?_eq_getElem hn⟩
    obtain ⟨x1, x2⟩ := j3 n t ht
    have en : (nI n).toInt.toNat = n := by rw [nI_toInt (by omega)]; rfl
    refine pa_if_t (pc' := 24) dX12_back_15 (by decide) (by decide) ?_
    refine pa_aload_n (pc' := 25) dX12_back_24 rfl rfl ?_
    refine pa_getR (pc' := 28) (n := 39) (r := 203) dX12_back_25 fl_12_32 z196 (by decide) q19 rfl ?_
    refine pa_bipush (v := nI 76) (pc' := 30) dX12_back_28 (by decide) rfl ?_
    refine pa_iload_n (pc' := 31) dX12_back_30 rfl rfl ?_
    refine pa_imul (pc' := 32) (v := nI (76 * n)) dX12_back_31 (nI_mul _ _) rfl ?_
    refine pa_aload_n (pc' := 33) dX12_back_32 rfl rfl ?_
    refine pa_getR (pc' := 36) (n := 39) (r := 201) dX12_back_33 fl_12_26 z196 (by decide) q17 rfl ?_
    refine pa_iconst (v := nI 0) (pc' := 37) dX12_back_36 (by decide) rfl ?_
    refine pa_bipush (v := nI 76) (pc' := 39) dX12_back_37 (by decide) rfl ?_
    refine pa_calls (pc' := 42) (kd := 1) (vs := [.inr (.inr (some 203)), .inl (nI (76 * n)), .inr (.inr (some 201)), .inl (nI 0), .inl (nI 76)]) (rest := []) dX12_back_39 ml_12_176 (.inl rfl) rfl rfl rfl (fun d' _ => (M_copy z203 z201 (by decide) (by omega) (by omega) (by decide) (by decide))) (fun v g3 hq => ?_)
    obtain ⟨ev, eh⟩ := hq
    subst ev
    show zPn N none d mX12_back (42, _, [], g3) _
    rw [eh]
    refine pa_aload_n (pc' := 43) dX12_back_42 rfl rfl ?_
    refine pa_iconst (v := nI 0) (pc' := 44) dX12_back_43 (by decide) rfl ?_
    refine pa_putI (pc' := 47) (n := 39) dX12_back_44 fl_12_183 z196 (Or.inl rfl) (Or.inl rfl) rfl ?_
    refine pa_iconst (v := nI 1) (pc' := 48) dX12_back_47 (by decide) rfl ?_
    refine pa_iret dX12_back_48 rfl rfl ?_
    have at' : ∀ b k, (zsI (cpyH g 203 (76 * n) 201 0 76) 196 20 (nI 0)).2.1 b k = if b = 196 ∧ k = 20 then nI 0 else if b = 201 ∧ 0 ≤ k ∧ k < 0 + 76 then g.2.1 203 (76 * n + (k - 0)) else g.2.1 b k := fun b k => by
      rw [zsI_at, cpyH_at]
    have out : ∀ b k, (b = 196 → k ≠ 20) → b ≠ 201 → (zsI (cpyH g 203 (76 * n) 201 0 76) 196 20 (nI 0)).2.1 b k = g.2.1 b k := fun b k w1 w2 => by
      rw [at', if_neg (by omega), if_neg (by omega)]
    refine ⟨F1.tr ⟨rfl, rfl, fun k w1 w2 w3 w4 => out _ _ (by omega) (by omega), fun b k w1 w2 w3 w4 => out _ _ (by omega) (by omega)⟩, .inr ⟨t, w1, by rw [en]; exact ht, rfl, (out _ _ (by omega) (by omega)).trans t11, ⟨nMo.cp b3 b4 x2 (fun k hk => ?_) x1, x2⟩, ⟨?_, Nat.zero_le _, fun k t hk => ?_⟩, (out _ _ (by omega) (by omega)).trans j1, j2, fun k t hk => ⟨nMo.cp b3 b4 (j3 k t hk).2 (fun k hk => out _ _ (by omega) (by omega)) (j3 k t hk).1, (j3 k t hk).2⟩⟩⟩
    · rw [at', if_neg (by omega), if_pos ⟨rfl, by omega, by omega⟩]
      exact congrArg (g.2.1 203) (by omega)
    · rw [at', if_pos ⟨rfl, rfl⟩]
      rfl
    · cases hk
  · subst ev
    refine pa_if_f (pc' := 18) dX12_back_15 (by decide) (by decide) rfl ?_
    refine pa_aload_n (pc' := 19) dX12_back_18 rfl rfl ?_
    refine pa_iconst (v := nI 1) (pc' := 20) dX12_back_19 (by decide) rfl ?_
    refine pa_callv (pc' := 23) (vs := [.inl (nI 1)]) (rest := []) dX12_back_20 ml_12_427 (by decide) rfl rfl rfl (fun d' _ => (m_isN z196)) (fun v g3 hq => ?_)
    obtain ⟨ev, eh⟩ := hq
    subst ev
    show zPn N none d mX12_back (23, _, [.inl 0], g3) _
    subst eh
    refine pa_iret dX12_back_23 rfl rfl ?_
    refine ⟨F1.tr mwF.t, .inl ⟨?_, rfl, by rw [zsI_at, if_pos ⟨rfl, rfl⟩]; rfl, L1'.ch b3 b4 (fun b k w1 w2 w3 => by rw [zsI_at, if_neg (by omega)])⟩⟩
    rw [Int32.le_iff_toInt_le, Int32.le_iff_toInt_le, pr, show (0 : Int32).toInt = 0 by decide] at w
    omega
end IMG
/-! the reference: a state is kept for undoing (note1) -/
section NT1
variable {d N q p b k u : Nat} {h g : zH} {A : pA} {s : nS} {H J : List nS}
theorem n1_shift (S : mwS h) {Q : Option zV → zH → Prop} (nx : ∀ (N : Nat) (ls : zL), zget ls 0 = some (.inr (.inr (some 196))) → zPn N none d mX12_note1 (39, ls, [], shfH h 836) Q) : ∀ (N k : Nat) (ls : zL), k ≤ 836 → zget ls 0 = some (.inr (.inr (some 196))) → zget ls 1 = some (.inl (nI k)) → zPn N none d mX12_note1 (11, ls, [], shfH h k) Q := by
  have s196 : zsh h 196 = some (12, 39) := zsh_by S.1 (by decide +kernel)
  have s202 : zsh h 202 = some (14, 912) := zsh_by S.1 (by decide +kernel)
  have r18 := S.2.2.1
  intro N
  induction N with
  | zero => intros; exact zPn.zero
  | succ N ih =>
    intro k ls hk hl0 hl1
    have fv : (shfH h k).2.1 202 (k + 76) = h.2.1 202 (k + 76) := by rw [shfH_at, if_neg (by omega)]
    refine pa_iload_n (pc' := 12) dX12_note1_11 hl1 rfl ?_
    refine pa_sipush (v := nI 836) (pc' := 15) dX12_note1_12 (by decide) rfl ?_
    refine pa_icmp (pc' := 39) (pc2 := 18) dX12_note1_15 (by decide) rfl (fun z => ?_) (fun z => ?_)
    · have z := zi_nlt (zk_ge_lt z)
      rw [nI_toInt (by omega), nI_toInt (by omega)] at z
      have e : k = 836 := by omega
      subst e
      exact nx _ ls hl0
    · have z := zi_lt (zk_ge_lt z)
      rw [nI_toInt (by omega), nI_toInt (by omega)] at z
      refine pa_aload_n (pc' := 19) dX12_note1_18 hl0 rfl ?_
      refine pa_getR (pc' := 22) (n := 39) (r := 202) dX12_note1_19 fl_12_29 s196 (by decide) r18 rfl ?_
      refine pa_iload_n (pc' := 23) dX12_note1_22 hl1 rfl ?_
      refine pa_aload_n (pc' := 24) dX12_note1_23 hl0 rfl ?_
      refine pa_getR (pc' := 27) (n := 39) (r := 202) dX12_note1_24 fl_12_29 s196 (by decide) r18 rfl ?_
      refine pa_iload_n (pc' := 28) dX12_note1_27 hl1 rfl ?_
      refine pa_bipush (v := nI 76) (pc' := 30) dX12_note1_28 (by decide) rfl ?_
      refine pa_iadd (pc' := 31) (v := nI (k + 76)) dX12_note1_30 (nI_add _ _) rfl ?_
      refine pa_iald (pc' := 32) dX12_note1_31 s202 rfl (fun _ => ?_)
      rw [nI_clamp (by omega), fv]
      refine pa_iast (pc' := 33) dX12_note1_32 s202 rfl (fun _ => ?_)
      rw [nI_clamp (by omega)]
      rw [shfH_s]
      refine pa_iinc (pc' := 36) (v := nI (k + 1)) dX12_note1_33 hl1 (by decide) (nI_add k 1) rfl rfl ?_
      refine pa_gotos (pc' := 11) dX12_note1_36 (by decide) ?_
      exact ih (k + 1) _ (by omega) (zget_s1 hl0 (by decide) (by simp [zcat])) zget_s1e
theorem n1_last (S : mwS h) (hu : h.2.1 196 20 = nI u) (hu2 : u ≤ 11) {Q : Option zV → zH → Prop} {ls : zL} (hl0 : zget ls 0 = some (.inr (.inr (some 196)))) (hQ : Q none (zsI (cpyH h 201 0 202 (76 * u) 76) 196 20 (nI (u + 1)))) (N : Nat) : zPn N none d mX12_note1 (49, ls, [], h) Q := by
  have s196 : zsh h 196 = some (12, 39) := zsh_by S.1 (by decide +kernel)
  have s201 : zsh h 201 = some (14, 76) := zsh_by S.1 (by decide +kernel)
  have s202 : zsh h 202 = some (14, 912) := zsh_by S.1 (by decide +kernel)
  have r17 := S.2.1
  have r18 := S.2.2.1
  have f20 : (cpyH h 201 0 202 (76 * u) 76).2.1 196 20 = nI u := by rw [cpyH_at, if_neg (by omega)]; exact hu
  refine pa_aload_n (pc' := 50) dX12_note1_49 hl0 rfl ?_
  refine pa_getR (pc' := 53) (n := 39) (r := 201) dX12_note1_50 fl_12_26 s196 (by decide) r17 rfl ?_
  refine pa_iconst (v := nI 0) (pc' := 54) dX12_note1_53 (by decide) rfl ?_
  refine pa_aload_n (pc' := 55) dX12_note1_54 hl0 rfl ?_
  refine pa_getR (pc' := 58) (n := 39) (r := 202) dX12_note1_55 fl_12_29 s196 (by decide) r18 rfl ?_
  refine pa_bipush (v := nI 76) (pc' := 60) dX12_note1_58 (by decide) rfl ?_
  refine pa_aload_n (pc' := 61) dX12_note1_60 hl0 rfl ?_
  refine pa_getI (pc' := 64) (n := 39) (v := nI u) dX12_note1_61 fl_12_183 s196 (by decide) hu rfl ?_
  refine pa_imul (pc' := 65) (v := nI (76 * u)) dX12_note1_64 (nI_mul _ _) rfl ?_
  refine pa_bipush (v := nI 76) (pc' := 67) dX12_note1_65 (by decide) rfl ?_
  refine pa_calls (pc' := 70) (kd := 1) (vs := [.inr (.inr (some 201)), .inl (nI 0), .inr (.inr (some 202)), .inl (nI (76 * u)), .inl (nI 76)]) (rest := []) dX12_note1_67 ml_12_176 (.inl rfl) rfl rfl rfl (fun d' _ => (M_copy s201 s202 (by decide) (by omega) (by omega) (by decide) (by decide))) (fun v g3 hq => ?_)
  obtain ⟨ev, eh⟩ := hq
  subst ev
  show zPn N none d mX12_note1 (70, _, [], g3) _
  rw [eh]
  refine pa_aload_n (pc' := 71) dX12_note1_70 hl0 rfl ?_
  refine pa_dup (pc' := 72) dX12_note1_71 rfl rfl ?_
  refine pa_getI (pc' := 75) (n := 39) (v := nI u) dX12_note1_72 fl_12_183 s196 (by decide) f20 rfl ?_
  refine pa_iconst (v := nI 1) (pc' := 76) dX12_note1_75 (by decide) rfl ?_
  refine pa_iadd (pc' := 77) (v := nI (u + 1)) dX12_note1_76 (nI_add _ _) rfl ?_
  refine pa_putI (pc' := 80) (n := 39) dX12_note1_77 fl_12_183 s196 (Or.inl rfl) (Or.inl rfl) rfl ?_
  refine pa_vret dX12_note1_80 rfl ?_
  exact hQ
/-- what the push leaves -/
theorem n1_fin (b3 : cH A ≤ 5) (b4 : cB A ≤ 8) (L : lNM A s H J h) {h1 : zH} {T : List nS} (hT : (s :: H).take 12 = s :: T) (hu : u = T.length) (e1 : h1.1 = h.1) (e2 : h1.2.2 = h.2.2) (e3 : ∀ b k, b ≠ 202 → (b = 196 → k ≠ 20) → h1.2.1 b k = h.2.1 b k) (e4 : ∀ k t, T[k]? = some t → nMo A t 202 (76 * (T.length - 1 - k)) h1 ∧ lenO A t) : mwF h (zsI (cpyH h1 201 0 202 (76 * u) 76) 196 20 (nI (u + 1))) ∧ lNM A s ((s :: H).take 12) J (zsI (cpyH h1 201 0 202 (76 * u) 76) 196 20 (nI (u + 1))) ∧ ∀ b k, b ≠ 202 → (b = 196 → k ≠ 20) → (zsI (cpyH h1 201 0 202 (76 * u) 76) 196 20 (nI (u + 1))).2.1 b k = h.2.1 b k := by
  obtain ⟨⟨L1, l1⟩, -, j1, j2, j3⟩ := L
  have hl : T.length + 1 ≤ 12 := by
    have e := congrArg List.length hT
    rw [List.length_take, List.length_cons, List.length_cons] at e
    have := Nat.min_le_left 12 (H.length + 1)
    omega
  have at' : ∀ b k, (zsI (cpyH h1 201 0 202 (76 * u) 76) 196 20 (nI (u + 1))).2.1 b k = if b = 196 ∧ k = 20 then nI (u + 1) else if b = 202 ∧ 76 * u ≤ k ∧ k < 76 * u + 76 then h1.2.1 201 (0 + (k - 76 * u)) else h1.2.1 b k := fun b k => by
    rw [zsI_at, cpyH_at]
  have out : ∀ b k, b ≠ 202 → (b = 196 → k ≠ 20) → (zsI (cpyH h1 201 0 202 (76 * u) 76) 196 20 (nI (u + 1))).2.1 b k = h.2.1 b k := fun b k w1 w2 => by
    rw [at', if_neg (by omega), if_neg (by omega), e3 b k w1 w2]
  refine ⟨⟨e1, e2, fun k w1 w2 w3 w4 => out _ _ (by decide) (by omega), fun b k w1 w2 w3 w4 => out _ _ (by omega) (by omega)⟩, ⟨⟨nMo.cp b3 b4 l1 (fun k hk => out _ _ (by decide) (by omega)) L1, l1⟩, ⟨?_, ?_, fun k t hk => ?_⟩, (out _ _ (by decide) (by omega)).trans j1, j2, fun k t hk => ⟨nMo.cp b3 b4 (j3 k t hk).2 (fun k hk => out _ _ (by decide) (by omega)) (j3 k t hk).1, (j3 k t hk).2⟩⟩, out⟩
  · rw [at', if_pos ⟨rfl, rfl⟩, hT, List.length_cons, hu]
  · rw [hT, List.length_cons]
    exact hl
  · rw [hT] at hk ⊢
    rw [List.length_cons]
    cases k with
    | zero =>
      cases hk
      refine ⟨nMo.cp b3 b4 l1 (fun k hk => ?_) L1, l1⟩
      rw [at', if_neg (by omega), if_pos ⟨rfl, by omega, by omega⟩, e3 _ _ (by decide) (by omega)]
      exact congrArg (h.2.1 201) (by omega)
    | succ k =>
      have hk : T[k]? = some t := hk
      have kl := (List.getElem?_eq_some_iff.mp hk).1
      obtain ⟨x1, x2⟩ := e4 k t hk
      rw [show T.length + 1 - 1 - (k + 1) = T.length - 1 - k by omega]
      exact ⟨nMo.cp b3 b4 x2 (fun j hj => by rw [at', if_neg (by omega), if_neg (by omega)]) x1, x2⟩
theorem M_note1 (S : mwS h) (b3 : cH A ≤ 5) (b4 : cB A ≤ 8) (L : lNM A s H J h) : zPa d mX12_note1 [.inr (.inr (some 196))] h (fun v g => v = none ∧ mwF h g ∧ lNM A s ((s :: H).take 12) J g ∧ ∀ b k, b ≠ 202 → (b = 196 → k ≠ 20) → g.2.1 b k = h.2.1 b k) := by
  intro N
  have s196 : zsh h 196 = some (12, 39) := zsh_by S.1 (by decide +kernel)
  obtain ⟨e20, hl, hh⟩ := L.2.1
  show zPn N none d mX12_note1 (0, [(0, .inr (.inr (some 196)))], [], h) _
  refine pa_aload_n (pc' := 1) dX12_note1_0 rfl rfl ?_
  refine pa_getI (pc' := 4) (n := 39) (v := nI H.length) dX12_note1_1 fl_12_183 s196 (by decide) e20 rfl ?_
  refine pa_bipush (v := nI 12) (pc' := 6) dX12_note1_4 (by decide) rfl ?_
  by_cases z : H.length = 12
  · refine pa_icmp_f (pc' := 9) dX12_note1_6 (decide_eq_false (not_not_intro (by rw [z]))) (by decide) rfl ?_
    refine pa_iconst (v := nI 0) (pc' := 10) dX12_note1_9 (by decide) rfl ?_
    refine pa_istore_n (pc' := 11) dX12_note1_10 (by decide) rfl rfl ?_
    refine Eq.mp (congrArg (fun x => zPn N none d mX12_note1 (11, _, [], x) _) (shfH_0 (h := h))) (n1_shift S (fun N ls hl0 => ?_) N 0 _ (by omega) (by rfl) (by rfl))
    have f20 : (shfH h 836).2.1 196 20 = nI 12 := by rw [shfH_at, if_neg (by omega), e20, z]
    refine pa_aload_n (pc' := 40) dX12_note1_39 hl0 rfl ?_
    refine pa_dup (pc' := 41) dX12_note1_40 rfl rfl ?_
    refine pa_getI (pc' := 44) (n := 39) (v := nI 12) dX12_note1_41 fl_12_183 s196 (by decide) f20 rfl ?_
    refine pa_iconst (v := nI 1) (pc' := 45) dX12_note1_44 (by decide) rfl ?_
    refine pa_isub (pc' := 46) (v := nI (12 - 1)) dX12_note1_45 (nI_sub (by omega)) rfl ?_
    refine pa_putI (pc' := 49) (n := 39) dX12_note1_46 fl_12_183 s196 (Or.inl rfl) (Or.inl rfl) rfl ?_
    have hT : (s :: H).take 12 = s :: H.take 11 := rfl
    have lT : (H.take 11).length = 11 := by rw [List.length_take, z]; rfl
    have F := n1_fin (h1 := zsI (shfH h 836) 196 20 (nI (12 - 1))) (u := 11) b3 b4 L hT lT.symm rfl rfl (fun b k w1 w2 => by rw [zsI_at, if_neg (by omega), shfH_at, if_neg (by omega)]) (fun k t hk => by
      rw [List.getElem?_take] at hk
      by_cases w : k < 11
      · rw [if_pos w] at hk
        obtain ⟨x1, x2⟩ := hh k t hk
        rw [z] at x1
        rw [lT]
        refine ⟨nMo.cp b3 b4 x2 (fun j hj => ?_) x1, x2⟩
        rw [zsI_at, if_neg (by omega), shfH_at, if_pos ⟨rfl, by omega⟩]
        exact congrArg (h.2.1 202) (by omega)
      · rw [if_neg w] at hk
        cases hk)
    exact n1_last (h := zsI (shfH h 836) 196 20 (nI (12 - 1))) (u := 11) S (by rw [zsI_at, if_pos ⟨rfl, rfl⟩]) (by decide) hl0 ⟨rfl, F⟩ N
  · refine pa_icmp_t (pc' := 49) dX12_note1_6 (decide_eq_true (fun q => z (by have := congrArg Int32.toInt q; rw [nI_toInt (by omega), nI_toInt (by omega)] at this; omega))) (by decide) ?_
    have hT : (s :: H).take 12 = s :: H := List.take_of_length_le (by rw [List.length_cons]; omega)
    have F := n1_fin (h1 := h) (u := H.length) b3 b4 L hT rfl rfl rfl (fun b k w1 w2 => rfl) hh
    exact n1_last S e20 (by omega) rfl ⟨rfl, F⟩ N
end NT1
/-! is there such a whale, box, way: class and reference -/
section ISX
variable {d N c : Nat} {h g : zH} {A : pA} {x : Int32}
theorem N_isWhale (hA : lPA A c h) (h1 : h.1 = hh_487.1) : zPa d mX11_isWhale [.inr (.inr (some 0)), .inl x] h (fun v h' => v = some (.inl (if 0 ≤ x.toInt ∧ x.toInt < (cH A : Int) then 1 else 0)) ∧ h' = h) := by
  intro N
  have s0 : zsh h 0 = some (11, 16) := zsh_by h1 (by decide +kernel)
  have sc := hA.sc h1
  have r3 := hA.2.2.1
  have k0 : (0 : Int32).toInt = 0 := by decide
  obtain ⟨b1, b2, b3, b4, b5⟩ := hA.1.2.2.1
  obtain ⟨-, -, e5, e6, e7, -⟩ := hA.2.2.2.1
  have e19 : ¬ (0 ≤ x.toInt ∧ x.toInt < (cH A : Int)) → ∀ N, zPn N none d mX11_isWhale (19, [(0, .inr (.inr (some 0))), (1, .inl x)], [], h) (fun v h' => v = some (.inl (if 0 ≤ x.toInt ∧ x.toInt < (cH A : Int) then 1 else 0)) ∧ h' = h) := fun z N => by
    refine pa_iconst (v := 0) (pc' := 20) dX11_isWhale_19 (by decide) rfl ?_
    refine pa_iret dX11_isWhale_20 rfl rfl ?_
    exact ⟨by rw [if_neg z], rfl⟩
  show zPn N none d mX11_isWhale (0, [(0, .inr (.inr (some 0))), (1, .inl x)], [], h) _
  refine pa_iload_n (pc' := 1) dX11_isWhale_0 rfl rfl ?_
  refine pa_if (pc' := 19) (pc2 := 4) dX11_isWhale_1 (by decide) rfl (fun z => ?_) (fun z => ?_)
  · have z := zi_lt z
    rw [k0] at z
    exact e19 (by omega) _
  · have z := zi_nlt z
    rw [k0] at z
    refine pa_iload_n (pc' := 5) dX11_isWhale_4 rfl rfl ?_
    refine pa_aload_n (pc' := 6) dX11_isWhale_5 rfl rfl ?_
    refine pa_getR (pc' := 9) (n := 16) (r := c) dX11_isWhale_6 fl_11_23 s0 (by decide) r3 rfl ?_
    refine pa_getI (pc' := 12) (n := 15) (v := nI (cH A)) dX11_isWhale_9 fl_11_382 sc (by decide) e6 rfl ?_
    refine pa_icmp (pc' := 19) (pc2 := 15) dX11_isWhale_12 (by decide) rfl (fun y => ?_) (fun y => ?_)
    · have y := zi_nlt (zk_ge_lt y)
      rw [nI_toInt (by omega)] at y
      exact e19 (by omega) _
    · have y := zi_lt (zk_ge_lt y)
      rw [nI_toInt (by omega)] at y
      refine pa_iconst (v := 1) (pc' := 16) dX11_isWhale_15 (by decide) rfl ?_
      refine pa_goto (pc' := 20) dX11_isWhale_16 (by decide) ?_
      refine pa_iret dX11_isWhale_20 rfl rfl ?_
      exact ⟨by rw [if_pos ⟨by omega, by omega⟩], rfl⟩
theorem M_isWhale (hA : lPA A c h) (r15 : h.2.2.2.1 196 15 = some 199) (h1 : h.1 = hh_487.1) : zPa d mX12_isWhale [.inr (.inr (some 196)), .inl x] h (fun v h' => v = some (.inl (if 0 ≤ x.toInt ∧ x.toInt < (cH A : Int) then 1 else 0)) ∧ h' = h) := by
  intro N
  have s196 : zsh h 196 = some (12, 39) := zsh_by h1 (by decide +kernel)
  have s199 : zsh h 199 = some (14, 363) := zsh_by h1 (by decide +kernel)
  obtain ⟨b1, b2, b3, b4, b5⟩ := hA.1.2.2.1
  have e28 : ¬ (0 ≤ x.toInt ∧ x.toInt < (cH A : Int)) → ∀ N, zPn N none d mX12_isWhale (28, [(0, .inr (.inr (some 196))), (1, .inl x)], [], h) (fun v h' => v = some (.inl (if 0 ≤ x.toInt ∧ x.toInt < (cH A : Int) then 1 else 0)) ∧ h' = h) := fun z N => by
    refine pa_iconst (v := 0) (pc' := 29) dX12_isWhale_28 (by decide) rfl ?_
    refine pa_iret dX12_isWhale_29 rfl rfl ?_
    exact ⟨by rw [if_neg z], rfl⟩
  show zPn N none d mX12_isWhale (0, [(0, .inr (.inr (some 196))), (1, .inl x)], [], h) _
  rcases hA.2.2.2.2 with ⟨a, b⟩ | ⟨a, b, K⟩
  · refine pa_aload_n (pc' := 1) dX12_isWhale_0 rfl rfl ?_
    refine pa_getI (pc' := 4) (n := 39) (v := 0) dX12_isWhale_1 fl_12_180 s196 (by decide) a rfl ?_
    refine pa_if_t (pc' := 28) dX12_isWhale_4 (by decide) (by decide) ?_
    refine e28 (fun z => ?_) _
    rw [b] at z
    have : (cH pA0 : Int) = 0 := rfl
    omega
  · have k4 : h.2.1 199 6 = nI (cH A) := K.2.2.2.2.1
    refine pa_aload_n (pc' := 1) dX12_isWhale_0 rfl rfl ?_
    refine pa_getI (pc' := 4) (n := 39) (v := 1) dX12_isWhale_1 fl_12_180 s196 (by decide) a rfl ?_
    refine pa_if_f (pc' := 7) dX12_isWhale_4 (by decide) (by decide) rfl ?_
    refine pa_iload_n (pc' := 8) dX12_isWhale_7 rfl rfl ?_
    refine pa_iconst (v := 0) (pc' := 9) dX12_isWhale_8 (by decide) rfl ?_
    refine pa_aload_n (pc' := 10) dX12_isWhale_9 rfl rfl ?_
    refine pa_getR (pc' := 13) (n := 39) (r := 199) dX12_isWhale_10 fl_12_20 s196 (by decide) r15 rfl ?_
    refine pa_bipush (v := nI 6) (pc' := 15) dX12_isWhale_13 (by decide) rfl ?_
    refine pa_iald (pc' := 16) dX12_isWhale_15 s199 rfl (fun _ => ?_)
    rw [nI_clamp (by omega), k4]
    refine pa_iconst (v := 1) (pc' := 17) dX12_isWhale_16 (by decide) rfl ?_
    refine pa_isub (pc' := 18) dX12_isWhale_17 rfl rfl ?_
    refine pa_calls (pc' := 21) (kd := 1) (vs := [.inl x, .inl 0, .inl (nI (cH A) - 1)]) (rest := []) dX12_isWhale_18 ml_12_149 (.inl rfl) rfl rfl rfl (fun d' _ => zPa.of in_ex) (fun r h2 hq => ?_)
    obtain ⟨r, er, eh, hq⟩ := hq
    subst er; subst eh
    have e : (nI (cH A) - 1).toInt = (cH A : Int) - 1 := by
      rw [Int32.toInt_sub, nI_toInt (by omega)]
      exact bmod_fit (by have : (1 : Int32).toInt = 1 := by decide
                         omega) (by have : (1 : Int32).toInt = 1 := by decide
                                    omega)
    rw [e] at hq
    show zPn N none d mX12_isWhale (21, [(0, .inr (.inr (some 196))), (1, .inl x)], [.inl r], h2) _
    rcases hq with ⟨er, y⟩ | ⟨er, y⟩
    · subst er
      refine pa_if_f (pc' := 24) dX12_isWhale_21 (by decide) (by decide) rfl ?_
      refine pa_iconst (v := 1) (pc' := 25) dX12_isWhale_24 (by decide) rfl ?_
      refine pa_goto (pc' := 29) dX12_isWhale_25 (by decide) ?_
      refine pa_iret dX12_isWhale_29 rfl rfl ?_
      exact ⟨by rw [if_pos ⟨by omega, by omega⟩], rfl⟩
    · subst er
      refine pa_if_t (pc' := 28) dX12_isWhale_21 (by decide) (by decide) ?_
      exact e28 (by omega) _
theorem N_isBox (hA : lPA A c h) (h1 : h.1 = hh_487.1) : zPa d mX11_isBox [.inr (.inr (some 0)), .inl x] h (fun v h' => v = some (.inl (if 0 ≤ x.toInt ∧ x.toInt < (cB A : Int) then 1 else 0)) ∧ h' = h) := by
  intro N
  have s0 : zsh h 0 = some (11, 16) := zsh_by h1 (by decide +kernel)
  have sc := hA.sc h1
  have r3 := hA.2.2.1
  have k0 : (0 : Int32).toInt = 0 := by decide
  obtain ⟨b1, b2, b3, b4, b5⟩ := hA.1.2.2.1
  obtain ⟨-, -, e5, e6, e7, -⟩ := hA.2.2.2.1
  have e19 : ¬ (0 ≤ x.toInt ∧ x.toInt < (cB A : Int)) → ∀ N, zPn N none d mX11_isBox (19, [(0, .inr (.inr (some 0))), (1, .inl x)], [], h) (fun v h' => v = some (.inl (if 0 ≤ x.toInt ∧ x.toInt < (cB A : Int) then 1 else 0)) ∧ h' = h) := fun z N => by
    refine pa_iconst (v := 0) (pc' := 20) dX11_isBox_19 (by decide) rfl ?_
    refine pa_iret dX11_isBox_20 rfl rfl ?_
    exact ⟨by rw [if_neg z], rfl⟩
  show zPn N none d mX11_isBox (0, [(0, .inr (.inr (some 0))), (1, .inl x)], [], h) _
  refine pa_iload_n (pc' := 1) dX11_isBox_0 rfl rfl ?_
  refine pa_if (pc' := 19) (pc2 := 4) dX11_isBox_1 (by decide) rfl (fun z => ?_) (fun z => ?_)
  · have z := zi_lt z
    rw [k0] at z
    exact e19 (by omega) _
  · have z := zi_nlt z
    rw [k0] at z
    refine pa_iload_n (pc' := 5) dX11_isBox_4 rfl rfl ?_
    refine pa_aload_n (pc' := 6) dX11_isBox_5 rfl rfl ?_
    refine pa_getR (pc' := 9) (n := 16) (r := c) dX11_isBox_6 fl_11_23 s0 (by decide) r3 rfl ?_
    refine pa_getI (pc' := 12) (n := 15) (v := nI (cB A)) dX11_isBox_9 fl_11_239 sc (by decide) e7 rfl ?_
    refine pa_icmp (pc' := 19) (pc2 := 15) dX11_isBox_12 (by decide) rfl (fun y => ?_) (fun y => ?_)
    · have y := zi_nlt (zk_ge_lt y)
      rw [nI_toInt (by omega)] at y
      exact e19 (by omega) _
    · have y := zi_lt (zk_ge_lt y)
      rw [nI_toInt (by omega)] at y
      refine pa_iconst (v := 1) (pc' := 16) dX11_isBox_15 (by decide) rfl ?_
      refine pa_goto (pc' := 20) dX11_isBox_16 (by decide) ?_
      refine pa_iret dX11_isBox_20 rfl rfl ?_
      exact ⟨by rw [if_pos ⟨by omega, by omega⟩], rfl⟩
theorem M_isBox (hA : lPA A c h) (r15 : h.2.2.2.1 196 15 = some 199) (h1 : h.1 = hh_487.1) : zPa d mX12_isBox [.inr (.inr (some 196)), .inl x] h (fun v h' => v = some (.inl (if 0 ≤ x.toInt ∧ x.toInt < (cB A : Int) then 1 else 0)) ∧ h' = h) := by
  intro N
  have s196 : zsh h 196 = some (12, 39) := zsh_by h1 (by decide +kernel)
  have s199 : zsh h 199 = some (14, 363) := zsh_by h1 (by decide +kernel)
  obtain ⟨b1, b2, b3, b4, b5⟩ := hA.1.2.2.1
  have e28 : ¬ (0 ≤ x.toInt ∧ x.toInt < (cB A : Int)) → ∀ N, zPn N none d mX12_isBox (28, [(0, .inr (.inr (some 196))), (1, .inl x)], [], h) (fun v h' => v = some (.inl (if 0 ≤ x.toInt ∧ x.toInt < (cB A : Int) then 1 else 0)) ∧ h' = h) := fun z N => by
    refine pa_iconst (v := 0) (pc' := 29) dX12_isBox_28 (by decide) rfl ?_
    refine pa_iret dX12_isBox_29 rfl rfl ?_
    exact ⟨by rw [if_neg z], rfl⟩
  show zPn N none d mX12_isBox (0, [(0, .inr (.inr (some 196))), (1, .inl x)], [], h) _
  rcases hA.2.2.2.2 with ⟨a, b⟩ | ⟨a, b, K⟩
  · refine pa_aload_n (pc' := 1) dX12_isBox_0 rfl rfl ?_
    refine pa_getI (pc' := 4) (n := 39) (v := 0) dX12_isBox_1 fl_12_180 s196 (by decide) a rfl ?_
    refine pa_if_t (pc' := 28) dX12_isBox_4 (by decide) (by decide) ?_
    refine e28 (fun z => ?_) _
    rw [b] at z
    have : (cB pA0 : Int) = 0 := rfl
    omega
  · have k4 : h.2.1 199 7 = nI (cB A) := K.2.2.2.2.2.1
    refine pa_aload_n (pc' := 1) dX12_isBox_0 rfl rfl ?_
    refine pa_getI (pc' := 4) (n := 39) (v := 1) dX12_isBox_1 fl_12_180 s196 (by decide) a rfl ?_
    refine pa_if_f (pc' := 7) dX12_isBox_4 (by decide) (by decide) rfl ?_
    refine pa_iload_n (pc' := 8) dX12_isBox_7 rfl rfl ?_
    refine pa_iconst (v := 0) (pc' := 9) dX12_isBox_8 (by decide) rfl ?_
    refine pa_aload_n (pc' := 10) dX12_isBox_9 rfl rfl ?_
    refine pa_getR (pc' := 13) (n := 39) (r := 199) dX12_isBox_10 fl_12_20 s196 (by decide) r15 rfl ?_
    refine pa_bipush (v := nI 7) (pc' := 15) dX12_isBox_13 (by decide) rfl ?_
    refine pa_iald (pc' := 16) dX12_isBox_15 s199 rfl (fun _ => ?_)
    rw [nI_clamp (by omega), k4]
    refine pa_iconst (v := 1) (pc' := 17) dX12_isBox_16 (by decide) rfl ?_
    refine pa_isub (pc' := 18) dX12_isBox_17 rfl rfl ?_
    refine pa_calls (pc' := 21) (kd := 1) (vs := [.inl x, .inl 0, .inl (nI (cB A) - 1)]) (rest := []) dX12_isBox_18 ml_12_149 (.inl rfl) rfl rfl rfl (fun d' _ => zPa.of in_ex) (fun r h2 hq => ?_)
    obtain ⟨r, er, eh, hq⟩ := hq
    subst er; subst eh
    have e : (nI (cB A) - 1).toInt = (cB A : Int) - 1 := by
      rw [Int32.toInt_sub, nI_toInt (by omega)]
      exact bmod_fit (by have : (1 : Int32).toInt = 1 := by decide
                         omega) (by have : (1 : Int32).toInt = 1 := by decide
                                    omega)
    rw [e] at hq
    show zPn N none d mX12_isBox (21, [(0, .inr (.inr (some 196))), (1, .inl x)], [.inl r], h2) _
    rcases hq with ⟨er, y⟩ | ⟨er, y⟩
    · subst er
      refine pa_if_f (pc' := 24) dX12_isBox_21 (by decide) (by decide) rfl ?_
      refine pa_iconst (v := 1) (pc' := 25) dX12_isBox_24 (by decide) rfl ?_
      refine pa_goto (pc' := 29) dX12_isBox_25 (by decide) ?_
      refine pa_iret dX12_isBox_29 rfl rfl ?_
      exact ⟨by rw [if_pos ⟨by omega, by omega⟩], rfl⟩
    · subst er
      refine pa_if_t (pc' := 28) dX12_isBox_21 (by decide) (by decide) ?_
      exact e28 (by omega) _
end ISX
/-! send: what it makes of a state -/
def sntS (s : nS) (w b dy gl : Nat) : nS := (s.1, s.2.1, (fun k => if k = w then gl else s.2.2.1 k), (fun k => if k = w then dy else s.2.2.2.1 k), (fun k => if k = b then some (dy, gl) else s.2.2.2.2.1 k), s.2.2.2.2.2)
section SNO
variable {w b : Nat} {A : pA} {s : nS} {p : Nat × Nat × Nat}
theorem nSn_snd {dy gl : Nat} (hb : s.2.2.2.2.1 b = none) : ∀ n, nSn (sntS s w b dy gl) n = nSn s n + (if b < n then 1 else 0)
  | 0 => by rw [if_neg (Nat.not_lt_zero b)]; rfl
  | n + 1 => by
    show nSn (sntS s w b dy gl) n + (match (if n = b then some (dy, gl) else s.2.2.2.2.1 n) with | some _ => 1 | none => 0) = nSn s n + (match s.2.2.2.2.1 n with | some _ => 1 | none => 0) + (if b < n + 1 then 1 else 0)
    rw [nSn_snd hb n]
    by_cases z : n = b
    · subst z
      rw [if_pos rfl, hb, if_neg (Nat.lt_irrefl n), if_pos (Nat.lt_succ_self n)]
    · rw [if_neg z]
      by_cases y : b < n
      · rw [if_pos y, if_pos (by omega)]
        omega
      · rw [if_neg y, if_neg (by omega)]
        omega
/-- who brings: bounds -/
theorem brV_ok (hI : pI A) (hB : tB A) (hT : tA A) (hO : nOK A s) (hw : w < cH A) (hb : b < cB A) (e : brV A s w b = some p) : s.2.2.2.2.1 b = none ∧ p.2.2 < cI A ∧ p.2.1 + nu A (109 + 4 * w) ≤ 88722 * (nSn s (cB A) + 1) := by
  obtain ⟨-, hwh, -⟩ := hO
  obtain ⟨-, frl⟩ := hwh w hw
  obtain ⟨-, -, kp9, -, -⟩ := num_whale hI hB hT hw
  obtain ⟨bf, -, -, bdy, -⟩ := num_box hI hB hT hb
  unfold brV at e
  cases o : s.2.2.2.2.1 b with
  | some q =>
    rw [o] at e
    cases e
  | none =>
    rw [o] at e
    dsimp only at e
    refine ⟨rfl, ?_⟩
    split at e
    · cases e
    · unfold brG at e
      split at e
      · cases e
      · next z =>
        split at e
        · cases e
        · next x ex =>
          split at e
          · cases e
          · next y ey =>
            cases e
            have l1 := dyD_le hI hB hT ex
            have l2 := dyD_le hI hB hT ey
            refine ⟨dyD_lt hB hI hT bf ey, ?_⟩
            show y + nu A (109 + 4 * w) ≤ _
            have := Nat.max_le.mpr ⟨show x ≤ 88722 * nSn s (cB A) + 39312 by omega, show nu A (130 + 4 * b) ≤ 88722 * nSn s (cB A) + 39312 by omega⟩
            omega
theorem snd_ok (hI : pI A) (hB : tB A) (hT : tA A) (hO : nOK A s) (hw : w < cH A) (hb : b < cB A) (e : brV A s w b = some p) : nOK A (sntS s w b (p.2.1 + nu A (109 + 4 * w)) p.2.2) := by
  obtain ⟨e1, e2, e3⟩ := brV_ok hI hB hT hO hw hb e
  have n1 : nSn (sntS s w b (p.2.1 + nu A (109 + 4 * w)) p.2.2) (cB A) = nSn s (cB A) + 1 := by rw [nSn_snd e1, if_pos hb]
  obtain ⟨hy, hwh, hbx⟩ := hO
  refine ⟨hy, fun k hk => ?_, fun k hk => ?_⟩
  · rw [n1]
    show (if k = w then p.2.2 else s.2.2.1 k) < cI A ∧ (if k = w then p.2.1 + nu A (109 + 4 * w) else s.2.2.2.1 k) ≤ _
    by_cases z : k = w
    · rw [if_pos z, if_pos z]
      exact ⟨e2, e3⟩
    · rw [if_neg z, if_neg z]
      have := hwh k hk
      exact ⟨this.1, by omega⟩
  · obtain ⟨a1, a2, a3⟩ := hbx k hk
    refine ⟨a1, a2, fun q hq => ?_⟩
    rw [n1]
    have hq : (if k = b then some (p.2.1 + nu A (109 + 4 * w), p.2.2) else s.2.2.2.2.1 k) = some q := hq
    by_cases z : k = b
    · rw [if_pos z] at hq
      cases hq
      exact ⟨e2, e3⟩
    · rw [if_neg z] at hq
      have := a3 q hq
      exact ⟨this.1, by omega⟩
end SNO
/-! the class: send -/
/-- what a call may write: the answer's number, history, now, the days and songs at work -/
def nwG (h g : zH) : Prop := g.1 = h.1 ∧ g.2.2 = h.2.2 ∧ (∀ k, k ≠ 2 → k ≠ 12 → k ≠ 13 → k ≠ 15 → g.2.1 0 k = h.2.1 0 k) ∧ ∀ b k, b ≠ 0 → ¬ (86 ≤ b ∧ b ≤ 95) → ¬ (106 ≤ b ∧ b ≤ 195) → g.2.1 b k = h.2.1 b k
section CSN
variable {d N c w b : Nat} {h g : zH} {A : pA} {s : nS} {H J : List nS} {x y : Int32}
/-- a box: then there is a post -/
theorem lPA.has (hA : lPA A c h) (hb : b < cB A) : cI A ≠ 0 := by
  rcases hA.2.2.2.2 with ⟨-, e⟩ | ⟨-, z, -⟩
  · rw [e] at hb
    exact absurd hb (Nat.not_lt_zero b)
  · exact z
theorem nwF.G (f : nwF h g) : nwG h g := ⟨f.1, f.2.1, f.2.2.1, fun b k e1 e2 e3 => f.2.2.2 b k e1 (by omega) e3⟩
theorem gF3.G (f : gF3 h g) : nwG h g := ⟨f.1, f.2.1, fun k _ _ _ _ => f.2.2 0 k (by decide) (by decide) (by decide), fun b k _ e2 _ => f.2.2 b k (by omega) (by omega) (by omega)⟩
theorem nwG.tr {f : zH} (a : nwG h g) (b : nwG g f) : nwG h f := ⟨b.1.trans a.1, b.2.1.trans a.2.1, fun k e0 e1 e2 e3 => (b.2.2.1 k e0 e1 e2 e3).trans (a.2.2.1 k e0 e1 e2 e3), fun c k e1 e2 e3 => (b.2.2.2 c k e1 e2 e3).trans (a.2.2.2 c k e1 e2 e3)⟩
theorem lNC.g3 (L : lNC A s H J h) (f : gF3 h g) : lNC A s H J g := by
  have f := f.2.2
  obtain ⟨L1, ⟨nw, hn, e12, e13, hl, hh⟩, j1, j2, j3⟩ := L
  refine ⟨L1.fr (fun b k w1 w2 => f b k (by omega) (by omega) (by omega)), ⟨nw, hn, (f 0 12 (by decide) (by decide) (by decide)).trans e12, (f 0 13 (by decide) (by decide) (by decide)).trans e13, hl, fun k t hk => (hh k t hk).fr (fun b j w1 w2 => f b j (by omega) (by omega) (by omega))⟩, (f 0 15 (by decide) (by decide) (by decide)).trans j1, j2, fun k t hk => (j3 k t hk).fr (fun b j w1 w2 => f b j (by omega) (by omega) (by omega))⟩
theorem C_send (S : nwS h) (hA : lPA A c h) (r8 : h.2.2.2.1 0 8 = some 94) (B : cI A ≠ 0 → bgC A c s h) (L : lNC A s H J h) : zPa d mX11_send [.inr (.inr (some 0)), .inl x, .inl y] h (fun v g => nwG h g ∧ ((¬ ((0 ≤ x.toInt ∧ x.toInt < (cH A : Int)) ∧ 0 ≤ y.toInt ∧ y.toInt < (cB A : Int)) ∧ v = some (.inl (-1)) ∧ g.2.1 0 2 = 1 ∧ lNC A s H J g) ∨ ∃ w b, x = nI w ∧ y = nI b ∧ w < cH A ∧ b < cB A ∧ ((brV A s w b = none ∧ v = some (.inl (-1)) ∧ g.2.1 0 2 = 5 ∧ lNC A s H J g) ∨ ∃ p, brV A s w b = some p ∧ v = some (.inl (nI (p.2.1 + nu A (109 + 4 * w)))) ∧ g.2.1 0 2 = 0 ∧ lNC A (sntS s w b (p.2.1 + nu A (109 + 4 * w)) p.2.2) ((s :: H).take 12) J g))) := by
  intro N
  have hI := hA.1
  obtain ⟨b1, b2, b3, b4, b5⟩ := hI.2.2.1
  have s0 : zsh h 0 = some (11, 16) := zsh_by S.1 (by decide +kernel)
  have ref : ¬ ((0 ≤ x.toInt ∧ x.toInt < (cH A : Int)) ∧ 0 ≤ y.toInt ∧ y.toInt < (cB A : Int)) → ∀ N, zPn N none d mX11_send (16, [(0, .inr (.inr (some 0))), (1, .inl x), (2, .inl y)], [], h) (fun v g => nwG h g ∧ ((¬ ((0 ≤ x.toInt ∧ x.toInt < (cH A : Int)) ∧ 0 ≤ y.toInt ∧ y.toInt < (cB A : Int)) ∧ v = some (.inl (-1)) ∧ g.2.1 0 2 = 1 ∧ lNC A s H J g) ∨ ∃ w b, x = nI w ∧ y = nI b ∧ w < cH A ∧ b < cB A ∧ ((brV A s w b = none ∧ v = some (.inl (-1)) ∧ g.2.1 0 2 = 5 ∧ lNC A s H J g) ∨ ∃ p, brV A s w b = some p ∧ v = some (.inl (nI (p.2.1 + nu A (109 + 4 * w)))) ∧ g.2.1 0 2 = 0 ∧ lNC A (sntS s w b (p.2.1 + nu A (109 + 4 * w)) p.2.2) ((s :: H).take 12) J g))) := fun hr N => by
    refine pa_aload_n (pc' := 17) dX11_send_16 rfl rfl ?_
    refine pa_iconst (v := nI 1) (pc' := 18) dX11_send_17 (by decide) rfl ?_
    refine pa_callv (pc' := 21) (vs := [.inl (nI 1)]) (rest := []) dX11_send_18 ml_11_98 (by decide) rfl rfl rfl (fun d' _ => (c_ref s0)) (fun v g hq => ?_)
    obtain ⟨ev, eh⟩ := hq
    subst ev
    show zPn N none d mX11_send (21, _, [.inl ((-1))], g) _
    subst eh
    refine pa_iret dX11_send_21 rfl rfl ?_
    exact ⟨nwF.t2.G, .inl ⟨hr, rfl, by rw [zsI_at, if_pos ⟨rfl, rfl⟩]; rfl, L.t2⟩⟩
  show zPn N none d mX11_send (0, [(0, .inr (.inr (some 0))), (1, .inl x), (2, .inl y)], [], h) _
  refine pa_aload_n (pc' := 1) dX11_send_0 rfl rfl ?_
  refine pa_iload_n (pc' := 2) dX11_send_1 rfl rfl ?_
  refine pa_callv (pc' := 5) (vs := [.inl x]) (rest := []) dX11_send_2 ml_11_121 (by decide) rfl rfl rfl (fun d' _ => (N_isWhale hA S.1)) (fun v g9 hq => ?_)
  obtain ⟨ev, eh⟩ := hq
  subst ev
  rw [eh]
  show zPn N none d mX11_send (5, _, [.inl (if 0 ≤ x.toInt ∧ x.toInt < (cH A:Int) then 1 else 0)], h) _
  by_cases hx : 0 ≤ x.toInt ∧ x.toInt < (cH A : Int)
  case neg =>
    rw [if_neg hx]
    refine pa_if_t (pc' := 16) dX11_send_5 (by decide) (by decide) ?_
    exact ref (fun q => hx q.1) _
  rw [if_pos hx]
  refine pa_if_f (pc' := 8) dX11_send_5 (by decide) (by decide) rfl ?_
  refine pa_aload_n (pc' := 9) dX11_send_8 rfl rfl ?_
  refine pa_iload_n (pc' := 10) dX11_send_9 rfl rfl ?_
  refine pa_callv (pc' := 13) (vs := [.inl y]) (rest := []) dX11_send_10 ml_11_147 (by decide) rfl rfl rfl (fun d' _ => (N_isBox hA S.1)) (fun v g9 hq => ?_)
  obtain ⟨ev, eh⟩ := hq
  subst ev
  rw [eh]
  show zPn N none d mX11_send (13, _, [.inl (if 0 ≤ y.toInt ∧ y.toInt < (cB A:Int) then 1 else 0)], h) _
  by_cases hy : 0 ≤ y.toInt ∧ y.toInt < (cB A : Int)
  case neg =>
    rw [if_neg hy]
    refine pa_if_f (pc' := 16) dX11_send_13 (by decide) (by decide) rfl ?_
    exact ref (fun q => hy q.2) _
  rw [if_pos hy]
  refine pa_if_t (pc' := 22) dX11_send_13 (by decide) (by decide) ?_
  obtain ⟨w, ew, hw⟩ : ∃ w : Nat, x = nI w ∧ w < cH A := ⟨x.toInt.toNat, Int32.toInt_inj.mp (by rw [nI_toInt (by omega)]; omega), by omega⟩
  obtain ⟨b, eb, hb⟩ : ∃ b : Nat, y = nI b ∧ b < cB A := ⟨y.toInt.toNat, Int32.toInt_inj.mp (by rw [nI_toInt (by omega)]; omega), by omega⟩
  subst ew
  subst eb
  clear ref
  have B := B (hA.has hb)
  obtain ⟨-, hT, hB, hO⟩ := B.1
  refine pa_aload_n (pc' := 23) dX11_send_22 rfl rfl ?_
  refine pa_getR (pc' := 26) (n := 16) (r := 94) dX11_send_23 fl_11_60 s0 (by decide) r8 rfl ?_
  refine pa_iload_n (pc' := 27) dX11_send_26 rfl rfl ?_
  refine pa_iload_n (pc' := 28) dX11_send_27 rfl rfl ?_
  refine pa_callv (pc' := 31) (vs := [.inl (nI w), .inl (nI b)]) (rest := []) dX11_send_28 ml_11_283 (by decide) rfl rfl rfl (fun d' _ => (N_brings B hw hb)) (fun v g hq => ?_)
  obtain ⟨ev, eh⟩ := hq
  subst ev
  show zPn N none d mX11_send (31, _, [.inl (brR A w (brV A s w b))], g) _
  refine pa_istore_n (pc' := 32) dX11_send_31 (by decide) rfl rfl ?_
  refine pa_iload_n (pc' := 33) dX11_send_32 rfl rfl ?_
  refine pa_bipush (v := (-2)) (pc' := 35) dX11_send_33 (by decide) rfl ?_
  obtain ⟨fg, hp⟩ := eh
  have t0 : zsh g 0 = some (11, 16) := by unfold zsh; rw [fg.1]; exact s0
  have Sg := S.fr fg.1 fg.2.1
  have Lg := L.g3 fg
  cases e : brV A s w b with
  | none =>
    refine pa_icmp_f (pc' := 38) dX11_send_35 (show zcond .ne (-2 : Int32) (-2) = false by decide) (by decide) rfl ?_
    refine pa_aload_n (pc' := 39) dX11_send_38 rfl rfl ?_
    refine pa_iconst (v := nI 5) (pc' := 40) dX11_send_39 (by decide) rfl ?_
    refine pa_callv (pc' := 43) (vs := [.inl (nI 5)]) (rest := []) dX11_send_40 ml_11_98 (by decide) rfl rfl rfl (fun d' _ => (c_ref t0)) (fun v g4 hq => ?_)
    obtain ⟨ev, eh⟩ := hq
    subst ev
    show zPn N none d mX11_send (43, _, [.inl ((-1))], g4) _
    subst eh
    refine pa_iret dX11_send_43 rfl rfl ?_
    exact ⟨fg.G.tr nwF.t2.G, .inr ⟨w, b, rfl, rfl, hw, hb, .inl ⟨e, rfl, by rw [zsI_at, if_pos ⟨rfl, rfl⟩]; rfl, Lg.t2⟩⟩⟩
  | some p =>
    obtain ⟨v1, v2, v3⟩ := brV_ok hI hB hT hO hw hb e
    obtain ⟨p4, -, -⟩ := hp p e
    have n8 : nSn s (cB A) + 1 ≤ cB A := nSn_lt v1 _ hb
    generalize eD : p.2.1 + nu A (109 + 4 * w) = D at *
    have hD : D ≤ 709776 := by omega
    have hR : brR A w (some p) = nI D := by
      show nI (p.2.1 + nu A (109 + 4 * w)) = nI D
      rw [eD]
    rw [hR]
    refine pa_icmp_t (pc' := 44) dX11_send_35 (decide_eq_true (fun q => by have := congrArg Int32.toInt q; rw [nI_toInt (by omega), show (-2 : Int32).toInt = -2 by decide] at this; omega)) (by decide) ?_
    refine pa_aload_n (pc' := 45) dX11_send_44 rfl rfl ?_
    refine pa_callv (pc' := 48) (vs := []) (rest := []) dX11_send_45 ml_11_341 (by decide) rfl rfl rfl (fun d' _ => (N_keep Sg b3 b4 Lg)) (fun v g5 hq => ?_)
    obtain ⟨ev, eh⟩ := hq
    subst ev
    show zPn N none d mX11_send (48, _, [], g5) _
    obtain ⟨L5, F5⟩ := eh
    have S5 := Sg.fr F5.1 F5.2.1
    have q0 : zsh g5 0 = some (11, 16) := zsh_by S5.1 (by decide +kernel)
    have q86 : zsh g5 86 = some (2, 7) := zsh_by S5.1 (by decide +kernel)
    have q87 : zsh g5 87 = some (14, 5) := zsh_by S5.1 (by decide +kernel)
    have q88 : zsh g5 88 = some (14, 5) := zsh_by S5.1 (by decide +kernel)
    have q89 : zsh g5 89 = some (14, 8) := zsh_by S5.1 (by decide +kernel)
    have q90 : zsh g5 90 = some (14, 8) := zsh_by S5.1 (by decide +kernel)
    have q94 : zsh g5 94 = some (6, 7) := zsh_by S5.1 (by decide +kernel)
    have x6 := S5.2.1
    obtain ⟨y2, y3, y4, y5, -⟩ := S5.o86.2
    have x8 : g5.2.2.2.1 0 8 = some 94 := by rw [F5.2.1, fg.2.1]; exact r8
    have w4 : g5.2.1 94 4 = nI p.2.2 := (F5.2.2.2 94 4 (by decide) (by omega) (by omega)).trans p4
    refine pa_aload_n (pc' := 49) dX11_send_48 rfl rfl ?_
    refine pa_getR (pc' := 52) (n := 16) (r := 86) dX11_send_49 fl_11_42 q0 (by decide) x6 rfl ?_
    refine pa_getR (pc' := 55) (n := 7) (r := 87) dX11_send_52 fl_11_134 q86 (by decide) y2 rfl ?_
    refine pa_iload_n (pc' := 56) dX11_send_55 rfl rfl ?_
    refine pa_aload_n (pc' := 57) dX11_send_56 rfl rfl ?_
    refine pa_getR (pc' := 60) (n := 16) (r := 94) dX11_send_57 fl_11_60 q0 (by decide) x8 rfl ?_
    refine pa_getI (pc' := 63) (n := 7) (v := nI p.2.2) dX11_send_60 fl_11_344 q94 (by decide) w4 rfl ?_
    refine pa_iast (pc' := 64) dX11_send_63 q87 rfl (fun _ => ?_)
    rw [nI_clamp (by omega)]
    refine pa_aload_n (pc' := 65) dX11_send_64 rfl rfl ?_
    refine pa_getR (pc' := 68) (n := 16) (r := 86) dX11_send_65 fl_11_42 q0 (by decide) x6 rfl ?_
    refine pa_getR (pc' := 71) (n := 7) (r := 88) dX11_send_68 fl_11_138 q86 (by decide) y3 rfl ?_
    refine pa_iload_n (pc' := 72) dX11_send_71 rfl rfl ?_
    refine pa_iload_n (pc' := 73) dX11_send_72 rfl rfl ?_
    refine pa_iast (pc' := 74) dX11_send_73 q88 rfl (fun _ => ?_)
    rw [nI_clamp (by omega)]
    refine pa_aload_n (pc' := 75) dX11_send_74 rfl rfl ?_
    refine pa_getR (pc' := 78) (n := 16) (r := 86) dX11_send_75 fl_11_42 q0 (by decide) x6 rfl ?_
    refine pa_getR (pc' := 81) (n := 7) (r := 89) dX11_send_78 fl_11_168 q86 (by decide) y4 rfl ?_
    refine pa_iload_n (pc' := 82) dX11_send_81 rfl rfl ?_
    refine pa_iload_n (pc' := 83) dX11_send_82 rfl rfl ?_
    refine pa_iast (pc' := 84) dX11_send_83 q89 rfl (fun _ => ?_)
    rw [nI_clamp (by omega)]
    refine pa_aload_n (pc' := 85) dX11_send_84 rfl rfl ?_
    refine pa_getR (pc' := 88) (n := 16) (r := 86) dX11_send_85 fl_11_42 q0 (by decide) x6 rfl ?_
    refine pa_getR (pc' := 91) (n := 7) (r := 90) dX11_send_88 fl_11_171 q86 (by decide) y5 rfl ?_
    refine pa_iload_n (pc' := 92) dX11_send_91 rfl rfl ?_
    refine pa_aload_n (pc' := 93) dX11_send_92 rfl rfl ?_
    refine pa_getR (pc' := 96) (n := 16) (r := 94) dX11_send_93 fl_11_60 q0 (by decide) x8 rfl ?_
    refine pa_getI (pc' := 99) (n := 7) (v := nI p.2.2) dX11_send_96 fl_11_344 q94 (by decide) ((zsI_no (by omega)).trans ((zsI_no (by omega)).trans ((zsI_no (by omega)).trans w4))) rfl ?_
    refine pa_iast (pc' := 100) dX11_send_99 q90 rfl (fun _ => ?_)
    rw [nI_clamp (by omega)]
    refine pa_aload_n (pc' := 101) dX11_send_100 rfl rfl ?_
    refine pa_iload_n (pc' := 102) dX11_send_101 rfl rfl ?_
    refine pa_callv (pc' := 105) (vs := [.inl (nI D)]) (rest := []) dX11_send_102 ml_11_112 (by decide) rfl rfl rfl (fun d' _ => (c_gra q0)) (fun v g6 hq => ?_)
    obtain ⟨ev, eh⟩ := hq
    subst ev
    show zPn N none d mX11_send (105, _, [.inl (nI D)], g6) _
    subst eh
    generalize e6 : zsI (zsI (zsI (zsI (zsI g5 87 w (nI p.2.2)) 88 w (nI D)) 89 b (nI D)) 90 b (nI p.2.2)) 0 2 0 = g6
    refine pa_iret dX11_send_105 rfl rfl ?_
    have at' : ∀ a k, g6.2.1 a k = if a = 0 ∧ k = 2 then 0 else if a = 90 ∧ k = b then nI p.2.2 else if a = 89 ∧ k = b then nI D else if a = 88 ∧ k = w then nI D else if a = 87 ∧ k = w then nI p.2.2 else g5.2.1 a k := fun a k => by
      rw [← e6, zsI_at, zsI_at, zsI_at, zsI_at, zsI_at]
    have F6 : nwF g5 g6 := ⟨by rw [← e6]; rfl, by rw [← e6]; rfl, fun k w0 w1 w2 w3 => by rw [at', if_neg (by omega), if_neg (by omega), if_neg (by omega), if_neg (by omega), if_neg (by omega)], fun a k w1 w2 w3 => by rw [at', if_neg (by omega), if_neg (by omega), if_neg (by omega), if_neg (by omega), if_neg (by omega)]⟩
    have out : ∀ a k, 106 ≤ a → g6.2.1 a k = g5.2.1 a k := fun a k w1 => by rw [at', if_neg (by omega), if_neg (by omega), if_neg (by omega), if_neg (by omega), if_neg (by omega)]
    have out0 : ∀ k, k ≠ 2 → g6.2.1 0 k = g5.2.1 0 k := fun k w1 => by rw [at', if_neg (by omega), if_neg (by omega), if_neg (by omega), if_neg (by omega), if_neg (by omega)]
    refine ⟨fg.G.tr (F5.G.tr F6.G), .inr ⟨w, b, rfl, rfl, hw, hb, .inr ⟨p, e, by rw [eD], by rw [at', if_pos ⟨rfl, rfl⟩], ?_⟩⟩⟩
    rw [eD]
    obtain ⟨⟨n1, n2, n3, n4⟩, ⟨nw, hn, e12, e13, hl, hh⟩, j1, j2, j3⟩ := L5
    refine ⟨⟨?_, ?_, fun k hk => ⟨?_, ?_⟩, fun k hk => ⟨?_, ?_, ?_⟩⟩, ⟨nw, hn, (out0 12 (by decide)).trans e12, (out0 13 (by decide)).trans e13, hl, fun k t hk => (hh k t hk).fr (fun a j w1 w2 => out a j (by omega))⟩, (out0 15 (by decide)).trans j1, j2, fun k t hk => (j3 k t hk).fr (fun a j w1 w2 => out a j (by omega))⟩
    · rw [at', if_neg (by omega), if_neg (by omega), if_neg (by omega), if_neg (by omega), if_neg (by omega)]
      exact n1
    · rw [at', if_neg (by omega), if_neg (by omega), if_neg (by omega), if_neg (by omega), if_neg (by omega)]
      exact n2
    · rw [at', if_neg (by omega), if_neg (by omega), if_neg (by omega), if_neg (by omega)]
      show _ = nI (if k = w then p.2.2 else s.2.2.1 k)
      by_cases z : k = w
      · rw [if_pos ⟨rfl, z⟩, if_pos z]
      · rw [if_neg (fun q => z q.2), if_neg z]
        exact (n3 k hk).1
    · rw [at', if_neg (by omega), if_neg (by omega), if_neg (by omega)]
      show _ = nI (if k = w then D else s.2.2.2.1 k)
      by_cases z : k = w
      · rw [if_pos ⟨rfl, z⟩, if_pos z]
      · rw [if_neg (fun q => z q.2), if_neg (by omega), if_neg z]
        exact (n3 k hk).2
    · rw [at', if_neg (by omega), if_neg (by omega)]
      show _ = sDy (if k = b then some (D, p.2.2) else s.2.2.2.2.1 k)
      by_cases z : k = b
      · rw [if_pos ⟨rfl, z⟩, if_pos z]
        rfl
      · rw [if_neg (fun q => z q.2), if_neg (by omega), if_neg (by omega), if_neg z]
        exact (n4 k hk).1
    · rw [at', if_neg (by omega)]
      show _ = sGo (if k = b then some (D, p.2.2) else s.2.2.2.2.1 k)
      by_cases z : k = b
      · rw [if_pos ⟨rfl, z⟩, if_pos z]
        rfl
      · rw [if_neg (fun q => z q.2), if_neg (by omega), if_neg (by omega), if_neg (by omega), if_neg z]
        exact (n4 k hk).2.1
    · rw [at', if_neg (by omega), if_neg (by omega), if_neg (by omega), if_neg (by omega), if_neg (by omega)]
      exact (n4 k hk).2.2
end CSN
/-! the reference: send -/
def mwG (h g : zH) : Prop := g.1 = h.1 ∧ g.2.2 = h.2.2 ∧ (∀ k, k ≠ 0 → k ≠ 11 → k ≠ 20 → k ≠ 21 → k ≠ 26 → k ≠ 27 → g.2.1 196 k = h.2.1 196 k) ∧ ∀ b k, b ≠ 196 → b ≠ 201 → b ≠ 202 → b ≠ 203 → b ≠ 205 → b ≠ 206 → g.2.1 b k = h.2.1 b k
section MFR
variable {q o : Nat} {h g : zH} {A : pA} {s : nS} {H J : List nS}
theorem nMo.fr (e : ∀ k, g.2.1 q k = h.2.1 q k) (n : nMo A s q o h) : nMo A s q o g := by
  obtain ⟨n1, n2, n3, n4⟩ := n
  exact ⟨(e _).trans n1, (e _).trans n2, fun w hw => ⟨(e _).trans (n3 w hw).1, (e _).trans (n3 w hw).2⟩, fun b hb => ⟨(e _).trans (n4 b hb).1, (e _).trans (n4 b hb).2.1, fun k hk => (e _).trans ((n4 b hb).2.2 k hk)⟩⟩
theorem lNM.fr (L : lNM A s H J h) (e : ∀ a j, 201 ≤ a ∧ a ≤ 203 → g.2.1 a j = h.2.1 a j) (e20 : g.2.1 196 20 = h.2.1 196 20) (e21 : g.2.1 196 21 = h.2.1 196 21) : lNM A s H J g := by
  obtain ⟨⟨L1, l1⟩, ⟨a1, a2, a3⟩, b1, b2, b3⟩ := L
  exact ⟨⟨L1.fr (fun k => e _ _ (by decide)), l1⟩, ⟨e20.trans a1, a2, fun k t hk => ⟨(a3 k t hk).1.fr (fun k => e _ _ (by decide)), (a3 k t hk).2⟩⟩, e21.trans b1, b2, fun k t hk => ⟨(b3 k t hk).1.fr (fun k => e _ _ (by decide)), (b3 k t hk).2⟩⟩
end MFR
section MSN
variable {d N c w b : Nat} {h g : zH} {A : pA} {s : nS} {H J : List nS} {x y : Int32} {p : Nat × Nat × Nat}
theorem mwF.G (f : mwF h g) : mwG h g := ⟨f.1, f.2.1, fun k e1 e2 e3 e4 _ _ => f.2.2.1 k e1 e2 e3 e4, fun b k e1 e2 e3 e4 _ _ => f.2.2.2 b k e1 e2 e3 e4⟩
theorem gF4.G (f : gF4 h g) : mwG h g := ⟨f.1, f.2.1, fun k _ _ _ _ e5 e6 => f.2.2 196 k (by decide) (by decide) (fun _ => ⟨e5, e6⟩), fun b k e1 _ _ _ e5 e6 => f.2.2 b k e5 e6 (fun z => absurd z e1)⟩
theorem mwG.tr {f : zH} (a : mwG h g) (b : mwG g f) : mwG h f := ⟨b.1.trans a.1, b.2.1.trans a.2.1, fun k e1 e2 e3 e4 e5 e6 => (b.2.2.1 k e1 e2 e3 e4 e5 e6).trans (a.2.2.1 k e1 e2 e3 e4 e5 e6), fun c k e1 e2 e3 e4 e5 e6 => (b.2.2.2 c k e1 e2 e3 e4 e5 e6).trans (a.2.2.2 c k e1 e2 e3 e4 e5 e6)⟩
theorem mwS.fr (S : mwS h) (e1 : g.1 = h.1) (e2 : g.2.2 = h.2.2) : mwS g := by
  unfold mwS at S ⊢
  rw [e1, e2]
  exact S
theorem brV_he (hI : pI A) (e : brV A s w b = some p) : heA A (s.2.2.2.2.2 b) s.1 = nI p.2.2 := by
  unfold brV at e
  split at e
  · cases e
  · split at e
    · cases e
    · rcases heA_i hI (s.2.2.2.2.2 b) s.1 with z | ⟨q, -, z1, z2, z3, -⟩
      · rw [z] at e
        unfold brG at e
        rw [if_pos rfl] at e
        cases e
      · unfold brG at e
        rw [if_neg z3, z2] at e
        split at e
        · cases e
        · split at e
          · cases e
          · cases e
            exact z1
theorem M_send (S : mwS h) (hA : lPA A c h) (r15 : h.2.2.2.1 196 15 = some 199) (B : cI A ≠ 0 → bgM A s h) (L : lNM A s H J h) : zPa d mX12_send [.inr (.inr (some 196)), .inl x, .inl y] h (fun v g => mwG h g ∧ ((¬ ((0 ≤ x.toInt ∧ x.toInt < (cH A : Int)) ∧ 0 ≤ y.toInt ∧ y.toInt < (cB A : Int)) ∧ v = some (.inl (-1)) ∧ g.2.1 196 11 = 1 ∧ lNM A s H J g) ∨ ∃ w b, x = nI w ∧ y = nI b ∧ w < cH A ∧ b < cB A ∧ ((brV A s w b = none ∧ v = some (.inl (-1)) ∧ g.2.1 196 11 = 5 ∧ lNM A s H J g) ∨ ∃ p, brV A s w b = some p ∧ v = some (.inl (nI (p.2.1 + nu A (109 + 4 * w)))) ∧ g.2.1 196 11 = 0 ∧ lNM A (sntS s w b (p.2.1 + nu A (109 + 4 * w)) p.2.2) ((s :: H).take 12) J g))) := by
  intro N
  have hI := hA.1
  obtain ⟨b1, b2, b3, b4, b5⟩ := hI.2.2.1
  have s196 : zsh h 196 = some (12, 39) := zsh_by S.1 (by decide +kernel)
  generalize eh1 : zsI (zsI h 196 0 0) 196 11 0 = h1
  have F1 : mwF h h1 := by rw [← eh1]; exact mwF.gd
  have t11 : h1.2.1 196 11 = 0 := by rw [← eh1, zsI_at, if_pos ⟨rfl, rfl⟩]
  have L1 : lNM A s H J h1 := L.ch b3 b4 (fun b k w1 w2 w3 => by rw [← eh1, zsI_at, zsI_at, if_neg (by omega), if_neg (by omega)])
  have S1 : mwS h1 := S.fr F1.1 F1.2.1
  have hA1 : lPA A c h1 := by rw [← eh1]; exact hA.gd
  have B1 : cI A ≠ 0 → bgM A s h1 := fun z0 => by
    obtain ⟨B1, B2, B3, ⟨n1, n2, n3, n4⟩, B5, B6⟩ := B z0
    have e : ∀ a k, a ≠ 196 → h1.2.1 a k = h.2.1 a k := fun a k ha => by rw [← eh1, zsI_at, zsI_at, if_neg (fun q => ha q.1), if_neg (fun q => ha q.1)]
    refine ⟨B1, ?_, ?_, ⟨(e _ _ (by decide)).trans n1, (e _ _ (by decide)).trans n2, fun w hw => ⟨(e _ _ (by decide)).trans (n3 w hw).1, (e _ _ (by decide)).trans (n3 w hw).2⟩, fun b hb => ⟨(e _ _ (by decide)).trans (n4 b hb).1, (e _ _ (by decide)).trans (n4 b hb).2.1, fun k hk => (e _ _ (by decide)).trans ((n4 b hb).2.2 k hk)⟩⟩, fun w hw j hj => (e _ _ (by decide)).trans (B5 w hw j hj), fun b hb j hj => (e _ _ (by decide)).trans (B6 b hb j hj)⟩
    · obtain ⟨k1, k2, k3, k4, ⟨k5, k6, k7⟩, k8⟩ := B2
      refine ⟨F1.1.trans k1, k2, k3, by rw [F1.2.1]; exact k4, ⟨(e _ _ (by decide)).trans k5, (e _ _ (by decide)).trans k6, (e _ _ (by decide)).trans k7⟩, fun k hk => ?_⟩
      rw [e _ _ (by decide), e _ _ (by decide), e _ _ (by decide), e _ _ (by decide)]
      exact k8 k hk
    · obtain ⟨k1, k2, ⟨k3, k4, k5, k6⟩, k7, k8⟩ := B3
      refine ⟨F1.1.trans k1, by rw [F1.2.1]; exact k2, ⟨(e _ _ (by decide)).trans k3, (e _ _ (by decide)).trans k4, (e _ _ (by decide)).trans k5, (e _ _ (by decide)).trans k6⟩, k7, fun i hi => ?_⟩
      obtain ⟨a1, a2, a3⟩ := k8 i hi
      exact ⟨(e _ _ (by decide)).trans a1, fun k hk => (e _ _ (by decide)).trans (a2 k hk), a3⟩
  have q15 : h1.2.2.2.1 196 15 = some 199 := by rw [← eh1]; exact r15
  have z196 : zsh h1 196 = some (12, 39) := by rw [← eh1]; exact s196
  have ref : ¬ ((0 ≤ x.toInt ∧ x.toInt < (cH A : Int)) ∧ 0 ≤ y.toInt ∧ y.toInt < (cB A : Int)) → ∀ N, zPn N none d mX12_send (20, [(0, .inr (.inr (some 196))), (1, .inl x), (2, .inl y)], [], h1) (fun v g => mwG h g ∧ ((¬ ((0 ≤ x.toInt ∧ x.toInt < (cH A : Int)) ∧ 0 ≤ y.toInt ∧ y.toInt < (cB A : Int)) ∧ v = some (.inl (-1)) ∧ g.2.1 196 11 = 1 ∧ lNM A s H J g) ∨ ∃ w b, x = nI w ∧ y = nI b ∧ w < cH A ∧ b < cB A ∧ ((brV A s w b = none ∧ v = some (.inl (-1)) ∧ g.2.1 196 11 = 5 ∧ lNM A s H J g) ∨ ∃ p, brV A s w b = some p ∧ v = some (.inl (nI (p.2.1 + nu A (109 + 4 * w)))) ∧ g.2.1 196 11 = 0 ∧ lNM A (sntS s w b (p.2.1 + nu A (109 + 4 * w)) p.2.2) ((s :: H).take 12) J g))) := fun hr N => by
    refine pa_aload_n (pc' := 21) dX12_send_20 rfl rfl ?_
    refine pa_iconst (v := nI 1) (pc' := 22) dX12_send_21 (by decide) rfl ?_
    refine pa_callv (pc' := 25) (vs := [.inl (nI 1)]) (rest := []) dX12_send_22 ml_12_170 (by decide) rfl rfl rfl (fun d' _ => (m_no z196)) (fun v g hq => ?_)
    obtain ⟨ev, eh⟩ := hq
    subst ev
    show zPn N none d mX12_send (25, _, [.inl ((-1))], g) _
    subst eh
    refine pa_iret dX12_send_25 rfl rfl ?_
    exact ⟨(F1.tr mwF.t).G, .inl ⟨hr, rfl, by rw [zsI_at, if_pos ⟨rfl, rfl⟩]; rfl, L1.ch b3 b4 (fun b k w1 w2 w3 => by rw [zsI_at, if_neg (by omega)])⟩⟩
  show zPn N none d mX12_send (0, [(0, .inr (.inr (some 196))), (1, .inl x), (2, .inl y)], [], h) _
  refine pa_aload_n (pc' := 1) dX12_send_0 rfl rfl ?_
  refine pa_callv (pc' := 4) (vs := []) (rest := []) dX12_send_1 ml_12_167 (by decide) rfl rfl rfl (fun d' _ => (m_good s196)) (fun v g hq => ?_)
  obtain ⟨ev, eh⟩ := hq
  subst ev
  show zPn N none d mX12_send (4, _, [], g) _
  rw [eh1] at eh
  subst eh
  refine pa_aload_n (pc' := 5) dX12_send_4 rfl rfl ?_
  refine pa_iload_n (pc' := 6) dX12_send_5 rfl rfl ?_
  refine pa_callv (pc' := 9) (vs := [.inl x]) (rest := []) dX12_send_6 ml_12_268 (by decide) rfl rfl rfl (fun d' _ => (M_isWhale hA1 q15 S1.1)) (fun v g9 hq => ?_)
  obtain ⟨ev, eh⟩ := hq
  subst ev
  rw [eh]
  show zPn N none d mX12_send (9, _, [.inl (if 0 ≤ x.toInt ∧ x.toInt < (cH A:Int) then 1 else 0)], g) _
  by_cases hx : 0 ≤ x.toInt ∧ x.toInt < (cH A : Int)
  case neg =>
    rw [if_neg hx]
    refine pa_if_t (pc' := 20) dX12_send_9 (by decide) (by decide) ?_
    exact ref (fun q => hx q.1) _
  rw [if_pos hx]
  refine pa_if_f (pc' := 12) dX12_send_9 (by decide) (by decide) rfl ?_
  refine pa_aload_n (pc' := 13) dX12_send_12 rfl rfl ?_
  refine pa_iload_n (pc' := 14) dX12_send_13 rfl rfl ?_
  refine pa_callv (pc' := 17) (vs := [.inl y]) (rest := []) dX12_send_14 ml_12_274 (by decide) rfl rfl rfl (fun d' _ => (M_isBox hA1 q15 S1.1)) (fun v g9 hq => ?_)
  obtain ⟨ev, eh⟩ := hq
  subst ev
  rw [eh]
  show zPn N none d mX12_send (17, _, [.inl (if 0 ≤ y.toInt ∧ y.toInt < (cB A:Int) then 1 else 0)], g) _
  by_cases hy : 0 ≤ y.toInt ∧ y.toInt < (cB A : Int)
  case neg =>
    rw [if_neg hy]
    refine pa_if_f (pc' := 20) dX12_send_17 (by decide) (by decide) rfl ?_
    exact ref (fun q => hy q.2) _
  rw [if_pos hy]
  refine pa_if_t (pc' := 26) dX12_send_17 (by decide) (by decide) ?_
  obtain ⟨w, ew, hw⟩ : ∃ w : Nat, x = nI w ∧ w < cH A := ⟨x.toInt.toNat, Int32.toInt_inj.mp (by rw [nI_toInt (by omega)]; omega), by omega⟩
  obtain ⟨b, eb, hb⟩ : ∃ b : Nat, y = nI b ∧ b < cB A := ⟨y.toInt.toNat, Int32.toInt_inj.mp (by rw [nI_toInt (by omega)]; omega), by omega⟩
  subst ew
  subst eb
  clear ref
  have B1 := B1 (hA.has hb)
  obtain ⟨-, hT, hB, hO⟩ := B1.1
  refine pa_aload_n (pc' := 27) dX12_send_26 rfl rfl ?_
  refine pa_iload_n (pc' := 28) dX12_send_27 rfl rfl ?_
  refine pa_iload_n (pc' := 29) dX12_send_28 rfl rfl ?_
  refine pa_callv (pc' := 32) (vs := [.inl (nI w), .inl (nI b)]) (rest := []) dX12_send_29 ml_12_367 (by decide) rfl rfl rfl (fun d' _ => (M_bringsOf B1 hw hb)) (fun v g3 hq => ?_)
  obtain ⟨ev, eh⟩ := hq
  subst ev
  show zPn N none d mX12_send (32, _, [.inl (brR A w (brV A s w b))], g3) _
  refine pa_istore_n (pc' := 33) dX12_send_32 (by decide) rfl rfl ?_
  refine pa_iload_n (pc' := 34) dX12_send_33 rfl rfl ?_
  have fg := eh
  have t0 : zsh g3 196 = some (12, 39) := by unfold zsh; rw [fg.1]; exact z196
  have S3 := S1.fr fg.1 fg.2.1
  have L3 : lNM A s H J g3 := L1.fr (fun a k w => fg.2.2 a k (by omega) (by omega) (by omega)) (fg.2.2 196 20 (by decide) (by decide) (by decide)) (fg.2.2 196 21 (by decide) (by decide) (by decide))
  have B3 := B1.fr fg
  cases e : brV A s w b with
  | none =>
    refine pa_if_f (pc' := 37) dX12_send_34 (show zcond .ge (-2 : Int32) 0 = false by decide) (by decide) rfl ?_
    refine pa_aload_n (pc' := 38) dX12_send_37 rfl rfl ?_
    refine pa_iconst (v := nI 5) (pc' := 39) dX12_send_38 (by decide) rfl ?_
    refine pa_callv (pc' := 42) (vs := [.inl (nI 5)]) (rest := []) dX12_send_39 ml_12_170 (by decide) rfl rfl rfl (fun d' _ => (m_no t0)) (fun v g4 hq => ?_)
    obtain ⟨ev, eh⟩ := hq
    subst ev
    show zPn N none d mX12_send (42, _, [.inl ((-1))], g4) _
    subst eh
    refine pa_iret dX12_send_42 rfl rfl ?_
    exact ⟨F1.G.tr (fg.G.tr mwF.t.G), .inr ⟨w, b, rfl, rfl, hw, hb, .inl ⟨e, rfl, by rw [zsI_at, if_pos ⟨rfl, rfl⟩]; rfl, L3.ch b3 b4 (fun a k w1 w2 w3 => by rw [zsI_at, if_neg (by omega)])⟩⟩⟩
  | some p =>
    obtain ⟨v1, v2, v3⟩ := brV_ok hI hB hT hO hw hb e
    have he := brV_he hI e
    have n8 : nSn s (cB A) + 1 ≤ cB A := nSn_lt v1 _ hb
    generalize eD : p.2.1 + nu A (109 + 4 * w) = D at *
    have hD : D ≤ 709776 := by omega
    have hR : brR A w (some p) = nI D := by
      show nI (p.2.1 + nu A (109 + 4 * w)) = nI D
      rw [eD]
    rw [hR]
    refine pa_if_t (pc' := 43) dX12_send_34 (by rw [zcond_i]; exact decide_eq_true (by rw [nI_toInt (by omega), show (0 : Int32).toInt = 0 by decide]; omega)) (by decide) ?_
    refine pa_aload_n (pc' := 44) dX12_send_43 rfl rfl ?_
    refine pa_iload_n (pc' := 45) dX12_send_44 rfl rfl ?_
    refine pa_callv (pc' := 48) (vs := [.inl (nI b)]) (rest := []) dX12_send_45 ml_12_295 (by decide) rfl rfl rfl (fun d' _ => (M_heardNow B3 hb)) (fun v g9 hq => ?_)
    obtain ⟨ev, eh⟩ := hq
    subst ev
    rw [eh]
    show zPn N none d mX12_send (48, _, [.inl (heA A (s.2.2.2.2.2 b) s.1)], g3) _
    rw [he]
    refine pa_istore (pc' := 50) dX12_send_48 (by decide) rfl rfl ?_
    refine pa_aload_n (pc' := 51) dX12_send_50 rfl rfl ?_
    refine pa_callv (pc' := 54) (vs := []) (rest := []) dX12_send_51 ml_12_424 (by decide) rfl rfl rfl (fun d' _ => (M_note1 S3 b3 b4 L3)) (fun v g5 hq => ?_)
    obtain ⟨ev, eh⟩ := hq
    subst ev
    show zPn N none d mX12_send (54, _, [], g5) _
    obtain ⟨F5, L5, O5⟩ := eh
    have S5 := S3.fr F5.1 F5.2.1
    have q196 : zsh g5 196 = some (12, 39) := zsh_by S5.1 (by decide +kernel)
    have q201 : zsh g5 201 = some (14, 76) := zsh_by S5.1 (by decide +kernel)
    have x17 := S5.2.1
    refine pa_aload_n (pc' := 55) dX12_send_54 rfl rfl ?_
    refine pa_getR (pc' := 58) (n := 39) (r := 201) dX12_send_55 fl_12_26 q196 (by decide) x17 rfl ?_
    refine pa_iconst (v := nI 2) (pc' := 59) dX12_send_58 (by decide) rfl ?_
    refine pa_iload_n (pc' := 60) dX12_send_59 rfl rfl ?_
    refine pa_iadd (pc' := 61) (v := nI (2 + w)) dX12_send_60 (nI_add _ _) rfl ?_
    refine pa_iload (pc' := 63) dX12_send_61 rfl rfl ?_
    refine pa_iast (pc' := 64) dX12_send_63 q201 rfl (fun _ => ?_)
    rw [nI_clamp (by omega)]
    refine pa_aload_n (pc' := 65) dX12_send_64 rfl rfl ?_
    refine pa_getR (pc' := 68) (n := 39) (r := 201) dX12_send_65 fl_12_26 q196 (by decide) x17 rfl ?_
    refine pa_bipush (v := nI 7) (pc' := 70) dX12_send_68 (by decide) rfl ?_
    refine pa_iload_n (pc' := 71) dX12_send_70 rfl rfl ?_
    refine pa_iadd (pc' := 72) (v := nI (7 + w)) dX12_send_71 (nI_add _ _) rfl ?_
    refine pa_iload_n (pc' := 73) dX12_send_72 rfl rfl ?_
    refine pa_iast (pc' := 74) dX12_send_73 q201 rfl (fun _ => ?_)
    rw [nI_clamp (by omega)]
    refine pa_aload_n (pc' := 75) dX12_send_74 rfl rfl ?_
    refine pa_getR (pc' := 78) (n := 39) (r := 201) dX12_send_75 fl_12_26 q196 (by decide) x17 rfl ?_
    refine pa_bipush (v := nI 12) (pc' := 80) dX12_send_78 (by decide) rfl ?_
    refine pa_iload_n (pc' := 81) dX12_send_80 rfl rfl ?_
    refine pa_iadd (pc' := 82) (v := nI (12 + b)) dX12_send_81 (nI_add _ _) rfl ?_
    refine pa_iload_n (pc' := 83) dX12_send_82 rfl rfl ?_
    refine pa_iconst (v := nI 1) (pc' := 84) dX12_send_83 (by decide) rfl ?_
    refine pa_iadd (pc' := 85) (v := nI (D + 1)) dX12_send_84 (nI_add _ _) rfl ?_
    refine pa_iast (pc' := 86) dX12_send_85 q201 rfl (fun _ => ?_)
    rw [nI_clamp (by omega)]
    refine pa_aload_n (pc' := 87) dX12_send_86 rfl rfl ?_
    refine pa_getR (pc' := 90) (n := 39) (r := 201) dX12_send_87 fl_12_26 q196 (by decide) x17 rfl ?_
    refine pa_bipush (v := nI 20) (pc' := 92) dX12_send_90 (by decide) rfl ?_
    refine pa_iload_n (pc' := 93) dX12_send_92 rfl rfl ?_
    refine pa_iadd (pc' := 94) (v := nI (20 + b)) dX12_send_93 (nI_add _ _) rfl ?_
    refine pa_iload (pc' := 96) dX12_send_94 rfl rfl ?_
    refine pa_iconst (v := nI 1) (pc' := 97) dX12_send_96 (by decide) rfl ?_
    refine pa_iadd (pc' := 98) (v := nI (p.2.2 + 1)) dX12_send_97 (nI_add _ _) rfl ?_
    refine pa_iast (pc' := 99) dX12_send_98 q201 rfl (fun _ => ?_)
    rw [nI_clamp (by omega)]
    refine pa_iload_n (pc' := 100) dX12_send_99 rfl rfl ?_
    refine pa_iret dX12_send_100 rfl rfl ?_
    generalize e6 : zsI (zsI (zsI (zsI g5 201 (2 + w) (nI p.2.2)) 201 (7 + w) (nI D)) 201 (12 + b) (nI (D + 1))) 201 (20 + b) (nI (p.2.2 + 1)) = g6
    have at' : ∀ a k, g6.2.1 a k = if a = 201 ∧ k = 20 + b then nI (p.2.2 + 1) else if a = 201 ∧ k = 12 + b then nI (D + 1) else if a = 201 ∧ k = 7 + w then nI D else if a = 201 ∧ k = 2 + w then nI p.2.2 else g5.2.1 a k := fun a k => by
      rw [← e6, zsI_at, zsI_at, zsI_at, zsI_at]
    have out : ∀ a k, a ≠ 201 → g6.2.1 a k = g5.2.1 a k := fun a k w1 => by rw [at', if_neg (fun q => w1 q.1), if_neg (fun q => w1 q.1), if_neg (fun q => w1 q.1), if_neg (fun q => w1 q.1)]
    have F6 : mwF g5 g6 := ⟨by rw [← e6]; rfl, by rw [← e6]; rfl, fun k w1 w2 w3 w4 => out _ _ (by decide), fun a k w1 w2 w3 w4 => out _ _ w2⟩
    have t5 : g5.2.1 196 11 = 0 := (O5 196 11 (by decide) (by omega)).trans ((fg.2.2 196 11 (by decide) (by decide) (by omega)).trans t11)
    refine ⟨F1.G.tr (fg.G.tr (F5.G.tr F6.G)), .inr ⟨w, b, rfl, rfl, hw, hb, .inr ⟨p, e, by rw [eD], (out _ _ (by decide)).trans t5, ?_⟩⟩⟩
    rw [eD]
    obtain ⟨⟨⟨n1, n2, n3, n4⟩, l1⟩, ⟨e20, hl, hh⟩, j1, j2, j3⟩ := L5
    refine ⟨⟨⟨?_, ?_, fun k hk => ⟨?_, ?_⟩, fun k hk => ⟨?_, ?_, fun j hj => ?_⟩⟩, l1⟩, ⟨(out _ _ (by decide)).trans e20, hl, fun k t hk => ⟨nMo.cp b3 b4 (hh k t hk).2 (fun j hj => out _ _ (by decide)) (hh k t hk).1, (hh k t hk).2⟩⟩, (out _ _ (by decide)).trans j1, j2, fun k t hk => ⟨nMo.cp b3 b4 (j3 k t hk).2 (fun j hj => out _ _ (by decide)) (j3 k t hk).1, (j3 k t hk).2⟩⟩
    · rw [at', if_neg (by omega), if_neg (by omega), if_neg (by omega), if_neg (by omega)]
      exact n1
    · rw [at', if_neg (by omega), if_neg (by omega), if_neg (by omega), if_neg (by omega)]
      exact n2
    · rw [at', if_neg (by omega), if_neg (by omega), if_neg (by omega)]
      show _ = nI (if k = w then p.2.2 else s.2.2.1 k)
      by_cases z : k = w
      · rw [if_pos ⟨rfl, by omega⟩, if_pos z]
      · rw [if_neg (by omega), if_neg z]
        exact (n3 k hk).1
    · rw [at', if_neg (by omega), if_neg (by omega)]
      show _ = nI (if k = w then D else s.2.2.2.1 k)
      by_cases z : k = w
      · rw [if_pos ⟨rfl, by omega⟩, if_pos z]
      · rw [if_neg (by omega), if_neg (by omega), if_neg z]
        exact (n3 k hk).2
    · rw [at', if_neg (by omega)]
      show _ = tDy (if k = b then some (D, p.2.2) else s.2.2.2.2.1 k)
      by_cases z : k = b
      · rw [if_pos ⟨rfl, by omega⟩, if_pos z]
        rfl
      · rw [if_neg (by omega), if_neg (by omega), if_neg (by omega), if_neg z]
        exact (n4 k hk).1
    · rw [at']
      show _ = tGo (if k = b then some (D, p.2.2) else s.2.2.2.2.1 k)
      by_cases z : k = b
      · rw [if_pos ⟨rfl, by omega⟩, if_pos z]
        rfl
      · rw [if_neg (by omega), if_neg (by omega), if_neg (by omega), if_neg (by omega), if_neg z]
        exact (n4 k hk).2.1
    · have h6 := l1 k hk
      have hj : j < (s.2.2.2.2.2 k).length := hj
      rw [at', if_neg (by omega), if_neg (by omega), if_neg (by omega), if_neg (by omega)]
      exact (n4 k hk).2.2 j hj
end MSN
/-! years, close: class and reference -/
/-- what years does: the answer, the trouble, what is then -/
def yrO (A : pA) (s : nS) (H J : List nS) (x : Int32) (v : Option zV) (t : Int32) (L : nS → List nS → List nS → Prop) : Prop := (cI A = 0 ∧ v = some (.inl (-1)) ∧ t = 1 ∧ L s H J) ∨ (cI A ≠ 0 ∧ ¬ (1 ≤ x.toInt ∧ x.toInt ≤ 99) ∧ v = some (.inl (-1)) ∧ t = 2 ∧ L s H J) ∨ ∃ n : Nat, cI A ≠ 0 ∧ x = nI n ∧ 1 ≤ n ∧ n ≤ 99 ∧ ((9999 < s.1 + n ∧ v = some (.inl (-1)) ∧ t = 3 ∧ L s H J) ∨ (s.1 + n ≤ 9999 ∧ v = some (.inl (nI (s.1 + n))) ∧ t = 0 ∧ L (s.1 + n, s.2) ((s :: H).take 12) J))
section YRS
variable {d N c w b : Nat} {h g : zH} {A : pA} {s : nS} {H J : List nS} {x y : Int32}
theorem C_years (S : nwS h) (hA : lPA A c h) (hy : s.1 ≤ 9999) (L : lNC A s H J h) : zPa d mX11_years [.inr (.inr (some 0)), .inl x] h (fun v g => nwF h g ∧ yrO A s H J x v (g.2.1 0 2) (fun s H J => lNC A s H J g)) := by
  intro N
  obtain ⟨b1, b2, b3, b4, b5⟩ := hA.1.2.2.1
  have s0 : zsh h 0 = some (11, 16) := zsh_by S.1 (by decide +kernel)
  have s86 : zsh h 86 = some (2, 7) := zsh_by S.1 (by decide +kernel)
  have r6 := S.2.1
  have n1 := L.1.1
  have no : (cI A ≠ 0 ∧ ¬ (1 ≤ x.toInt ∧ x.toInt ≤ 99)) → ∀ N, zPn N none d mX11_years (24, [(0, .inr (.inr (some 0))), (1, .inl x)], [], h) (fun v g => nwF h g ∧ yrO A s H J x v (g.2.1 0 2) (fun s H J => lNC A s H J g)) := fun hr N => by
    refine pa_aload_n (pc' := 25) dX11_years_24 rfl rfl ?_
    refine pa_iconst (v := nI 2) (pc' := 26) dX11_years_25 (by decide) rfl ?_
    refine pa_callv (pc' := 29) (vs := [.inl (nI 2)]) (rest := []) dX11_years_26 ml_11_98 (by decide) rfl rfl rfl (fun d' _ => (c_ref s0)) (fun v g hq => ?_)
    obtain ⟨ev, eh⟩ := hq
    subst ev
    show zPn N none d mX11_years (29, _, [.inl ((-1))], g) _
    subst eh
    refine pa_iret dX11_years_29 rfl rfl ?_
    exact ⟨nwF.t2, .inr (.inl ⟨hr.1, hr.2, rfl, by rw [zsI_at, if_pos ⟨rfl, rfl⟩]; rfl, L.t2⟩)⟩
  show zPn N none d mX11_years (0, [(0, .inr (.inr (some 0))), (1, .inl x)], [], h) _
  refine pa_aload_n (pc' := 1) dX11_years_0 rfl rfl ?_
  refine pa_callv (pc' := 4) (vs := []) (rest := []) dX11_years_1 ml_11_222 (by decide) rfl rfl rfl (fun d' _ => (N_hasPost hA S.1)) (fun v g9 hq => ?_)
  obtain ⟨ev, eh⟩ := hq
  subst ev
  rw [eh]
  show zPn N none d mX11_years (4, _, [.inl (if cI A = 0 then 0 else 1)], h) _
  by_cases z0 : cI A = 0
  case pos =>
    rw [if_pos z0]
    refine pa_if_f (pc' := 7) dX11_years_4 (by decide) (by decide) rfl ?_
    refine pa_aload_n (pc' := 8) dX11_years_7 rfl rfl ?_
    refine pa_iconst (v := nI 1) (pc' := 9) dX11_years_8 (by decide) rfl ?_
    refine pa_callv (pc' := 12) (vs := [.inl (nI 1)]) (rest := []) dX11_years_9 ml_11_98 (by decide) rfl rfl rfl (fun d' _ => (c_ref s0)) (fun v g hq => ?_)
    obtain ⟨ev, eh⟩ := hq
    subst ev
    show zPn N none d mX11_years (12, _, [.inl ((-1))], g) _
    subst eh
    refine pa_iret dX11_years_12 rfl rfl ?_
    exact ⟨nwF.t2, .inl ⟨z0, rfl, by rw [zsI_at, if_pos ⟨rfl, rfl⟩]; rfl, L.t2⟩⟩
  rw [if_neg z0]
  refine pa_if_t (pc' := 13) dX11_years_4 (by decide) (by decide) ?_
  refine pa_iload_n (pc' := 14) dX11_years_13 rfl rfl ?_
  refine pa_iconst (v := nI 1) (pc' := 15) dX11_years_14 (by decide) rfl ?_
  refine pa_icmp (pc' := 24) (pc2 := 18) dX11_years_15 (by decide) rfl (fun z1 => ?_) (fun z1 => ?_)
  · have z1 := zi_lt z1
    rw [nI_toInt (by omega)] at z1
    exact no ⟨z0, by omega⟩ _
  have z1 := zi_nlt z1
  rw [nI_toInt (by omega)] at z1
  refine pa_iload_n (pc' := 19) dX11_years_18 rfl rfl ?_
  refine pa_bipush (v := nI 99) (pc' := 21) dX11_years_19 (by decide) rfl ?_
  refine pa_icmp (pc' := 30) (pc2 := 24) dX11_years_21 (by decide) rfl (fun z2 => ?_) (fun z2 => ?_)
  case refine_2 =>
    have z2 := of_decide_eq_false z2
    rw [Int32.le_iff_toInt_le, nI_toInt (by omega)] at z2
    exact no ⟨z0, by omega⟩ _
  have z2 := Int32.le_iff_toInt_le.mp (of_decide_eq_true z2)
  rw [nI_toInt (by omega)] at z2
  obtain ⟨n, en, hn⟩ : ∃ n : Nat, x = nI n ∧ 1 ≤ n ∧ n ≤ 99 := ⟨x.toInt.toNat, Int32.toInt_inj.mp (by rw [nI_toInt (by omega)]; omega), by omega⟩
  subst en
  clear no
  refine pa_aload_n (pc' := 31) dX11_years_30 rfl rfl ?_
  refine pa_getR (pc' := 34) (n := 16) (r := 86) dX11_years_31 fl_11_42 s0 (by decide) r6 rfl ?_
  refine pa_getI (pc' := 37) (n := 7) (v := nI s.1) dX11_years_34 fl_11_180 s86 (by decide) n1 rfl ?_
  refine pa_iload_n (pc' := 38) dX11_years_37 rfl rfl ?_
  refine pa_iadd (pc' := 39) (v := nI (s.1 + n)) dX11_years_38 (nI_add _ _) rfl ?_
  refine pa_sipush (v := nI 9999) (pc' := 42) dX11_years_39 (by decide) rfl ?_
  by_cases z3 : s.1 + n ≤ 9999
  case neg =>
    refine pa_icmp_f (pc' := 45) dX11_years_42 (decide_eq_false (fun q => by have := Int32.le_iff_toInt_le.mp q; rw [nI_toInt (by omega), nI_toInt (by omega)] at this; omega)) (by decide) rfl ?_
    refine pa_aload_n (pc' := 46) dX11_years_45 rfl rfl ?_
    refine pa_iconst (v := nI 3) (pc' := 47) dX11_years_46 (by decide) rfl ?_
    refine pa_callv (pc' := 50) (vs := [.inl (nI 3)]) (rest := []) dX11_years_47 ml_11_98 (by decide) rfl rfl rfl (fun d' _ => (c_ref s0)) (fun v g hq => ?_)
    obtain ⟨ev, eh⟩ := hq
    subst ev
    show zPn N none d mX11_years (50, _, [.inl ((-1))], g) _
    subst eh
    refine pa_iret dX11_years_50 rfl rfl ?_
    exact ⟨nwF.t2, .inr (.inr ⟨n, z0, rfl, hn.1, hn.2, .inl ⟨by omega, rfl, by rw [zsI_at, if_pos ⟨rfl, rfl⟩]; rfl, L.t2⟩⟩)⟩
  refine pa_icmp_t (pc' := 51) dX11_years_42 (decide_eq_true (Int32.le_iff_toInt_le.mpr (by rw [nI_toInt (by omega), nI_toInt (by omega)]; omega))) (by decide) ?_
  refine pa_aload_n (pc' := 52) dX11_years_51 rfl rfl ?_
  refine pa_callv (pc' := 55) (vs := []) (rest := []) dX11_years_52 ml_11_341 (by decide) rfl rfl rfl (fun d' _ => (N_keep S b3 b4 L)) (fun v g5 hq => ?_)
  obtain ⟨ev, eh⟩ := hq
  subst ev
  show zPn N none d mX11_years (55, _, [], g5) _
  obtain ⟨L5, F5⟩ := eh
  have S5 := S.fr F5.1 F5.2.1
  have q0 : zsh g5 0 = some (11, 16) := zsh_by S5.1 (by decide +kernel)
  have q86 : zsh g5 86 = some (2, 7) := zsh_by S5.1 (by decide +kernel)
  have x6 := S5.2.1
  have m1 := L5.1.1
  refine pa_aload_n (pc' := 56) dX11_years_55 rfl rfl ?_
  refine pa_getR (pc' := 59) (n := 16) (r := 86) dX11_years_56 fl_11_42 q0 (by decide) x6 rfl ?_
  refine pa_dup (pc' := 60) dX11_years_59 rfl rfl ?_
  refine pa_getI (pc' := 63) (n := 7) (v := nI s.1) dX11_years_60 fl_11_180 q86 (by decide) m1 rfl ?_
  refine pa_iload_n (pc' := 64) dX11_years_63 rfl rfl ?_
  refine pa_iadd (pc' := 65) (v := nI (s.1 + n)) dX11_years_64 (nI_add _ _) rfl ?_
  refine pa_putI (pc' := 68) (n := 7) dX11_years_65 fl_11_180 q86 (Or.inl rfl) (Or.inl rfl) rfl ?_
  refine pa_aload_n (pc' := 69) dX11_years_68 rfl rfl ?_
  refine pa_aload_n (pc' := 70) dX11_years_69 rfl rfl ?_
  refine pa_getR (pc' := 73) (n := 16) (r := 86) dX11_years_70 fl_11_42 q0 (by decide) x6 rfl ?_
  refine pa_getI (pc' := 76) (n := 7) (v := nI (s.1 + n)) dX11_years_73 fl_11_180 q86 (by decide) (by rw [zsI_at, if_pos ⟨rfl, rfl⟩]) rfl ?_
  refine pa_callv (pc' := 79) (vs := [.inl (nI (s.1 + n))]) (rest := []) dX11_years_76 ml_11_112 (by decide) rfl rfl rfl (fun d' _ => (c_gra q0)) (fun v g6 hq => ?_)
  obtain ⟨ev, eh⟩ := hq
  subst ev
  show zPn N none d mX11_years (79, _, [.inl (nI (s.1 + n))], g6) _
  subst eh
  refine pa_iret dX11_years_79 rfl rfl ?_
  have at' : ∀ a k, (zsI (zsI g5 86 0 (nI (s.1 + n))) 0 2 0).2.1 a k = if a = 0 ∧ k = 2 then 0 else if a = 86 ∧ k = 0 then nI (s.1 + n) else g5.2.1 a k := fun a k => by
    rw [zsI_at, zsI_at]
  have out : ∀ a k, (a = 0 → k ≠ 2) → (a = 86 → k ≠ 0) → (zsI (zsI g5 86 0 (nI (s.1 + n))) 0 2 0).2.1 a k = g5.2.1 a k := fun a k w1 w2 => by rw [at', if_neg (by omega), if_neg (by omega)]
  obtain ⟨⟨m1, m2, m3, m4⟩, ⟨nw, hn2, e12, e13, hl, hh⟩, j1, j2, j3⟩ := L5
  refine ⟨F5.tr ⟨rfl, rfl, fun k w0 w1 w2 w3 => out _ _ (by omega) (by omega), fun a k w1 w2 w3 => out _ _ (by omega) (by omega)⟩, .inr (.inr ⟨n, z0, rfl, hn.1, hn.2, .inr ⟨z3, rfl, by rw [at', if_pos ⟨rfl, rfl⟩], ⟨?_, (out _ _ (by omega) (by omega)).trans m2, fun k hk => ⟨(out _ _ (by omega) (by omega)).trans (m3 k hk).1, (out _ _ (by omega) (by omega)).trans (m3 k hk).2⟩, fun k hk => ⟨(out _ _ (by omega) (by omega)).trans (m4 k hk).1, (out _ _ (by omega) (by omega)).trans (m4 k hk).2.1, (out _ _ (by omega) (by omega)).trans (m4 k hk).2.2⟩⟩, ⟨nw, hn2, (out _ _ (by omega) (by omega)).trans e12, (out _ _ (by omega) (by omega)).trans e13, hl, fun k t hk => (hh k t hk).fr (fun a j w1 w2 => out _ _ (by omega) (by omega))⟩, (out _ _ (by omega) (by omega)).trans j1, j2, fun k t hk => (j3 k t hk).fr (fun a j w1 w2 => out _ _ (by omega) (by omega))⟩⟩)⟩
  rw [at', if_neg (by omega), if_pos ⟨rfl, rfl⟩]
theorem M_years (S : mwS h) (hA : lPA A c h) (hy : s.1 ≤ 9999) (L : lNM A s H J h) : zPa d mX12_years [.inr (.inr (some 196)), .inl x] h (fun v g => mwF h g ∧ yrO A s H J x v (g.2.1 196 11) (fun s H J => lNM A s H J g)) := by
  intro N
  obtain ⟨b1, b2, b3, b4, b5⟩ := hA.1.2.2.1
  have s196 : zsh h 196 = some (12, 39) := zsh_by S.1 (by decide +kernel)
  generalize eh1 : zsI (zsI h 196 0 0) 196 11 0 = h1
  have F1 : mwF h h1 := by rw [← eh1]; exact mwF.gd
  have t11 : h1.2.1 196 11 = 0 := by rw [← eh1, zsI_at, if_pos ⟨rfl, rfl⟩]
  have L1 : lNM A s H J h1 := L.ch b3 b4 (fun b k w1 w2 w3 => by rw [← eh1, zsI_at, zsI_at, if_neg (by omega), if_neg (by omega)])
  have S1 : mwS h1 := S.fr F1.1 F1.2.1
  have e14 : h1.2.1 196 14 = h.2.1 196 14 := F1.2.2.1 14 (by decide) (by decide) (by decide) (by decide)
  have z196 : zsh h1 196 = some (12, 39) := zsh_by S1.1 (by decide +kernel)
  have z201 : zsh h1 201 = some (14, 76) := zsh_by S1.1 (by decide +kernel)
  have q17 := S1.2.1
  have n1 : h1.2.1 201 0 = nI s.1 := L1.1.1.1
  show zPn N none d mX12_years (0, [(0, .inr (.inr (some 196))), (1, .inl x)], [], h) _
  refine pa_aload_n (pc' := 1) dX12_years_0 rfl rfl ?_
  refine pa_callv (pc' := 4) (vs := []) (rest := []) dX12_years_1 ml_12_167 (by decide) rfl rfl rfl (fun d' _ => (m_good s196)) (fun v g hq => ?_)
  obtain ⟨ev, eh⟩ := hq
  subst ev
  show zPn N none d mX12_years (4, _, [], g) _
  rw [eh1] at eh
  subst eh
  rcases hA.pos with ⟨z0, e14'⟩ | ⟨z0, e14'⟩
  case inl =>
    have e14 := e14.trans e14'
    refine pa_aload_n (pc' := 5) dX12_years_4 rfl rfl ?_
    refine pa_getI (pc' := 8) (n := 39) (v := nI 0) dX12_years_5 fl_12_180 z196 (by decide) e14 rfl ?_
    refine pa_if_f (pc' := 11) dX12_years_8 (by decide) (by decide) rfl ?_
    refine pa_aload_n (pc' := 12) dX12_years_11 rfl rfl ?_
    refine pa_iconst (v := nI 1) (pc' := 13) dX12_years_12 (by decide) rfl ?_
    refine pa_callv (pc' := 16) (vs := [.inl (nI 1)]) (rest := []) dX12_years_13 ml_12_170 (by decide) rfl rfl rfl (fun d' _ => (m_no z196)) (fun v g3 hq => ?_)
    obtain ⟨ev, eh⟩ := hq
    subst ev
    show zPn N none d mX12_years (16, _, [.inl ((-1))], g3) _
    subst eh
    refine pa_iret dX12_years_16 rfl rfl ?_
    exact ⟨F1.tr mwF.t, .inl ⟨z0, rfl, by rw [zsI_at, if_pos ⟨rfl, rfl⟩]; rfl, L1.ch b3 b4 (fun b k w1 w2 w3 => by rw [zsI_at, if_neg (by omega)])⟩⟩
  have e14 := e14.trans e14'
  refine pa_aload_n (pc' := 5) dX12_years_4 rfl rfl ?_
  refine pa_getI (pc' := 8) (n := 39) (v := nI 1) dX12_years_5 fl_12_180 z196 (by decide) e14 rfl ?_
  refine pa_if_t (pc' := 17) dX12_years_8 (by decide) (by decide) ?_
  refine pa_iload_n (pc' := 18) dX12_years_17 rfl rfl ?_
  refine pa_iconst (v := 1) (pc' := 19) dX12_years_18 (by decide) rfl ?_
  refine pa_bipush (v := 99) (pc' := 21) dX12_years_19 (by decide) rfl ?_
  refine pa_calls (pc' := 24) (kd := 1) (vs := [.inl x, .inl 1, .inl 99]) (rest := []) dX12_years_21 ml_12_149 (.inl rfl) rfl rfl rfl (fun d' _ => in_ex2) (fun v g3 hq => ?_)
  obtain ⟨eh, hq⟩ := hq
  subst eh
  have i1 : (1 : Int32).toInt = 1 := by decide
  have i99 : (99 : Int32).toInt = 99 := by decide
  rcases hq with ⟨ev, w1, w2⟩ | ⟨ev, w⟩
  case inr =>
    subst ev
    show zPn N none d mX12_years (24, [(0, .inr (.inr (some 196))), (1, .inl x)], [.inl 0], _) _
    refine pa_if_f (pc' := 27) dX12_years_24 (by decide) (by decide) rfl ?_
    refine pa_aload_n (pc' := 28) dX12_years_27 rfl rfl ?_
    refine pa_iconst (v := nI 2) (pc' := 29) dX12_years_28 (by decide) rfl ?_
    refine pa_callv (pc' := 32) (vs := [.inl (nI 2)]) (rest := []) dX12_years_29 ml_12_170 (by decide) rfl rfl rfl (fun d' _ => (m_no z196)) (fun v g4 hq => ?_)
    obtain ⟨ev, eh⟩ := hq
    subst ev
    show zPn N none d mX12_years (32, _, [.inl ((-1))], g4) _
    subst eh
    refine pa_iret dX12_years_32 rfl rfl ?_
    refine ⟨F1.tr mwF.t, .inr (.inl ⟨z0, fun q => w ⟨Int32.le_iff_toInt_le.mpr (by rw [i1]; exact q.1), Int32.le_iff_toInt_le.mpr (by rw [i99]; exact q.2)⟩, rfl, by rw [zsI_at, if_pos ⟨rfl, rfl⟩]; rfl, L1.ch b3 b4 (fun b k w1 w2 w3 => by rw [zsI_at, if_neg (by omega)])⟩)⟩
  subst ev
  have w1 := Int32.le_iff_toInt_le.mp w1
  have w2 := Int32.le_iff_toInt_le.mp w2
  rw [i1] at w1
  rw [i99] at w2
  obtain ⟨n, en, hn⟩ : ∃ n : Nat, x = nI n ∧ 1 ≤ n ∧ n ≤ 99 := ⟨x.toInt.toNat, Int32.toInt_inj.mp (by rw [nI_toInt (by omega)]; omega), by omega⟩
  subst en
  show zPn N none d mX12_years (24, [(0, .inr (.inr (some 196))), (1, .inl (nI n))], [.inl 1], _) _
  refine pa_if_t (pc' := 33) dX12_years_24 (by decide) (by decide) ?_
  refine pa_aload_n (pc' := 34) dX12_years_33 rfl rfl ?_
  refine pa_getR (pc' := 37) (n := 39) (r := 201) dX12_years_34 fl_12_26 z196 (by decide) q17 rfl ?_
  refine pa_iconst (v := nI 0) (pc' := 38) dX12_years_37 (by decide) rfl ?_
  refine pa_iald (pc' := 39) dX12_years_38 z201 rfl (fun _ => ?_)
  rw [nI_clamp (by omega), n1]
  refine pa_iload_n (pc' := 40) dX12_years_39 rfl rfl ?_
  refine pa_iadd (pc' := 41) (v := nI (s.1 + n)) dX12_years_40 (nI_add _ _) rfl ?_
  refine pa_sipush (v := nI 9999) (pc' := 44) dX12_years_41 (by decide) rfl ?_
  by_cases z3 : s.1 + n ≤ 9999
  case neg =>
    refine pa_icmp_f (pc' := 47) dX12_years_44 (decide_eq_false (fun q => by have := Int32.le_iff_toInt_le.mp q; rw [nI_toInt (by omega), nI_toInt (by omega)] at this; omega)) (by decide) rfl ?_
    refine pa_aload_n (pc' := 48) dX12_years_47 rfl rfl ?_
    refine pa_iconst (v := nI 3) (pc' := 49) dX12_years_48 (by decide) rfl ?_
    refine pa_callv (pc' := 52) (vs := [.inl (nI 3)]) (rest := []) dX12_years_49 ml_12_170 (by decide) rfl rfl rfl (fun d' _ => (m_no z196)) (fun v g4 hq => ?_)
    obtain ⟨ev, eh⟩ := hq
    subst ev
    show zPn N none d mX12_years (52, _, [.inl ((-1))], g4) _
    subst eh
    refine pa_iret dX12_years_52 rfl rfl ?_
    exact ⟨F1.tr mwF.t, .inr (.inr ⟨n, z0, rfl, hn.1, hn.2, .inl ⟨by omega, rfl, by rw [zsI_at, if_pos ⟨rfl, rfl⟩]; rfl, L1.ch b3 b4 (fun b k w1 w2 w3 => by rw [zsI_at, if_neg (by omega)])⟩⟩)⟩
  refine pa_icmp_t (pc' := 53) dX12_years_44 (decide_eq_true (Int32.le_iff_toInt_le.mpr (by rw [nI_toInt (by omega), nI_toInt (by omega)]; omega))) (by decide) ?_
  refine pa_aload_n (pc' := 54) dX12_years_53 rfl rfl ?_
  refine pa_callv (pc' := 57) (vs := []) (rest := []) dX12_years_54 ml_12_424 (by decide) rfl rfl rfl (fun d' _ => (M_note1 S1 b3 b4 L1)) (fun v g5 hq => ?_)
  obtain ⟨ev, eh⟩ := hq
  subst ev
  show zPn N none d mX12_years (57, _, [], g5) _
  obtain ⟨F5, L5, O5⟩ := eh
  have S5 := S1.fr F5.1 F5.2.1
  have q196 : zsh g5 196 = some (12, 39) := zsh_by S5.1 (by decide +kernel)
  have q201 : zsh g5 201 = some (14, 76) := zsh_by S5.1 (by decide +kernel)
  have x17 := S5.2.1
  have m1 : g5.2.1 201 0 = nI s.1 := L5.1.1.1
  refine pa_aload_n (pc' := 58) dX12_years_57 rfl rfl ?_
  refine pa_getR (pc' := 61) (n := 39) (r := 201) dX12_years_58 fl_12_26 q196 (by decide) x17 rfl ?_
  refine pa_iconst (v := nI 0) (pc' := 62) dX12_years_61 (by decide) rfl ?_
  refine pa_dup2 (pc' := 63) dX12_years_62 ⟨rfl, rfl⟩ rfl ?_
  refine pa_iald (pc' := 64) dX12_years_63 q201 rfl (fun _ => ?_)
  rw [nI_clamp (by omega), m1]
  refine pa_iload_n (pc' := 65) dX12_years_64 rfl rfl ?_
  refine pa_iadd (pc' := 66) (v := nI (s.1 + n)) dX12_years_65 (nI_add _ _) rfl ?_
  refine pa_iast (pc' := 67) dX12_years_66 q201 rfl (fun _ => ?_)
  rw [nI_clamp (by omega)]
  have m2 : (zsI g5 201 0 (nI (s.1 + n))).2.1 201 0 = nI (s.1 + n) := by rw [zsI_at, if_pos ⟨rfl, rfl⟩]
  refine pa_aload_n (pc' := 68) dX12_years_67 rfl rfl ?_
  refine pa_getR (pc' := 71) (n := 39) (r := 201) dX12_years_68 fl_12_26 q196 (by decide) x17 rfl ?_
  refine pa_iconst (v := nI 0) (pc' := 72) dX12_years_71 (by decide) rfl ?_
  refine pa_iald (pc' := 73) dX12_years_72 q201 rfl (fun _ => ?_)
  rw [nI_clamp (by omega), m2]
  refine pa_iret dX12_years_73 rfl rfl ?_
  have out : ∀ a k, (a = 201 → k ≠ 0) → (zsI g5 201 0 (nI (s.1 + n))).2.1 a k = g5.2.1 a k := fun a k w1 => by rw [zsI_at, if_neg (by omega)]
  have t5 : g5.2.1 196 11 = 0 := (O5 196 11 (by decide) (by omega)).trans t11
  obtain ⟨⟨⟨m1, m3, m4, m5⟩, l1⟩, ⟨e20, hl, hh⟩, j1, j2, j3⟩ := L5
  refine ⟨F1.tr (F5.tr ⟨rfl, rfl, fun k w1 w2 w3 w4 => out _ _ (by omega), fun a k w1 w2 w3 w4 => out _ _ (by omega)⟩), .inr (.inr ⟨n, z0, rfl, hn.1, hn.2, .inr ⟨z3, rfl, (out _ _ (by omega)).trans t5, ⟨⟨m2, (out _ _ (by omega)).trans m3, fun k hk => ⟨(out _ _ (by omega)).trans (m4 k hk).1, (out _ _ (by omega)).trans (m4 k hk).2⟩, fun k hk => ⟨(out _ _ (by omega)).trans (m5 k hk).1, (out _ _ (by omega)).trans (m5 k hk).2.1, fun j hj => (out _ _ (by omega)).trans ((m5 k hk).2.2 j hj)⟩⟩, l1⟩, ⟨(out _ _ (by omega)).trans e20, hl, fun k t hk => ⟨nMo.cp b3 b4 (hh k t hk).2 (fun j hj => out _ _ (by omega)) (hh k t hk).1, (hh k t hk).2⟩⟩, (out _ _ (by omega)).trans j1, j2, fun k t hk => ⟨nMo.cp b3 b4 (j3 k t hk).2 (fun j hj => out _ _ (by omega)) (j3 k t hk).1, (j3 k t hk).2⟩⟩⟩)⟩
end YRS
/-! close: class and reference -/
def clsS (s : nS) (w : Nat) : nS := (s.1, s.2.1 ^^^ (nI 1 <<< (nI w &&& 31)), s.2.2)
def bI (b : Bool) : Int32 := if b = true then 1 else 0
def clsO (A : pA) (s : nS) (H J : List nS) (x y : Int32) (v : Option zV) (t : Int32) (L : nS → List nS → List nS → Prop) : Prop := (¬ (0 ≤ x.toInt ∧ x.toInt < (cW A : Int)) ∧ v = some (.inl 0) ∧ t = 1 ∧ L s H J) ∨ ∃ w : Nat, x = nI w ∧ w < cW A ∧ ((bI (clB s.2.1 w) = y ∧ v = some (.inl 0) ∧ t = 5 ∧ L s H J) ∨ (bI (clB s.2.1 w) ≠ y ∧ v = some (.inl 1) ∧ t = 0 ∧ L (clsS s w) ((s :: H).take 12) J))
section CLS
variable {d N c w b : Nat} {h g : zH} {A : pA} {s : nS} {H J : List nS} {x y : Int32}
theorem N_isWay (hA : lPA A c h) (h1 : h.1 = hh_487.1) : zPa d mX11_isWay [.inr (.inr (some 0)), .inl x] h (fun v h' => v = some (.inl (if 0 ≤ x.toInt ∧ x.toInt < (cW A : Int) then 1 else 0)) ∧ h' = h) := by
  intro N
  have s0 : zsh h 0 = some (11, 16) := zsh_by h1 (by decide +kernel)
  have sc := hA.sc h1
  have r3 := hA.2.2.1
  have k0 : (0 : Int32).toInt = 0 := by decide
  obtain ⟨b1, b2, b3, b4, b5⟩ := hA.1.2.2.1
  obtain ⟨-, -, e5, e6, e7, -⟩ := hA.2.2.2.1
  have e19 : ¬ (0 ≤ x.toInt ∧ x.toInt < (cW A : Int)) → ∀ N, zPn N none d mX11_isWay (19, [(0, .inr (.inr (some 0))), (1, .inl x)], [], h) (fun v h' => v = some (.inl (if 0 ≤ x.toInt ∧ x.toInt < (cW A : Int) then 1 else 0)) ∧ h' = h) := fun z N => by
    refine pa_iconst (v := 0) (pc' := 20) dX11_isWay_19 (by decide) rfl ?_
    refine pa_iret dX11_isWay_20 rfl rfl ?_
    exact ⟨by rw [if_neg z], rfl⟩
  show zPn N none d mX11_isWay (0, [(0, .inr (.inr (some 0))), (1, .inl x)], [], h) _
  refine pa_iload_n (pc' := 1) dX11_isWay_0 rfl rfl ?_
  refine pa_if (pc' := 19) (pc2 := 4) dX11_isWay_1 (by decide) rfl (fun z => ?_) (fun z => ?_)
  · have z := zi_lt z
    rw [k0] at z
    exact e19 (by omega) _
  · have z := zi_nlt z
    rw [k0] at z
    refine pa_iload_n (pc' := 5) dX11_isWay_4 rfl rfl ?_
    refine pa_aload_n (pc' := 6) dX11_isWay_5 rfl rfl ?_
    refine pa_getR (pc' := 9) (n := 16) (r := c) dX11_isWay_6 fl_11_23 s0 (by decide) r3 rfl ?_
    refine pa_getI (pc' := 12) (n := 15) (v := nI (cW A)) dX11_isWay_9 fl_11_379 sc (by decide) e5 rfl ?_
    refine pa_icmp (pc' := 19) (pc2 := 15) dX11_isWay_12 (by decide) rfl (fun y => ?_) (fun y => ?_)
    · have y := zi_nlt (zk_ge_lt y)
      rw [nI_toInt (by omega)] at y
      exact e19 (by omega) _
    · have y := zi_lt (zk_ge_lt y)
      rw [nI_toInt (by omega)] at y
      refine pa_iconst (v := 1) (pc' := 16) dX11_isWay_15 (by decide) rfl ?_
      refine pa_goto (pc' := 20) dX11_isWay_16 (by decide) ?_
      refine pa_iret dX11_isWay_20 rfl rfl ?_
      exact ⟨by rw [if_pos ⟨by omega, by omega⟩], rfl⟩
theorem C_close (S : nwS h) (hA : lPA A c h) (L : lNC A s H J h) : zPa d mX11_close [.inr (.inr (some 0)), .inl x, .inl y] h (fun v g => nwF h g ∧ clsO A s H J x y v (g.2.1 0 2) (fun s H J => lNC A s H J g)) := by
  intro N
  obtain ⟨b1, b2, b3, b4, b5⟩ := hA.1.2.2.1
  have s0 : zsh h 0 = some (11, 16) := zsh_by S.1 (by decide +kernel)
  have r6 := S.2.1
  have n1 : h.2.1 86 1 = s.2.1 := L.1.2.1
  show zPn N none d mX11_close (0, [(0, .inr (.inr (some 0))), (1, .inl x), (2, .inl y)], [], h) _
  refine pa_aload_n (pc' := 1) dX11_close_0 rfl rfl ?_
  refine pa_iload_n (pc' := 2) dX11_close_1 rfl rfl ?_
  refine pa_callv (pc' := 5) (vs := [.inl x]) (rest := []) dX11_close_2 ml_11_230 (by decide) rfl rfl rfl (fun d' _ => (N_isWay hA S.1)) (fun v g9 hq => ?_)
  obtain ⟨ev, eh⟩ := hq
  subst ev
  rw [eh]
  show zPn N none d mX11_close (5, _, [.inl (if 0 ≤ x.toInt ∧ x.toInt < (cW A:Int) then 1 else 0)], h) _
  by_cases hx : 0 ≤ x.toInt ∧ x.toInt < (cW A : Int)
  case neg =>
    rw [if_neg hx]
    refine pa_if_f (pc' := 8) dX11_close_5 (by decide) (by decide) rfl ?_
    refine pa_aload_n (pc' := 9) dX11_close_8 rfl rfl ?_
    refine pa_iconst (v := nI 1) (pc' := 10) dX11_close_9 (by decide) rfl ?_
    refine pa_callv (pc' := 13) (vs := [.inl (nI 1)]) (rest := []) dX11_close_10 ml_11_347 (by decide) rfl rfl rfl (fun d' _ => (c_hRe s0)) (fun v g hq => ?_)
    obtain ⟨ev, eh⟩ := hq
    subst ev
    show zPn N none d mX11_close (13, _, [.inl 0], g) _
    subst eh
    refine pa_iret dX11_close_13 rfl rfl ?_
    exact ⟨nwF.t2, .inl ⟨hx, rfl, by rw [zsI_at, if_pos ⟨rfl, rfl⟩]; rfl, L.t2⟩⟩
  rw [if_pos hx]
  refine pa_if_t (pc' := 14) dX11_close_5 (by decide) (by decide) ?_
  obtain ⟨w, ew, hw⟩ : ∃ w : Nat, x = nI w ∧ w < cW A := ⟨x.toInt.toNat, Int32.toInt_inj.mp (by rw [nI_toInt (by omega)]; omega), by omega⟩
  subst ew
  refine pa_aload_n (pc' := 15) dX11_close_14 rfl rfl ?_
  refine pa_getR (pc' := 18) (n := 16) (r := 86) dX11_close_15 fl_11_42 s0 (by decide) r6 rfl ?_
  refine pa_iload_n (pc' := 19) dX11_close_18 rfl rfl ?_
  refine pa_callv (pc' := 22) (vs := [.inl (nI w)]) (rest := []) dX11_close_19 ml_11_210 (by decide) rfl rfl rfl (fun d' _ => (N_isClosed S.1 n1)) (fun v g9 hq => ?_)
  obtain ⟨ev, eh⟩ := hq
  subst ev
  rw [eh]
  show zPn N none d mX11_close (22, _, [.inl (if clB s.2.1 w = true then 1 else 0)], h) _
  refine pa_iload_n (pc' := 23) dX11_close_22 rfl rfl ?_
  by_cases hy : bI (clB s.2.1 w) = y
  case pos =>
    refine pa_icmp_f (pc' := 26) dX11_close_23 (decide_eq_false (not_not_intro hy)) (by decide) rfl ?_
    refine pa_aload_n (pc' := 27) dX11_close_26 rfl rfl ?_
    refine pa_iconst (v := nI 5) (pc' := 28) dX11_close_27 (by decide) rfl ?_
    refine pa_callv (pc' := 31) (vs := [.inl (nI 5)]) (rest := []) dX11_close_28 ml_11_347 (by decide) rfl rfl rfl (fun d' _ => (c_hRe s0)) (fun v g hq => ?_)
    obtain ⟨ev, eh⟩ := hq
    subst ev
    show zPn N none d mX11_close (31, _, [.inl 0], g) _
    subst eh
    refine pa_iret dX11_close_31 rfl rfl ?_
    exact ⟨nwF.t2, .inr ⟨w, rfl, hw, .inl ⟨hy, rfl, by rw [zsI_at, if_pos ⟨rfl, rfl⟩]; rfl, L.t2⟩⟩⟩
  refine pa_icmp_t (pc' := 32) dX11_close_23 (decide_eq_true hy) (by decide) ?_
  refine pa_aload_n (pc' := 33) dX11_close_32 rfl rfl ?_
  refine pa_callv (pc' := 36) (vs := []) (rest := []) dX11_close_33 ml_11_341 (by decide) rfl rfl rfl (fun d' _ => (N_keep S b3 b4 L)) (fun v g5 hq => ?_)
  obtain ⟨ev, eh⟩ := hq
  subst ev
  show zPn N none d mX11_close (36, _, [], g5) _
  obtain ⟨L5, F5⟩ := eh
  have S5 := S.fr F5.1 F5.2.1
  have q0 : zsh g5 0 = some (11, 16) := zsh_by S5.1 (by decide +kernel)
  have q86 : zsh g5 86 = some (2, 7) := zsh_by S5.1 (by decide +kernel)
  have x6 := S5.2.1
  have m1 := L5.1.2.1
  refine pa_aload_n (pc' := 37) dX11_close_36 rfl rfl ?_
  refine pa_getR (pc' := 40) (n := 16) (r := 86) dX11_close_37 fl_11_42 q0 (by decide) x6 rfl ?_
  refine pa_dup (pc' := 41) dX11_close_40 rfl rfl ?_
  refine pa_getI (pc' := 44) (n := 7) (v := s.2.1) dX11_close_41 fl_11_322 q86 (by decide) m1 rfl ?_
  refine pa_iconst (v := nI 1) (pc' := 45) dX11_close_44 (by decide) rfl ?_
  refine pa_iload_n (pc' := 46) dX11_close_45 rfl rfl ?_
  refine pa_ishl (pc' := 47) dX11_close_46 rfl rfl ?_
  refine pa_ixor (pc' := 48) dX11_close_47 rfl rfl ?_
  refine pa_putI (pc' := 51) (n := 7) dX11_close_48 fl_11_322 q86 (Or.inl rfl) (Or.inl rfl) rfl ?_
  refine pa_aload_n (pc' := 52) dX11_close_51 rfl rfl ?_
  refine pa_callv (pc' := 55) (vs := []) (rest := []) dX11_close_52 ml_11_356 (by decide) rfl rfl rfl (fun d' _ => (c_hGr q0)) (fun v g6 hq => ?_)
  obtain ⟨ev, eh⟩ := hq
  subst ev
  show zPn N none d mX11_close (55, _, [.inl 1], g6) _
  subst eh
  refine pa_iret dX11_close_55 rfl rfl ?_
  have at' : ∀ a k, (zsI (zsI g5 86 1 (s.2.1 ^^^ (nI 1 <<< (nI w &&& 31)))) 0 2 0).2.1 a k = if a = 0 ∧ k = 2 then 0 else if a = 86 ∧ k = 1 then s.2.1 ^^^ (nI 1 <<< (nI w &&& 31)) else g5.2.1 a k := fun a k => by
    rw [zsI_at, zsI_at]
  have out : ∀ a k, (a = 0 → k ≠ 2) → (a = 86 → k ≠ 1) → (zsI (zsI g5 86 1 (s.2.1 ^^^ (nI 1 <<< (nI w &&& 31)))) 0 2 0).2.1 a k = g5.2.1 a k := fun a k w1 w2 => by rw [at', if_neg (by omega), if_neg (by omega)]
  obtain ⟨⟨m1, m2, m3, m4⟩, ⟨nw, hn2, e12, e13, hl, hh⟩, j1, j2, j3⟩ := L5
  refine ⟨F5.tr ⟨rfl, rfl, fun k w0 w1 w2 w3 => out _ _ (by omega) (by omega), fun a k w1 w2 w3 => out _ _ (by omega) (by omega)⟩, .inr ⟨w, rfl, hw, .inr ⟨hy, rfl, by rw [at', if_pos ⟨rfl, rfl⟩], ⟨(out _ _ (by omega) (by omega)).trans m1, ?_, fun k hk => ⟨(out _ _ (by omega) (by omega)).trans (m3 k hk).1, (out _ _ (by omega) (by omega)).trans (m3 k hk).2⟩, fun k hk => ⟨(out _ _ (by omega) (by omega)).trans (m4 k hk).1, (out _ _ (by omega) (by omega)).trans (m4 k hk).2.1, (out _ _ (by omega) (by omega)).trans (m4 k hk).2.2⟩⟩, ⟨nw, hn2, (out _ _ (by omega) (by omega)).trans e12, (out _ _ (by omega) (by omega)).trans e13, hl, fun k t hk => (hh k t hk).fr (fun a j w1 w2 => out _ _ (by omega) (by omega))⟩, (out _ _ (by omega) (by omega)).trans j1, j2, fun k t hk => (j3 k t hk).fr (fun a j w1 w2 => out _ _ (by omega) (by omega))⟩⟩⟩
  rw [at', if_neg (by omega), if_pos ⟨rfl, rfl⟩]
  rfl
theorem M_close (S : mwS h) (hA : lPA A c h) (r15 : h.2.2.2.1 196 15 = some 199) (B : cI A ≠ 0 → bgM A s h) (L : lNM A s H J h) : zPa d mX12_close [.inr (.inr (some 196)), .inl x, .inl y] h (fun v g => mwF h g ∧ clsO A s H J x y v (g.2.1 196 11) (fun s H J => lNM A s H J g)) := by
  intro N
  obtain ⟨b1, b2, b3, b4, b5⟩ := hA.1.2.2.1
  have s196 : zsh h 196 = some (12, 39) := zsh_by S.1 (by decide +kernel)
  generalize eh1 : zsI (zsI h 196 0 0) 196 11 0 = h1
  have F1 : mwF h h1 := by rw [← eh1]; exact mwF.gd
  have t11 : h1.2.1 196 11 = 0 := by rw [← eh1, zsI_at, if_pos ⟨rfl, rfl⟩]
  have L1 : lNM A s H J h1 := L.ch b3 b4 (fun b k w1 w2 w3 => by rw [← eh1, zsI_at, zsI_at, if_neg (by omega), if_neg (by omega)])
  have S1 : mwS h1 := S.fr F1.1 F1.2.1
  have e14 : h1.2.1 196 14 = h.2.1 196 14 := F1.2.2.1 14 (by decide) (by decide) (by decide) (by decide)
  have z196 : zsh h1 196 = some (12, 39) := zsh_by S1.1 (by decide +kernel)
  have z199 : zsh h1 199 = some (14, 363) := zsh_by S1.1 (by decide +kernel)
  have q15 : h1.2.2.2.1 196 15 = some 199 := by rw [F1.2.1]; exact r15
  have ref : ¬ (0 ≤ x.toInt ∧ x.toInt < (cW A : Int)) → ∀ N, zPn N none d mX12_close (27, [(0, .inr (.inr (some 196))), (1, .inl x), (2, .inl y)], [], h1) (fun v g => mwF h g ∧ clsO A s H J x y v (g.2.1 196 11) (fun s H J => lNM A s H J g)) := fun hx N => by
    refine pa_aload_n (pc' := 28) dX12_close_27 rfl rfl ?_
    refine pa_iconst (v := nI 1) (pc' := 29) dX12_close_28 (by decide) rfl ?_
    refine pa_callv (pc' := 32) (vs := [.inl (nI 1)]) (rest := []) dX12_close_29 ml_12_427 (by decide) rfl rfl rfl (fun d' _ => (m_isN z196)) (fun v g3 hq => ?_)
    obtain ⟨ev, eh⟩ := hq
    subst ev
    show zPn N none d mX12_close (32, _, [.inl 0], g3) _
    subst eh
    refine pa_iret dX12_close_32 rfl rfl ?_
    exact ⟨F1.tr mwF.t, .inl ⟨hx, rfl, by rw [zsI_at, if_pos ⟨rfl, rfl⟩]; rfl, L1.ch b3 b4 (fun b k w1 w2 w3 => by rw [zsI_at, if_neg (by omega)])⟩⟩
  show zPn N none d mX12_close (0, [(0, .inr (.inr (some 196))), (1, .inl x), (2, .inl y)], [], h) _
  refine pa_aload_n (pc' := 1) dX12_close_0 rfl rfl ?_
  refine pa_callv (pc' := 4) (vs := []) (rest := []) dX12_close_1 ml_12_167 (by decide) rfl rfl rfl (fun d' _ => (m_good s196)) (fun v g hq => ?_)
  obtain ⟨ev, eh⟩ := hq
  subst ev
  show zPn N none d mX12_close (4, _, [], g) _
  rw [eh1] at eh
  subst eh
  rcases hA.2.2.2.2 with ⟨e14', eA⟩ | ⟨e14', z0, K⟩
  case inl =>
    have e14 := e14.trans e14'
    refine pa_aload_n (pc' := 5) dX12_close_4 rfl rfl ?_
    refine pa_getI (pc' := 8) (n := 39) (v := 0) dX12_close_5 fl_12_180 z196 (by decide) e14 rfl ?_
    refine pa_if_t (pc' := 27) dX12_close_8 (by decide) (by decide) ?_
    refine ref (fun z => ?_) _
    rw [eA] at z
    have : (cW pA0 : Int) = 0 := rfl
    omega
  have B := B z0
  have e14 := e14.trans e14'
  have k5 : g.2.1 199 5 = nI (cW A) := (F1.2.2.2 199 5 (by decide) (by decide) (by decide) (by decide)).trans K.2.2.2.1
  refine pa_aload_n (pc' := 5) dX12_close_4 rfl rfl ?_
  refine pa_getI (pc' := 8) (n := 39) (v := 1) dX12_close_5 fl_12_180 z196 (by decide) e14 rfl ?_
  refine pa_if_f (pc' := 11) dX12_close_8 (by decide) (by decide) rfl ?_
  refine pa_iload_n (pc' := 12) dX12_close_11 rfl rfl ?_
  refine pa_iconst (v := 0) (pc' := 13) dX12_close_12 (by decide) rfl ?_
  refine pa_aload_n (pc' := 14) dX12_close_13 rfl rfl ?_
  refine pa_getR (pc' := 17) (n := 39) (r := 199) dX12_close_14 fl_12_20 z196 (by decide) q15 rfl ?_
  refine pa_iconst (v := nI 5) (pc' := 18) dX12_close_17 (by decide) rfl ?_
  refine pa_iald (pc' := 19) dX12_close_18 z199 rfl (fun _ => ?_)
  rw [nI_clamp (by omega), k5]
  refine pa_iconst (v := 1) (pc' := 20) dX12_close_19 (by decide) rfl ?_
  refine pa_isub (pc' := 21) dX12_close_20 rfl rfl ?_
  refine pa_calls (pc' := 24) (kd := 1) (vs := [.inl x, .inl 0, .inl (nI (cW A) - 1)]) (rest := []) dX12_close_21 ml_12_149 (.inl rfl) rfl rfl rfl (fun d' _ => zPa.of in_ex) (fun r h2 hq => ?_)
  obtain ⟨r, er, eh, hq⟩ := hq
  subst er; subst eh
  have e : (nI (cW A) - 1).toInt = (cW A : Int) - 1 := by
    rw [Int32.toInt_sub, nI_toInt (by omega)]
    exact bmod_fit (by have : (1 : Int32).toInt = 1 := by decide
                       omega) (by have : (1 : Int32).toInt = 1 := by decide
                                  omega)
  rw [e] at hq
  show zPn N none d mX12_close (24, [(0, .inr (.inr (some 196))), (1, .inl x), (2, .inl y)], [.inl r], _) _
  rcases hq with ⟨er, hx⟩ | ⟨er, hx⟩
  case inr =>
    subst er
    refine pa_if_f (pc' := 27) dX12_close_24 (by decide) (by decide) rfl ?_
    exact ref (by omega) _
  subst er
  refine pa_if_t (pc' := 33) dX12_close_24 (by decide) (by decide) ?_
  obtain ⟨w, ew, hw⟩ : ∃ w : Nat, x = nI w ∧ w < cW A := ⟨x.toInt.toNat, Int32.toInt_inj.mp (by rw [nI_toInt (by omega)]; omega), by omega⟩
  subst ew
  clear ref
  have K1 : seM (cI A) (cW A) (wa A) (wb A) (dyA A) (opA A) s.2.1 h2 := by
    obtain ⟨k1, k2, k3, k4, ⟨k5, k6, k7⟩, k8⟩ := B.2.1
    have e : ∀ a k, (a = 199 ∨ a = 201) → h2.2.1 a k = h.2.1 a k := fun a k ha => by rw [← eh1, zsI_at, zsI_at, if_neg (by omega), if_neg (by omega)]
    refine ⟨F1.1.trans k1, k2, k3, by rw [F1.2.1]; exact k4, ⟨(e _ _ (.inl rfl)).trans k5, (e _ _ (.inl rfl)).trans k6, (e _ _ (.inr rfl)).trans k7⟩, fun k hk => ?_⟩
    rw [e _ _ (.inl rfl), e _ _ (.inl rfl), e _ _ (.inl rfl), e _ _ (.inl rfl)]
    exact k8 k hk
  refine pa_aload_n (pc' := 34) dX12_close_33 rfl rfl ?_
  refine pa_iload_n (pc' := 35) dX12_close_34 rfl rfl ?_
  refine pa_callv (pc' := 38) (vs := [.inl (nI w)]) (rest := []) dX12_close_35 ml_12_302 (by decide) rfl rfl rfl (fun d' _ => (M_isClosed K1)) (fun v g9 hq => ?_)
  obtain ⟨ev, eh⟩ := hq
  subst ev
  rw [eh]
  show zPn N none d mX12_close (38, _, [.inl (if clB s.2.1 w = true then 1 else 0)], h2) _
  refine pa_iload_n (pc' := 39) dX12_close_38 rfl rfl ?_
  by_cases hy : bI (clB s.2.1 w) = y
  case pos =>
    refine pa_icmp_f (pc' := 42) dX12_close_39 (decide_eq_false (not_not_intro hy)) (by decide) rfl ?_
    refine pa_aload_n (pc' := 43) dX12_close_42 rfl rfl ?_
    refine pa_iconst (v := nI 5) (pc' := 44) dX12_close_43 (by decide) rfl ?_
    refine pa_callv (pc' := 47) (vs := [.inl (nI 5)]) (rest := []) dX12_close_44 ml_12_427 (by decide) rfl rfl rfl (fun d' _ => (m_isN z196)) (fun v g3 hq => ?_)
    obtain ⟨ev, eh⟩ := hq
    subst ev
    show zPn N none d mX12_close (47, _, [.inl 0], g3) _
    subst eh
    refine pa_iret dX12_close_47 rfl rfl ?_
    exact ⟨F1.tr mwF.t, .inr ⟨w, rfl, hw, .inl ⟨hy, rfl, by rw [zsI_at, if_pos ⟨rfl, rfl⟩]; rfl, L1.ch b3 b4 (fun b k w1 w2 w3 => by rw [zsI_at, if_neg (by omega)])⟩⟩⟩
  refine pa_icmp_t (pc' := 48) dX12_close_39 (decide_eq_true hy) (by decide) ?_
  refine pa_aload_n (pc' := 49) dX12_close_48 rfl rfl ?_
  refine pa_callv (pc' := 52) (vs := []) (rest := []) dX12_close_49 ml_12_424 (by decide) rfl rfl rfl (fun d' _ => (M_note1 S1 b3 b4 L1)) (fun v g5 hq => ?_)
  obtain ⟨ev, eh⟩ := hq
  subst ev
  show zPn N none d mX12_close (52, _, [], g5) _
  obtain ⟨F5, L5, O5⟩ := eh
  have S5 := S1.fr F5.1 F5.2.1
  have q196 : zsh g5 196 = some (12, 39) := zsh_by S5.1 (by decide +kernel)
  have q201 : zsh g5 201 = some (14, 76) := zsh_by S5.1 (by decide +kernel)
  have x17 := S5.2.1
  have m1 : g5.2.1 201 1 = s.2.1 := L5.1.1.2.1
  refine pa_aload_n (pc' := 53) dX12_close_52 rfl rfl ?_
  refine pa_getR (pc' := 56) (n := 39) (r := 201) dX12_close_53 fl_12_26 q196 (by decide) x17 rfl ?_
  refine pa_iconst (v := nI 1) (pc' := 57) dX12_close_56 (by decide) rfl ?_
  refine pa_dup2 (pc' := 58) dX12_close_57 ⟨rfl, rfl⟩ rfl ?_
  refine pa_iald (pc' := 59) dX12_close_58 q201 rfl (fun _ => ?_)
  rw [nI_clamp (by omega), m1]
  refine pa_iconst (v := nI 1) (pc' := 60) dX12_close_59 (by decide) rfl ?_
  refine pa_iload_n (pc' := 61) dX12_close_60 rfl rfl ?_
  refine pa_ishl (pc' := 62) dX12_close_61 rfl rfl ?_
  refine pa_ixor (pc' := 63) dX12_close_62 rfl rfl ?_
  refine pa_iast (pc' := 64) dX12_close_63 q201 rfl (fun _ => ?_)
  rw [nI_clamp (by omega)]
  refine pa_iconst (v := 1) (pc' := 65) dX12_close_64 (by decide) rfl ?_
  refine pa_iret dX12_close_65 rfl rfl ?_
  have out : ∀ a k, (a = 201 → k ≠ 1) → (zsI g5 201 1 (s.2.1 ^^^ (nI 1 <<< (nI w &&& 31)))).2.1 a k = g5.2.1 a k := fun a k w1 => by rw [zsI_at, if_neg (by omega)]
  have t5 : g5.2.1 196 11 = 0 := (O5 196 11 (by decide) (by omega)).trans t11
  obtain ⟨⟨⟨m1, m3, m4, m5⟩, l1⟩, ⟨e20, hl, hh⟩, j1, j2, j3⟩ := L5
  refine ⟨F1.tr (F5.tr ⟨rfl, rfl, fun k w1 w2 w3 w4 => out _ _ (by omega), fun a k w1 w2 w3 w4 => out _ _ (by omega)⟩), .inr ⟨w, rfl, hw, .inr ⟨hy, rfl, (out _ _ (by omega)).trans t5, ⟨⟨(out _ _ (by omega)).trans m1, ?_, fun k hk => ⟨(out _ _ (by omega)).trans (m4 k hk).1, (out _ _ (by omega)).trans (m4 k hk).2⟩, fun k hk => ⟨(out _ _ (by omega)).trans (m5 k hk).1, (out _ _ (by omega)).trans (m5 k hk).2.1, fun j hj => (out _ _ (by omega)).trans ((m5 k hk).2.2 j hj)⟩⟩, l1⟩, ⟨(out _ _ (by omega)).trans e20, hl, fun k t hk => ⟨nMo.cp b3 b4 (hh k t hk).2 (fun j hj => out _ _ (by omega)) (hh k t hk).1, (hh k t hk).2⟩⟩, (out _ _ (by omega)).trans j1, j2, fun k t hk => ⟨nMo.cp b3 b4 (j3 k t hk).2 (fun j hj => out _ _ (by omega)) (j3 k t hk).1, (j3 k t hk).2⟩⟩⟩⟩
  rw [zsI_at, if_pos ⟨rfl, rfl⟩]
  rfl
end CLS
end Pk1
section Pk2
/-! tune: a note of a song is set -/
theorem wN_1 : ∀ j, j < 6 → ∀ n, n < 4 → ((nI 3 <<< (nI (2 * j) &&& 31)) ^^^ (-1)).toBitVec.toNat = 4294967295 - 3 * 4 ^ j ∧ (nI n <<< (nI (2 * j) &&& 31)).toBitVec.toNat = n * 4 ^ j := by decide +kernel
theorem wN_2a : ∀ j, j < 6 → ∀ a, a < 64 → ∀ b, b < 64 → (64 * a + b) &&& (4294967295 - 3 * 4 ^ j) = (64 * a + b) / 4 ^ (j + 1) * 4 ^ (j + 1) + (64 * a + b) % 4 ^ j := by decide +kernel
theorem wN_2 : ∀ j, j < 6 → ∀ n, n < 4 → ∀ v, v < 4096 → (v &&& (4294967295 - 3 * 4 ^ j)) ||| (n * 4 ^ j) = v / 4 ^ (j + 1) * 4 ^ (j + 1) + n * 4 ^ j + v % 4 ^ j := fun j hj n hn v hv => by
  have e := wN_2a j hj (v / 64) (by omega) (v % 64) (Nat.mod_lt _ (by decide))
  rw [Nat.div_add_mod] at e
  have p : 0 < 4 ^ j := Nat.pow_pos (by decide)
  have lo : v % 4 ^ j < 4 ^ j := Nat.mod_lt _ p
  have e4 : ∀ i, 4 ^ i = 2 ^ (2 * i) := fun i => by rw [Nat.pow_mul]
  have m : n * 4 ^ j + v % 4 ^ j < 4 ^ (j + 1) := by
    have : n * 4 ^ j ≤ 3 * 4 ^ j := Nat.mul_le_mul_right _ (by omega)
    rw [Nat.pow_succ]
    omega
  have x1 := Nat.two_pow_add_eq_or_of_lt (i := 2 * (j + 1)) (b := v % 4 ^ j) (by rw [← e4, Nat.pow_succ]; omega) (v / 4 ^ (j + 1))
  have x2 := Nat.two_pow_add_eq_or_of_lt (i := 2 * (j + 1)) (b := n * 4 ^ j + v % 4 ^ j) (by rw [← e4]; exact m) (v / 4 ^ (j + 1))
  have x3 := Nat.two_pow_add_eq_or_of_lt (i := 2 * j) (b := v % 4 ^ j) (by rw [← e4]; exact lo) n
  rw [← e4] at x1 x2 x3
  rw [e, Nat.mul_comm (v / 4 ^ (j + 1)) (4 ^ (j + 1)), x1, Nat.or_assoc, Nat.or_comm (v % 4 ^ j), Nat.mul_comm n (4 ^ j), ← x3, Nat.mul_comm (4 ^ j) n, ← x2, Nat.add_assoc]
theorem wN {j n v : Nat} (hj : j < 6) (hn : n < 4) (hv : v < 4096) : (nI v &&& ((nI 3 <<< (nI (2 * j) &&& 31)) ^^^ (-1))) ||| (nI n <<< (nI (2 * j) &&& 31)) = nI (v / 4 ^ (j + 1) * 4 ^ (j + 1) + n * 4 ^ j + v % 4 ^ j) := by
  obtain ⟨e1, e2⟩ := wN_1 j hj n hn
  have l1 := Nat.div_mul_le_self v (4 ^ (j + 1))
  have l2 := Nat.mod_le v (4 ^ j)
  have l3 : 4 ^ j ≤ 4 ^ 5 := Nat.pow_le_pow_right (by decide) (by omega)
  have l4 : n * 4 ^ j ≤ 3 * 4 ^ 5 := Nat.mul_le_mul (by omega) l3
  refine Int32.toBitVec_inj.mp (BitVec.eq_of_toNat_eq ?_)
  have hm : (nI v).toBitVec.toNat = v := by rw [nI_bv, BitVec.toNat_ofNat]; exact Nat.mod_eq_of_lt (by omega)
  have hr : (nI (v / 4 ^ (j + 1) * 4 ^ (j + 1) + n * 4 ^ j + v % 4 ^ j)).toBitVec.toNat = v / 4 ^ (j + 1) * 4 ^ (j + 1) + n * 4 ^ j + v % 4 ^ j := by rw [nI_bv, BitVec.toNat_ofNat]; exact Nat.mod_eq_of_lt (by omega)
  rw [Int32.toBitVec_or, BitVec.toNat_or, Int32.toBitVec_and, BitVec.toNat_and, e1, e2, hm, hr]
  exact wN_2 j hj n hn v hv
theorem fo_add : ∀ (w : List Int32) (v : Nat), w.all isNt = true → w.foldl (fun v b => 4 * v + (b.toInt.toNat - 97)) v = v * 4 ^ w.length + w.foldl (fun v b => 4 * v + (b.toInt.toNat - 97)) 0
  | [], v, _ => by
    show v = v * 1 + 0
    omega
  | b :: w, v, h => by
    simp only [List.all_cons, Bool.and_eq_true] at h
    show w.foldl _ (4 * v + (b.toInt.toNat - 97)) = v * 4 ^ (w.length + 1) + w.foldl _ (4 * 0 + (b.toInt.toNat - 97))
    rw [fo_add w (4 * v + (b.toInt.toNat - 97)) h.2, fo_add w (4 * 0 + (b.toInt.toNat - 97)) h.2, Nat.pow_succ, Nat.add_mul, Nat.add_mul, Nat.mul_comm (4 ^ w.length) 4, ← Nat.mul_assoc v 4, Nat.mul_comm v 4]
    omega
theorem fo_set {c : Int32} (hc : isNt c = true) : ∀ (w : List Int32) (v k : Nat), w.all isNt = true → k < w.length → (w.set k c).foldl (fun v b => 4 * v + (b.toInt.toNat - 97)) v = w.foldl (fun v b => 4 * v + (b.toInt.toNat - 97)) v / 4 ^ (w.length - 1 - k + 1) * 4 ^ (w.length - 1 - k + 1) + (c.toInt.toNat - 97) * 4 ^ (w.length - 1 - k) + w.foldl (fun v b => 4 * v + (b.toInt.toNat - 97)) v % 4 ^ (w.length - 1 - k)
  | [], _, _, _, h => absurd h (Nat.not_lt_zero _)
  | b :: w, v, 0, h, _ => by
    simp only [List.all_cons, Bool.and_eq_true] at h
    have r := isNt_rg h.1
    have lt : w.foldl (fun v b => 4 * v + (b.toInt.toNat - 97)) 0 < 4 ^ (0 + w.length) := cnS_lt w 0 0 h.2 (by decide)
    rw [Nat.zero_add] at lt
    show w.foldl _ (4 * v + (c.toInt.toNat - 97)) = w.foldl _ (4 * v + (b.toInt.toNat - 97)) / 4 ^ (w.length + 1) * 4 ^ (w.length + 1) + (c.toInt.toNat - 97) * 4 ^ w.length + w.foldl _ (4 * v + (b.toInt.toNat - 97)) % 4 ^ w.length
    have e1 : w.foldl (fun v b => 4 * v + (b.toInt.toNat - 97)) (4 * v + (b.toInt.toNat - 97)) / 4 ^ (w.length + 1) = v := by
      rw [Nat.pow_succ, ← Nat.div_div_eq_div_mul, cnS_dv w _ h.2]
      omega
    have e2 : w.foldl (fun v b => 4 * v + (b.toInt.toNat - 97)) (4 * v + (b.toInt.toNat - 97)) % 4 ^ w.length = w.foldl (fun v b => 4 * v + (b.toInt.toNat - 97)) 0 := by
      rw [fo_add w _ h.2, Nat.mul_comm, Nat.mul_add_mod, Nat.mod_eq_of_lt lt]
    rw [e1, e2, fo_add w _ h.2, Nat.pow_succ, Nat.add_mul, Nat.mul_comm (4 ^ w.length) 4, ← Nat.mul_assoc v 4, Nat.mul_comm v 4]
  | b :: w, v, k + 1, h, hk => by
    simp only [List.all_cons, Bool.and_eq_true] at h
    have hk : k + 1 < w.length + 1 := hk
    have := fo_set hc w (4 * v + (b.toInt.toNat - 97)) k h.2 (by omega)
    show (w.set k c).foldl _ (4 * v + (b.toInt.toNat - 97)) = w.foldl _ (4 * v + (b.toInt.toNat - 97)) / 4 ^ (w.length + 1 - 1 - (k + 1) + 1) * 4 ^ (w.length + 1 - 1 - (k + 1) + 1) + (c.toInt.toNat - 97) * 4 ^ (w.length + 1 - 1 - (k + 1)) + w.foldl _ (4 * v + (b.toInt.toNat - 97)) % 4 ^ (w.length + 1 - 1 - (k + 1))
    rw [show w.length + 1 - 1 - (k + 1) = w.length - 1 - k by omega]
    exact this
def tnL (w : List Int32) (k n : Nat) : List Int32 := w.set k (nI (97 + n))
section TUN
variable {d N c k n nt : Nat} {h g : zH} {w : List Int32}
theorem tnL_ok (h4 : nt ≤ 4) (hn : n < nt) (hw : okN nt w) : okN nt (tnL w k n) := fun b hb => by
  rcases List.mem_or_eq_of_mem_set hb with z | z
  · exact hw b z
  · rw [z, nI_toInt (by omega)]
    omega
theorem tnL_len : (tnL w k n).length = w.length := List.length_set
theorem tnL_code (h4 : nt ≤ 4) (hn : n < nt) (hw : okN nt w) (hl : w.length ≤ 6) (hk : k < w.length) : (codeS w &&& ((nI 3 <<< (nI (2 * (w.length - 1 - k)) &&& 31)) ^^^ (-1))) ||| (nI n <<< (nI (2 * (w.length - 1 - k)) &&& 31)) = codeS (tnL w k n) := by
  have a1 := hw.nt h4
  have a2 := (tnL_ok (k := k) h4 hn hw).nt h4
  obtain ⟨c1, c2⟩ := cnS_b a1 hl
  obtain ⟨c3, -⟩ := cnS_b a2 (by rw [tnL_len]; exact hl)
  rw [c1, c3, wN (by omega) (by omega) c2]
  congr 1
  have hc : isNt (nI (97 + n)) = true := by
    unfold isNt
    simp only [Bool.and_eq_true, decide_eq_true_eq, Int32.le_iff_toInt_le, show (97 : Int32).toInt = 97 by decide, show (100 : Int32).toInt = 100 by decide, nI_toInt (show 97 + n < 2147483648 by omega)]
    omega
  have := fo_set hc w 0 k a1 hk
  rw [nI_toInt (by omega)] at this
  have e : ((97 + n : Nat) : Int).toNat - 97 = n := by omega
  rw [e] at this
  exact this.symm
/-- the code stays the same where the note was that -/
theorem tnL_eq (h4 : nt ≤ 4) (hn : n < nt) (hw : okN nt w) (hl : w.length ≤ 6) (hk : k < w.length) : codeS (tnL w k n) = codeS w ↔ dg (w.getD k 0) = n := by
  have a1 := hw.nt h4
  have w2 := tnL_ok (k := k) h4 hn hw
  have a2 := w2.nt h4
  obtain ⟨c1, c2⟩ := cnS_b a1 hl
  obtain ⟨c3, c4⟩ := cnS_b a2 (by rw [tnL_len]; exact hl)
  have gd : (tnL w k n).getD k 0 = nI (97 + n) := by
    unfold tnL
    rw [List.getD_eq_getElem?_getD, List.getElem?_set_self hk]
    rfl
  have dn : dg (nI (97 + n)) = n := by
    unfold dg
    rw [nI_toInt (by omega)]
    omega
  constructor
  · intro e
    rw [c1, c3] at e
    have e : cnS (tnL w k n) = cnS w := (nI_eq (by omega) (by omega)).mp e
    have r1 := cnS_at w 0 k a1 hk
    have r2 := cnS_at (tnL w k n) 0 k a2 (by rw [tnL_len]; exact hk)
    rw [tnL_len, gd, dn] at r2
    have e : (tnL w k n).foldl (fun v b => 4 * v + (b.toInt.toNat - 97)) 0 = w.foldl (fun v b => 4 * v + (b.toInt.toNat - 97)) 0 := e
    rw [e, r1] at r2
    exact r2
  · intro e
    have : tnL w k n = w := by
      unfold tnL
      have hb := hw _ (show w.getD k 0 ∈ w by rw [List.getD_eq_getElem?_getD, List.getElem?_eq_getElem hk]; exact List.getElem_mem hk)
      have eb : nI (97 + n) = w.getD k 0 := by
        refine Int32.toInt_inj.mp ?_
        rw [nI_toInt (by omega), ← e]
        unfold dg
        omega
      rw [eb, List.getD_eq_getElem?_getD, List.getElem?_eq_getElem hk]
      exact List.set_getElem_self hk
    rw [this]
theorem N_withNote (h4 : nt ≤ 4) (hn : n < nt) (hw : okN nt w) (hl : w.length ≤ 6) (hk : k < w.length) : zPa d mX11_withNote [.inl (codeS w), .inl (nI w.length), .inl (nI k), .inl (nI n)] h (fun v g => v = some (.inl (codeS (tnL w k n))) ∧ g = h) := by
  intro N
  have key := tnL_code (k := k) h4 hn hw hl hk
  show zPn N none d mX11_withNote (0, [(0, .inl (codeS w)), (1, .inl (nI w.length)), (2, .inl (nI k)), (3, .inl (nI n))], [], h) _
  refine pa_iconst (v := nI 2) (pc' := 1) dX11_withNote_0 (by decide) rfl ?_
  refine pa_iload_n (pc' := 2) dX11_withNote_1 rfl rfl ?_
  refine pa_iconst (v := nI 1) (pc' := 3) dX11_withNote_2 (by decide) rfl ?_
  refine pa_isub (pc' := 4) (v := nI (w.length - 1)) dX11_withNote_3 (nI_sub (by omega)) rfl ?_
  refine pa_iload_n (pc' := 5) dX11_withNote_4 rfl rfl ?_
  refine pa_isub (pc' := 6) (v := nI ((w.length - 1) - k)) dX11_withNote_5 (nI_sub (by omega)) rfl ?_
  refine pa_imul (pc' := 7) (v := nI (2 * ((w.length - 1) - k))) dX11_withNote_6 (nI_mul _ _) rfl ?_
  refine pa_istore (pc' := 9) dX11_withNote_7 (by decide) rfl rfl ?_
  refine pa_iload_n (pc' := 10) dX11_withNote_9 rfl rfl ?_
  refine pa_iconst (v := nI 3) (pc' := 11) dX11_withNote_10 (by decide) rfl ?_
  refine pa_iload (pc' := 13) dX11_withNote_11 rfl rfl ?_
  refine pa_ishl (pc' := 14) dX11_withNote_13 rfl rfl ?_
  refine pa_iconst (v := (-1)) (pc' := 15) dX11_withNote_14 (by decide) rfl ?_
  refine pa_ixor (pc' := 16) dX11_withNote_15 rfl rfl ?_
  refine pa_iand (pc' := 17) dX11_withNote_16 rfl rfl ?_
  refine pa_iload_n (pc' := 18) dX11_withNote_17 rfl rfl ?_
  refine pa_iload (pc' := 20) dX11_withNote_18 rfl rfl ?_
  refine pa_ishl (pc' := 21) dX11_withNote_20 rfl rfl ?_
  refine pa_ior (pc' := 22) dX11_withNote_21 rfl rfl ?_
  refine pa_iret dX11_withNote_22 rfl rfl ?_
  rw [key]
  exact ⟨rfl, rfl⟩
end TUN
/-! tune: class and reference -/
def tunS (s : nS) (b k n : Nat) : nS := (s.1, s.2.1, s.2.2.1, s.2.2.2.1, s.2.2.2.2.1, fun j => if j = b then tnL (s.2.2.2.2.2 b) k n else s.2.2.2.2.2 j)
def tunO (A : pA) (s : nS) (H J : List nS) (x y z : Int32) (v : Option zV) (t : Int32) (L : nS → List nS → List nS → Prop) : Prop := ((∀ b k : Nat, x = nI b → y = nI k → b < cB A → k < lB A b → False) ∧ v = some (.inl 0) ∧ t = 1 ∧ L s H J) ∨ ∃ b k : Nat, x = nI b ∧ y = nI k ∧ b < cB A ∧ k < lB A b ∧ ((¬ (0 ≤ z.toInt ∧ z.toInt < (ntA A : Int)) ∧ v = some (.inl 0) ∧ t = 2 ∧ L s H J) ∨ ∃ n : Nat, z = nI n ∧ n < ntA A ∧ (((s.2.2.2.2.1 b ≠ none ∨ dg ((s.2.2.2.2.2 b).getD k 0) = n) ∧ v = some (.inl 0) ∧ t = 5 ∧ L s H J) ∨ (s.2.2.2.2.1 b = none ∧ dg ((s.2.2.2.2.2 b).getD k 0) ≠ n ∧ v = some (.inl 1) ∧ t = 0 ∧ L (tunS s b k n) ((s :: H).take 12) J)))
section TUC
variable {d N c w b : Nat} {h g : zH} {A : pA} {s : nS} {H J : List nS} {x y z : Int32}
theorem N_isWithin {k : Nat} (hk : 1 ≤ k) (h9 : k ≤ 1000) : zPa d mX11_isWithin [.inl z, .inl (nI (k - 1))] h (fun v g => v = some (.inl (if 0 ≤ z.toInt ∧ z.toInt < (k : Int) then 1 else 0)) ∧ g = h) := by
  intro N
  have k0 : (0 : Int32).toInt = 0 := by decide
  have e13 : ¬ (0 ≤ z.toInt ∧ z.toInt < (k : Int)) → ∀ N, zPn N none d mX11_isWithin (13, [(0, .inl z), (1, .inl (nI (k - 1)))], [], h) (fun v g => v = some (.inl (if 0 ≤ z.toInt ∧ z.toInt < (k : Int) then 1 else 0)) ∧ g = h) := fun q N => by
    refine pa_iconst (v := 0) (pc' := 14) dX11_isWithin_13 (by decide) rfl ?_
    refine pa_iret dX11_isWithin_14 rfl rfl ?_
    exact ⟨by rw [if_neg q], rfl⟩
  show zPn N none d mX11_isWithin (0, [(0, .inl z), (1, .inl (nI (k - 1)))], [], h) _
  refine pa_iload_n (pc' := 1) dX11_isWithin_0 rfl rfl ?_
  refine pa_if (pc' := 13) (pc2 := 4) dX11_isWithin_1 (by decide) rfl (fun q => ?_) (fun q => ?_)
  · have q := zi_lt q
    rw [k0] at q
    exact e13 (by omega) _
  · have q := zi_nlt q
    rw [k0] at q
    refine pa_iload_n (pc' := 5) dX11_isWithin_4 rfl rfl ?_
    refine pa_iload_n (pc' := 6) dX11_isWithin_5 rfl rfl ?_
    refine pa_icmp (pc' := 13) (pc2 := 9) dX11_isWithin_6 (by decide) rfl (fun u => ?_) (fun u => ?_)
    · have u := lt_i.mp (of_decide_eq_true u)
      rw [nI_toInt (by omega)] at u
      exact e13 (by omega) _
    · have u := of_decide_eq_false u
      rw [lt_i, nI_toInt (by omega)] at u
      refine pa_iconst (v := 1) (pc' := 10) dX11_isWithin_9 (by decide) rfl ?_
      refine pa_goto (pc' := 14) dX11_isWithin_10 (by decide) ?_
      refine pa_iret dX11_isWithin_14 rfl rfl ?_
      exact ⟨by rw [if_pos (by omega)], rfl⟩
theorem lB_6 (B : bgC A c s h) (hb : b < cB A) : lB A b ≤ 6 := by
  obtain ⟨-, q2, -⟩ := num_box B.1.1 B.1.2.2.1 B.1.2.1 hb
  exact (B.2.2.1.2.2.2.2.2 _ q2).2.2.2
theorem C_tune (S : nwS h) (hA : lPA A c h) (B : cI A ≠ 0 → bgC A c s h) (L : lNC A s H J h) : zPa d mX11_tune [.inr (.inr (some 0)), .inl x, .inl y, .inl z] h (fun v g => nwF h g ∧ tunO A s H J x y z v (g.2.1 0 2) (fun s H J => lNC A s H J g)) := by
  intro N
  have hI := hA.1
  obtain ⟨b1, b2, b3, b4, b5⟩ := hI.2.2.1
  have s0 : zsh h 0 = some (11, 16) := zsh_by S.1 (by decide +kernel)
  have s86 : zsh h 86 = some (2, 7) := zsh_by S.1 (by decide +kernel)
  have s91 : zsh h 91 = some (14, 8) := zsh_by S.1 (by decide +kernel)
  have r6 := S.2.1
  have r3 := hA.2.2.1
  have sc := hA.sc S.1
  obtain ⟨-, -, -, -, r91⟩ := S.o86.2
  have k0 : (0 : Int32).toInt = 0 := by decide
  have nob : (∀ b k : Nat, x = nI b → y = nI k → b < cB A → k < lB A b → False) → ∀ d N, zPn N none d mX11_isNoteOfBox (28, [(0, .inr (.inr (some 0))), (1, .inl x), (2, .inl y)], [], h) (fun v g => (((∀ b k : Nat, x = nI b → y = nI k → b < cB A → k < lB A b → False) ∧ v = some (.inl 0)) ∨ ((∃ b k : Nat, x = nI b ∧ y = nI k ∧ b < cB A ∧ k < lB A b) ∧ v = some (.inl 1))) ∧ g = h) := fun q d N => by
    refine pa_iconst (v := 0) (pc' := 29) dX11_isNoteOfBox_28 (by decide) rfl ?_
    refine pa_iret dX11_isNoteOfBox_29 rfl rfl ?_
    exact ⟨.inl ⟨q, rfl⟩, rfl⟩
  have isn : ∀ d, zPa d mX11_isNoteOfBox [.inr (.inr (some 0)), .inl x, .inl y] h (fun v g => (((∀ b k : Nat, x = nI b → y = nI k → b < cB A → k < lB A b → False) ∧ v = some (.inl 0)) ∨ ((∃ b k : Nat, x = nI b ∧ y = nI k ∧ b < cB A ∧ k < lB A b) ∧ v = some (.inl 1))) ∧ g = h) := fun d N => by
    show zPn N none d mX11_isNoteOfBox (0, [(0, .inr (.inr (some 0))), (1, .inl x), (2, .inl y)], [], h) _
    refine pa_aload_n (pc' := 1) dX11_isNoteOfBox_0 rfl rfl ?_
    refine pa_iload_n (pc' := 2) dX11_isNoteOfBox_1 rfl rfl ?_
    refine pa_callv (pc' := 5) (vs := [.inl x]) (rest := []) dX11_isNoteOfBox_2 ml_11_147 (by decide) rfl rfl rfl (fun d' _ => (N_isBox hA S.1)) (fun v g9 hq => ?_)
    obtain ⟨ev, eh⟩ := hq
    subst ev
    rw [eh]
    show zPn N none d mX11_isNoteOfBox (5, _, [.inl (if 0 ≤ x.toInt ∧ x.toInt < (cB A:Int) then 1 else 0)], h) _
    by_cases hx : 0 ≤ x.toInt ∧ x.toInt < (cB A : Int)
    case neg =>
      rw [if_neg hx]
      refine pa_if_t (pc' := 28) dX11_isNoteOfBox_5 (by decide) (by decide) ?_
      exact nob (fun b k e1 e2 e3 e4 => hx (by rw [e1, nI_toInt (by omega)]; omega)) _ _
    rw [if_pos hx]
    refine pa_if_f (pc' := 8) dX11_isNoteOfBox_5 (by decide) (by decide) rfl ?_
    refine pa_iload_n (pc' := 9) dX11_isNoteOfBox_8 rfl rfl ?_
    refine pa_if (pc' := 28) (pc2 := 12) dX11_isNoteOfBox_9 (by decide) rfl (fun q => ?_) (fun q => ?_)
    · have q := zi_lt q
      rw [k0] at q
      refine nob (fun b k e1 e2 e3 e4 => ?_) _ _
      have l6 := lB_6 (B (hA.has e3)) e3
      rw [e2, nI_toInt (by omega)] at q
      omega
    have q := zi_nlt q
    rw [k0] at q
    obtain ⟨b, eb, hb⟩ : ∃ b : Nat, x = nI b ∧ b < cB A := ⟨x.toInt.toNat, Int32.toInt_inj.mp (by rw [nI_toInt (by omega)]; omega), by omega⟩
    have B := B (hA.has hb)
    have l6 := lB_6 B hb
    rw [eb]
    refine pa_iload_n (pc' := 13) dX11_isNoteOfBox_12 rfl rfl ?_
    refine pa_aload_n (pc' := 14) dX11_isNoteOfBox_13 rfl rfl ?_
    refine pa_getR (pc' := 17) (n := 16) (r := c) dX11_isNoteOfBox_14 fl_11_23 s0 (by decide) r3 rfl ?_
    refine pa_iload_n (pc' := 18) dX11_isNoteOfBox_17 rfl rfl ?_
    refine pa_callv (pc' := 21) (vs := [.inl (nI b)]) (rest := [.inl y]) dX11_isNoteOfBox_18 ml_11_198 (by decide) rfl rfl rfl (fun d' _ => (N_boxLength B hb)) (fun v g9 hq => ?_)
    obtain ⟨ev, eh⟩ := hq
    subst ev
    rw [eh]
    show zPn N none d mX11_isNoteOfBox (21, _, [.inl (nI (lB A b)), .inl y], h) _
    refine pa_icmp (pc' := 28) (pc2 := 24) dX11_isNoteOfBox_21 (by decide) rfl (fun u => ?_) (fun u => ?_)
    · have u := zi_nlt (zk_ge_lt u)
      rw [nI_toInt (by omega)] at u
      have := nob (fun b' k e1 e2 e3 e4 => by
        have : b' = b := (nI_eq (by omega) (by omega)).mp (e1.symm.trans eb)
        rw [this] at e4
        rw [e2, nI_toInt (by omega)] at u
        omega)
      rw [eb] at this
      exact this _ _
    · have u := zi_lt (zk_ge_lt u)
      rw [nI_toInt (by omega)] at u
      refine pa_iconst (v := 1) (pc' := 25) dX11_isNoteOfBox_24 (by decide) rfl ?_
      refine pa_goto (pc' := 29) dX11_isNoteOfBox_25 (by decide) ?_
      refine pa_iret dX11_isNoteOfBox_29 rfl rfl ?_
      exact ⟨.inr ⟨⟨b, y.toInt.toNat, rfl, Int32.toInt_inj.mp (by rw [nI_toInt (by omega)]; omega), hb, by omega⟩, rfl⟩, rfl⟩
  show zPn N none d mX11_tune (0, [(0, .inr (.inr (some 0))), (1, .inl x), (2, .inl y), (3, .inl z)], [], h) _
  refine pa_aload_n (pc' := 1) dX11_tune_0 rfl rfl ?_
  refine pa_iload_n (pc' := 2) dX11_tune_1 rfl rfl ?_
  refine pa_iload_n (pc' := 3) dX11_tune_2 rfl rfl ?_
  refine pa_callv (pc' := 6) (vs := [.inl x, .inl y]) (rest := []) dX11_tune_3 ml_11_191 (by decide) rfl rfl rfl (fun d' _ => isn d') (fun v g9 hq => ?_)
  obtain ⟨hq, eh⟩ := hq
  rw [eh]
  rcases hq with ⟨q, ev⟩ | ⟨⟨b, k, eb, ek, hb, hk⟩, ev⟩
  case inl =>
    subst ev
    show zPn N none d mX11_tune (6, [(0, .inr (.inr (some 0))), (1, .inl x), (2, .inl y), (3, .inl z)], [.inl 0], h) _
    refine pa_if_f (pc' := 9) dX11_tune_6 (by decide) (by decide) rfl ?_
    refine pa_aload_n (pc' := 10) dX11_tune_9 rfl rfl ?_
    refine pa_iconst (v := nI 1) (pc' := 11) dX11_tune_10 (by decide) rfl ?_
    refine pa_callv (pc' := 14) (vs := [.inl (nI 1)]) (rest := []) dX11_tune_11 ml_11_347 (by decide) rfl rfl rfl (fun d' _ => (c_hRe s0)) (fun v g hq => ?_)
    obtain ⟨ev, eh⟩ := hq
    subst ev
    show zPn N none d mX11_tune (14, _, [.inl 0], g) _
    subst eh
    refine pa_iret dX11_tune_14 rfl rfl ?_
    exact ⟨nwF.t2, .inl ⟨q, rfl, by rw [zsI_at, if_pos ⟨rfl, rfl⟩]; rfl, L.t2⟩⟩
  subst ev
  have B := B (hA.has hb)
  obtain ⟨-, hT, hB, hO⟩ := B.1
  have l6 := lB_6 B hb
  obtain ⟨ok, ol, oc⟩ := hO.2.2 b hb
  obtain ⟨n2, n4, -⟩ := B.2.2.1.2.2.2.2.1
  have e0 : h.2.1 c 0 = nI (ntA A) := B.2.2.1.2.2.2.1.1
  have e5 : h.2.1 91 b = codeS (s.2.2.2.2.2 b) := (L.1.2.2.2 b hb).2.2
  subst eb
  subst ek
  show zPn N none d mX11_tune (6, [(0, .inr (.inr (some 0))), (1, .inl (nI b)), (2, .inl (nI k)), (3, .inl z)], [.inl 1], h) _
  refine pa_if_t (pc' := 15) dX11_tune_6 (by decide) (by decide) ?_
  refine pa_iload_n (pc' := 16) dX11_tune_15 rfl rfl ?_
  refine pa_aload_n (pc' := 17) dX11_tune_16 rfl rfl ?_
  refine pa_getR (pc' := 20) (n := 16) (r := c) dX11_tune_17 fl_11_23 s0 (by decide) r3 rfl ?_
  refine pa_getI (pc' := 23) (n := 15) (v := nI (ntA A)) dX11_tune_20 fl_11_350 sc (by decide) e0 rfl ?_
  refine pa_iconst (v := nI 1) (pc' := 24) dX11_tune_23 (by decide) rfl ?_
  refine pa_isub (pc' := 25) (v := nI ((ntA A) - 1)) dX11_tune_24 (nI_sub (by omega)) rfl ?_
  refine pa_calls (pc' := 28) (kd := 1) (vs := [.inl z, .inl (nI ((ntA A) - 1))]) (rest := []) dX11_tune_25 ml_11_227 (.inl rfl) rfl rfl rfl (fun d' _ => (N_isWithin (k := ntA A) (by omega) (by omega))) (fun v g9 hq => ?_)
  obtain ⟨ev, eh⟩ := hq
  subst ev
  rw [eh]
  show zPn N none d mX11_tune (28, _, [.inl (if 0 ≤ z.toInt ∧ z.toInt < (ntA A:Int) then 1 else 0)], h) _
  by_cases hz : 0 ≤ z.toInt ∧ z.toInt < (ntA A : Int)
  case neg =>
    rw [if_neg hz]
    refine pa_if_f (pc' := 31) dX11_tune_28 (by decide) (by decide) rfl ?_
    refine pa_aload_n (pc' := 32) dX11_tune_31 rfl rfl ?_
    refine pa_iconst (v := nI 2) (pc' := 33) dX11_tune_32 (by decide) rfl ?_
    refine pa_callv (pc' := 36) (vs := [.inl (nI 2)]) (rest := []) dX11_tune_33 ml_11_347 (by decide) rfl rfl rfl (fun d' _ => (c_hRe s0)) (fun v g hq => ?_)
    obtain ⟨ev, eh⟩ := hq
    subst ev
    show zPn N none d mX11_tune (36, _, [.inl 0], g) _
    subst eh
    refine pa_iret dX11_tune_36 rfl rfl ?_
    exact ⟨nwF.t2, .inr ⟨b, k, rfl, rfl, hb, hk, .inl ⟨hz, rfl, by rw [zsI_at, if_pos ⟨rfl, rfl⟩]; rfl, L.t2⟩⟩⟩
  rw [if_pos hz]
  obtain ⟨n, en, hn⟩ : ∃ n : Nat, z = nI n ∧ n < ntA A := ⟨z.toInt.toNat, Int32.toInt_inj.mp (by rw [nI_toInt (by omega)]; omega), by omega⟩
  subst en
  refine pa_if_t (pc' := 37) dX11_tune_28 (by decide) (by decide) ?_
  refine pa_aload_n (pc' := 38) dX11_tune_37 rfl rfl ?_
  refine pa_getR (pc' := 41) (n := 16) (r := 86) dX11_tune_38 fl_11_42 s0 (by decide) r6 rfl ?_
  refine pa_getR (pc' := 44) (n := 7) (r := 91) dX11_tune_41 fl_11_195 s86 (by decide) r91 rfl ?_
  refine pa_iload_n (pc' := 45) dX11_tune_44 rfl rfl ?_
  refine pa_iald (pc' := 46) dX11_tune_45 s91 rfl (fun _ => ?_)
  rw [nI_clamp (by omega), e5]
  refine pa_aload_n (pc' := 47) dX11_tune_46 rfl rfl ?_
  refine pa_getR (pc' := 50) (n := 16) (r := c) dX11_tune_47 fl_11_23 s0 (by decide) r3 rfl ?_
  refine pa_iload_n (pc' := 51) dX11_tune_50 rfl rfl ?_
  refine pa_callv (pc' := 54) (vs := [.inl (nI b)]) (rest := [.inl (codeS (s.2.2.2.2.2 b))]) dX11_tune_51 ml_11_198 (by decide) rfl rfl rfl (fun d' _ => (N_boxLength B hb)) (fun v g9 hq => ?_)
  obtain ⟨ev, eh⟩ := hq
  subst ev
  rw [eh]
  show zPn N none d mX11_tune (54, _, [.inl (nI (lB A b)), .inl (codeS (s.2.2.2.2.2 b))], h) _
  rw [← ol]
  refine pa_iload_n (pc' := 55) dX11_tune_54 rfl rfl ?_
  refine pa_iload_n (pc' := 56) dX11_tune_55 rfl rfl ?_
  refine pa_calls (pc' := 59) (kd := 1) (vs := [.inl (codeS (s.2.2.2.2.2 b)), .inl (nI ((s.2.2.2.2.2 b).length)), .inl (nI k), .inl (nI n)]) (rest := []) dX11_tune_56 ml_11_353 (.inl rfl) rfl rfl rfl (fun d' _ => (N_withNote n4 hn ok (by omega) (by omega))) (fun v g9 hq => ?_)
  obtain ⟨ev, eh⟩ := hq
  subst ev
  rw [eh]
  show zPn N none d mX11_tune (59, _, [.inl (codeS (tnL (s.2.2.2.2.2 b) k n))], h) _
  refine pa_istore (pc' := 61) dX11_tune_59 (by decide) rfl rfl ?_
  refine pa_aload_n (pc' := 62) dX11_tune_61 rfl rfl ?_
  refine pa_getR (pc' := 65) (n := 16) (r := 86) dX11_tune_62 fl_11_42 s0 (by decide) r6 rfl ?_
  refine pa_iload_n (pc' := 66) dX11_tune_65 rfl rfl ?_
  refine pa_callv (pc' := 69) (vs := [.inl (nI b)]) (rest := []) dX11_tune_66 ml_11_242 (by decide) rfl rfl rfl (fun d' _ => (N_isSent B hb)) (fun v g9 hq => ?_)
  obtain ⟨ev, eh⟩ := hq
  subst ev
  rw [eh]
  show zPn N none d mX11_tune (69, _, [.inl (match s.2.2.2.2.1 b with | some _ => 1 | none => 0)], h) _
  have fin : (s.2.2.2.2.1 b ≠ none ∨ dg ((s.2.2.2.2.2 b).getD k 0) = n) → ∀ N, zPn N none d mX11_tune (86, [(4, .inl (codeS (tnL (s.2.2.2.2.2 b) k n))), (0, .inr (.inr (some 0))), (1, .inl (nI b)), (2, .inl (nI k)), (3, .inl (nI n))], [], h) (fun v g => nwF h g ∧ tunO A s H J (nI b) (nI k) (nI n) v (g.2.1 0 2) (fun s H J => lNC A s H J g)) := fun q N => by
    refine pa_aload_n (pc' := 87) dX11_tune_86 rfl rfl ?_
    refine pa_iconst (v := nI 5) (pc' := 88) dX11_tune_87 (by decide) rfl ?_
    refine pa_callv (pc' := 91) (vs := [.inl (nI 5)]) (rest := []) dX11_tune_88 ml_11_347 (by decide) rfl rfl rfl (fun d' _ => (c_hRe s0)) (fun v g hq => ?_)
    obtain ⟨ev, eh⟩ := hq
    subst ev
    show zPn N none d mX11_tune (91, _, [.inl 0], g) _
    subst eh
    refine pa_iret dX11_tune_91 rfl rfl ?_
    exact ⟨nwF.t2, .inr ⟨b, k, rfl, rfl, hb, hk, .inr ⟨n, rfl, hn, .inl ⟨q, rfl, by rw [zsI_at, if_pos ⟨rfl, rfl⟩]; rfl, L.t2⟩⟩⟩⟩
  cases o : s.2.2.2.2.1 b with
  | some p =>
    refine pa_if_t (pc' := 86) dX11_tune_69 (show zcond .ne (1 : Int32) 0 = true by decide) (by decide) ?_
    exact fin (.inl (by rw [o]; exact fun q => nomatch q)) _
  | none =>
    refine pa_if_f (pc' := 72) dX11_tune_69 (by decide) (by decide) rfl ?_
    refine pa_iload (pc' := 74) dX11_tune_72 rfl rfl ?_
    refine pa_aload_n (pc' := 75) dX11_tune_74 rfl rfl ?_
    refine pa_getR (pc' := 78) (n := 16) (r := 86) dX11_tune_75 fl_11_42 s0 (by decide) r6 rfl ?_
    refine pa_getR (pc' := 81) (n := 7) (r := 91) dX11_tune_78 fl_11_195 s86 (by decide) r91 rfl ?_
    refine pa_iload_n (pc' := 82) dX11_tune_81 rfl rfl ?_
    refine pa_iald (pc' := 83) dX11_tune_82 s91 rfl (fun _ => ?_)
    rw [nI_clamp (by omega), e5]
    by_cases hd : dg ((s.2.2.2.2.2 b).getD k 0) = n
    case pos =>
      refine pa_icmp_f (pc' := 86) dX11_tune_83 (decide_eq_false (not_not_intro ((tnL_eq n4 hn ok (by omega) (by omega)).mpr hd))) (by decide) rfl ?_
      exact fin (.inr hd) _
    clear fin
    refine pa_icmp_t (pc' := 92) dX11_tune_83 (decide_eq_true (fun q => hd ((tnL_eq n4 hn ok (by omega) (by omega)).mp q))) (by decide) ?_
    refine pa_aload_n (pc' := 93) dX11_tune_92 rfl rfl ?_
    refine pa_callv (pc' := 96) (vs := []) (rest := []) dX11_tune_93 ml_11_341 (by decide) rfl rfl rfl (fun d' _ => (N_keep S b3 b4 L)) (fun v g5 hq => ?_)
    obtain ⟨ev, eh⟩ := hq
    subst ev
    show zPn N none d mX11_tune (96, _, [], g5) _
    obtain ⟨L5, F5⟩ := eh
    have S5 := S.fr F5.1 F5.2.1
    have q0 : zsh g5 0 = some (11, 16) := zsh_by S5.1 (by decide +kernel)
    have q86 : zsh g5 86 = some (2, 7) := zsh_by S5.1 (by decide +kernel)
    have q91 : zsh g5 91 = some (14, 8) := zsh_by S5.1 (by decide +kernel)
    have x6 := S5.2.1
    obtain ⟨-, -, -, -, x91⟩ := S5.o86.2
    refine pa_aload_n (pc' := 97) dX11_tune_96 rfl rfl ?_
    refine pa_getR (pc' := 100) (n := 16) (r := 86) dX11_tune_97 fl_11_42 q0 (by decide) x6 rfl ?_
    refine pa_getR (pc' := 103) (n := 7) (r := 91) dX11_tune_100 fl_11_195 q86 (by decide) x91 rfl ?_
    refine pa_iload_n (pc' := 104) dX11_tune_103 rfl rfl ?_
    refine pa_iload (pc' := 106) dX11_tune_104 rfl rfl ?_
    refine pa_iast (pc' := 107) dX11_tune_106 q91 rfl (fun _ => ?_)
    rw [nI_clamp (by omega)]
    refine pa_aload_n (pc' := 108) dX11_tune_107 rfl rfl ?_
    refine pa_callv (pc' := 111) (vs := []) (rest := []) dX11_tune_108 ml_11_356 (by decide) rfl rfl rfl (fun d' _ => (c_hGr q0)) (fun v g6 hq => ?_)
    obtain ⟨ev, eh⟩ := hq
    subst ev
    show zPn N none d mX11_tune (111, _, [.inl 1], g6) _
    subst eh
    refine pa_iret dX11_tune_111 rfl rfl ?_
    have at' : ∀ a j, (zsI (zsI g5 91 b (codeS (tnL (s.2.2.2.2.2 b) k n))) 0 2 0).2.1 a j = if a = 0 ∧ j = 2 then 0 else if a = 91 ∧ j = b then codeS (tnL (s.2.2.2.2.2 b) k n) else g5.2.1 a j := fun a j => by
      rw [zsI_at, zsI_at]
    have out : ∀ a j, (a = 0 → j ≠ 2) → a ≠ 91 → (zsI (zsI g5 91 b (codeS (tnL (s.2.2.2.2.2 b) k n))) 0 2 0).2.1 a j = g5.2.1 a j := fun a j w1 w2 => by rw [at', if_neg (by omega), if_neg (by omega)]
    obtain ⟨⟨m1, m2, m3, m4⟩, ⟨nw, hn2, e12, e13, hl, hh⟩, j1, j2, j3⟩ := L5
    refine ⟨F5.tr ⟨rfl, rfl, fun k w0 w1 w2 w3 => out _ _ (by omega) (by omega), fun a k w1 w2 w3 => out _ _ (by omega) (by omega)⟩, .inr ⟨b, k, rfl, rfl, hb, hk, .inr ⟨n, rfl, hn, .inr ⟨o, hd, rfl, by rw [at', if_pos ⟨rfl, rfl⟩], ⟨(out _ _ (by omega) (by omega)).trans m1, (out _ _ (by omega) (by omega)).trans m2, fun j hj => ⟨(out _ _ (by omega) (by omega)).trans (m3 j hj).1, (out _ _ (by omega) (by omega)).trans (m3 j hj).2⟩, fun j hj => ⟨(out _ _ (by omega) (by omega)).trans (m4 j hj).1, (out _ _ (by omega) (by omega)).trans (m4 j hj).2.1, ?_⟩⟩, ⟨nw, hn2, (out _ _ (by omega) (by omega)).trans e12, (out _ _ (by omega) (by omega)).trans e13, hl, fun k t hk => (hh k t hk).fr (fun a j w1 w2 => out _ _ (by omega) (by omega))⟩, (out _ _ (by omega) (by omega)).trans j1, j2, fun k t hk => (j3 k t hk).fr (fun a j w1 w2 => out _ _ (by omega) (by omega))⟩⟩⟩⟩
    show (zsI (zsI g5 91 b (codeS (tnL (s.2.2.2.2.2 b) k n))) 0 2 0).2.1 91 j = codeS (if j = b then tnL (s.2.2.2.2.2 b) k n else s.2.2.2.2.2 j)
    rw [at', if_neg (by omega)]
    by_cases z : j = b
    · rw [if_pos ⟨rfl, z⟩, if_pos z]
    · rw [if_neg (fun q => z q.2), if_neg z]
      exact (m4 j hj).2.2
end TUC
/-! tune: the reference -/
section TUM
variable {d N c w b : Nat} {h g : zH} {A : pA} {s : nS} {H J : List nS} {x y z : Int32}
theorem nI_prd : ∀ x : Nat, x < 32 → (nI x - 1).toInt = (x : Int) - 1 := by decide
theorem bgM.gd (B : bgM A s h) : bgM A s (zsI (zsI h 196 0 0) 196 11 0) := by
  obtain ⟨B1, B2, B3, ⟨n1, n2, n3, n4⟩, B5, B6⟩ := B
  have e : ∀ a k, a ≠ 196 → (zsI (zsI h 196 0 0) 196 11 0).2.1 a k = h.2.1 a k := fun a k ha => by rw [zsI_at, zsI_at, if_neg (fun q => ha q.1), if_neg (fun q => ha q.1)]
  refine ⟨B1, ?_, ?_, ⟨(e _ _ (by decide)).trans n1, (e _ _ (by decide)).trans n2, fun w hw => ⟨(e _ _ (by decide)).trans (n3 w hw).1, (e _ _ (by decide)).trans (n3 w hw).2⟩, fun b hb => ⟨(e _ _ (by decide)).trans (n4 b hb).1, (e _ _ (by decide)).trans (n4 b hb).2.1, fun k hk => (e _ _ (by decide)).trans ((n4 b hb).2.2 k hk)⟩⟩, fun w hw j hj => (e _ _ (by decide)).trans (B5 w hw j hj), fun b hb j hj => (e _ _ (by decide)).trans (B6 b hb j hj)⟩
  · obtain ⟨k1, k2, k3, k4, ⟨k5, k6, k7⟩, k8⟩ := B2
    refine ⟨k1, k2, k3, k4, ⟨(e _ _ (by decide)).trans k5, (e _ _ (by decide)).trans k6, (e _ _ (by decide)).trans k7⟩, fun k hk => ?_⟩
    rw [e _ _ (by decide), e _ _ (by decide), e _ _ (by decide), e _ _ (by decide)]
    exact k8 k hk
  · obtain ⟨k1, k2, ⟨k3, k4, k5, k6⟩, k7, k8⟩ := B3
    refine ⟨k1, k2, ⟨(e _ _ (by decide)).trans k3, (e _ _ (by decide)).trans k4, (e _ _ (by decide)).trans k5, (e _ _ (by decide)).trans k6⟩, k7, fun i hi => ?_⟩
    obtain ⟨a1, a2, a3⟩ := k8 i hi
    exact ⟨(e _ _ (by decide)).trans a1, fun k hk => (e _ _ (by decide)).trans (a2 k hk), a3⟩
theorem M_tune (S : mwS h) (hA : lPA A c h) (r15 : h.2.2.2.1 196 15 = some 199) (B : cI A ≠ 0 → bgM A s h) (L : lNM A s H J h) : zPa d mX12_tune [.inr (.inr (some 196)), .inl x, .inl y, .inl z] h (fun v g => mwF h g ∧ tunO A s H J x y z v (g.2.1 196 11) (fun s H J => lNM A s H J g)) := by
  intro N
  have hI := hA.1
  obtain ⟨b1, b2, b3, b4, b5⟩ := hI.2.2.1
  have s196 : zsh h 196 = some (12, 39) := zsh_by S.1 (by decide +kernel)
  have k0 : (0 : Int32).toInt = 0 := by decide
  generalize eh1 : zsI (zsI h 196 0 0) 196 11 0 = h1
  have F1 : mwF h h1 := by rw [← eh1]; exact mwF.gd
  have t11 : h1.2.1 196 11 = 0 := by rw [← eh1, zsI_at, if_pos ⟨rfl, rfl⟩]
  have L1 : lNM A s H J h1 := L.ch b3 b4 (fun b k w1 w2 w3 => by rw [← eh1, zsI_at, zsI_at, if_neg (by omega), if_neg (by omega)])
  have S1 : mwS h1 := S.fr F1.1 F1.2.1
  have hA1 : lPA A c h1 := by rw [← eh1]; exact hA.gd
  have B1 : cI A ≠ 0 → bgM A s h1 := fun z0 => by rw [← eh1]; exact (B z0).gd
  have q15 : h1.2.2.2.1 196 15 = some 199 := by rw [F1.2.1]; exact r15
  have q17 := S1.2.1
  have z196 : zsh h1 196 = some (12, 39) := zsh_by S1.1 (by decide +kernel)
  have z199 : zsh h1 199 = some (14, 363) := zsh_by S1.1 (by decide +kernel)
  have z201 : zsh h1 201 = some (14, 76) := zsh_by S1.1 (by decide +kernel)
  have ref : (∀ b k : Nat, x = nI b → y = nI k → b < cB A → k < lB A b → False) → ∀ N, zPn N none d mX12_tune (27, [(0, .inr (.inr (some 196))), (1, .inl x), (2, .inl y), (3, .inl z)], [], h1) (fun v g => mwF h g ∧ tunO A s H J x y z v (g.2.1 196 11) (fun s H J => lNM A s H J g)) := fun hr N => by
    refine pa_aload_n (pc' := 28) dX12_tune_27 rfl rfl ?_
    refine pa_iconst (v := nI 1) (pc' := 29) dX12_tune_28 (by decide) rfl ?_
    refine pa_callv (pc' := 32) (vs := [.inl (nI 1)]) (rest := []) dX12_tune_29 ml_12_427 (by decide) rfl rfl rfl (fun d' _ => (m_isN z196)) (fun v g3 hq => ?_)
    obtain ⟨ev, eh⟩ := hq
    subst ev
    show zPn N none d mX12_tune (32, _, [.inl 0], g3) _
    subst eh
    refine pa_iret dX12_tune_32 rfl rfl ?_
    exact ⟨F1.tr mwF.t, .inl ⟨hr, rfl, by rw [zsI_at, if_pos ⟨rfl, rfl⟩]; rfl, L1.ch b3 b4 (fun b k w1 w2 w3 => by rw [zsI_at, if_neg (by omega)])⟩⟩
  show zPn N none d mX12_tune (0, [(0, .inr (.inr (some 196))), (1, .inl x), (2, .inl y), (3, .inl z)], [], h) _
  refine pa_aload_n (pc' := 1) dX12_tune_0 rfl rfl ?_
  refine pa_callv (pc' := 4) (vs := []) (rest := []) dX12_tune_1 ml_12_167 (by decide) rfl rfl rfl (fun d' _ => (m_good s196)) (fun v g hq => ?_)
  obtain ⟨ev, eh⟩ := hq
  subst ev
  show zPn N none d mX12_tune (4, _, [], g) _
  rw [eh1] at eh
  subst eh
  refine pa_aload_n (pc' := 5) dX12_tune_4 rfl rfl ?_
  refine pa_iload_n (pc' := 6) dX12_tune_5 rfl rfl ?_
  refine pa_callv (pc' := 9) (vs := [.inl x]) (rest := []) dX12_tune_6 ml_12_274 (by decide) rfl rfl rfl (fun d' _ => (M_isBox hA1 q15 S1.1)) (fun v g9 hq => ?_)
  obtain ⟨ev, eh⟩ := hq
  subst ev
  rw [eh]
  show zPn N none d mX12_tune (9, _, [.inl (if 0 ≤ x.toInt ∧ x.toInt < (cB A:Int) then 1 else 0)], g) _
  by_cases hx : 0 ≤ x.toInt ∧ x.toInt < (cB A : Int)
  case neg =>
    rw [if_neg hx]
    refine pa_if_t (pc' := 27) dX12_tune_9 (by decide) (by decide) ?_
    exact ref (fun b k e1 e2 e3 e4 => hx (by rw [e1, nI_toInt (by omega)]; omega)) _
  rw [if_pos hx]
  refine pa_if_f (pc' := 12) dX12_tune_9 (by decide) (by decide) rfl ?_
  obtain ⟨b, eb, hb⟩ : ∃ b : Nat, x = nI b ∧ b < cB A := ⟨x.toInt.toNat, Int32.toInt_inj.mp (by rw [nI_toInt (by omega)]; omega), by omega⟩
  have B1 := B1 (hA.has hb)
  obtain ⟨-, hT, hB, hO⟩ := B1.1
  obtain ⟨-, q2, -⟩ := num_box hI hB hT hb
  have eto := B1.2.2.2.2.2 b hb 1 (by decide)
  have nto := (num_box hI hB hT hb).2.2.2.2 1 (by decide)
  have eto : g.2.1 199 (127 + 4 * b + 1) = nI (nu A (128 + 4 * b)) := by
    rw [eto, nto, show 127 + 4 * b + 1 = 128 + 4 * b by omega]
  have l6 : lB A b ≤ 6 := (B1.2.2.1.2.2.2.2 _ q2).2.2.2
  obtain ⟨ok, ol, oc⟩ := hO.2.2 b hb
  obtain ⟨n2, n4, -⟩ := B1.2.2.1.2.2.2.1
  have e0 : g.2.1 199 0 = nI (ntA A) := B1.2.2.1.2.2.1.1
  subst eb
  refine pa_iload_n (pc' := 13) dX12_tune_12 rfl rfl ?_
  refine pa_iconst (v := 0) (pc' := 14) dX12_tune_13 (by decide) rfl ?_
  refine pa_aload_n (pc' := 15) dX12_tune_14 rfl rfl ?_
  refine pa_iload_n (pc' := 16) dX12_tune_15 rfl rfl ?_
  refine pa_callv (pc' := 19) (vs := [.inl (nI b)]) (rest := [.inl 0, .inl y]) dX12_tune_16 ml_12_284 (by decide) rfl rfl rfl (fun d' _ => (M_boxLong B1.2.2.1 (by omega) eto q2)) (fun v g9 hq => ?_)
  obtain ⟨ev, eh⟩ := hq
  subst ev
  rw [eh]
  show zPn N none d mX12_tune (19, _, [.inl (nI (lB A b)), .inl 0, .inl y], g) _
  refine pa_iconst (v := 1) (pc' := 20) dX12_tune_19 (by decide) rfl ?_
  refine pa_isub (pc' := 21) dX12_tune_20 rfl rfl ?_
  refine pa_calls (pc' := 24) (kd := 1) (vs := [.inl y, .inl 0, .inl (nI (lB A b) - 1)]) (rest := []) dX12_tune_21 ml_12_149 (.inl rfl) rfl rfl rfl (fun d' _ => in_ex2) (fun v g3 hq => ?_)
  obtain ⟨eh, hq⟩ := hq
  rw [eh]
  have pr := nI_prd (lB A b) (by omega)
  rcases hq with ⟨ev, w1, w2⟩ | ⟨ev, w⟩
  case inr =>
    subst ev
    show zPn N none d mX12_tune (24, [(0, .inr (.inr (some 196))), (1, .inl (nI b)), (2, .inl y), (3, .inl z)], [.inl 0], _) _
    refine pa_if_f (pc' := 27) dX12_tune_24 (by decide) (by decide) rfl ?_
    refine ref (fun b' k e1 e2 e3 e4 => ?_) _
    have eb : b' = b := (nI_eq (by omega) (by omega)).mp e1.symm
    rw [eb] at e4
    rw [Int32.le_iff_toInt_le, Int32.le_iff_toInt_le, pr, k0, e2, nI_toInt (by omega)] at w
    omega
  subst ev
  have w1 := Int32.le_iff_toInt_le.mp w1
  have w2 := Int32.le_iff_toInt_le.mp w2
  rw [k0] at w1
  rw [pr] at w2
  obtain ⟨k, ek, hk⟩ : ∃ k : Nat, y = nI k ∧ k < lB A b := ⟨y.toInt.toNat, Int32.toInt_inj.mp (by rw [nI_toInt (by omega)]; omega), by omega⟩
  subst ek
  clear ref
  show zPn N none d mX12_tune (24, [(0, .inr (.inr (some 196))), (1, .inl (nI b)), (2, .inl (nI k)), (3, .inl z)], [.inl 1], _) _
  refine pa_if_t (pc' := 33) dX12_tune_24 (by decide) (by decide) ?_
  refine pa_iload_n (pc' := 34) dX12_tune_33 rfl rfl ?_
  refine pa_iconst (v := 0) (pc' := 35) dX12_tune_34 (by decide) rfl ?_
  refine pa_aload_n (pc' := 36) dX12_tune_35 rfl rfl ?_
  refine pa_getR (pc' := 39) (n := 39) (r := 199) dX12_tune_36 fl_12_20 z196 (by decide) q15 rfl ?_
  refine pa_iconst (v := nI 0) (pc' := 40) dX12_tune_39 (by decide) rfl ?_
  refine pa_iald (pc' := 41) dX12_tune_40 z199 rfl (fun _ => ?_)
  rw [nI_clamp (by omega), e0]
  refine pa_iconst (v := 1) (pc' := 42) dX12_tune_41 (by decide) rfl ?_
  refine pa_isub (pc' := 43) dX12_tune_42 rfl rfl ?_
  refine pa_calls (pc' := 46) (kd := 1) (vs := [.inl z, .inl 0, .inl (nI (ntA A) - 1)]) (rest := []) dX12_tune_43 ml_12_149 (.inl rfl) rfl rfl rfl (fun d' _ => in_ex2) (fun v g3 hq => ?_)
  obtain ⟨eh, hq⟩ := hq
  rw [eh]
  have pr2 := nI_prd (ntA A) (by omega)
  rcases hq with ⟨ev, u1, u2⟩ | ⟨ev, u⟩
  case inr =>
    subst ev
    show zPn N none d mX12_tune (46, [(0, .inr (.inr (some 196))), (1, .inl (nI b)), (2, .inl (nI k)), (3, .inl z)], [.inl 0], _) _
    refine pa_if_f (pc' := 49) dX12_tune_46 (by decide) (by decide) rfl ?_
    refine pa_aload_n (pc' := 50) dX12_tune_49 rfl rfl ?_
    refine pa_iconst (v := nI 2) (pc' := 51) dX12_tune_50 (by decide) rfl ?_
    refine pa_callv (pc' := 54) (vs := [.inl (nI 2)]) (rest := []) dX12_tune_51 ml_12_427 (by decide) rfl rfl rfl (fun d' _ => (m_isN z196)) (fun v g4 hq => ?_)
    obtain ⟨ev, eh⟩ := hq
    subst ev
    show zPn N none d mX12_tune (54, _, [.inl 0], g4) _
    subst eh
    refine pa_iret dX12_tune_54 rfl rfl ?_
    refine ⟨F1.tr mwF.t, .inr ⟨b, k, rfl, rfl, hb, hk, .inl ⟨fun q => ?_, rfl, by rw [zsI_at, if_pos ⟨rfl, rfl⟩]; rfl, L1.ch b3 b4 (fun b k w1 w2 w3 => by rw [zsI_at, if_neg (by omega)])⟩⟩⟩
    rw [Int32.le_iff_toInt_le, Int32.le_iff_toInt_le, pr2, k0] at u
    omega
  subst ev
  have u1 := Int32.le_iff_toInt_le.mp u1
  have u2 := Int32.le_iff_toInt_le.mp u2
  rw [k0] at u1
  rw [pr2] at u2
  obtain ⟨n, en, hn⟩ : ∃ n : Nat, z = nI n ∧ n < ntA A := ⟨z.toInt.toNat, Int32.toInt_inj.mp (by rw [nI_toInt (by omega)]; omega), by omega⟩
  subst en
  have m4 := L1.1.1.2.2.2 b hb
  have ed : g.2.1 201 (28 + 6 * b + k) = nI (dg ((s.2.2.2.2.2 b).getD k 0)) := by
    have := m4.2.2 k (by omega)
    rw [Nat.zero_add] at this
    exact this
  have ec : g.2.1 201 (12 + b) = tDy (s.2.2.2.2.1 b) := by
    have := m4.1
    rw [Nat.zero_add] at this
    exact this
  have dl := dg_lt ok (k := k) (by omega)
  show zPn N none d mX12_tune (46, [(0, .inr (.inr (some 196))), (1, .inl (nI b)), (2, .inl (nI k)), (3, .inl (nI n))], [.inl 1], _) _
  refine pa_if_t (pc' := 55) dX12_tune_46 (by decide) (by decide) ?_
  refine pa_aload_n (pc' := 56) dX12_tune_55 rfl rfl ?_
  refine pa_getR (pc' := 59) (n := 39) (r := 201) dX12_tune_56 fl_12_26 z196 (by decide) q17 rfl ?_
  refine pa_bipush (v := nI 28) (pc' := 61) dX12_tune_59 (by decide) rfl ?_
  refine pa_bipush (v := nI 6) (pc' := 63) dX12_tune_61 (by decide) rfl ?_
  refine pa_iload_n (pc' := 64) dX12_tune_63 rfl rfl ?_
  refine pa_imul (pc' := 65) (v := nI (6 * b)) dX12_tune_64 (nI_mul _ _) rfl ?_
  refine pa_iadd (pc' := 66) (v := nI (28 + 6 * b)) dX12_tune_65 (nI_add _ _) rfl ?_
  refine pa_iload_n (pc' := 67) dX12_tune_66 rfl rfl ?_
  refine pa_iadd (pc' := 68) (v := nI (28 + 6 * b + k)) dX12_tune_67 (nI_add _ _) rfl ?_
  refine pa_iald (pc' := 69) dX12_tune_68 z201 rfl (fun _ => ?_)
  rw [nI_clamp (by omega), ed]
  refine pa_iload_n (pc' := 70) dX12_tune_69 rfl rfl ?_
  have fin : (s.2.2.2.2.1 b ≠ none ∨ dg ((s.2.2.2.2.2 b).getD k 0) = n) → ∀ N, zPn N none d mX12_tune (85, [(0, .inr (.inr (some 196))), (1, .inl (nI b)), (2, .inl (nI k)), (3, .inl (nI n))], [], g) (fun v g => mwF h g ∧ tunO A s H J (nI b) (nI k) (nI n) v (g.2.1 196 11) (fun s H J => lNM A s H J g)) := fun q N => by
    refine pa_aload_n (pc' := 86) dX12_tune_85 rfl rfl ?_
    refine pa_iconst (v := nI 5) (pc' := 87) dX12_tune_86 (by decide) rfl ?_
    refine pa_callv (pc' := 90) (vs := [.inl (nI 5)]) (rest := []) dX12_tune_87 ml_12_427 (by decide) rfl rfl rfl (fun d' _ => (m_isN z196)) (fun v g4 hq => ?_)
    obtain ⟨ev, eh⟩ := hq
    subst ev
    show zPn N none d mX12_tune (90, _, [.inl 0], g4) _
    subst eh
    refine pa_iret dX12_tune_90 rfl rfl ?_
    exact ⟨F1.tr mwF.t, .inr ⟨b, k, rfl, rfl, hb, hk, .inr ⟨n, rfl, hn, .inl ⟨q, rfl, by rw [zsI_at, if_pos ⟨rfl, rfl⟩]; rfl, L1.ch b3 b4 (fun b k w1 w2 w3 => by rw [zsI_at, if_neg (by omega)])⟩⟩⟩⟩
  by_cases hd : dg ((s.2.2.2.2.2 b).getD k 0) = n
  case pos =>
    refine pa_icmp_t (pc' := 85) dX12_tune_70 (decide_eq_true (by rw [hd])) (by decide) ?_
    exact fin (.inr hd) _
  refine pa_icmp_f (pc' := 73) dX12_tune_70 (decide_eq_false (fun q => hd ((nI_eq (by omega) (by omega)).mp q))) (by decide) rfl ?_
  refine pa_aload_n (pc' := 74) dX12_tune_73 rfl rfl ?_
  refine pa_getR (pc' := 77) (n := 39) (r := 201) dX12_tune_74 fl_12_26 z196 (by decide) q17 rfl ?_
  refine pa_bipush (v := nI 12) (pc' := 79) dX12_tune_77 (by decide) rfl ?_
  refine pa_iload_n (pc' := 80) dX12_tune_79 rfl rfl ?_
  refine pa_iadd (pc' := 81) (v := nI (12 + b)) dX12_tune_80 (nI_add _ _) rfl ?_
  refine pa_iald (pc' := 82) dX12_tune_81 z201 rfl (fun _ => ?_)
  rw [nI_clamp (by omega), ec]
  cases o : s.2.2.2.2.1 b with
  | some p =>
    have pl := (oc p o).2
    have nb := nSn_le s (cB A)
    refine pa_if_f (pc' := 85) dX12_tune_82 (by rw [zcond_i]; exact decide_eq_false (by rw [show tDy (some p) = nI (p.1 + 1) from rfl, nI_toInt (by omega), k0]; omega)) (by decide) rfl ?_
    exact fin (.inl (by rw [o]; exact fun q => nomatch q)) _
  | none =>
    clear fin
    refine pa_if_t (pc' := 91) dX12_tune_82 (by decide) (by decide) ?_
    refine pa_aload_n (pc' := 92) dX12_tune_91 rfl rfl ?_
    refine pa_callv (pc' := 95) (vs := []) (rest := []) dX12_tune_92 ml_12_424 (by decide) rfl rfl rfl (fun d' _ => (M_note1 S1 b3 b4 L1)) (fun v g5 hq => ?_)
    obtain ⟨ev, eh⟩ := hq
    subst ev
    show zPn N none d mX12_tune (95, _, [], g5) _
    obtain ⟨F5, L5, O5⟩ := eh
    have S5 := S1.fr F5.1 F5.2.1
    have q196 : zsh g5 196 = some (12, 39) := zsh_by S5.1 (by decide +kernel)
    have q201 : zsh g5 201 = some (14, 76) := zsh_by S5.1 (by decide +kernel)
    have x17 := S5.2.1
    refine pa_aload_n (pc' := 96) dX12_tune_95 rfl rfl ?_
    refine pa_getR (pc' := 99) (n := 39) (r := 201) dX12_tune_96 fl_12_26 q196 (by decide) x17 rfl ?_
    refine pa_bipush (v := nI 28) (pc' := 101) dX12_tune_99 (by decide) rfl ?_
    refine pa_bipush (v := nI 6) (pc' := 103) dX12_tune_101 (by decide) rfl ?_
    refine pa_iload_n (pc' := 104) dX12_tune_103 rfl rfl ?_
    refine pa_imul (pc' := 105) (v := nI (6 * b)) dX12_tune_104 (nI_mul _ _) rfl ?_
    refine pa_iadd (pc' := 106) (v := nI (28 + 6 * b)) dX12_tune_105 (nI_add _ _) rfl ?_
    refine pa_iload_n (pc' := 107) dX12_tune_106 rfl rfl ?_
    refine pa_iadd (pc' := 108) (v := nI (28 + 6 * b + k)) dX12_tune_107 (nI_add _ _) rfl ?_
    refine pa_iload_n (pc' := 109) dX12_tune_108 rfl rfl ?_
    refine pa_iast (pc' := 110) dX12_tune_109 q201 rfl (fun _ => ?_)
    rw [nI_clamp (by omega)]
    refine pa_iconst (v := 1) (pc' := 111) dX12_tune_110 (by decide) rfl ?_
    refine pa_iret dX12_tune_111 rfl rfl ?_
    have out : ∀ a j, (a = 201 → j ≠ 28 + 6 * b + k) → (zsI g5 201 (28 + 6 * b + k) (nI n)).2.1 a j = g5.2.1 a j := fun a j w1 => by rw [zsI_at, if_neg (by omega)]
    have t5 : g5.2.1 196 11 = 0 := (O5 196 11 (by decide) (by omega)).trans t11
    obtain ⟨⟨⟨m1, m3, m4, m5⟩, l1⟩, ⟨e20, hl, hh⟩, j1, j2, j3⟩ := L5
    refine ⟨F1.tr (F5.tr ⟨rfl, rfl, fun k w1 w2 w3 w4 => out _ _ (by omega), fun a k w1 w2 w3 w4 => out _ _ (by omega)⟩), .inr ⟨b, k, rfl, rfl, hb, hk, .inr ⟨n, rfl, hn, .inr ⟨o, hd, rfl, (out _ _ (by omega)).trans t5, ⟨⟨(out _ _ (by omega)).trans m1, (out _ _ (by omega)).trans m3, fun j hj => ⟨(out _ _ (by omega)).trans (m4 j hj).1, (out _ _ (by omega)).trans (m4 j hj).2⟩, fun j hj => ⟨(out _ _ (by omega)).trans (m5 j hj).1, (out _ _ (by omega)).trans (m5 j hj).2.1, fun i hi => ?_⟩⟩, fun j hj => ?_⟩, ⟨(out _ _ (by omega)).trans e20, hl, fun k t hk => ⟨nMo.cp b3 b4 (hh k t hk).2 (fun j hj => out _ _ (by omega)) (hh k t hk).1, (hh k t hk).2⟩⟩, (out _ _ (by omega)).trans j1, j2, fun k t hk => ⟨nMo.cp b3 b4 (j3 k t hk).2 (fun j hj => out _ _ (by omega)) (j3 k t hk).1, (j3 k t hk).2⟩⟩⟩⟩⟩
    · have hi2 : i < (if j = b then tnL (s.2.2.2.2.2 b) k n else s.2.2.2.2.2 j).length := hi
      clear hi
      show _ = nI (dg ((if j = b then tnL (s.2.2.2.2.2 b) k n else s.2.2.2.2.2 j).getD i 0))
      by_cases z : j = b
      · rw [if_pos z] at hi2 ⊢
        rw [tnL_len] at hi2
        subst z
        unfold tnL
        by_cases y : i = k
        · subst y
          rw [Nat.zero_add, zsI_at, if_pos ⟨rfl, rfl⟩, List.getD_eq_getElem?_getD, List.getElem?_set_self hi2]
          show nI n = nI (dg (nI (97 + n)))
          congr 1
          unfold dg
          rw [nI_toInt (by omega)]
          omega
        · rw [out _ _ (by omega), List.getD_eq_getElem?_getD, List.getElem?_set_ne (fun q => y q.symm), ← List.getD_eq_getElem?_getD]
          exact (m5 j hj).2.2 i hi2
      · rw [if_neg z] at hi2 ⊢
        have := l1 j hj
        rw [out _ _ (by omega)]
        exact (m5 j hj).2.2 i hi2
    · show (if j = b then tnL (s.2.2.2.2.2 b) k n else s.2.2.2.2.2 j).length ≤ 6
      by_cases z : j = b
      · rw [if_pos z, tnL_len]
        exact l1 b hb
      · rw [if_neg z]
        exact l1 j hj
end TUM
/-! a fresh state: what post leaves in the class -/
theorem zsR_at {h : zH} {a k b j : Nat} {x : Option Nat} : (zsR h a k x).2.2.2.1 b j = if b = a ∧ j = k then x else h.2.2.2.1 b j := by
  show (if b = a then (if j = k then x else h.2.2.2.1 b j) else h.2.2.2.1 b j) = _
  by_cases z : b = a
  · by_cases y : j = k
    · rw [if_pos z, if_pos y, if_pos ⟨z, y⟩]
    · rw [if_pos z, if_neg y, if_neg (fun q => y q.2)]
  · rw [if_neg z, if_neg (fun q => z q.1)]
theorem zsR_no {h : zH} {a k b j : Nat} {x : Option Nat} (hn : ¬ (b = a ∧ j = k)) : (zsR h a k x).2.2.2.1 b j = h.2.2.2.1 b j := by rw [zsR_at, if_neg hn]
theorem zsR_eq {h : zH} {a k : Nat} {x : Option Nat} : (zsR h a k x).2.2.2.1 a k = x := by rw [zsR_at, if_pos ⟨rfl, rfl⟩]
/-- the state of a post that was just told -/
def nS0 (A : pA) : nS := (0, 0, fun w => nu A (108 + 4 * w), fun _ => 0, fun _ => none, fun b => A.2.2.1 (nu A (128 + 4 * b)))
def bgF (h g : zH) : Prop := g.1 = h.1 ∧ g.2.2 = h.2.2 ∧ ∀ b k, (b < 86 ∨ 91 < b) → g.2.1 b k = h.2.1 b k
section BGN
variable {d N c w b j k : Nat} {h g : zH} {A : pA}
theorem bgF.rf : bgF h h := ⟨rfl, rfl, fun _ _ _ => rfl⟩
theorem bgF.st {v : Int32} (f : bgF h g) (e1 : 86 ≤ b) (e2 : b ≤ 91) : bgF h (zsI g b k v) := ⟨f.1, f.2.1, fun a i e => (zsI_no (by omega)).trans (f.2.2 a i e)⟩
theorem cSh (hc : cc2 c) (h1 : h.1 = hh_487.1) : zsh h c = some (4, 15) ∧ zsh h (c + 1) = some (14, 7) ∧ zsh h (c + 2) = some (14, 7) ∧ zsh h (c + 4) = some (20, 5) ∧ zsh h (c + 5) = some (16, 8) ∧ (∀ w, w < 5 → zsh h (c + 19 + w) = some (10, 4)) ∧ ∀ b, b < 8 → zsh h (c + 24 + b) = some (0, 4) := by
  have ew : ∀ w, w < 5 → zsh hh_487 (2 + 19 + w) = some (10, 4) ∧ zsh hh_487 (42 + 19 + w) = some (10, 4) := by decide +kernel
  have eb : ∀ w, w < 8 → zsh hh_487 (2 + 24 + w) = some (0, 4) ∧ zsh hh_487 (42 + 24 + w) = some (0, 4) := by decide +kernel
  have hc : c = 2 ∨ c = 42 := hc
  rcases hc with z | z <;> subst z
  · exact ⟨zsh_by h1 (by decide +kernel), zsh_by h1 (by decide +kernel), zsh_by h1 (by decide +kernel), zsh_by h1 (by decide +kernel), zsh_by h1 (by decide +kernel), fun w hw => zsh_by h1 (ew w hw).1, fun w hw => zsh_by h1 (eb w hw).1⟩
  · exact ⟨zsh_by h1 (by decide +kernel), zsh_by h1 (by decide +kernel), zsh_by h1 (by decide +kernel), zsh_by h1 (by decide +kernel), zsh_by h1 (by decide +kernel), fun w hw => zsh_by h1 (ew w hw).2, fun w hw => zsh_by h1 (eb w hw).2⟩
theorem rcC.num (K : rcC A c h) (e : A.2.2.1 (1000 + j) ≠ []) : h.2.1 (c + oX j) (sX j) = vA A j := (K.2.2.2.2.2.2.2.2.2 j e).2
theorem rcC.wh (K : rcC A c h) (hT : tA A) (hI : pI A) (hw : w < cH A) (hj : j < 4) : h.2.1 (c + 19 + w) j = vA A (107 + 4 * w + j) := by
  have b3 := hI.2.2.1.2.2.1
  have := K.num (hT.2.2.1 w hw j hj)
  have e1 : c + oX (107 + 4 * w + j) = c + 19 + w := by
    unfold oX
    rw [if_neg (by omega), if_neg (by omega), if_pos (by omega)]
    omega
  have e2 : sX (107 + 4 * w + j) = j := by
    unfold sX
    rw [if_neg (by omega), if_neg (by omega), if_pos (by omega)]
    omega
  rw [e1, e2] at this
  exact this
theorem rcC.bo (K : rcC A c h) (hT : tA A) (hI : pI A) (hb : b < cB A) (hj : j < 4) : h.2.1 (c + 24 + b) j = vA A (127 + 4 * b + j) := by
  have b4 := hI.2.2.1.2.2.2.1
  have := K.num (hT.2.2.2.1 b hb j hj)
  have e1 : c + oX (127 + 4 * b + j) = c + 24 + b := by
    unfold oX
    rw [if_neg (by omega), if_neg (by omega), if_neg (by omega), if_pos (by omega)]
    omega
  have e2 : sX (127 + 4 * b + j) = j := by
    unfold sX
    rw [if_neg (by omega), if_neg (by omega), if_neg (by omega), if_pos (by omega)]
    omega
  rw [e1, e2] at this
  exact this
theorem rcC.wy (K : rcC A c h) (hT : tA A) (hI : pI A) (hk : k < cW A) : h.2.1 (c + 7 + k) 2 = vA A (61 + 4 * k) ∧ h.2.1 (c + 7 + k) 3 = vA A (62 + 4 * k) := by
  have b2 := hI.2.2.1.2.1
  have t2 := K.num (hT.2.1 k hk).1
  have t3 := K.num (hT.2.1 k hk).2
  have e1 : c + oX (61 + 4 * k) = c + 7 + k ∧ c + oX (62 + 4 * k) = c + 7 + k := by
    unfold oX
    rw [if_neg (by omega), if_pos (by omega), if_neg (by omega), if_pos (by omega)]
    omega
  have e2 : sX (61 + 4 * k) = 2 ∧ sX (62 + 4 * k) = 3 := by
    unfold sX
    rw [if_neg (by omega), if_pos (by omega), if_neg (by omega), if_pos (by omega)]
    omega
  rw [e1.1, e2.1] at t2
  rw [e1.2, e2.2] at t3
  exact ⟨t2, t3⟩
theorem rcC.home (K : rcC A c h) (hT : tA A) (hB : tB A) (hI : pI A) (hw : w < cH A) : h.2.1 (c + 19 + w) 1 = nI (nu A (108 + 4 * w)) := by
  rw [K.wh hT hI hw (by decide), (num_whale hI hB hT hw).2.2.2.2 1 (by decide), show 107 + 4 * w + 1 = 108 + 4 * w by omega]
theorem rcC.boto (K : rcC A c h) (hT : tA A) (hB : tB A) (hI : pI A) (hb : b < cB A) : h.2.1 (c + 24 + b) 1 = nI (nu A (128 + 4 * b)) := by
  rw [K.bo hT hI hb (by decide), (num_box hI hB hT hb).2.2.2.2 1 (by decide), show 127 + 4 * b + 1 = 128 + 4 * b by omega]
/-- the references of a post -/
def cRf (c : Nat) (h : zH) : Prop := h.2.2.2.1 c 9 = some (c + 1) ∧ h.2.2.2.1 c 12 = some (c + 4) ∧ h.2.2.2.1 c 13 = some (c + 5) ∧ (∀ w, w < 5 → h.2.2.2.1 (c + 4) w = some (c + 19 + w)) ∧ ∀ b, b < 8 → h.2.2.2.1 (c + 5) b = some (c + 24 + b)
theorem N_begin (hc : cc2 c) (h1 : h.1 = hh_487.1) (hI : pI A) (hT : tA A) (hB : tB A) (K : rcC A c h) (o : nwO 86 h) (R : cRf c h) : zPa d mX2_begin [.inr (.inr (some 86)), .inr (.inr (some c))] h (fun v g => v = none ∧ bgF h g ∧ nC A (nS0 A) 86 g) := by
  intro N
  obtain ⟨b1, b2, b3, b4, b5⟩ := hI.2.2.1
  have hc2 : c = 2 ∨ c = 42 := hc
  have lp2 : ∀ (N k : Nat) (ls : zL) (g : zH), k ≤ cB A → bgF h g → g.2.1 86 0 = nI 0 → g.2.1 86 1 = 0 → (∀ w, w < cH A → g.2.1 87 w = nI (nu A (108 + 4 * w)) ∧ g.2.1 88 w = nI 0) → (∀ b, b < k → g.2.1 89 b = -2 ∧ g.2.1 90 b = -2 ∧ g.2.1 91 b = codeS (A.2.2.1 (nu A (128 + 4 * b)))) → zget ls 0 = some (.inr (.inr (some 86))) → zget ls 1 = some (.inr (.inr (some c))) → zget ls 2 = some (.inl (nI k)) → zPn N none d mX2_begin (50, ls, [], g) (fun v g => v = none ∧ bgF h g ∧ nC A (nS0 A) 86 g) := by
    intro N
    induction N with
    | zero => intros; exact zPn.zero
    | succ N ih =>
      intro k ls g hk F y0 y1 yw yb hl0 hl1 hl2
      have e : ∀ a j, (a < 86 ∨ 91 < a) → g.2.1 a j = h.2.1 a j := F.2.2
      obtain ⟨sc, sc1, -, sc4, sc5, sw, sb⟩ := cSh hc (F.1.trans h1)
      have z86 : zsh g 86 = some (2, 7) := zsh_by (F.1.trans h1) (by decide +kernel)
      have z89 : zsh g 89 = some (14, 8) := zsh_by (F.1.trans h1) (by decide +kernel)
      have z90 : zsh g 90 = some (14, 8) := zsh_by (F.1.trans h1) (by decide +kernel)
      have z91 : zsh g 91 = some (14, 8) := zsh_by (F.1.trans h1) (by decide +kernel)
      have e7 : g.2.1 c 7 = nI (cB A) := (e _ _ (by omega)).trans K.2.2.2.2.1
      obtain ⟨-, -, r4, r5, r6⟩ := o.2
      have r4 : g.2.2.2.1 86 4 = some 89 := by rw [F.2.1]; exact r4
      have r5 : g.2.2.2.1 86 5 = some 90 := by rw [F.2.1]; exact r5
      have r6 : g.2.2.2.1 86 6 = some 91 := by rw [F.2.1]; exact r6
      obtain ⟨c9, -, c13, -, cb⟩ := R
      have c9 : g.2.2.2.1 c 9 = some (c + 1) := by rw [F.2.1]; exact c9
      have c13 : g.2.2.2.1 c 13 = some (c + 5) := by rw [F.2.1]; exact c13
      refine pa_iload_n (pc' := 51) dX2_begin_50 hl2 rfl ?_
      refine pa_aload_n (pc' := 52) dX2_begin_51 hl1 rfl ?_
      refine pa_getI (pc' := 55) (n := 15) (v := nI (cB A)) dX2_begin_52 fl_2_48 sc (by decide) e7 rfl ?_
      refine pa_icmp (pc' := 100) (pc2 := 58) dX2_begin_55 (by decide) rfl (fun z => ?_) (fun z => ?_)
      · have z := zi_nlt (zk_ge_lt z)
        rw [nI_toInt (by omega), nI_toInt (by omega)] at z
        refine pa_vret dX2_begin_100 rfl ?_
        have ek : k = cB A := by omega
        subst ek
        exact ⟨rfl, F, y0, y1, yw, yb⟩
      · have z := zi_lt (zk_ge_lt z)
        rw [nI_toInt (by omega), nI_toInt (by omega)] at z
        have sb := sb k (by omega)
        have cb : g.2.2.2.1 (c + 5) k = some (c + 24 + k) := by rw [F.2.1]; exact cb k (by omega)
        have q1 : g.2.1 (c + 24 + k) 1 = nI (nu A (128 + 4 * k)) := (e _ _ (by omega)).trans (K.boto hT hB hI (by omega))
        obtain ⟨-, q2, -⟩ := num_box hI hB hT (b := k) (by omega)
        have q3 : g.2.1 (c + 1) (nu A (128 + 4 * k)) = codeS (A.2.2.1 (nu A (128 + 4 * k))) := (e _ _ (by omega)).trans (K.2.2.2.2.2.2.1 _ q2).2
        refine pa_aload_n (pc' := 59) dX2_begin_58 hl0 rfl ?_
        refine pa_getR (pc' := 62) (n := 7) (r := 89) dX2_begin_59 fl_2_25 z86 (by decide) r4 rfl ?_
        refine pa_iload_n (pc' := 63) dX2_begin_62 hl2 rfl ?_
        refine pa_bipush (v := (-2)) (pc' := 65) dX2_begin_63 (by decide) rfl ?_
        refine pa_iast (pc' := 66) dX2_begin_65 z89 rfl (fun _ => ?_)
        rw [nI_clamp (by omega)]
        refine pa_aload_n (pc' := 67) dX2_begin_66 hl0 rfl ?_
        refine pa_getR (pc' := 70) (n := 7) (r := 90) dX2_begin_67 fl_2_28 z86 (by decide) r5 rfl ?_
        refine pa_iload_n (pc' := 71) dX2_begin_70 hl2 rfl ?_
        refine pa_bipush (v := (-2)) (pc' := 73) dX2_begin_71 (by decide) rfl ?_
        refine pa_iast (pc' := 74) dX2_begin_73 z90 rfl (fun _ => ?_)
        rw [nI_clamp (by omega)]
        have q1' : (zsI (zsI g 89 k (-2)) 90 k (-2)).2.1 (c + 24 + k) 1 = nI (nu A (128 + 4 * k)) := by rw [zsI_no (by omega), zsI_no (by omega)]; exact q1
        have q3' : (zsI (zsI g 89 k (-2)) 90 k (-2)).2.1 (c + 1) (nu A (128 + 4 * k)) = codeS (A.2.2.1 (nu A (128 + 4 * k))) := by rw [zsI_no (by omega), zsI_no (by omega)]; exact q3
        refine pa_aload_n (pc' := 75) dX2_begin_74 hl0 rfl ?_
        refine pa_getR (pc' := 78) (n := 7) (r := 91) dX2_begin_75 fl_2_31 z86 (by decide) r6 rfl ?_
        refine pa_iload_n (pc' := 79) dX2_begin_78 hl2 rfl ?_
        refine pa_aload_n (pc' := 80) dX2_begin_79 hl1 rfl ?_
        refine pa_getR (pc' := 83) (n := 15) (r := c + 1) dX2_begin_80 fl_2_51 sc (by decide) c9 rfl ?_
        refine pa_aload_n (pc' := 84) dX2_begin_83 hl1 rfl ?_
        refine pa_getR (pc' := 87) (n := 15) (r := c + 5) dX2_begin_84 fl_2_54 sc (by decide) c13 rfl ?_
        refine pa_iload_n (pc' := 88) dX2_begin_87 hl2 rfl ?_
        refine pa_aald (pc' := 89) (r := c + 24 + k) dX2_begin_88 sc5 (by decide) (zn_in (by omega) (by omega)) (by rw [nI_clamp (by omega)]; exact cb) rfl ?_
        refine pa_getI (pc' := 92) (n := 4) (v := nI (nu A (128 + 4 * k))) dX2_begin_89 fl_2_58 sb (by decide) q1' rfl ?_
        refine pa_iald (pc' := 93) dX2_begin_92 sc1 rfl (fun _ => ?_)
        rw [nI_clamp (by omega), q3']
        refine pa_iast (pc' := 94) dX2_begin_93 z91 rfl (fun _ => ?_)
        rw [nI_clamp (by omega)]
        refine pa_iinc (pc' := 97) (v := nI (k + 1)) dX2_begin_94 hl2 (by decide) (nI_add k 1) rfl rfl ?_
        refine pa_gotos (pc' := 50) dX2_begin_97 (by decide) ?_
        have at' : ∀ a j, (zsI (zsI (zsI g 89 k (-2)) 90 k (-2)) 91 k (codeS (A.2.2.1 (nu A (128 + 4 * k))))).2.1 a j = if a = 91 ∧ j = k then codeS (A.2.2.1 (nu A (128 + 4 * k))) else if a = 90 ∧ j = k then -2 else if a = 89 ∧ j = k then -2 else g.2.1 a j := fun a j => by rw [zsI_at, zsI_at, zsI_at]
        refine ih (k + 1) _ _ (by omega) (((F.st (by decide) (by decide)).st (by decide) (by decide)).st (by decide) (by decide)) (by rw [at', if_neg (by omega), if_neg (by omega), if_neg (by omega)]; exact y0) (by rw [at', if_neg (by omega), if_neg (by omega), if_neg (by omega)]; exact y1) (fun w hw => ?_) (fun b hb => ?_) (zget_s1 hl0 (by decide) (by simp [zcat])) (zget_s1 hl1 (by decide) (by simp [zcat])) zget_s1e
        · rw [at', at', if_neg (by omega), if_neg (by omega), if_neg (by omega), if_neg (by omega), if_neg (by omega), if_neg (by omega)]
          exact yw w hw
        · rw [at', at', at']
          by_cases y : b = k
          · subst y
            rw [if_neg (by omega), if_neg (by omega), if_pos ⟨rfl, rfl⟩, if_neg (by omega), if_pos ⟨rfl, rfl⟩, if_pos ⟨rfl, rfl⟩]
            exact ⟨rfl, rfl, rfl⟩
          · rw [if_neg (by omega), if_neg (by omega), if_neg (by omega), if_neg (by omega), if_neg (by omega), if_neg (by omega), if_neg (by omega), if_neg (by omega), if_neg (by omega)]
            exact yb b (by omega)
  have lp1 : ∀ (N k : Nat) (ls : zL) (g : zH), k ≤ cH A → bgF h g → g.2.1 86 0 = nI 0 → g.2.1 86 1 = 0 → (∀ w, w < k → g.2.1 87 w = nI (nu A (108 + 4 * w)) ∧ g.2.1 88 w = nI 0) → zget ls 0 = some (.inr (.inr (some 86))) → zget ls 1 = some (.inr (.inr (some c))) → zget ls 2 = some (.inl (nI k)) → zPn N none d mX2_begin (12, ls, [], g) (fun v g => v = none ∧ bgF h g ∧ nC A (nS0 A) 86 g) := by
    intro N
    induction N with
    | zero => intros; exact zPn.zero
    | succ N ih =>
      intro k ls g hk F y0 y1 yw hl0 hl1 hl2
      have e : ∀ a j, (a < 86 ∨ 91 < a) → g.2.1 a j = h.2.1 a j := F.2.2
      obtain ⟨sc, -, -, sc4, -, sw, -⟩ := cSh hc (F.1.trans h1)
      have z86 : zsh g 86 = some (2, 7) := zsh_by (F.1.trans h1) (by decide +kernel)
      have z87 : zsh g 87 = some (14, 5) := zsh_by (F.1.trans h1) (by decide +kernel)
      have z88 : zsh g 88 = some (14, 5) := zsh_by (F.1.trans h1) (by decide +kernel)
      have e6 : g.2.1 c 6 = nI (cH A) := (e _ _ (by omega)).trans K.2.2.2.1
      obtain ⟨r2, r3, -, -, -⟩ := o.2
      have r2 : g.2.2.2.1 86 2 = some 87 := by rw [F.2.1]; exact r2
      have r3 : g.2.2.2.1 86 3 = some 88 := by rw [F.2.1]; exact r3
      obtain ⟨-, c12, -, cw, -⟩ := R
      have c12 : g.2.2.2.1 c 12 = some (c + 4) := by rw [F.2.1]; exact c12
      refine pa_iload_n (pc' := 13) dX2_begin_12 hl2 rfl ?_
      refine pa_aload_n (pc' := 14) dX2_begin_13 hl1 rfl ?_
      refine pa_getI (pc' := 17) (n := 15) (v := nI (cH A)) dX2_begin_14 fl_2_34 sc (by decide) e6 rfl ?_
      refine pa_icmp (pc' := 48) (pc2 := 20) dX2_begin_17 (by decide) rfl (fun z => ?_) (fun z => ?_)
      · have z := zi_nlt (zk_ge_lt z)
        rw [nI_toInt (by omega), nI_toInt (by omega)] at z
        have ek : k = cH A := by omega
        subst ek
        refine pa_iconst (v := nI 0) (pc' := 49) dX2_begin_48 (by decide) rfl ?_
        refine pa_istore_n (pc' := 50) dX2_begin_49 (by decide) rfl rfl ?_
        exact lp2 (N + 1) 0 _ _ (Nat.zero_le _) F y0 y1 yw (fun b hb => absurd hb (Nat.not_lt_zero b)) (zget_s1 hl0 (by decide) (by simp [zcat])) (zget_s1 hl1 (by decide) (by simp [zcat])) zget_s1e
      · have z := zi_lt (zk_ge_lt z)
        rw [nI_toInt (by omega), nI_toInt (by omega)] at z
        have sw := sw k (by omega)
        have cw : g.2.2.2.1 (c + 4) k = some (c + 19 + k) := by rw [F.2.1]; exact cw k (by omega)
        have q1 : g.2.1 (c + 19 + k) 1 = nI (nu A (108 + 4 * k)) := (e _ _ (by omega)).trans (K.home hT hB hI (by omega))
        refine pa_aload_n (pc' := 21) dX2_begin_20 hl0 rfl ?_
        refine pa_getR (pc' := 24) (n := 7) (r := 87) dX2_begin_21 fl_2_18 z86 (by decide) r2 rfl ?_
        refine pa_iload_n (pc' := 25) dX2_begin_24 hl2 rfl ?_
        refine pa_aload_n (pc' := 26) dX2_begin_25 hl1 rfl ?_
        refine pa_getR (pc' := 29) (n := 15) (r := c + 4) dX2_begin_26 fl_2_39 sc (by decide) c12 rfl ?_
        refine pa_iload_n (pc' := 30) dX2_begin_29 hl2 rfl ?_
        refine pa_aald (pc' := 31) (r := c + 19 + k) dX2_begin_30 sc4 (by decide) (zn_in (by omega) (by omega)) (by rw [nI_clamp (by omega)]; exact cw) rfl ?_
        refine pa_getI (pc' := 34) (n := 4) (v := nI (nu A (108 + 4 * k))) dX2_begin_31 fl_2_43 sw (by decide) q1 rfl ?_
        refine pa_iast (pc' := 35) dX2_begin_34 z87 rfl (fun _ => ?_)
        rw [nI_clamp (by omega)]
        refine pa_aload_n (pc' := 36) dX2_begin_35 hl0 rfl ?_
        refine pa_getR (pc' := 39) (n := 7) (r := 88) dX2_begin_36 fl_2_22 z86 (by decide) r3 rfl ?_
        refine pa_iload_n (pc' := 40) dX2_begin_39 hl2 rfl ?_
        refine pa_iconst (v := nI 0) (pc' := 41) dX2_begin_40 (by decide) rfl ?_
        refine pa_iast (pc' := 42) dX2_begin_41 z88 rfl (fun _ => ?_)
        rw [nI_clamp (by omega)]
        refine pa_iinc (pc' := 45) (v := nI (k + 1)) dX2_begin_42 hl2 (by decide) (nI_add k 1) rfl rfl ?_
        refine pa_gotos (pc' := 12) dX2_begin_45 (by decide) ?_
        have at' : ∀ a j, (zsI (zsI g 87 k (nI (nu A (108 + 4 * k)))) 88 k (nI 0)).2.1 a j = if a = 88 ∧ j = k then nI 0 else if a = 87 ∧ j = k then nI (nu A (108 + 4 * k)) else g.2.1 a j := fun a j => by rw [zsI_at, zsI_at]
        refine ih (k + 1) _ _ (by omega) ((F.st (by decide) (by decide)).st (by decide) (by decide)) (by rw [at', if_neg (by omega), if_neg (by omega)]; exact y0) (by rw [at', if_neg (by omega), if_neg (by omega)]; exact y1) (fun w hw => ?_) (zget_s1 hl0 (by decide) (by simp [zcat])) (zget_s1 hl1 (by decide) (by simp [zcat])) zget_s1e
        rw [at', at']
        by_cases y : w = k
        · subst y
          rw [if_neg (by omega), if_pos ⟨rfl, rfl⟩, if_pos ⟨rfl, rfl⟩]
          exact ⟨rfl, rfl⟩
        · rw [if_neg (by omega), if_neg (by omega), if_neg (by omega), if_neg (by omega)]
          exact yw w (by omega)
  have z86 : zsh h 86 = some (2, 7) := o.1.1
  show zPn N none d mX2_begin (0, [(0, .inr (.inr (some 86))), (1, .inr (.inr (some c)))], [], h) _
  refine pa_aload_n (pc' := 1) dX2_begin_0 rfl rfl ?_
  refine pa_iconst (v := nI 0) (pc' := 2) dX2_begin_1 (by decide) rfl ?_
  refine pa_putI (pc' := 5) (n := 7) dX2_begin_2 fl_2_9 z86 (Or.inl rfl) (Or.inl rfl) rfl ?_
  refine pa_aload_n (pc' := 6) dX2_begin_5 rfl rfl ?_
  refine pa_iconst (v := nI 0) (pc' := 7) dX2_begin_6 (by decide) rfl ?_
  refine pa_putI (pc' := 10) (n := 7) dX2_begin_7 fl_2_15 z86 (Or.inl rfl) (Or.inl rfl) rfl ?_
  refine pa_iconst (v := nI 0) (pc' := 11) dX2_begin_10 (by decide) rfl ?_
  refine pa_istore_n (pc' := 12) dX2_begin_11 (by decide) rfl rfl ?_
  exact lp1 N 0 _ _ (Nat.zero_le _) ((bgF.rf.st (by decide) (by decide)).st (by decide) (by decide)) (by rw [zsI_no (by omega), zsI_eq]) (by rw [zsI_eq]; rfl) (fun w hw => absurd hw (Nat.not_lt_zero w)) rfl rfl rfl
end BGN
section TKD
variable {d N c e : Nat} {h g : zH} {A : pA}
theorem N_take (hc : cc2 c) (S : nwS h) (hI : pI A) (hT : tA A) (hB : tB A) (K : rcC A c h) (R : cRf c h) (r3 : h.2.2.2.1 0 3 = some e) (r4 : h.2.2.2.1 0 4 = some c) (r7 : h.2.2.2.1 0 7 = some 92) (r8 : h.2.2.2.1 0 8 = some 94) (r9 : h.2.2.2.1 0 9 = some 96) : zPa d mX11_takeDraft [.inr (.inr (some 0))] h (fun v g => v = none ∧ g.2.1 0 13 = 0 ∧ nC A (nS0 A) 86 g) := by
  intro N
  have hc2 : c = 2 ∨ c = 42 := hc
  have s0 : zsh h 0 = some (11, 16) := zsh_by S.1 (by decide +kernel)
  have s92 : zsh h 92 = some (7, 6) := zsh_by S.1 (by decide +kernel)
  have s94 : zsh h 94 = some (6, 7) := zsh_by S.1 (by decide +kernel)
  have s96 : zsh h 96 = some (3, 4) := zsh_by S.1 (by decide +kernel)
  have r6 := S.2.1
  show zPn N none d mX11_takeDraft (0, [(0, .inr (.inr (some 0)))], [], h) _
  refine pa_aload_n (pc' := 1) dX11_takeDraft_0 rfl rfl ?_
  refine pa_getR (pc' := 4) (n := 16) (r := e) dX11_takeDraft_1 fl_11_23 s0 (by decide) r3 rfl ?_
  refine pa_astore_n (pc' := 5) dX11_takeDraft_4 (by decide) rfl rfl ?_
  refine pa_aload_n (pc' := 6) dX11_takeDraft_5 rfl rfl ?_
  refine pa_aload_n (pc' := 7) dX11_takeDraft_6 rfl rfl ?_
  refine pa_getR (pc' := 10) (n := 16) (r := c) dX11_takeDraft_7 fl_11_27 s0 (by decide) r4 rfl ?_
  refine pa_putR (pc' := 13) (n := 16) dX11_takeDraft_10 fl_11_23 s0 (Or.inl rfl) rfl rfl ?_
  refine pa_aload_n (pc' := 14) dX11_takeDraft_13 rfl rfl ?_
  refine pa_aload_n (pc' := 15) dX11_takeDraft_14 rfl rfl ?_
  refine pa_putR (pc' := 18) (n := 16) dX11_takeDraft_15 fl_11_27 s0 (Or.inl rfl) rfl rfl ?_
  refine pa_aload_n (pc' := 19) dX11_takeDraft_18 rfl rfl ?_
  refine pa_getR (pc' := 22) (n := 16) (r := 92) dX11_takeDraft_19 fl_11_51 s0 (by decide) ((zsR_no (by omega)).trans ((zsR_no (by omega)).trans r7)) rfl ?_
  refine pa_aload_n (pc' := 23) dX11_takeDraft_22 rfl rfl ?_
  refine pa_getR (pc' := 26) (n := 16) (r := c) dX11_takeDraft_23 fl_11_23 s0 (by decide) ((zsR_no (by omega)).trans zsR_eq) rfl ?_
  refine pa_putR (pc' := 29) (n := 6) dX11_takeDraft_26 fl_11_388 s92 (Or.inl rfl) rfl rfl ?_
  refine pa_aload_n (pc' := 30) dX11_takeDraft_29 rfl rfl ?_
  refine pa_getR (pc' := 33) (n := 16) (r := 94) dX11_takeDraft_30 fl_11_60 s0 (by decide) ((zsR_no (by omega)).trans ((zsR_no (by omega)).trans ((zsR_no (by omega)).trans r8))) rfl ?_
  refine pa_aload_n (pc' := 34) dX11_takeDraft_33 rfl rfl ?_
  refine pa_getR (pc' := 37) (n := 16) (r := c) dX11_takeDraft_34 fl_11_23 s0 (by decide) ((zsR_no (by omega)).trans ((zsR_no (by omega)).trans zsR_eq)) rfl ?_
  refine pa_putR (pc' := 40) (n := 7) dX11_takeDraft_37 fl_11_389 s94 (Or.inl rfl) rfl rfl ?_
  refine pa_aload_n (pc' := 41) dX11_takeDraft_40 rfl rfl ?_
  refine pa_getR (pc' := 44) (n := 16) (r := 96) dX11_takeDraft_41 fl_11_67 s0 (by decide) ((zsR_no (by omega)).trans ((zsR_no (by omega)).trans ((zsR_no (by omega)).trans ((zsR_no (by omega)).trans r9)))) rfl ?_
  refine pa_aload_n (pc' := 45) dX11_takeDraft_44 rfl rfl ?_
  refine pa_getR (pc' := 48) (n := 16) (r := c) dX11_takeDraft_45 fl_11_23 s0 (by decide) ((zsR_no (by omega)).trans ((zsR_no (by omega)).trans ((zsR_no (by omega)).trans zsR_eq))) rfl ?_
  refine pa_putR (pc' := 51) (n := 4) dX11_takeDraft_48 fl_11_390 s96 (Or.inl rfl) rfl rfl ?_
  generalize eg : zsR (zsR (zsR (zsR (zsR h 0 3 (some c)) 0 4 (some e)) 92 0 (some c)) 94 0 (some c)) 96 0 (some c) = g1
  have er : ∀ a k, a ≠ 0 → a ≠ 92 → a ≠ 94 → a ≠ 96 → g1.2.2.2.1 a k = h.2.2.2.1 a k := fun a k w1 w2 w3 w4 => by rw [← eg, zsR_no (by omega), zsR_no (by omega), zsR_no (by omega), zsR_no (by omega), zsR_no (by omega)]
  have eI : g1.2.1 = h.2.1 := by rw [← eg]; rfl
  have e1 : g1.1 = hh_487.1 := by rw [← eg]; exact S.1
  have K1 : rcC A c g1 := by
    unfold rcC rX at K ⊢
    rw [eI]
    exact K
  have o1 : nwO 86 g1 := by
    obtain ⟨⟨a0, a1, a2, a3, a4, a5⟩, q1, q2, q3, q4, q5⟩ := S.o86
    refine ⟨⟨zsh_by e1 (by decide +kernel), zsh_by e1 (by decide +kernel), zsh_by e1 (by decide +kernel), zsh_by e1 (by decide +kernel), zsh_by e1 (by decide +kernel), zsh_by e1 (by decide +kernel)⟩, ?_, ?_, ?_, ?_, ?_⟩ <;> rw [er _ _ (by decide) (by decide) (by decide) (by decide)] <;> assumption
  have R1 : cRf c g1 := by
    obtain ⟨q1, q2, q3, q4, q5⟩ := R
    exact ⟨(er _ _ (by omega) (by omega) (by omega) (by omega)).trans q1, (er _ _ (by omega) (by omega) (by omega) (by omega)).trans q2, (er _ _ (by omega) (by omega) (by omega) (by omega)).trans q3, fun w hw => (er _ _ (by omega) (by omega) (by omega) (by omega)).trans (q4 w hw), fun b hb => (er _ _ (by omega) (by omega) (by omega) (by omega)).trans (q5 b hb)⟩
  have t0 : zsh g1 0 = some (11, 16) := zsh_by e1 (by decide +kernel)
  have t6 : g1.2.2.2.1 0 6 = some 86 := by rw [← eg, zsR_no (by omega), zsR_no (by omega), zsR_no (by omega), zsR_no (by omega), zsR_no (by omega)]; exact r6
  have t3 : g1.2.2.2.1 0 3 = some c := by rw [← eg, zsR_no (by omega), zsR_no (by omega), zsR_no (by omega), zsR_no (by omega), zsR_eq]
  refine pa_aload_n (pc' := 52) dX11_takeDraft_51 rfl rfl ?_
  refine pa_getR (pc' := 55) (n := 16) (r := 86) dX11_takeDraft_52 fl_11_42 t0 (by decide) t6 rfl ?_
  refine pa_aload_n (pc' := 56) dX11_takeDraft_55 rfl rfl ?_
  refine pa_getR (pc' := 59) (n := 16) (r := c) dX11_takeDraft_56 fl_11_23 t0 (by decide) t3 rfl ?_
  refine pa_callv (pc' := 62) (vs := [.inr (.inr (some c))]) (rest := []) dX11_takeDraft_59 ml_11_391 (by decide) rfl rfl rfl (fun d' _ => (N_begin hc e1 hI hT hB K1 o1 R1)) (fun v g hq => ?_)
  obtain ⟨ev, eh⟩ := hq
  subst ev
  show zPn N none d mX11_takeDraft (62, _, [], g) _
  obtain ⟨F, n⟩ := eh
  have u0 : zsh g 0 = some (11, 16) := zsh_by (F.1.trans e1) (by decide +kernel)
  refine pa_aload_n (pc' := 63) dX11_takeDraft_62 rfl rfl ?_
  refine pa_iconst (v := nI 0) (pc' := 64) dX11_takeDraft_63 (by decide) rfl ?_
  refine pa_putI (pc' := 67) (n := 16) dX11_takeDraft_64 fl_11_85 u0 (Or.inl rfl) (Or.inl rfl) rfl ?_
  refine pa_aload_n (pc' := 68) dX11_takeDraft_67 rfl rfl ?_
  refine pa_iconst (v := nI 0) (pc' := 69) dX11_takeDraft_68 (by decide) rfl ?_
  refine pa_putI (pc' := 72) (n := 16) dX11_takeDraft_69 fl_11_91 u0 (Or.inl rfl) (Or.inl rfl) rfl ?_
  refine pa_vret dX11_takeDraft_72 rfl ?_
  have at' : ∀ a k, (zsI (zsI g 0 13 (nI 0)) 0 15 (nI 0)).2.1 a k = if a = 0 ∧ k = 15 then nI 0 else if a = 0 ∧ k = 13 then nI 0 else g.2.1 a k := fun a k => by rw [zsI_at, zsI_at]
  exact ⟨rfl, by rw [at', if_neg (by omega), if_pos ⟨rfl, rfl⟩]; rfl, n.fr (fun b k w1 w2 => by rw [at', if_neg (by omega), if_neg (by omega)])⟩
end TKD
/-! post: what it leaves of the state, in the class -/
section PNW
variable {d N n s c e : Nat} {h g : zH} {A : pA} {x : Int32}
theorem nwS_of (ho : hOK wd h) (h1 : h.1 = hh_487.1) : nwS h := by
  have r := ho.2.2.1
  have k1 : ∀ k, k < 12 → wd.2.2.1 104 k = some (106 + 6 * k) ∧ wd.2.2.1 (106 + 6 * k) 2 = some (106 + 6 * k + 1) ∧ wd.2.2.1 (106 + 6 * k) 3 = some (106 + 6 * k + 2) ∧ wd.2.2.1 (106 + 6 * k) 4 = some (106 + 6 * k + 3) ∧ wd.2.2.1 (106 + 6 * k) 5 = some (106 + 6 * k + 4) ∧ wd.2.2.1 (106 + 6 * k) 6 = some (106 + 6 * k + 5) := by decide +kernel
  have k2 : ∀ k, k < 3 → wd.2.2.1 105 k = some (178 + 6 * k) ∧ wd.2.2.1 (178 + 6 * k) 2 = some (178 + 6 * k + 1) ∧ wd.2.2.1 (178 + 6 * k) 3 = some (178 + 6 * k + 2) ∧ wd.2.2.1 (178 + 6 * k) 4 = some (178 + 6 * k + 3) ∧ wd.2.2.1 (178 + 6 * k) 5 = some (178 + 6 * k + 4) ∧ wd.2.2.1 (178 + 6 * k) 6 = some (178 + 6 * k + 5) := by decide +kernel
  refine ⟨h1, r 0 6 86 (by decide +kernel), r 0 11 104 (by decide +kernel), r 0 14 105 (by decide +kernel), fun k hk => r _ _ _ (k1 k hk).1, fun k hk => r _ _ _ (k2 k hk).1, ⟨r 86 2 87 (by decide +kernel), r 86 3 88 (by decide +kernel), r 86 4 89 (by decide +kernel), r 86 5 90 (by decide +kernel), r 86 6 91 (by decide +kernel)⟩, fun k hk => ?_, fun k hk => ?_⟩
  · obtain ⟨-, a1, a2, a3, a4, a5⟩ := k1 k hk
    exact ⟨r _ _ _ a1, r _ _ _ a2, r _ _ _ a3, r _ _ _ a4, r _ _ _ a5⟩
  · obtain ⟨-, a1, a2, a3, a4, a5⟩ := k2 k hk
    exact ⟨r _ _ _ a1, r _ _ _ a2, r _ _ _ a3, r _ _ _ a4, r _ _ _ a5⟩
theorem mwS_of (ho : hOK wd h) (h1 : h.1 = hh_487.1) : mwS h := ⟨h1, ho.2.2.1 196 17 201 (by decide +kernel), ho.2.2.1 196 18 202 (by decide +kernel), ho.2.2.1 196 19 203 (by decide +kernel)⟩
theorem cRf_of (ho : hOK wd h) (hc : cc2 c) : cRf c h := by
  have r := ho.2.2.1
  have k1 : ∀ w, w < 5 → wd.2.2.1 (2 + 4) w = some (2 + 19 + w) ∧ wd.2.2.1 (42 + 4) w = some (42 + 19 + w) := by decide +kernel
  have k2 : ∀ w, w < 8 → wd.2.2.1 (2 + 5) w = some (2 + 24 + w) ∧ wd.2.2.1 (42 + 5) w = some (42 + 24 + w) := by decide +kernel
  have hc : c = 2 ∨ c = 42 := hc
  rcases hc with z | z <;> subst z
  · exact ⟨r _ _ _ (by decide +kernel), r _ _ _ (by decide +kernel), r _ _ _ (by decide +kernel), fun w hw => r _ _ _ (k1 w hw).1, fun b hb => r _ _ _ (k2 b hb).1⟩
  · exact ⟨r _ _ _ (by decide +kernel), r _ _ _ (by decide +kernel), r _ _ _ (by decide +kernel), fun w hw => r _ _ _ (k1 w hw).2, fun b hb => r _ _ _ (k2 b hb).2⟩
def pcN (h : zH) (r : sF ⊕ pA) (h' : zH) : Prop := match r with
  | .inl _ => (∀ a k, 86 ≤ a → h'.2.1 a k = h.2.1 a k) ∧ h'.2.1 0 12 = h.2.1 0 12 ∧ h'.2.1 0 13 = h.2.1 0 13
  | .inr A => nC A (nS0 A) 86 h' ∧ h'.2.1 0 13 = 0
theorem N_post11n_0 (ho : hOK wd h) (e1 : h.1 = hh_487.1) (hr : lV h rv0) (ht : h.2.1 0 1 = nI s) (hs : s ≤ 1000) (hn : n ≤ s) (hd : 6 ≤ d + 1) : zPa (d + 1) mX11_post [.inr (.inr (some 0)), .inl (nI n)] h (fun _ h' => pcN h (sText (h.2.1 1) n (n + 1) pA0 0) h') := by
  intro N
  have s0 : zsh h 0 = some (11, 16) := ho.1 0 (11, 16) (by decide +kernel)
  have k0 : (0 : Int32).toInt = 0 := by decide
  show zPn N none (d + 1) mX11_post (0, [(0, .inr (.inr (some 0))), (1, .inl (nI n))], [], h) _
  refine pa_iload_n (pc' := 1) dX11_post_0 rfl rfl ?_
  refine pa_if (pc' := 12) (pc2 := 4) dX11_post_1 (by decide) rfl (fun c => ?_) (fun c => ?_)
  · have := zi_lt c
    rw [nI_toInt (by omega), k0] at this
    omega
  refine pa_iload_n (pc' := 5) dX11_post_4 rfl rfl ?_
  refine pa_aload_n (pc' := 6) dX11_post_5 rfl rfl ?_
  refine pa_getI (pc' := 9) (n := 16) (v := nI s) dX11_post_6 fl_11_13 s0 (by decide) ht rfl ?_
  refine pa_icmp (pc' := 18) (pc2 := 12) dX11_post_9 (by decide) rfl (fun c2 => ?_) (fun c2 => ?_)
  rotate_left
  · have := zi_gt (zk_le_gt c2)
    rw [nI_toInt (by omega), nI_toInt (by omega)] at this
    omega
  refine pa_aload_n (pc' := 19) dX11_post_18 rfl rfl ?_
  refine pa_iconst (v := 0) (pc' := 20) dX11_post_19 (by decide) rfl ?_
  refine pa_putI (pc' := 23) (n := 16) dX11_post_20 fl_11_13 s0 (Or.inl rfl) (Or.inl rfl) rfl ?_
  have ho2 : hOK wd (zsI h 0 1 0) := hOK_set (aLe_in (A := [(0, 0, 1)]) (by decide +kernel) (aR1_in (lo := 0) (hi := 0) (by decide) (by decide))) (by decide +kernel) ho
  have r5 : (zsI h 0 1 0).2.2.2.1 0 5 = some 82 := ho2.2.2.1 0 5 82 (by decide +kernel)
  have r4 : (zsI h 0 1 0).2.2.2.1 0 4 = some 42 := hr ((0, 4), 42) (by decide)
  have hy : (zsI h 0 1 0).2.1 1 = h.2.1 1 := funext (fun k => zsI_no (by omega))
  refine pa_aload_n (pc' := 24) dX11_post_23 rfl rfl ?_
  refine pa_getR (pc' := 27) (n := 16) (r := 82) dX11_post_24 fl_11_35 s0 (by decide) r5 rfl ?_
  refine pa_iload_n (pc' := 28) dX11_post_27 rfl rfl ?_
  refine pa_aload_n (pc' := 29) dX11_post_28 rfl rfl ?_
  refine pa_getR (pc' := 32) (n := 16) (r := 42) dX11_post_29 fl_11_27 s0 (by decide) r4 rfl ?_
  refine pa_callv (pc' := 35) (vs := [.inl (nI n), .inr (.inr (some 42))]) (rest := []) dX11_post_32 ml_11_102 (by decide) rfl rfl rfl (fun d' hd' => zPa.two (zPa.of (S_54 d' (by show 5 ≤ d'; omega) [.inr (.inr (some 82)), .inl (nI n), .inr (.inr (some 42))] (zsI h 0 1 0) ⟨⟨82, List.mem_cons_self, rfl⟩, ⟨_, rfl, aR1_in (lo := 0) (hi := 1000) (by rw [nI_toInt (by omega)]; omega) (by rw [nI_toInt (by omega)]; omega)⟩, ⟨42, List.mem_cons_self, rfl⟩, trivial⟩ ho2 ⟨fun q hq => (nomatch hq), fun q hq => (nomatch hq)⟩)) (by
    obtain ⟨e, rfl⟩ : ∃ e, d' = e + 1 := ⟨d' - 1, by omega⟩
    exact C_text (y := h.2.1 1) (c := 42) (by unfold cc2; decide) e1 ho2.2.2.1 hy (by omega))) (fun v g hq => ?_)
  obtain ⟨⟨ho3, hf3, p3, hp3, hret3, -, hpre3, -⟩, hq⟩ := hq
  have s0g : zsh g 0 = some (11, 16) := ho3.1 0 (11, 16) (by decide +kernel)
  have hrg : lV g rv0 := fun q hq => (hf3.2.2.2.1 q.1.1 q.1.2 (by
    have : ∀ q ∈ rv0, inM [(82, 6, 7)] q.1.1 q.1.2 = false := by decide
    exact this q hq)).trans (hr q hq)
  cases er : sText (h.2.1 1) n (n + 1) pA0 0 with
  | inl e =>
    rw [er] at hq
    obtain ⟨ev, hf⟩ := hq
    subst ev
    show zPn N none (d + 1) mX11_post (35, [(0, .inr (.inr (some 0))), (1, .inl (nI n))], [.inl 0], g) _
    refine pa_if_f (x := 0) (pc' := 38) dX11_post_35 (by decide) (by decide) rfl ?_
    refine pa_aload_n (pc' := 39) dX11_post_38 rfl rfl ?_
    refine pa_iconst (v := 4) (pc' := 40) dX11_post_39 (by decide) rfl ?_
    refine pa_callv (pc' := 43) (vs := [.inl 4]) (rest := []) dX11_post_40 ml_11_98 (by decide) rfl rfl rfl (fun d' _ => c_ref s0g) (fun v g2 hq => ?_)
    obtain ⟨ev, eg⟩ := hq
    subst ev; subst eg
    exact pa_iret dX11_post_43 rfl rfl ⟨fun a k ha => ((zsI_no (by omega)).trans (hf3.2.2.1 a k (inM_by (fun x => Nat.ble x 85) (by decide +kernel) (ble_f (by omega))))).trans (zsI_no (by omega)), ((zsI_no (by omega)).trans (hf3.2.2.1 0 12 (by decide))).trans (zsI_no (by omega)), ((zsI_no (by omega)).trans (hf3.2.2.1 0 13 (by decide))).trans (zsI_no (by omega))⟩
  | inr A =>
    rw [er] at hq
    obtain ⟨ev, hC, hI⟩ := hq
    subst ev
    have hT := sText_tA _ _ _ pI_0 tA_0 (Nat.zero_le _) er
    have hB := sText_tB _ _ _ pI_0 tB_0 (Nat.zero_le _) er
    show zPn N none (d + 1) mX11_post (35, [(0, .inr (.inr (some 0))), (1, .inl (nI n))], [.inl 1], g) _
    refine pa_if_t (x := 1) (pc' := 44) dX11_post_35 (by decide) (by decide) ?_
    refine pa_aload_n (pc' := 45) dX11_post_44 rfl rfl ?_
    refine pa_callv (pc' := 48) (vs := []) (rest := []) dX11_post_45 ml_11_106 (by decide) rfl rfl rfl (fun d' hd' => zPa.two (zPa.of (S_56 d' (by show 1 ≤ d'; omega) [.inr (.inr (some 0))] g ⟨⟨0, List.mem_cons_self, rfl⟩, trivial⟩ ho3 ⟨fun q hq => (nomatch hq), hrg⟩)) (N_take (c := 42) (e := 2) (by unfold cc2; decide) (nwS_of ho3 (hf3.1.trans e1)) hI hT hB hC (cRf_of ho3 (by unfold cc2; decide)) (hrg ((0, 3), 2) (by decide)) (hrg ((0, 4), 42) (by decide)) (ho3.2.2.1 0 7 92 (by decide +kernel)) (ho3.2.2.1 0 8 94 (by decide +kernel)) (ho3.2.2.1 0 9 96 (by decide +kernel)))) (fun v g2 hq => ?_)
    obtain ⟨⟨ho4, hf4, p, hp, hret, -, hpre, hpr⟩, -, z13, nw⟩ := hq
    have hall : ct_56.2.2.2.1.all (fun p => decide (p.1 = none) && p.2.2.2.any (fun q => decide (q = ((0, 3), 42)))) = true := by decide +kernel
    have hb := List.all_eq_true.mp hall p hp
    rw [Bool.and_eq_true] at hb
    have ev : v = none := by
      rw [of_decide_eq_true hb.1] at hret
      exact hret
    subst ev
    have s0h : zsh g2 0 = some (11, 16) := ho4.1 0 (11, 16) (by decide +kernel)
    have sch : zsh g2 42 = some (4, 15) := ho4.1 42 (4, 15) (by decide +kernel)
    have r3 : g2.2.2.2.1 0 3 = some 42 := by
      obtain ⟨q, hq, e⟩ := List.any_eq_true.mp hb.2
      have e := of_decide_eq_true e
      subst e
      exact hpr _ hq
    show zPn N none (d + 1) mX11_post (48, [(0, .inr (.inr (some 0))), (1, .inl (nI n))], [], g2) _
    refine pa_aload_n (pc' := 49) dX11_post_48 rfl rfl ?_
    refine pa_aload_n (pc' := 50) dX11_post_49 rfl rfl ?_
    refine pa_getR (pc' := 53) (n := 16) (r := 42) dX11_post_50 fl_11_23 s0h (by decide) r3 rfl ?_
    refine pa_getI (pc' := 56) (n := 15) dX11_post_53 fl_11_109 sch (by decide) rfl rfl ?_
    refine pa_callv (pc' := 59) (vs := [.inl (g2.2.1 42 4)]) (rest := []) dX11_post_56 ml_11_112 (by decide) rfl rfl rfl (fun d' _ => c_gra s0h) (fun v g3 hq => ?_)
    obtain ⟨ev, eg⟩ := hq
    subst ev; subst eg
    exact pa_iret dX11_post_59 rfl rfl ⟨nw.fr (fun b k w1 w2 => zsI_no (by omega)), (zsI_no (by omega)).trans z13⟩
theorem N_post11n_1 (ho : hOK wd h) (e1 : h.1 = hh_487.1) (hr : lV h rv1) (ht : h.2.1 0 1 = nI s) (hs : s ≤ 1000) (hn : n ≤ s) (hd : 6 ≤ d + 1) : zPa (d + 1) mX11_post [.inr (.inr (some 0)), .inl (nI n)] h (fun _ h' => pcN h (sText (h.2.1 1) n (n + 1) pA0 0) h') := by
  intro N
  have s0 : zsh h 0 = some (11, 16) := ho.1 0 (11, 16) (by decide +kernel)
  have k0 : (0 : Int32).toInt = 0 := by decide
  show zPn N none (d + 1) mX11_post (0, [(0, .inr (.inr (some 0))), (1, .inl (nI n))], [], h) _
  refine pa_iload_n (pc' := 1) dX11_post_0 rfl rfl ?_
  refine pa_if (pc' := 12) (pc2 := 4) dX11_post_1 (by decide) rfl (fun c => ?_) (fun c => ?_)
  · have := zi_lt c
    rw [nI_toInt (by omega), k0] at this
    omega
  refine pa_iload_n (pc' := 5) dX11_post_4 rfl rfl ?_
  refine pa_aload_n (pc' := 6) dX11_post_5 rfl rfl ?_
  refine pa_getI (pc' := 9) (n := 16) (v := nI s) dX11_post_6 fl_11_13 s0 (by decide) ht rfl ?_
  refine pa_icmp (pc' := 18) (pc2 := 12) dX11_post_9 (by decide) rfl (fun c2 => ?_) (fun c2 => ?_)
  rotate_left
  · have := zi_gt (zk_le_gt c2)
    rw [nI_toInt (by omega), nI_toInt (by omega)] at this
    omega
  refine pa_aload_n (pc' := 19) dX11_post_18 rfl rfl ?_
  refine pa_iconst (v := 0) (pc' := 20) dX11_post_19 (by decide) rfl ?_
  refine pa_putI (pc' := 23) (n := 16) dX11_post_20 fl_11_13 s0 (Or.inl rfl) (Or.inl rfl) rfl ?_
  have ho2 : hOK wd (zsI h 0 1 0) := hOK_set (aLe_in (A := [(0, 0, 1)]) (by decide +kernel) (aR1_in (lo := 0) (hi := 0) (by decide) (by decide))) (by decide +kernel) ho
  have r5 : (zsI h 0 1 0).2.2.2.1 0 5 = some 82 := ho2.2.2.1 0 5 82 (by decide +kernel)
  have r4 : (zsI h 0 1 0).2.2.2.1 0 4 = some 2 := hr ((0, 4), 2) (by decide)
  have hy : (zsI h 0 1 0).2.1 1 = h.2.1 1 := funext (fun k => zsI_no (by omega))
  refine pa_aload_n (pc' := 24) dX11_post_23 rfl rfl ?_
  refine pa_getR (pc' := 27) (n := 16) (r := 82) dX11_post_24 fl_11_35 s0 (by decide) r5 rfl ?_
  refine pa_iload_n (pc' := 28) dX11_post_27 rfl rfl ?_
  refine pa_aload_n (pc' := 29) dX11_post_28 rfl rfl ?_
  refine pa_getR (pc' := 32) (n := 16) (r := 2) dX11_post_29 fl_11_27 s0 (by decide) r4 rfl ?_
  refine pa_callv (pc' := 35) (vs := [.inl (nI n), .inr (.inr (some 2))]) (rest := []) dX11_post_32 ml_11_102 (by decide) rfl rfl rfl (fun d' hd' => zPa.two (zPa.of (S_306 d' (by show 5 ≤ d'; omega) [.inr (.inr (some 82)), .inl (nI n), .inr (.inr (some 2))] (zsI h 0 1 0) ⟨⟨82, List.mem_cons_self, rfl⟩, ⟨_, rfl, aR1_in (lo := 0) (hi := 1000) (by rw [nI_toInt (by omega)]; omega) (by rw [nI_toInt (by omega)]; omega)⟩, ⟨2, List.mem_cons_self, rfl⟩, trivial⟩ ho2 ⟨fun q hq => (nomatch hq), fun q hq => (nomatch hq)⟩)) (by
    obtain ⟨e, rfl⟩ : ∃ e, d' = e + 1 := ⟨d' - 1, by omega⟩
    exact C_text (y := h.2.1 1) (c := 2) (by unfold cc2; decide) e1 ho2.2.2.1 hy (by omega))) (fun v g hq => ?_)
  obtain ⟨⟨ho3, hf3, p3, hp3, hret3, -, hpre3, -⟩, hq⟩ := hq
  have s0g : zsh g 0 = some (11, 16) := ho3.1 0 (11, 16) (by decide +kernel)
  have hrg : lV g rv1 := fun q hq => (hf3.2.2.2.1 q.1.1 q.1.2 (by
    have : ∀ q ∈ rv1, inM [(82, 6, 7)] q.1.1 q.1.2 = false := by decide
    exact this q hq)).trans (hr q hq)
  cases er : sText (h.2.1 1) n (n + 1) pA0 0 with
  | inl e =>
    rw [er] at hq
    obtain ⟨ev, hf⟩ := hq
    subst ev
    show zPn N none (d + 1) mX11_post (35, [(0, .inr (.inr (some 0))), (1, .inl (nI n))], [.inl 0], g) _
    refine pa_if_f (x := 0) (pc' := 38) dX11_post_35 (by decide) (by decide) rfl ?_
    refine pa_aload_n (pc' := 39) dX11_post_38 rfl rfl ?_
    refine pa_iconst (v := 4) (pc' := 40) dX11_post_39 (by decide) rfl ?_
    refine pa_callv (pc' := 43) (vs := [.inl 4]) (rest := []) dX11_post_40 ml_11_98 (by decide) rfl rfl rfl (fun d' _ => c_ref s0g) (fun v g2 hq => ?_)
    obtain ⟨ev, eg⟩ := hq
    subst ev; subst eg
    exact pa_iret dX11_post_43 rfl rfl ⟨fun a k ha => ((zsI_no (by omega)).trans (hf3.2.2.1 a k (inM_by (fun x => Nat.ble x 85) (by decide +kernel) (ble_f (by omega))))).trans (zsI_no (by omega)), ((zsI_no (by omega)).trans (hf3.2.2.1 0 12 (by decide))).trans (zsI_no (by omega)), ((zsI_no (by omega)).trans (hf3.2.2.1 0 13 (by decide))).trans (zsI_no (by omega))⟩
  | inr A =>
    rw [er] at hq
    obtain ⟨ev, hC, hI⟩ := hq
    subst ev
    have hT := sText_tA _ _ _ pI_0 tA_0 (Nat.zero_le _) er
    have hB := sText_tB _ _ _ pI_0 tB_0 (Nat.zero_le _) er
    show zPn N none (d + 1) mX11_post (35, [(0, .inr (.inr (some 0))), (1, .inl (nI n))], [.inl 1], g) _
    refine pa_if_t (x := 1) (pc' := 44) dX11_post_35 (by decide) (by decide) ?_
    refine pa_aload_n (pc' := 45) dX11_post_44 rfl rfl ?_
    refine pa_callv (pc' := 48) (vs := []) (rest := []) dX11_post_45 ml_11_106 (by decide) rfl rfl rfl (fun d' hd' => zPa.two (zPa.of (S_308 d' (by show 1 ≤ d'; omega) [.inr (.inr (some 0))] g ⟨⟨0, List.mem_cons_self, rfl⟩, trivial⟩ ho3 ⟨fun q hq => (nomatch hq), hrg⟩)) (N_take (c := 2) (e := 42) (by unfold cc2; decide) (nwS_of ho3 (hf3.1.trans e1)) hI hT hB hC (cRf_of ho3 (by unfold cc2; decide)) (hrg ((0, 3), 42) (by decide)) (hrg ((0, 4), 2) (by decide)) (ho3.2.2.1 0 7 92 (by decide +kernel)) (ho3.2.2.1 0 8 94 (by decide +kernel)) (ho3.2.2.1 0 9 96 (by decide +kernel)))) (fun v g2 hq => ?_)
    obtain ⟨⟨ho4, hf4, p, hp, hret, -, hpre, hpr⟩, -, z13, nw⟩ := hq
    have hall : ct_308.2.2.2.1.all (fun p => decide (p.1 = none) && p.2.2.2.any (fun q => decide (q = ((0, 3), 2)))) = true := by decide +kernel
    have hb := List.all_eq_true.mp hall p hp
    rw [Bool.and_eq_true] at hb
    have ev : v = none := by
      rw [of_decide_eq_true hb.1] at hret
      exact hret
    subst ev
    have s0h : zsh g2 0 = some (11, 16) := ho4.1 0 (11, 16) (by decide +kernel)
    have sch : zsh g2 2 = some (4, 15) := ho4.1 2 (4, 15) (by decide +kernel)
    have r3 : g2.2.2.2.1 0 3 = some 2 := by
      obtain ⟨q, hq, e⟩ := List.any_eq_true.mp hb.2
      have e := of_decide_eq_true e
      subst e
      exact hpr _ hq
    show zPn N none (d + 1) mX11_post (48, [(0, .inr (.inr (some 0))), (1, .inl (nI n))], [], g2) _
    refine pa_aload_n (pc' := 49) dX11_post_48 rfl rfl ?_
    refine pa_aload_n (pc' := 50) dX11_post_49 rfl rfl ?_
    refine pa_getR (pc' := 53) (n := 16) (r := 2) dX11_post_50 fl_11_23 s0h (by decide) r3 rfl ?_
    refine pa_getI (pc' := 56) (n := 15) dX11_post_53 fl_11_109 sch (by decide) rfl rfl ?_
    refine pa_callv (pc' := 59) (vs := [.inl (g2.2.1 2 4)]) (rest := []) dX11_post_56 ml_11_112 (by decide) rfl rfl rfl (fun d' _ => c_gra s0h) (fun v g3 hq => ?_)
    obtain ⟨ev, eg⟩ := hq
    subst ev; subst eg
    exact pa_iret dX11_post_59 rfl rfl ⟨nw.fr (fun b k w1 w2 => zsI_no (by omega)), (zsI_no (by omega)).trans z13⟩
end PNW
/-! post: what it leaves of the state, in the reference -/
theorem zPn.all {N : Nat} {scr : Option (Nat × (Nat → Int32))} {d : Nat} {m : zM} {g : zC} {Q : Option zV → zH → Prop} (k : ∀ v h', Q v h') : zPn N scr d m g Q := fun _ _ v h' _ => k v h'
theorem nt_sub {b : Int32} (h1 : 97 ≤ b.toInt) (h2 : b.toInt < 101) : b - 97 = nI (dg b) := by
  refine Int32.toInt_inj.mp ?_
  unfold dg
  rw [Int32.toInt_sub, show (97 : Int32).toInt = 97 by decide, nI_toInt (by omega), bmod_fit (by omega) (by omega)]
  omega
/-- the songs of a post are of its notes -/
theorem okN_of {A : pA} {i : Nat} (hI : pI A) (hi : i < cI A) : okN (ntA A) (A.2.2.1 i) ∧ (A.2.2.1 i).length ≤ 6 ∧ 2 ≤ (A.2.2.1 i).length ∧ 2 ≤ ntA A ∧ ntA A ≤ 4 ∧ A.1 = nI (ntA A) := by
  obtain ⟨o1, o2⟩ := hI.2.2.2.2.2.1 i hi
  have hn : A.1.toInt = ntA A ∧ 2 ≤ ntA A ∧ ntA A ≤ 4 ∧ A.1 = nI (ntA A) := by
    unfold ntA
    rcases hI.1 with e | e | e | e
    · have := (hI.2.1 e).1
      omega
    · rw [e]; decide
    · rw [e]; decide
    · rw [e]; decide
  unfold okSong at o1
  rw [Bool.and_eq_true, Bool.and_eq_true] at o1
  obtain ⟨p1, p2, p3⟩ := o1
  refine ⟨fun b hb => ?_, of_decide_eq_true p2, of_decide_eq_true p1, hn.2⟩
  have q1 := of_decide_eq_true (List.all_eq_true.mp p3 b hb)
  have q2 := List.all_eq_true.mp o2 b hb
  unfold isLt at q2
  rw [Bool.and_eq_true] at q2
  have q3 := Int32.le_iff_toInt_le.mp (of_decide_eq_true q2.1)
  have q4 := Int32.le_iff_toInt_le.mp (of_decide_eq_true q2.2)
  rw [show (97 : Int32).toInt = 97 by decide] at q3
  rw [show (122 : Int32).toInt = 122 by decide] at q4
  have q1 := lt_i.mp q1
  rw [Int32.toInt_sub, show (97 : Int32).toInt = 97 by decide, bmod_fit (by omega) (by omega)] at q1
  omega
/-- what the tail reads -/
def tK2 (H B : Nat) (hm to : Nat → Nat) (sg : Nat → List Int32) (h : zH) : Prop := h.1 = hh_487.1 ∧ (h.2.2.2.1 196 15 = some 199 ∧ h.2.2.2.1 196 17 = some 201) ∧ (H ≤ 5 ∧ B ≤ 8) ∧ (h.2.1 199 6 = nI H ∧ h.2.1 199 7 = nI B) ∧ (∀ w, w < H → h.2.1 199 (107 + 4 * w + 1) = nI (hm w)) ∧ ∀ b, b < B → h.2.1 199 (127 + 4 * b + 1) = nI (to b) ∧ to b < 7 ∧ (sg b).length ≤ 6 ∧ ∀ j, j < (sg b).length → h.2.1 199 (10 + 7 * to b + 1 + j) = nI (dg ((sg b).getD j 0))
def tS2 (hm : Nat → Nat) (sg : Nat → List Int32) (m k : Nat) (h : zH) : Prop := h.2.1 201 0 = 0 ∧ h.2.1 201 1 = 0 ∧ (∀ w, w < 5 → h.2.1 201 (7 + w) = 0) ∧ (∀ w, w < m → h.2.1 201 (2 + w) = nI (hm w)) ∧ (∀ b, b < 8 → h.2.1 201 (12 + b) = 0 ∧ h.2.1 201 (20 + b) = 0) ∧ ∀ b, b < k → ∀ j, j < (sg b).length → h.2.1 201 (28 + 6 * b + j) = nI (dg ((sg b).getD j 0))
section TL2
variable {d N n p H B : Nat} {h g : zH} {hm to : Nat → Nat} {sg : Nat → List Int32}
theorem tK2.bt (T : tK2 H B hm to sg h) (k : hBut 201 h g) : tK2 H B hm to sg g := by
  obtain ⟨t1, t2, t3, ⟨t4, t5⟩, t6, t7⟩ := T
  have e : ∀ j, g.2.1 199 j = h.2.1 199 j := fun j => k.2.2 199 j (by decide)
  refine ⟨k.1.trans t1, by rw [k.2.1]; exact t2, t3, ⟨(e _).trans t4, (e _).trans t5⟩, fun w hw => (e _).trans (t6 w hw), fun b hb => ?_⟩
  obtain ⟨a1, a2, a3, a4⟩ := t7 b hb
  exact ⟨(e _).trans a1, a2, a3, fun j hj => (e _).trans (a4 j hj)⟩
theorem T2_313 {ls : zL} (T : tK2 H B hm to sg h) (s : tS2 hm sg H B h) (hl0 : zget ls 0 = some (.inr (.inr (some 196)))) : zPn N none d mX12_post (313, ls, [], h) (fun _ h' => tS2 hm sg H B h' ∧ h'.2.1 196 20 = 0) := by
  have s196 : zsh h 196 = some (12, 39) := zsh_by T.1 (by decide +kernel)
  have s199 : zsh h 199 = some (14, 363) := zsh_by T.1 (by decide +kernel)
  have r15 := T.2.1.1
  refine pa_aload_n (pc' := 314) dX12_post_313 hl0 rfl ?_
  refine pa_iconst (v := 1) (pc' := 315) dX12_post_314 (by decide) rfl ?_
  refine pa_putI (pc' := 318) (n := 39) dX12_post_315 fl_12_180 s196 (Or.inl rfl) (Or.inr ⟨rfl, by decide⟩) rfl ?_
  refine pa_aload_n (pc' := 319) dX12_post_318 hl0 rfl ?_
  refine pa_iconst (v := nI 0) (pc' := 320) dX12_post_319 (by decide) rfl ?_
  refine pa_putI (pc' := 323) (n := 39) dX12_post_320 fl_12_183 s196 (Or.inl rfl) (Or.inl rfl) rfl ?_
  refine pa_aload_n (pc' := 324) dX12_post_323 hl0 rfl ?_
  refine pa_iconst (v := nI 0) (pc' := 325) dX12_post_324 (by decide) rfl ?_
  refine pa_putI (pc' := 328) (n := 39) dX12_post_325 fl_12_186 s196 (Or.inl rfl) (Or.inl rfl) rfl ?_
  refine pa_aload_n (pc' := 329) dX12_post_328 hl0 rfl ?_
  refine pa_getR (pc' := 332) (n := 39) (r := 199) dX12_post_329 fl_12_20 s196 (by decide) r15 rfl ?_
  refine pa_iconst (v := nI 4) (pc' := 333) dX12_post_332 (by decide) rfl ?_
  refine pa_iald (pc' := 334) dX12_post_333 s199 rfl (fun _ => ?_)
  rw [nI_clamp (by omega)]
  refine pa_iret dX12_post_334 rfl rfl ?_
  have e : ∀ j, (zsI (zsI (zsI h 196 14 1) 196 20 (nI 0)) 196 21 (nI 0)).2.1 201 j = h.2.1 201 j := fun j => by rw [zsI_no (by omega), zsI_no (by omega), zsI_no (by omega)]
  obtain ⟨s1, s2, s3, s4, s5, s6⟩ := s
  exact ⟨⟨(e _).trans s1, (e _).trans s2, fun w hw => (e _).trans (s3 w hw), fun w hw => (e _).trans (s4 w hw), fun b hb => ⟨(e _).trans (s5 b hb).1, (e _).trans (s5 b hb).2⟩, fun b hb j hj => (e _).trans (s6 b hb j hj)⟩, by rw [zsI_no (by omega), zsI_eq]; rfl⟩
theorem T2_255 : ∀ (N k : Nat) (h : zH) (ls : zL), k ≤ B → tK2 H B hm to sg h → tS2 hm sg H k h → zget ls 0 = some (.inr (.inr (some 196))) → zget ls 2 = some (.inl (nI k)) → zPn N none d mX12_post (255, ls, [], h) (fun _ h' => tS2 hm sg H B h' ∧ h'.2.1 196 20 = 0) := by
  intro N
  induction N with
  | zero => intros; exact zPn.zero
  | succ N ih =>
    intro k h ls hk T s hl0 hl2
    have s196 : zsh h 196 = some (12, 39) := zsh_by T.1 (by decide +kernel)
    have s199 : zsh h 199 = some (14, 363) := zsh_by T.1 (by decide +kernel)
    have s201 : zsh h 201 = some (14, 76) := zsh_by T.1 (by decide +kernel)
    obtain ⟨r15, r17⟩ := T.2.1
    obtain ⟨hH, hB⟩ := T.2.2.1
    have e7 := T.2.2.2.1.2
    refine pa_iload_n (pc' := 256) dX12_post_255 hl2 rfl ?_
    refine pa_aload_n (pc' := 257) dX12_post_256 hl0 rfl ?_
    refine pa_getR (pc' := 260) (n := 39) (r := 199) dX12_post_257 fl_12_20 s196 (by decide) r15 rfl ?_
    refine pa_bipush (v := nI 7) (pc' := 262) dX12_post_260 (by decide) rfl ?_
    refine pa_iald (pc' := 263) dX12_post_262 s199 rfl (fun _ => ?_)
    rw [nI_clamp (by omega), e7]
    refine pa_icmp (pc' := 313) (pc2 := 266) dX12_post_263 (by decide) rfl (fun z => ?_) (fun z => ?_)
    · have z := zi_nlt (zk_ge_lt z)
      rw [nI_toInt (by omega), nI_toInt (by omega)] at z
      have ek : k = B := by omega
      subst ek
      exact T2_313 T s hl0
    · have z := zi_lt (zk_ge_lt z)
      rw [nI_toInt (by omega), nI_toInt (by omega)] at z
      obtain ⟨q1, q2, q3, q4⟩ := T.2.2.2.2.2 k (by omega)
      refine pa_aload_n (pc' := 267) dX12_post_266 hl0 rfl ?_
      refine pa_getR (pc' := 270) (n := 39) (r := 199) dX12_post_267 fl_12_20 s196 (by decide) r15 rfl ?_
      refine pa_bipush (v := nI 10) (pc' := 272) dX12_post_270 (by decide) rfl ?_
      refine pa_bipush (v := nI 7) (pc' := 274) dX12_post_272 (by decide) rfl ?_
      refine pa_aload_n (pc' := 275) dX12_post_274 hl0 rfl ?_
      refine pa_getR (pc' := 278) (n := 39) (r := 199) dX12_post_275 fl_12_20 s196 (by decide) r15 rfl ?_
      refine pa_bipush (v := nI 127) (pc' := 280) dX12_post_278 (by decide) rfl ?_
      refine pa_iconst (v := nI 4) (pc' := 281) dX12_post_280 (by decide) rfl ?_
      refine pa_iload_n (pc' := 282) dX12_post_281 hl2 rfl ?_
      refine pa_imul (pc' := 283) (v := nI (4 * k)) dX12_post_282 (nI_mul _ _) rfl ?_
      refine pa_iadd (pc' := 284) (v := nI (127 + 4 * k)) dX12_post_283 (nI_add _ _) rfl ?_
      refine pa_iconst (v := nI 1) (pc' := 285) dX12_post_284 (by decide) rfl ?_
      refine pa_iadd (pc' := 286) (v := nI (127 + 4 * k + 1)) dX12_post_285 (nI_add _ _) rfl ?_
      refine pa_iald (pc' := 287) dX12_post_286 s199 rfl (fun _ => ?_)
      rw [nI_clamp (by omega), q1]
      refine pa_imul (pc' := 288) (v := nI (7 * (to k))) dX12_post_287 (nI_mul _ _) rfl ?_
      refine pa_iadd (pc' := 289) (v := nI (10 + 7 * (to k))) dX12_post_288 (nI_add _ _) rfl ?_
      refine pa_iconst (v := nI 1) (pc' := 290) dX12_post_289 (by decide) rfl ?_
      refine pa_iadd (pc' := 291) (v := nI (10 + 7 * (to k) + 1)) dX12_post_290 (nI_add _ _) rfl ?_
      refine pa_aload_n (pc' := 292) dX12_post_291 hl0 rfl ?_
      refine pa_getR (pc' := 295) (n := 39) (r := 201) dX12_post_292 fl_12_26 s196 (by decide) r17 rfl ?_
      refine pa_bipush (v := nI 28) (pc' := 297) dX12_post_295 (by decide) rfl ?_
      refine pa_bipush (v := nI 6) (pc' := 299) dX12_post_297 (by decide) rfl ?_
      refine pa_iload_n (pc' := 300) dX12_post_299 hl2 rfl ?_
      refine pa_imul (pc' := 301) (v := nI (6 * k)) dX12_post_300 (nI_mul _ _) rfl ?_
      refine pa_iadd (pc' := 302) (v := nI (28 + 6 * k)) dX12_post_301 (nI_add _ _) rfl ?_
      refine pa_bipush (v := nI 6) (pc' := 304) dX12_post_302 (by decide) rfl ?_
      refine pa_calls (pc' := 307) (kd := 1) (vs := [.inr (.inr (some 199)), .inl (nI (10 + 7 * (to k) + 1)), .inr (.inr (some 201)), .inl (nI (28 + 6 * k)), .inl (nI 6)]) (rest := []) dX12_post_304 ml_12_176 (.inl rfl) rfl rfl rfl (fun d' _ => (M_copy s199 s201 (by decide) (by omega) (by omega) (by decide) (by decide))) (fun v g3 hq => ?_)
      obtain ⟨ev, eh⟩ := hq
      subst ev
      show zPn (N + 1) none d mX12_post (307, _, [], g3) _
      have B3 : hBut 201 h g3 := by
        rw [eh]
        exact ⟨rfl, rfl, fun a j ha => by rw [cpyH_at, if_neg (fun w => ha w.1)]⟩
      have at' : ∀ j, g3.2.1 201 j = if 28 + 6 * k ≤ j ∧ j < 28 + 6 * k + 6 then h.2.1 199 (10 + 7 * (to k) + 1 + (j - (28 + 6 * k))) else h.2.1 201 j := fun j => by
        rw [eh, cpyH_at]
        by_cases w : 28 + 6 * k ≤ j ∧ j < 28 + 6 * k + 6
        · rw [if_pos ⟨rfl, w⟩, if_pos w]
        · rw [if_neg (fun w' => w w'.2), if_neg w]
      clear eh
      refine pa_iinc (pc' := 310) (v := nI (k + 1)) dX12_post_307 hl2 (by decide) (nI_add k 1) rfl rfl ?_
      refine pa_gotos (pc' := 255) dX12_post_310 (by decide) ?_
      obtain ⟨s1, s2, s3, s4, s5, s6⟩ := s
      refine ih (k + 1) _ _ (by omega) (T.bt B3) ⟨by rw [at', if_neg (by omega)]; exact s1, by rw [at', if_neg (by omega)]; exact s2, fun w hw => by rw [at', if_neg (by omega)]; exact s3 w hw, fun w hw => by rw [at', if_neg (by omega)]; exact s4 w hw, fun b hb => ⟨by rw [at', if_neg (by omega)]; exact (s5 b hb).1, by rw [at', if_neg (by omega)]; exact (s5 b hb).2⟩, fun b hb j hj => ?_⟩ (zget_s1 hl0 (by decide) (by simp [zcat])) zget_s1e
      rw [at']
      by_cases w : b = k
      · subst w
        rw [if_pos (by omega), show 28 + 6 * b + j - (28 + 6 * b) = j by omega]
        exact q4 j hj
      · have l6 := (T.2.2.2.2.2 b (by omega)).2.2.1
        rw [if_neg (by omega)]
        exact s6 b (by omega) j hj
theorem T2_215 : ∀ (N k : Nat) (h : zH) (ls : zL), k ≤ H → tK2 H B hm to sg h → tS2 hm sg k 0 h → zget ls 0 = some (.inr (.inr (some 196))) → zget ls 2 = some (.inl (nI k)) → zPn N none d mX12_post (215, ls, [], h) (fun _ h' => tS2 hm sg H B h' ∧ h'.2.1 196 20 = 0) := by
  intro N
  induction N with
  | zero => intros; exact zPn.zero
  | succ N ih =>
    intro k h ls hk T s hl0 hl2
    have s196 : zsh h 196 = some (12, 39) := zsh_by T.1 (by decide +kernel)
    have s199 : zsh h 199 = some (14, 363) := zsh_by T.1 (by decide +kernel)
    have s201 : zsh h 201 = some (14, 76) := zsh_by T.1 (by decide +kernel)
    obtain ⟨r15, r17⟩ := T.2.1
    obtain ⟨hH, hB⟩ := T.2.2.1
    have e6 := T.2.2.2.1.1
    refine pa_iload_n (pc' := 216) dX12_post_215 hl2 rfl ?_
    refine pa_aload_n (pc' := 217) dX12_post_216 hl0 rfl ?_
    refine pa_getR (pc' := 220) (n := 39) (r := 199) dX12_post_217 fl_12_20 s196 (by decide) r15 rfl ?_
    refine pa_bipush (v := nI 6) (pc' := 222) dX12_post_220 (by decide) rfl ?_
    refine pa_iald (pc' := 223) dX12_post_222 s199 rfl (fun _ => ?_)
    rw [nI_clamp (by omega), e6]
    refine pa_icmp (pc' := 253) (pc2 := 226) dX12_post_223 (by decide) rfl (fun z => ?_) (fun z => ?_)
    · have z := zi_nlt (zk_ge_lt z)
      rw [nI_toInt (by omega), nI_toInt (by omega)] at z
      have ek : k = H := by omega
      subst ek
      refine pa_iconst (v := nI 0) (pc' := 254) dX12_post_253 (by decide) rfl ?_
      refine pa_istore_n (pc' := 255) dX12_post_254 (by decide) rfl rfl ?_
      exact T2_255 (N + 1) 0 _ _ (Nat.zero_le _) T s (zget_s1 hl0 (by decide) (by simp [zcat])) zget_s1e
    · have z := zi_lt (zk_ge_lt z)
      rw [nI_toInt (by omega), nI_toInt (by omega)] at z
      have q1 := T.2.2.2.2.1 k (by omega)
      refine pa_aload_n (pc' := 227) dX12_post_226 hl0 rfl ?_
      refine pa_getR (pc' := 230) (n := 39) (r := 201) dX12_post_227 fl_12_26 s196 (by decide) r17 rfl ?_
      refine pa_iconst (v := nI 2) (pc' := 231) dX12_post_230 (by decide) rfl ?_
      refine pa_iload_n (pc' := 232) dX12_post_231 hl2 rfl ?_
      refine pa_iadd (pc' := 233) (v := nI (2 + k)) dX12_post_232 (nI_add _ _) rfl ?_
      refine pa_aload_n (pc' := 234) dX12_post_233 hl0 rfl ?_
      refine pa_getR (pc' := 237) (n := 39) (r := 199) dX12_post_234 fl_12_20 s196 (by decide) r15 rfl ?_
      refine pa_bipush (v := nI 107) (pc' := 239) dX12_post_237 (by decide) rfl ?_
      refine pa_iconst (v := nI 4) (pc' := 240) dX12_post_239 (by decide) rfl ?_
      refine pa_iload_n (pc' := 241) dX12_post_240 hl2 rfl ?_
      refine pa_imul (pc' := 242) (v := nI (4 * k)) dX12_post_241 (nI_mul _ _) rfl ?_
      refine pa_iadd (pc' := 243) (v := nI (107 + 4 * k)) dX12_post_242 (nI_add _ _) rfl ?_
      refine pa_iconst (v := nI 1) (pc' := 244) dX12_post_243 (by decide) rfl ?_
      refine pa_iadd (pc' := 245) (v := nI (107 + 4 * k + 1)) dX12_post_244 (nI_add _ _) rfl ?_
      refine pa_iald (pc' := 246) dX12_post_245 s199 rfl (fun _ => ?_)
      rw [nI_clamp (by omega), q1]
      refine pa_iast (pc' := 247) dX12_post_246 s201 rfl (fun _ => ?_)
      rw [nI_clamp (by omega)]
      refine pa_iinc (pc' := 250) (v := nI (k + 1)) dX12_post_247 hl2 (by decide) (nI_add k 1) rfl rfl ?_
      refine pa_gotos (pc' := 215) dX12_post_250 (by decide) ?_
      have at' : ∀ j, (zsI h 201 (2 + k) (nI (hm k))).2.1 201 j = if j = 2 + k then nI (hm k) else h.2.1 201 j := fun j => by
        rw [zsI_at]
        by_cases w : j = 2 + k
        · rw [if_pos ⟨rfl, w⟩, if_pos w]
        · rw [if_neg (fun w' => w w'.2), if_neg w]
      obtain ⟨s1, s2, s3, s4, s5, s6⟩ := s
      refine ih (k + 1) _ _ (by omega) (T.bt hBut.rf.zs) ⟨by rw [at', if_neg (by omega)]; exact s1, by rw [at', if_neg (by omega)]; exact s2, fun w hw => by rw [at', if_neg (by omega)]; exact s3 w hw, fun w hw => ?_, fun b hb => ⟨by rw [at', if_neg (by omega)]; exact (s5 b hb).1, by rw [at', if_neg (by omega)]; exact (s5 b hb).2⟩, fun b hb => absurd hb (Nat.not_lt_zero b)⟩ (zget_s1 hl0 (by decide) (by simp [zcat])) zget_s1e
      rw [at']
      by_cases y : w = k
      · rw [if_pos (by omega), y]
      · rw [if_neg (by omega)]
        exact s4 w (by omega)
theorem T2_194 : ∀ (N k : Nat) (h : zH) (ls : zL), k ≤ 76 → tK2 H B hm to sg h → (∀ j, j < k → h.2.1 201 j = 0) → zget ls 0 = some (.inr (.inr (some 196))) → zget ls 2 = some (.inl (nI k)) → zPn N none d mX12_post (194, ls, [], h) (fun _ h' => tS2 hm sg H B h' ∧ h'.2.1 196 20 = 0) := by
  intro N
  induction N with
  | zero => intros; exact zPn.zero
  | succ N ih =>
    intro k h ls hk T s hl0 hl2
    have s196 : zsh h 196 = some (12, 39) := zsh_by T.1 (by decide +kernel)
    have s201 : zsh h 201 = some (14, 76) := zsh_by T.1 (by decide +kernel)
    obtain ⟨r15, r17⟩ := T.2.1
    refine pa_iload_n (pc' := 195) dX12_post_194 hl2 rfl ?_
    refine pa_bipush (v := nI 76) (pc' := 197) dX12_post_195 (by decide) rfl ?_
    refine pa_icmp (pc' := 213) (pc2 := 200) dX12_post_197 (by decide) rfl (fun z => ?_) (fun z => ?_)
    · have z := zi_nlt (zk_ge_lt z)
      rw [nI_toInt (by omega), nI_toInt (by omega)] at z
      refine pa_iconst (v := nI 0) (pc' := 214) dX12_post_213 (by decide) rfl ?_
      refine pa_istore_n (pc' := 215) dX12_post_214 (by decide) rfl rfl ?_
      exact T2_215 (N + 1) 0 _ _ (Nat.zero_le _) T ⟨s 0 (by omega), s 1 (by omega), fun w hw => s _ (by omega), fun w hw => absurd hw (Nat.not_lt_zero w), fun b hb => ⟨s _ (by omega), s _ (by omega)⟩, fun b hb => absurd hb (Nat.not_lt_zero b)⟩ (zget_s1 hl0 (by decide) (by simp [zcat])) zget_s1e
    · have z := zi_lt (zk_ge_lt z)
      rw [nI_toInt (by omega), nI_toInt (by omega)] at z
      refine pa_aload_n (pc' := 201) dX12_post_200 hl0 rfl ?_
      refine pa_getR (pc' := 204) (n := 39) (r := 201) dX12_post_201 fl_12_26 s196 (by decide) r17 rfl ?_
      refine pa_iload_n (pc' := 205) dX12_post_204 hl2 rfl ?_
      refine pa_iconst (v := nI 0) (pc' := 206) dX12_post_205 (by decide) rfl ?_
      refine pa_iast (pc' := 207) dX12_post_206 s201 rfl (fun _ => ?_)
      rw [nI_clamp (by omega)]
      refine pa_iinc (pc' := 210) (v := nI (k + 1)) dX12_post_207 hl2 (by decide) (nI_add k 1) rfl rfl ?_
      refine pa_gotos (pc' := 194) dX12_post_210 (by decide) ?_
      refine ih (k + 1) _ _ (by omega) (T.bt hBut.rf.zs) (fun j hj => ?_) (zget_s1 hl0 (by decide) (by simp [zcat])) zget_s1e
      rw [zsI_at]
      by_cases y : j = k
      · rw [if_pos ⟨rfl, y⟩]
        rfl
      · rw [if_neg (fun w => y w.2)]
        exact s j (by omega)
end TL2
def rtS (r : sF ⊕ pA) (_ : Option zV) (h' : zH) : Prop := ∀ A, r = .inr A → tA A → tB A → nMo A (nS0 A) 201 0 h' ∧ h'.2.1 196 20 = 0
section MD2
variable {R0 : Nat → Nat → Int32} {y : Nat → Int32} {n d N p q : Nat} {h h' g : zH} {A : pA} {nm : Nat → List Int32} {e : sF}
theorem M_fail2 {m : zM} {c : zC} : zPn N none d m c (rtS (.inl e)) := zPn.all (fun _ _ _ q => nomatch q)
theorem M_done2 {ls : zL} (hI : pI A) (K : mS R0 y n A nm p h) (hl0 : zget ls 0 = some (.inr (.inr (some 196)))) : zPn N none d mX12_post (163, ls, [], h) (rtS (.inr A)) := by
  by_cases q : tA A ∧ tB A
  case neg =>
    exact zPn.all (fun v h' B e hT hB => by
      cases e
      exact absurd ⟨hT, hB⟩ q)
  obtain ⟨hT, hB⟩ := q
  obtain ⟨b1, b2, b3, b4, b5⟩ := hI.2.2.1
  have hx := K.1.1
  have s196 := hx.sh sh_196
  have s199 := hx.sh sh_199
  have s200 := hx.sh sh_200
  have r15 := hx.2.1 _ _ _ rf_196_15
  have r16 := hx.2.1 _ _ _ rf_196_16
  have hf := K.2.1
  obtain ⟨m9, m0, m4, m5, m6, m7, m8, ms, mw, mp, mX'⟩ := K.2.2.1
  refine pa_aload_n (pc' := 164) dX12_post_163 hl0 rfl ?_
  refine pa_getI (pc' := 167) (n := 39) (v := 0) dX12_post_164 fl_12_100 s196 (by decide) hf rfl ?_
  refine pa_if_t (pc' := 176) dX12_post_167 (by decide) (by decide) ?_
  refine pa_aload_n (pc' := 177) dX12_post_176 hl0 rfl ?_
  refine pa_getR (pc' := 180) (n := 39) (r := 200) dX12_post_177 fl_12_23 s196 (by decide) r16 rfl ?_
  refine pa_iconst (v := 0) (pc' := 181) dX12_post_180 (by decide) rfl ?_
  refine pa_aload_n (pc' := 182) dX12_post_181 hl0 rfl ?_
  refine pa_getR (pc' := 185) (n := 39) (r := 199) dX12_post_182 fl_12_20 s196 (by decide) r15 rfl ?_
  refine pa_iconst (v := 0) (pc' := 186) dX12_post_185 (by decide) rfl ?_
  refine pa_sipush (v := 363) (pc' := 189) dX12_post_186 (by decide) rfl ?_
  refine pa_calls (pc' := 192) (kd := 1) (rest := []) dX12_post_189 ml_12_176 (.inl rfl) rfl rfl rfl (fun d' _ => m_cpR s200 s199) (fun v g hq => ?_)
  obtain ⟨er, hb, hq⟩ := hq
  subst er
  show zPn N none d mX12_post (192, ls, [], g) _
  refine pa_iconst (v := nI 0) (pc' := 193) dX12_post_192 (by decide) rfl ?_
  refine pa_istore_n (pc' := 194) dX12_post_193 (by decide) rfl rfl ?_
  have T : tK2 (cH A) (cB A) (fun w => nu A (108 + 4 * w)) (fun b => nu A (128 + 4 * b)) (fun b => A.2.2.1 (nu A (128 + 4 * b))) g := by
    refine ⟨hb.1.trans hx.1, ⟨by rw [hb.2.1]; exact r15, by rw [hb.2.1]; exact hx.2.1 _ _ _ rf_196_17⟩, ⟨b3, b4⟩, ⟨(hq 6 (by decide)).trans m6, (hq 7 (by decide)).trans m7⟩, fun w hw => ?_, fun b hb2 => ?_⟩
    · rw [hq _ (by omega), (mX' _ (hT.2.2.1 w hw 1 (by decide))).2]
      exact ((num_whale hI hB hT hw).2.2.2.2 1 (by decide)).trans (congrArg (fun z => nI (nu A z)) (by omega))
    · obtain ⟨-, q2, -⟩ := num_box hI hB hT hb2
      obtain ⟨o1, o2, -, o4, o5, -⟩ := okN_of hI q2
      refine ⟨?_, Nat.lt_of_lt_of_le q2 b1, o2, fun j hj => ?_⟩
      · rw [hq _ (by omega), (mX' _ (hT.2.2.2.1 b hb2 1 (by decide))).2]
        exact ((num_box hI hB hT hb2).2.2.2.2 1 (by decide)).trans (congrArg (fun z => nI (nu A z)) (by omega))
      · have hj : j < (A.2.2.1 (nu A (128 + 4 * b))).length := hj
        show g.2.1 199 (10 + 7 * nu A (128 + 4 * b) + 1 + j) = nI (dg ((A.2.2.1 (nu A (128 + 4 * b))).getD j 0))
        rw [hq _ (by omega), (ms _ q2).2 j hj]
        have := o1 _ (getD_in hj)
        exact nt_sub this.1 (by omega)
  refine (T2_194 N 0 g _ (Nat.zero_le _) T (fun j hj => absurd hj (Nat.not_lt_zero j)) (zget_s1 hl0 (by decide) (by simp [zcat])) zget_s1e).mono (fun v h' hq2 B e _ _ => ?_)
  cases e
  obtain ⟨⟨s1, s2, s3, s4, s5, s6⟩, s7⟩ := hq2
  exact ⟨⟨s1, s2, fun w hw => ⟨by rw [Nat.zero_add]; exact s4 w hw, by rw [Nat.zero_add]; exact s3 w (by omega)⟩, fun b hb => ⟨by rw [Nat.zero_add]; exact (s5 b (by omega)).1, by rw [Nat.zero_add]; exact (s5 b (by omega)).2, fun k hk => by rw [Nat.zero_add]; exact s6 b hb k hk⟩⟩, s7⟩
end MD2
/-! post: what it leaves of the state, in the reference: its loop -/
section ML2
variable {R0 : Nat → Nat → Int32} {y : Nat → Int32} {n d N p q : Nat} {h h' g : zH} {A : pA} {nm : Nat → List Int32} {e : sF}
theorem M_loop2 : ∀ (N f : Nat) (r : sR) (h : zH) (ls : zL), lpS R0 y n r h → (∀ q, r = .inr q → pI q.1 ∧ n < q.2 + f + 1) → zget ls 0 = some (.inr (.inr (some 196))) → zPn N none (d + 1) mX12_post (77, ls, [], h) (rtS (sFin y n f r)) := by
  intro N
  induction N with
  | zero => intro f r h ls _ _ _; exact zPn.zero
  | succ N ih =>
    intro f r h ls K hr hl0
    match r, K, hr with
    | .inl e, K, hr =>
      have K : mF R0 y n e h := K
      have s196 := K.1.sh sh_196
      have hf := K.2.1
      refine pa_aload_n (pc' := 78) dX12_post_77 hl0 rfl ?_
      refine pa_getI (pc' := 81) (n := 39) dX12_post_78 fl_12_100 s196 (by decide) hf rfl ?_
      refine pa_if_t (pc' := 104) dX12_post_81 (by decide) (by decide) ?_
      refine pa_aload_n (pc' := 105) dX12_post_104 hl0 rfl ?_
      refine pa_getI (pc' := 108) (n := 39) dX12_post_105 fl_12_100 s196 (by decide) hf rfl ?_
      refine pa_if_t (pc' := 127) dX12_post_108 (by decide) (by decide) ?_
      refine pa_aload_n (pc' := 128) dX12_post_127 hl0 rfl ?_
      refine pa_getI (pc' := 131) (n := 39) dX12_post_128 fl_12_100 s196 (by decide) hf rfl ?_
      refine pa_if_t (pc' := 163) dX12_post_131 (by decide) (by decide) ?_
      exact M_fail2
    | .inr (A, p), K, hr =>
      have K : mS R0 y n A A.2.1 p h := K
      obtain ⟨hI, hfu⟩ := hr (A, p) rfl
      dsimp only at hI hfu
      have hx := K.1.1
      have hp := K.1.2.1
      have s196 := hx.sh sh_196
      have s200 := hx.sh sh_200
      have r196_16 := hx.2.1 _ _ _ rf_196_16
      have hf := K.2.1
      have k4 := K.1.2.2.1
      have ht := K.1.2.2.2.2.1
      have wr : ∀ {k : Int32} {pc : Nat}, mF R0 y n (k, tS y n p) (wrg h k (tS y n p)) := fun {k pc} => wrg_mF hx
      show zPn (N + 1) none (d + 1) mX12_post (77, ls, [], h) (rtS (if tT y n p = 0 then (if cI A = 0 then .inl (6, tS y n p) else .inr A) else if tT y n p = 59 then sText y n f A (tE y n p) else .inl (1, tS y n p)))
      refine pa_aload_n (pc' := 78) dX12_post_77 hl0 rfl ?_
      refine pa_getI (pc' := 81) (n := 39) dX12_post_78 fl_12_100 s196 (by decide) hf rfl ?_
      refine pa_if_f (pc' := 84) dX12_post_81 (by decide) (by decide) rfl ?_
      refine pa_aload_n (pc' := 85) dX12_post_84 hl0 rfl ?_
      refine pa_getI (pc' := 88) (n := 39) dX12_post_85 fl_12_90 s196 (by decide) ht rfl ?_
      refine pa_bipush (v := 59) (pc' := 90) dX12_post_88 (by decide) rfl ?_
      by_cases t0 : tT y n p = 0
      · rw [if_pos t0]
        refine pa_icmp_t (pc' := 104) dX12_post_90 (by rw [t0]; decide) (by decide) ?_
        refine pa_aload_n (pc' := 105) dX12_post_104 hl0 rfl ?_
        refine pa_getI (pc' := 108) (n := 39) dX12_post_105 fl_12_100 s196 (by decide) hf rfl ?_
        refine pa_if_f (pc' := 111) dX12_post_108 (by decide) (by decide) rfl ?_
        refine pa_aload_n (pc' := 112) dX12_post_111 hl0 rfl ?_
        refine pa_getI (pc' := 115) (n := 39) dX12_post_112 fl_12_90 s196 (by decide) ht rfl ?_
        refine pa_if_t (pc' := 127) dX12_post_115 (by rw [t0]; decide) (by decide) ?_
        refine pa_aload_n (pc' := 128) dX12_post_127 hl0 rfl ?_
        refine pa_getI (pc' := 131) (n := 39) dX12_post_128 fl_12_100 s196 (by decide) hf rfl ?_
        refine pa_if_f (pc' := 134) dX12_post_131 (by decide) (by decide) rfl ?_
        refine pa_aload_n (pc' := 135) dX12_post_134 hl0 rfl ?_
        refine pa_getR (pc' := 138) (n := 39) (r := 200) dX12_post_135 fl_12_23 s196 (by decide) r196_16 rfl ?_
        refine pa_bipush (v := nI 9) (pc' := 140) dX12_post_138 (by decide) rfl ?_
        refine pa_iald (pc' := 141) (n := 363) dX12_post_140 s200 rfl (fun _ => ?_)
        rw [nI_clamp (by omega), K.2.2.1.1]
        have w6 : cI A = 0 → zPn (N + 1) none (d + 1) mX12_post (153, ls, [], h) (rtS (.inl (6, tS y n p))) := by
          intro i0
          refine pa_aload_n (pc' := 154) dX12_post_153 hl0 rfl ?_
          refine pa_bipush (v := 6) (pc' := 156) dX12_post_154 (by decide) rfl ?_
          refine pa_aload_n (pc' := 157) dX12_post_156 hl0 rfl ?_
          refine pa_getI (pc' := 160) (n := 39) dX12_post_157 fl_12_81 s196 (by decide) k4 rfl ?_
          refine pa_callv (pc' := 163) (vs := [.inl 6, .inl (nI (tS y n p))]) (rest := []) dX12_post_160 ml_12_127 (by decide) rfl rfl rfl (fun d' _ => m_wrong hx hf rfl) (fun v g2 hq => ?_)
          obtain ⟨er, hq⟩ := hq
          subst er; subst hq
          exact M_fail2
        by_cases h0 : A.1 = 0
        · have i0 := (hI.2.1 h0).1
          rw [if_pos h0, if_pos i0]
          exact pa_if_t (pc' := 153) dX12_post_141 (by decide) (by decide) (w6 i0)
        · rw [if_neg h0]
          refine pa_if_f (pc' := 144) dX12_post_141 (by decide) (by decide) rfl ?_
          refine pa_aload_n (pc' := 145) dX12_post_144 hl0 rfl ?_
          refine pa_getR (pc' := 148) (n := 39) (r := 200) dX12_post_145 fl_12_23 s196 (by decide) r196_16 rfl ?_
          refine pa_iconst (v := nI 4) (pc' := 149) dX12_post_148 (by decide) rfl ?_
          refine pa_iald (pc' := 150) (n := 363) dX12_post_149 s200 rfl (fun _ => ?_)
          rw [nI_clamp (by omega), K.2.2.1.2.2.1]
          by_cases i0 : cI A = 0
          · rw [if_pos i0]
            refine pa_if_f (pc' := 153) dX12_post_150 (by rw [i0]; decide) (by decide) rfl (w6 i0)
          · rw [if_neg i0]
            have bI := hI.2.2.1.1
            refine pa_if_t (pc' := 163) dX12_post_150 (decide_eq_true (fun z => i0 (by
              have := congrArg Int32.toInt z
              rw [nI_toInt (by omega), show (0 : Int32).toInt = 0 by decide] at this
              omega))) (by decide) ?_
            exact M_done2 hI K hl0
      · rw [if_neg t0]
        by_cases t59 : tT y n p = 59
        · rw [if_pos t59]
          have hb := t59_gt (y := y) hp t59
          refine pa_icmp_f (pc' := 93) dX12_post_90 (by rw [t59]; decide) (by decide) rfl ?_
          refine pa_aload_n (pc' := 94) dX12_post_93 hl0 rfl ?_
          refine pa_callv (pc' := 97) (vs := []) (rest := []) dX12_post_94 ml_12_121 (by decide) rfl rfl rfl (fun d' _ => m_next hx K.1.2.2.2.1 hb.2) (fun v g2 hq => ?_)
          obtain ⟨er, hq⟩ := hq
          subst er
          have K2 := K.nx hq hb.2
          show zPn (N + 1) none (d + 1) mX12_post (97, ls, [], g2) _
          refine pa_aload_n (pc' := 98) dX12_post_97 hl0 rfl ?_
          refine pa_callv (pc' := 101) (vs := []) (rest := []) dX12_post_98 ml_12_173 (by decide) rfl rfl rfl (fun d' _ => M_line hI K2) (fun v g3 hq => ?_)
          obtain ⟨er, hq⟩ := hq
          subst er
          show zPn (N + 1) none (d + 1) mX12_post (101, ls, [], g3) _
          refine pa_gotos (pc' := 77) dX12_post_101 (by decide) ?_
          obtain ⟨f', ef⟩ : ∃ f', f = f' + 1 := ⟨f - 1, by omega⟩
          subst ef
          rw [sText_fin]
          refine ih f' (sLine y n A (tE y n p)) g3 ls hq (fun q eq => ?_) hl0
          have ge := sLine_ge (A' := q.1) (q := q.2) hb.2 eq
          exact ⟨sLine_pI hI hb.2 eq, by omega⟩
        · rw [if_neg t59]
          refine pa_icmp_t (pc' := 104) dX12_post_90 (decide_eq_true t59) (by decide) ?_
          refine pa_aload_n (pc' := 105) dX12_post_104 hl0 rfl ?_
          refine pa_getI (pc' := 108) (n := 39) dX12_post_105 fl_12_100 s196 (by decide) hf rfl ?_
          refine pa_if_f (pc' := 111) dX12_post_108 (by decide) (by decide) rfl ?_
          refine pa_aload_n (pc' := 112) dX12_post_111 hl0 rfl ?_
          refine pa_getI (pc' := 115) (n := 39) dX12_post_112 fl_12_90 s196 (by decide) ht rfl ?_
          refine pa_if_f (pc' := 118) dX12_post_115 (decide_eq_false t0) (by decide) rfl ?_
          refine pa_aload_n (pc' := 119) dX12_post_118 hl0 rfl ?_
          refine pa_iconst (v := 1) (pc' := 120) dX12_post_119 (by decide) rfl ?_
          refine pa_aload_n (pc' := 121) dX12_post_120 hl0 rfl ?_
          refine pa_getI (pc' := 124) (n := 39) dX12_post_121 fl_12_81 s196 (by decide) k4 rfl ?_
          refine pa_callv (pc' := 127) (vs := [.inl 1, .inl (nI (tS y n p))]) (rest := []) dX12_post_124 ml_12_127 (by decide) rfl rfl rfl (fun d' _ => m_wrong hx hf rfl) (fun v g2 hq => ?_)
          obtain ⟨er, hq⟩ := hq
          subst er; subst hq
          have hF : mF R0 y n (1, tS y n p) (wrg h 1 (tS y n p)) := wrg_mF hx
          have s196 := hF.1.sh sh_196
          have hf := hF.2.1
          show zPn (N + 1) none (d + 1) mX12_post (127, ls, [], wrg h 1 (tS y n p)) _
          refine pa_aload_n (pc' := 128) dX12_post_127 hl0 rfl ?_
          refine pa_getI (pc' := 131) (n := 39) dX12_post_128 fl_12_100 s196 (by decide) hf rfl ?_
          refine pa_if_t (pc' := 163) dX12_post_131 (by decide) (by decide) ?_
          exact M_fail2
/-- the reference's post from the text on -/
theorem M_text2 (h1 : h.1 = hh_487.1) (h2 : ∀ a k b, wd.2.2.1 a k = some b → h.2.2.2.1 a k = some b) (hn : n ≤ 1000) (hy : ∀ k, k < n → TB (y k) (h.2.1 197 k)) : zPn N none (d + 1) mX12_post (27, [(0, .inr (.inr (some 196))), (1, .inl (nI n))], [], h) (rtS (sText y n (n + 1) pA0 0)) := by
  have zs : ∀ {g : zH} {a : Nat} {q : Option (Nat × Nat)}, g.1 = hh_487.1 → zsh hh_487 a = q → zsh g a = q := fun e1 e2 => by unfold zsh; rw [e1]; exact e2
  have s196 := zs h1 sh_196
  refine pa_aload_n (pc' := 28) dX12_post_27 rfl rfl ?_
  refine pa_iconst (v := 0) (pc' := 29) dX12_post_28 (by decide) rfl ?_
  refine pa_putI (pc' := 32) (n := 39) dX12_post_29 fl_12_104 s196 (Or.inl rfl) (Or.inl rfl) rfl ?_
  refine pa_aload_n (pc' := 33) dX12_post_32 rfl rfl ?_
  refine pa_iconst (v := 0) (pc' := 34) dX12_post_33 (by decide) rfl ?_
  refine pa_putI (pc' := 37) (n := 39) dX12_post_34 fl_12_100 s196 (Or.inl rfl) (Or.inr ⟨rfl, by decide⟩) rfl ?_
  refine pa_iconst (v := nI 0) (pc' := 38) dX12_post_37 (by decide) rfl ?_
  refine pa_istore_n (pc' := 39) dX12_post_38 (by decide) rfl rfl ?_
  let Z : zH := zsI (zsI h 196 9 0) 196 13 0
  have Z13 : Z.2.1 196 13 = 0 := zsI_eq
  have Z197 : ∀ k, Z.2.1 197 k = h.2.1 197 k := fun k => by
    show (zsI (zsI h 196 9 0) 196 13 0).2.1 197 k = _
    rw [zsI_no (by omega), zsI_no (by omega)]
  have lp : ∀ (N k : Nat) (g : zH) (ls : zL), k ≤ 363 → hBut 200 Z g → (∀ j, j < k → g.2.1 200 j = 0) → zget ls 0 = some (.inr (.inr (some 196))) → zget ls 1 = some (.inl (nI n)) → zget ls 2 = some (.inl (nI k)) → zPn N none (d + 1) mX12_post (39, ls, [], g) (rtS (sText y n (n + 1) pA0 0)) := by
    intro N
    induction N with
    | zero => intro k g ls _ _ _ _ _ _; exact zPn.zero
    | succ N ih =>
      intro k g ls hk hg hj hl0 hl1 hl2
      have s196 : zsh g 196 = some (12, 39) := hg.sh (zs h1 sh_196)
      have s200 : zsh g 200 = some (14, 363) := hg.sh (zs h1 sh_200)
      have g2 : ∀ a k b, wd.2.2.1 a k = some b → g.2.2.2.1 a k = some b := fun a k b hb => by rw [hg.2.1]; exact h2 a k b hb
      have r196_16 := g2 _ _ _ rf_196_16
      refine pa_iload_n (pc' := 40) dX12_post_39 hl2 rfl ?_
      refine pa_sipush (v := nI 363) (pc' := 43) dX12_post_40 (by decide) rfl ?_
      refine pa_icmp (pc' := 59) (pc2 := 46) dX12_post_43 (by decide) rfl (fun c => ?_) (fun c => ?_)
      · have c := zi_nlt (zk_ge_lt c)
        rw [nI_toInt (by omega), nI_toInt (by omega)] at c
        refine pa_aload_n (pc' := 60) dX12_post_59 hl0 rfl ?_
        refine pa_iload_n (pc' := 61) dX12_post_60 hl1 rfl ?_
        refine pa_putI (pc' := 64) (n := 39) dX12_post_61 fl_12_71 s196 (Or.inl rfl) (Or.inl rfl) rfl ?_
        refine pa_aload_n (pc' := 65) dX12_post_64 hl0 rfl ?_
        refine pa_iconst (v := nI 0) (pc' := 66) dX12_post_65 (by decide) rfl ?_
        refine pa_putI (pc' := 69) (n := 39) dX12_post_66 fl_12_74 s196 (Or.inl rfl) (Or.inl rfl) rfl ?_
        refine pa_aload_n (pc' := 70) dX12_post_69 hl0 rfl ?_
        have hx : mx h.2.1 y n (zsI (zsI g 196 3 (nI n)) 196 5 (nI 0)) := ⟨hg.1.trans h1, g2, by rw [zsI_no (by omega), zsI_eq], hn, fun j hj => by
          rw [zsI_no (by omega), zsI_no (by omega), hg.2.2 197 j (by decide), Z197]
          exact hy j hj, fun a j hk => by
          unfold mKp at hk
          rw [zsI_no (by omega), zsI_no (by omega), hg.2.2 a j (by omega)]
          show (zsI (zsI h 196 9 0) 196 13 0).2.1 a j = _
          rw [zsI_no (by omega), zsI_no (by omega)]⟩
        refine pa_callv (pc' := 73) (vs := []) (rest := []) dX12_post_70 ml_12_121 (by decide) rfl rfl rfl (fun d' _ => m_next hx zsI_eq (Nat.zero_le _)) (fun v g3 hq => ?_)
        obtain ⟨er, hq⟩ := hq
        subst er
        have c0 : ∀ j, j < 363 → g3.2.1 200 j = 0 := fun j hj3 => by
          rw [hq.2.2.1 200 j (by omega) (by omega), zsI_no (by omega), zsI_no (by omega)]
          exact hj j (by omega)
        have K : mS h.2.1 y n pA0 pA0.2.1 0 g3 := by
          refine ⟨hq.mT hx (Nat.zero_le _), ?_, ⟨?_, fun z => absurd rfl z, c0 4 (by decide), c0 5 (by decide), c0 6 (by decide), c0 7 (by decide), c0 8 (by decide), fun i hi => absurd hi (Nat.not_lt_zero i), fun i hi => absurd hi (Nat.not_lt_zero i), fun i hi => absurd hi (Nat.not_lt_zero i), fun j hj => absurd rfl hj⟩, fun i hi => ⟨c0 (183 + i) (by omega), fun j hj => absurd hj (Nat.not_lt_zero j)⟩⟩
          · rw [hq.2.2.1 196 13 (by omega) (by omega), zsI_no (by omega), zsI_no (by omega), hg.2.2 196 13 (by decide)]
            exact Z13
          · rw [if_pos (show pA0.1 = 0 from rfl)]
            exact c0 9 (by decide)
        show zPn (N + 1) none (d + 1) mX12_post (73, ls, [], g3) _
        refine pa_aload_n (pc' := 74) dX12_post_73 hl0 rfl ?_
        refine pa_callv (pc' := 77) (vs := []) (rest := []) dX12_post_74 ml_12_173 (by decide) rfl rfl rfl (fun d' _ => M_line pI_0 K) (fun v g4 hq => ?_)
        obtain ⟨er, hq⟩ := hq
        subst er
        show zPn (N + 1) none (d + 1) mX12_post (77, ls, [], g4) _
        rw [sText_fin]
        refine M_loop2 _ n (sLine y n pA0 0) g4 ls hq (fun q eq => ?_) hl0
        exact ⟨sLine_pI pI_0 (Nat.zero_le n) eq, by omega⟩
      · have c := zi_lt (zk_ge_lt c)
        rw [nI_toInt (by omega), nI_toInt (by omega)] at c
        refine pa_aload_n (pc' := 47) dX12_post_46 hl0 rfl ?_
        refine pa_getR (pc' := 50) (n := 39) (r := 200) dX12_post_47 fl_12_23 s196 (by decide) r196_16 rfl ?_
        refine pa_iload_n (pc' := 51) dX12_post_50 hl2 rfl ?_
        refine pa_iconst (v := 0) (pc' := 52) dX12_post_51 (by decide) rfl ?_
        refine pa_iast (pc' := 53) (n := 363) dX12_post_52 s200 rfl (fun _ => ?_)
        rw [nI_clamp (by omega)]
        refine pa_iinc (pc' := 56) (v := nI (k + 1)) dX12_post_53 hl2 (by decide) (nI_add k 1) rfl rfl ?_
        refine pa_gotos (pc' := 39) dX12_post_56 (by decide) ?_
        refine ih (k + 1) _ _ (by omega) hg.zs (fun j hj3 => ?_) (zget_s1 hl0 (by decide) (by simp [zcat])) (zget_s1 hl1 (by decide) (by simp [zcat])) zget_s1e
        by_cases ej : j = k
        · subst ej
          exact zsI_eq
        · rw [zsI_no (by omega)]
          exact hj j (by omega)
  exact lp N 0 _ _ (Nat.zero_le _) hBut.rf (fun j hj => absurd hj (Nat.not_lt_zero j)) rfl rfl rfl
end ML2
section PN2
variable {x : Int32} {s d : Nat} {h : zH}
theorem N_post12n (ho : hOK wd h) (e1 : h.1 = hh_487.1) (ht : h.2.1 196 2 = nI s) (hs : s ≤ 1000) {y : Nat → Int32} (hy : ∀ k : Nat, (k : Int) < (nI s).toInt → TB (y k) (h.2.1 197 k)) : zPa (d + 1) mX12_post [.inr (.inr (some 196)), .inl x] h (fun v h' => (¬ pOK x s ∧ v = some (.inl (-1)) ∧ h' = zsI (zsI (zsI h 196 0 0) 196 11 0) 196 11 2) ∨ (pOK x s ∧ rtS (pst y x) v h')) := by
  intro N
  have s196 : zsh h 196 = some (12, 39) := ho.1 196 (12, 39) (by decide +kernel)
  show zPn N none (d + 1) mX12_post (0, [(0, .inr (.inr (some 196))), (1, .inl x)], [], h) _
  refine pa_aload_n (pc' := 1) dX12_post_0 rfl rfl ?_
  refine pa_callv (pc' := 4) (vs := []) (rest := []) dX12_post_1 ml_12_167 (by decide) rfl rfl rfl (fun d' _ => m_good s196) (fun v g hq => ?_)
  obtain ⟨er, eg⟩ := hq
  subst er
  have e2 : g.2.1 196 2 = nI s := by rw [eg, zsI_no (by omega), zsI_no (by omega)]; exact ht
  have eg1 : g.1 = h.1 := by rw [eg]; rfl
  have egr : ∀ a k, g.2.2.2.1 a k = h.2.2.2.1 a k := by rw [eg]; exact fun _ _ => rfl
  have e197 : ∀ k, g.2.1 197 k = h.2.1 197 k := fun k => by rw [eg, zsI_no (by omega), zsI_no (by omega)]
  have s196 : zsh g 196 = some (12, 39) := by unfold zsh at *; rw [eg1]; exact s196
  show zPn N none (d + 1) mX12_post (4, [(0, .inr (.inr (some 196))), (1, .inl x)], [], g) _
  refine pa_iload_n (pc' := 5) dX12_post_4 rfl rfl ?_
  refine pa_iconst (v := 0) (pc' := 6) dX12_post_5 (by decide) rfl ?_
  refine pa_aload_n (pc' := 7) dX12_post_6 rfl rfl ?_
  refine pa_getI (pc' := 10) (n := 39) (v := nI s) dX12_post_7 fl_12_68 s196 (by decide) e2 rfl ?_
  refine pa_calls (pc' := 13) (kd := 1) (vs := [.inl x, .inl 0, .inl (nI s)]) (rest := []) dX12_post_10 ml_12_149 (.inl rfl) rfl rfl rfl (fun d' _ => zPa.of in_ex) (fun r h2 hq => ?_)
  obtain ⟨r, er, eh, hq⟩ := hq
  subst er; subst eh
  rw [nI_toInt (by omega)] at hq
  show zPn N none (d + 1) mX12_post (13, [(0, .inr (.inr (some 196))), (1, .inl x)], [.inl r], h2) _
  rcases hq with ⟨e, c⟩ | ⟨e, c⟩
  · subst e
    have c : pOK x s := c
    refine pa_if_t (pc' := 22) dX12_post_13 (by decide) (by decide) ?_
    refine pa_aload_n (pc' := 23) dX12_post_22 rfl rfl ?_
    refine pa_iconst (v := 0) (pc' := 24) dX12_post_23 (by decide) rfl ?_
    refine pa_putI (pc' := 27) (n := 39) dX12_post_24 fl_12_68 s196 (Or.inl rfl) (Or.inl rfl) rfl ?_
    obtain ⟨en, hn⟩ := c.nI hs
    have key := M_text2 (N := N) (d := d) (n := x.toInt.toNat) (y := y) (h := zsI h2 196 2 0) (eg1.trans e1) (fun a k b hb => (egr a k).trans (ho.2.2.1 a k b hb)) (by omega) (fun k hk => by
      rw [zsI_no (by omega), e197]
      exact hy k (by rw [nI_toInt (by omega)]; omega))
    rw [← en] at key
    exact key.mono (fun v h' hq => .inr ⟨c, hq⟩)
  · subst e
    refine pa_if_f (pc' := 16) dX12_post_13 (by decide) (by decide) rfl ?_
    refine pa_aload_n (pc' := 17) dX12_post_16 rfl rfl ?_
    refine pa_iconst (v := 2) (pc' := 18) dX12_post_17 (by decide) rfl ?_
    refine pa_callv (pc' := 21) (vs := [.inl 2]) (rest := []) dX12_post_18 ml_12_170 (by decide) rfl rfl rfl (fun d' _ => m_no s196) (fun v g2 hq => ?_)
    obtain ⟨ev, eg2⟩ := hq
    subst ev
    exact pa_iret dX12_post_21 rfl rfl (.inl ⟨c, rfl, by rw [eg2, eg]⟩)
end PN2
end Pk2
section Pk3
/-! what the calls rest on, out of the law's invariant -/
section BGO
variable {t c w b k j : Nat} {h g : zH} {A : pA} {s : nS}
theorem nOK.len (hI : pI A) (hB : tB A) (hT : tA A) (hN : nOK A s) : lenO A s := fun b hb => by
  obtain ⟨-, e, -⟩ := hN.2.2 b hb
  obtain ⟨-, q2, -⟩ := num_box hI hB hT hb
  rw [e]
  exact (okN_of hI q2).2.1
theorem nS0_ok (hI : pI A) (hB : tB A) (hT : tA A) : nOK A (nS0 A) := ⟨Nat.zero_le _, fun w hw => ⟨(num_whale hI hB hT hw).2.1, Nat.zero_le _⟩, fun b hb => ⟨(okN_of hI (num_box hI hB hT hb).2.1).1, rfl, fun p e => nomatch e⟩⟩
theorem pI.nz (hI : pI A) (z : cI A ≠ 0) : A.1 ≠ 0 := fun e => z (hI.2.1 e).1
theorem head_at (hI : pI A) (hB : tB A) (hT : tA A) (z : cI A ≠ 0) : (vA A 1 = nI (nu A 1) ∧ nu A 1 ≤ 3) ∧ (vA A 2 = nI (nu A 2) ∧ nu A 2 ≤ 50) ∧ vA A 3 = nI (nu A 3) ∧ nu A 3 ≤ 100 := by
  have t := hT.1 (hI.nz z)
  obtain ⟨a1, -, a3, -⟩ := nu_at hB (t 1 (by decide) (by decide))
  obtain ⟨c1, -, c3, -⟩ := nu_at hB (t 2 (by decide) (by decide))
  obtain ⟨e1, -, e3, -⟩ := nu_at hB (t 3 (by decide) (by decide))
  have a3 : (nu A 1 : Int) ≤ 3 := a3
  have c3 : (nu A 2 : Int) ≤ 50 := c3
  have e3 : (nu A 3 : Int) ≤ 100 := e3
  exact ⟨⟨a1, by omega⟩, ⟨c1, by omega⟩, e1, by omega⟩
theorem bgC_of (ho : hOK wd h) (h1 : h.1 = hh_487.1) (hA : lPA A c h) (hT : tA A) (hB : tB A) (hN : nOK A s) (n : nC A s 86 h) (r92 : h.2.2.2.1 92 0 = some c) (r94 : h.2.2.2.1 94 0 = some c) (z : cI A ≠ 0) : bgC A c s h := by
  have hI := hA.1
  have K := hA.2.2.2.1
  obtain ⟨b1, b2, b3, b4, b5⟩ := hI.2.2.1
  have hc := hA.2.1
  have r := ho.2.2.1
  obtain ⟨c9, c12, c13, cw, cb⟩ := cRf_of ho hc
  have c10 : h.2.2.2.1 c 10 = some (c + 2) ∧ h.2.2.2.1 c 11 = some (c + 3) ∧ ∀ k, k < 12 → h.2.2.2.1 (c + 3) k = some (c + 7 + k) := by
    have kk : ∀ k, k < 12 → wd.2.2.1 (2 + 3) k = some (2 + 7 + k) ∧ wd.2.2.1 (42 + 3) k = some (42 + 7 + k) := by decide +kernel
    have hc : c = 2 ∨ c = 42 := hc
    rcases hc with e | e <;> subst e
    · exact ⟨r _ _ _ (by decide +kernel), r _ _ _ (by decide +kernel), fun k hk => r _ _ _ (kk k hk).1⟩
    · exact ⟨r _ _ _ (by decide +kernel), r _ _ _ (by decide +kernel), fun k hk => r _ _ _ (kk k hk).2⟩
  obtain ⟨⟨a1, d1⟩, ⟨a2, d2⟩, -⟩ := head_at hI hB hT z
  have t := hT.1 (hI.nz z)
  have v1 : h.2.1 c 1 = vA A 1 := K.num (t 1 (by decide) (by decide))
  have v2 : h.2.1 c 2 = vA A 2 := K.num (t 2 (by decide) (by decide))
  obtain ⟨q0, q4, q5, q6, q7, q8, qs, qw, -, -⟩ := K
  have K := hA.2.2.2.1
  obtain ⟨-, -, -, n2, n4, e0⟩ := okN_of (i := 0) hI (by omega)
  refine ⟨⟨hI, hT, hB, hN⟩, ⟨h1, hc, b2, ⟨r94, r 94 1 86 (by decide +kernel), r 94 3 95 (by decide +kernel), c10.2.1, c10.2.2⟩, q5, fun k hk => ?_⟩, ⟨h1, hc, ⟨r92, c9, c10.1⟩, ⟨q0.trans e0, v1.trans a1, v2.trans a2, q4⟩, ⟨n2, n4, d2, d1, b1⟩, fun i hi => ⟨(qs i hi).1, (qs i hi).2, (okN_of hI hi).1, (okN_of hI hi).2.1⟩⟩, n, ⟨r 94 2 92 (by decide +kernel), r 86 2 87 (by decide +kernel), r 86 3 88 (by decide +kernel), r 86 4 89 (by decide +kernel), r 86 6 91 (by decide +kernel), c12, c13, cw, cb⟩, fun w hw => ⟨K.wh (j := 0) hT hI hw (by decide), ?_⟩, fun b hb => ⟨?_, K.boto hT hB hI hb, (K.bo (j := 2) hT hI hb (by decide)).trans (congrArg (vA A) (by omega)), ?_⟩⟩
  · obtain ⟨w2, w3⟩ := K.wy hT hI hk
    obtain ⟨x1, x2⟩ := hB.2.1 k hk
    obtain ⟨-, y2, -⟩ := num_way hI hB hT hk
    refine ⟨(qw k hk).1, (qw k hk).2, ?_, ?_, by unfold wa; omega, by unfold wb; omega, ?_⟩
    · unfold dyA
      rw [if_pos hk, w2]
      exact (nu_at hB (hT.2.1 k hk).1).1
    · unfold opA
      rw [if_pos hk]
      exact w3
    · unfold dyA
      rw [if_pos hk]
      exact y2
  · rw [K.wh hT hI hw (by decide), (num_whale hI hB hT hw).2.2.2.2 2 (by decide), show 107 + 4 * w + 2 = 109 + 4 * w by omega]
  · rw [K.bo hT hI hb (by decide), (num_box hI hB hT hb).2.2.2.2 0 (by decide)]
    rfl
  · rw [K.bo hT hI hb (by decide), (num_box hI hB hT hb).2.2.2.2 3 (by decide), show 127 + 4 * b + 3 = 130 + 4 * b by omega]
theorem bgM_of (ho : hOK wd h) (h1 : h.1 = hh_487.1) (hA : lPA A c h) (hT : tA A) (hB : tB A) (hN : nOK A s) (n : nMo A s 201 0 h) (z : cI A ≠ 0) : bgM A s h := by
  have hI := hA.1
  obtain ⟨b1, b2, b3, b4, b5⟩ := hI.2.2.1
  have r := ho.2.2.1
  obtain ⟨⟨a1, d1⟩, ⟨a2, d2⟩, -⟩ := head_at hI hB hT z
  have t := hT.1 (hI.nz z)
  have K : rmC A (shR h) := by
    rcases hA.2.2.2.2 with ⟨-, e⟩ | ⟨-, -, K⟩
    · exact absurd (by rw [e]; rfl) z
    · exact K
  obtain ⟨m9, m0, m4, m5, m6, m7, m8, ms, mw, mp, mX'⟩ := K
  have m0 : h.2.1 199 0 = A.1 := m0 (hI.nz z)
  have m4 : h.2.1 199 4 = nI (cI A) := m4
  have m5 : h.2.1 199 5 = nI (cW A) := m5
  have nm : ∀ j, A.2.2.1 (1000 + j) ≠ [] → h.2.1 199 j = vA A j := fun j e => (mX' j e).2
  have ms : ∀ i, i < cI A → h.2.1 199 (10 + 7 * i) = nI (A.2.2.1 i).length ∧ ∀ k, k < (A.2.2.1 i).length → h.2.1 199 (10 + 7 * i + 1 + k) = (A.2.2.1 i).getD k 0 - 97 := ms
  have mw : ∀ k, k < cW A → h.2.1 199 (59 + 4 * k) = nI (A.2.2.2.1 k).1 ∧ h.2.1 199 (59 + 4 * k + 1) = nI (A.2.2.2.1 k).2 := mw
  obtain ⟨-, -, -, n2, n4, e0⟩ := okN_of (i := 0) hI (by omega)
  refine ⟨⟨hI, hT, hB, hN⟩, ⟨h1, b1, b2, ⟨r 196 15 199 (by decide +kernel), r 196 17 201 (by decide +kernel), r 196 24 205 (by decide +kernel), r 196 25 206 (by decide +kernel)⟩, ⟨m4, m5, n.2.1⟩, fun k hk => ?_⟩, ⟨h1, ⟨r 196 15 199 (by decide +kernel), r 196 17 201 (by decide +kernel)⟩, ⟨m0.trans e0, (nm 1 (t 1 (by decide) (by decide))).trans a1, (nm 2 (t 2 (by decide) (by decide))).trans a2, m4⟩, ⟨n2, n4, d2, d1, b1⟩, fun i hi => ⟨(ms i hi).1, (ms i hi).2, (okN_of hI hi).1, (okN_of hI hi).2.1⟩⟩, n, fun w hw j hj => nm _ (hT.2.2.1 w hw j hj), fun b hb j hj => nm _ (hT.2.2.2.1 b hb j hj)⟩
  obtain ⟨x1, x2⟩ := hB.2.1 k hk
  obtain ⟨-, y2, -⟩ := num_way hI hB hT hk
  refine ⟨(mw k hk).1, (mw k hk).2, ?_, ?_, by unfold wa; omega, by unfold wb; omega, ?_⟩
  · unfold dyA
    rw [if_pos hk, show 59 + 4 * k + 2 = 61 + 4 * k by omega, nm _ (hT.2.1 k hk).1]
    exact (nu_at hB (hT.2.1 k hk).1).1
  · unfold opA
    rw [if_pos hk, show 59 + 4 * k + 3 = 62 + 4 * k by omega]
    exact nm _ (hT.2.1 k hk).2
  · unfold dyA
    rw [if_pos hk]
    exact y2
end BGO
/-! the law's loop: the states of class and reference beside each other -/
def lZ (A : pA) (c : Nat) (s : nS) (H J : List nS) (h : zH) : Prop := (lPA A c h ∧ tA A ∧ tB A) ∧ (nOK A s ∧ (∀ t ∈ H, nOK A t) ∧ ∀ t ∈ J, nOK A t) ∧ lNC A s H J h ∧ lNM A s H J h
/-- what else is known: ways apart; without a post nothing was done -/
def lX (A : pA) (c : Nat) (s : nS) (H J : List nS) (h : zH) : Prop := tU A ∧ (cI A = 0 → (s.1 = 0 ∧ H = [] ∧ J = []) ∧ ∀ k, 1 ≤ k → k ≤ 3 → h.2.1 c k = 0)
def lZs (h : zH) : Prop := ∃ A c s H J, lZ A c s H J h ∧ lX A c s H J h
/-- between the two calls -/
def lZm (A : pA) (c : Nat) (s : nS) (H J : List nS) (s' : nS) (H' J' : List nS) (g : zH) : Prop := lPA A c g ∧ lNC A s' H' J' g ∧ lNM A s H J g
/-- what is left alone by calls that act on nothing: class, reference -/
def nqF (h g : zH) : Prop := (∀ a j, (86 ≤ a ∧ a ≤ 91) ∨ 104 ≤ a → g.2.1 a j = h.2.1 a j) ∧ g.2.1 0 12 = h.2.1 0 12 ∧ g.2.1 0 13 = h.2.1 0 13 ∧ g.2.1 0 15 = h.2.1 0 15
def mqF (h g : zH) : Prop := (∀ a j, a < 196 ∨ a = 199 ∨ (201 ≤ a ∧ a ≤ 203) → g.2.1 a j = h.2.1 a j) ∧ (g.2.1 196 14 = h.2.1 196 14 ∧ g.2.1 196 20 = h.2.1 196 20 ∧ g.2.1 196 21 = h.2.1 196 21) ∧ ∀ a j, g.2.2.2.1 a j = h.2.2.2.1 a j
def pNw (a : Nat) : Bool := Nat.ble a 85 || (Nat.ble 92 a && Nat.ble a 103)
def pMw (a : Nat) : Bool := Nat.ble 196 a && (!(Nat.beq a 199) && !(Nat.ble 201 a && Nat.ble a 203))
theorem pNw_f {a : Nat} (h : (86 ≤ a ∧ a ≤ 91) ∨ 104 ≤ a) : pNw a = false := by
  unfold pNw
  rw [ble_f (show 85 < a by omega)]
  rcases h with h | h
  · rw [ble_f (show a < 92 by omega)]; rfl
  · rw [ble_f (show 103 < a by omega), Bool.and_false]; rfl
theorem pMw_f {a : Nat} (h : a < 196 ∨ a = 199 ∨ (201 ≤ a ∧ a ≤ 203)) : pMw a = false := by
  unfold pMw
  rcases h with h | h | ⟨h1, h2⟩
  · rw [ble_f (show a < 196 by omega)]; rfl
  · subst h; rfl
  · have : a = 201 ∨ a = 202 ∨ a = 203 := by omega
    rcases this with e | e | e <;> subst e <;> rfl
def lkN (c : aCt) : Bool := c.2.2.2.2.1.all (fun q => pNw q.1) && (!(inM c.2.2.2.2.1 0 12) && (!(inM c.2.2.2.2.1 0 13) && !(inM c.2.2.2.2.1 0 15)))
def lkNM (c : aCt) : Bool := c.2.2.2.2.1.all (fun q => pMw q.1) && (!(inM c.2.2.2.2.1 196 14) && (!(inM c.2.2.2.2.1 196 20) && (!(inM c.2.2.2.2.1 196 21) && c.2.2.2.2.2.1.isEmpty)))
section LZF
variable {t i L q o : Nat} {h h' g : zH} {A : pA} {c : Nat} {s s' : nS} {H J H' J' : List nS} {vs : List zV} {ct c0 c1 : aCt} {k : Bool} {im : Int32} {d : Nat} {m : zM}
theorem zCi.pl {Q : Int32 → zH → Prop} {Q' : Option zV → zH → Prop} (a : zCi d m vs h Q) (b : zPa d m vs h Q') : zCi d m vs h (fun x h' => Q x h' ∧ Q' (some (.inl x)) h') := by
  refine zEx.mono (zPa.and a b) (fun v h' hq => ?_)
  obtain ⟨⟨x, e, q⟩, e2⟩ := hq
  subst e
  exact ⟨x, rfl, q, e2⟩
theorem zCl.pl {Q : Int64 → zH → Prop} {Q' : Option zV → zH → Prop} (a : zCl d m vs h Q) (b : zPa d m vs h Q') : zCl d m vs h (fun x h' => Q x h' ∧ Q' (some (.inr (.inl x))) h') := by
  refine zEx.mono (zPa.and a b) (fun v h' hq => ?_)
  obtain ⟨⟨x, e, q⟩, e2⟩ := hq
  subst e
  exact ⟨x, rfl, q, e2⟩
theorem lNC.fr (L : lNC A s H J h) (e : ∀ a j, (86 ≤ a ∧ a ≤ 91) ∨ (106 ≤ a ∧ a ≤ 195) → g.2.1 a j = h.2.1 a j) (e12 : g.2.1 0 12 = h.2.1 0 12) (e13 : g.2.1 0 13 = h.2.1 0 13) (e15 : g.2.1 0 15 = h.2.1 0 15) : lNC A s H J g := by
  obtain ⟨L1, ⟨nw, hn, a1, a2, a3, a4⟩, b1, b2, b3⟩ := L
  refine ⟨L1.fr (fun b k w1 w2 => e _ _ (by omega)), ⟨nw, hn, e12.trans a1, e13.trans a2, a3, fun k t hk => (a4 k t hk).fr (fun b j w1 w2 => e _ _ ?_)⟩, e15.trans b1, b2, fun k t hk => (b3 k t hk).fr (fun b j w1 w2 => e _ _ ?_)⟩
  · have := Nat.mod_lt (nw + 12 - k) (show 0 < 12 by decide)
    omega
  · have := (List.getElem?_eq_some_iff.mp hk).1
    omega
theorem nq_in (hk : lkN ct = true) (hf : hFr ct.2.2.2.2.1 ct.2.2.2.2.2.1 h h') : nqF h h' := by
  unfold lkN at hk
  rw [Bool.and_eq_true, Bool.and_eq_true, Bool.and_eq_true, Bool.not_eq_true', Bool.not_eq_true', Bool.not_eq_true'] at hk
  obtain ⟨k1, k2, k3, k4⟩ := hk
  exact ⟨fun a j ha => hf.2.2.1 a j (inM_by pNw k1 (pNw_f ha)), hf.2.2.1 0 12 k2, hf.2.2.1 0 13 k3, hf.2.2.1 0 15 k4⟩
theorem mq_in (hk : lkNM ct = true) (hf : hFr ct.2.2.2.2.1 ct.2.2.2.2.2.1 h h') : mqF h h' := by
  unfold lkNM at hk
  rw [Bool.and_eq_true, Bool.and_eq_true, Bool.and_eq_true, Bool.and_eq_true, Bool.not_eq_true', Bool.not_eq_true', Bool.not_eq_true', List.isEmpty_iff] at hk
  obtain ⟨k1, k2, k3, k4, k5⟩ := hk
  exact ⟨fun a j ha => hf.2.2.1 a j (inM_by pMw k1 (pMw_f ha)), ⟨hf.2.2.1 196 14 k2, hf.2.2.1 196 20 k3, hf.2.2.1 196 21 k4⟩, fun a j => hf.2.2.2.1 a j (by rw [k5]; rfl)⟩
theorem n_cls (hS0 : aSpec wd c0) (hS1 : aSpec wd c1) (hk : (lkX lkN c0 rv0 && lkX lkN c1 rv1) = true) (hm : c0.1 = m) (hm1 : c1.1 = m) (ha : aArgs vs c0.2.1) (ha1 : c1.2.1 = c0.2.1) (hi : lInv t h) : zPa 1004 m vs h (fun _ h' => nqF h h') := by
  unfold lkX at hk
  simp only [Bool.and_eq_true] at hk
  rcases hi.2.1 with hv | hv
  · subst hm
    exact zPa.of (zEx.mono (hS0 1004 (Nat.le_of_ble_eq_true hk.1.1.2) vs h ha hi.1 (lkP_in hk.1.2 hv)) (fun v h' hq => nq_in hk.1.1.1 hq.2.1))
  · subst hm1
    exact zPa.of (zEx.mono (hS1 1004 (Nat.le_of_ble_eq_true hk.2.1.2) vs h (by rw [ha1]; exact ha) hi.1 (lkP_in hk.2.2 hv)) (fun v h' hq => nq_in hk.2.1.1 hq.2.1))
theorem n_mod (hS : aSpec wd ct) (hk : lkX lkNM ct [] = true) (ha : aArgs vs ct.2.1) (ho : lIn0 t h) : zPa 1004 ct.1 vs h (fun _ h' => mqF h h') := by
  unfold lkX at hk
  rw [Bool.and_eq_true, Bool.and_eq_true] at hk
  exact zPa.of (zEx.mono (hS 1004 (Nat.le_of_ble_eq_true hk.1.2) vs h ha ho.1 (lkP_in hk.2 (fun q hq => nomatch hq))) (fun v h' hq => mq_in hk.1.1 hq.2.1))
theorem lZ.lm (z : lZ A c s H J h) (m : lMid k im t h g) : lNM A s H J g := z.2.2.2.fr (fun a j w => m.2.2.1.1 a j (.inr (by omega))) (m.2.2.1.1 _ _ (.inr (by decide))) (m.2.2.1.1 _ _ (.inr (by decide)))
theorem lZ.cls (z : lZ A c s H J h) (m : lMid k im t h g) (f : nqF h g) : lZm A c s H J s H J g := ⟨m.pa z.1.1, z.2.2.1.fr (fun a j w => f.1 a j (by omega)) f.2.1 f.2.2.1 f.2.2.2, z.lm m⟩
theorem lPA.mq (hA : lPA A c h) (f : mqF h g) : lPA A c g := hA.fr (fun a j h1 h2 => f.1 a j (by have := hA.2.1.rg h1 h2; omega)) (fun j => f.1 199 j (by decide)) f.2.1.1 (f.2.2 0 3)
theorem lZm.ref (z : lZm A c s H J s H J g) (z0 : lZ A c s H J h) (f : mqF g h') : lZ A c s H J h' := ⟨⟨z.1.mq f, z0.1.2⟩, z0.2.1, z.2.1.fr (fun a j w => f.1 a j (by omega)) (f.1 _ _ (by decide)) (f.1 _ _ (by decide)) (f.1 _ _ (by decide)), z.2.2.fr (fun a j w => f.1 a j (by omega)) f.2.1.2.1 f.2.1.2.2⟩
/-- calls that act -/
theorem lPA.mg (hA : lPA A c h) (f : mwG h g) : lPA A c g := hA.fr (fun a j h1 h2 => by have := hA.2.1.rg h1 h2; exact f.2.2.2 a j (by omega) (by omega) (by omega) (by omega) (by omega) (by omega)) (fun j => f.2.2.2 199 j (by decide) (by decide) (by decide) (by decide) (by decide) (by decide)) (f.2.2.1 14 (by decide) (by decide) (by decide) (by decide) (by decide) (by decide)) (by rw [f.2.1])
theorem lNC.mg (L : lNC A s H J h) (f : mwG h g) : lNC A s H J g := L.fr (fun a j w => f.2.2.2 a j (by omega) (by omega) (by omega) (by omega) (by omega) (by omega)) (f.2.2.2 0 _ (by decide) (by decide) (by decide) (by decide) (by decide) (by decide)) (f.2.2.2 0 _ (by decide) (by decide) (by decide) (by decide) (by decide) (by decide)) (f.2.2.2 0 _ (by decide) (by decide) (by decide) (by decide) (by decide) (by decide))
theorem lX.fr (x : lX A c s H J h) (e : ∀ k, g.2.1 c k = h.2.1 c k) : lX A c s H J g := ⟨x.1, fun z => ⟨(x.2 z).1, fun k w1 w2 => (e k).trans ((x.2 z).2 k w1 w2)⟩⟩
theorem lX.na (x : lX A c s H J h) (z : lZ A c s H J h) (m : lMid k im t h g) (f : mqF g h') : lX A c s H J h' := x.fr (fun j => by
  have hc : c = 2 ∨ c = 42 := z.1.1.2.1
  exact (f.1 c j (by omega)).trans (m.2.2.1.1 c j (.inl (by omega))))
theorem lX.ac (x : lX A c s H J h) (z : lZ A c s H J h) (m : lMid k im t h g) (F : mwG g h') (o : cI A = 0 → s' = s ∧ H' = H ∧ J' = J) : lX A c s' H' J' h' := ⟨x.1, fun e => by
  have hc : c = 2 ∨ c = 42 := z.1.1.2.1
  obtain ⟨o1, o2, o3⟩ := o e
  rw [o1, o2, o3]
  exact ⟨(x.2 e).1, fun j w1 w2 => ((F.2.2.2 c j (by omega) (by omega) (by omega) (by omega) (by omega) (by omega)).trans (m.2.2.1.1 c j (.inl (by omega)))).trans ((x.2 e).2 j w1 w2)⟩⟩
/-- without a post: nothing is there -/
theorem lX.nil (x : lX A c s H J h) (z : lZ A c s H J h) (e : cI A = 0) : (cW A = 0 ∧ cH A = 0 ∧ cB A = 0) ∧ H = [] ∧ J = [] := by
  refine ⟨?_, (x.2 e).1.2⟩
  rcases z.1.1.2.2.2.2 with ⟨-, q⟩ | ⟨-, q, -⟩
  · rw [q]
    exact ⟨rfl, rfl, rfl⟩
  · exact absurd e q
theorem lZ.act (z : lZ A c s H J h) (m : lMid k im t h g) (F : mwG g h') (L1 : lNC A s' H' J' g) (L2 : lNM A s' H' J' h') (ok : nOK A s' ∧ (∀ t ∈ H', nOK A t) ∧ ∀ t ∈ J', nOK A t) : lZ A c s' H' J' h' := ⟨⟨(m.pa z.1.1).mg F, z.1.2⟩, ok, L1.mg F, L2⟩
theorem okz_push (o1 : nOK A s) (o2 : ∀ t ∈ H, nOK A t) : ∀ t ∈ (s :: H).take 12, nOK A t := fun t ht => by
  rcases List.mem_cons.mp (List.mem_of_mem_take ht) with e | e
  · rw [e]; exact o1
  · exact o2 t e
theorem lZ.b (z : lZ A c s H J h) : cH A ≤ 5 ∧ cB A ≤ 8 := ⟨z.1.1.1.2.2.1.2.2.1, z.1.1.1.2.2.1.2.2.2.1⟩
/-- what the calls rest on -/
theorem lInv.r92 (hi : lInv t h) (hA : lPA A c h) : h.2.2.2.1 92 0 = some c ∧ h.2.2.2.1 94 0 = some c ∧ h.2.2.2.1 96 0 = some c := by
  rcases hi.2.1 with hv | hv
  · have e : c = 2 := Option.some.inj (hA.2.2.1.symm.trans (hv ((0, 3), 2) (by decide)))
    subst e
    exact ⟨hv ((92, 0), 2) (by decide), hv ((94, 0), 2) (by decide), hv ((96, 0), 2) (by decide)⟩
  · have e : c = 42 := Option.some.inj (hA.2.2.1.symm.trans (hv ((0, 3), 42) (by decide)))
    subst e
    exact ⟨hv ((92, 0), 42) (by decide), hv ((94, 0), 42) (by decide), hv ((96, 0), 42) (by decide)⟩
theorem lZ.bc (z : lZ A c s H J h) (hi : lInv t h) (ne : cI A ≠ 0) : bgC A c s h := bgC_of hi.1 hi.2.2.2.2.1 z.1.1 z.1.2.1 z.1.2.2 z.2.1.1 z.2.2.1.1 (hi.r92 z.1.1).1 (hi.r92 z.1.1).2.1 ne
theorem lZ.bm (z : lZ A c s H J h) (m : lMid k im t h g) (ne : cI A ≠ 0) : bgM A s g := bgM_of m.2.1.1 m.2.1.2.2.2 (m.pa z.1.1) z.1.2.1 z.1.2.2 z.2.1.1 (z.lm m).1.1 ne
theorem lInv.nw (hi : lInv t h) : nwS h := nwS_of hi.1 hi.2.2.2.2.1
theorem lMid.mw (m : lMid k im t h g) : mwS g := mwS_of m.2.1.1 m.2.1.2.2.2
theorem lMid.r15 (m : lMid k im t h g) : g.2.2.2.1 196 15 = some 199 := m.2.1.1.2.2.1 196 15 199 (by decide +kernel)
theorem lInv.r8 (hi : lInv t h) : h.2.2.2.1 0 8 = some 94 := hi.1.2.2.1 0 8 94 (by decide +kernel)
end LZF
/-! acts: class and reference do the same -/
def sndO (A : pA) (s : nS) (H J : List nS) (x y : Int32) (v : Option zV) (t : Int32) (L : nS → List nS → List nS → Prop) : Prop := (¬ ((0 ≤ x.toInt ∧ x.toInt < (cH A : Int)) ∧ 0 ≤ y.toInt ∧ y.toInt < (cB A : Int)) ∧ v = some (.inl (-1)) ∧ t = 1 ∧ L s H J) ∨ ∃ w b, x = nI w ∧ y = nI b ∧ w < cH A ∧ b < cB A ∧ ((brV A s w b = none ∧ v = some (.inl (-1)) ∧ t = 5 ∧ L s H J) ∨ ∃ p, brV A s w b = some p ∧ v = some (.inl (nI (p.2.1 + nu A (109 + 4 * w)))) ∧ t = 0 ∧ L (sntS s w b (p.2.1 + nu A (109 + 4 * w)) p.2.2) ((s :: H).take 12) J)
def undO (A : pA) (s : nS) (H J : List nS) (v : Option zV) (t : Int32) (L : nS → List nS → List nS → Prop) : Prop := (H = [] ∧ v = some (.inl 0) ∧ t = 6 ∧ L s H J) ∨ ∃ u T, H = u :: T ∧ v = some (.inl 1) ∧ t = 0 ∧ L u T J
def bckO (A : pA) (s : nS) (H J : List nS) (i : Int32) (v : Option zV) (t : Int32) (L : nS → List nS → List nS → Prop) : Prop := ((i.toInt < 0 ∨ (J.length : Int) ≤ i.toInt) ∧ v = some (.inl 0) ∧ t = 1 ∧ L s H J) ∨ ∃ u, 0 ≤ i.toInt ∧ J[i.toInt.toNat]? = some u ∧ v = some (.inl 1) ∧ t = 0 ∧ L u [] J
def imgO (A : pA) (s : nS) (H J : List nS) (v : Option zV) (t : Int32) (L : nS → List nS → List nS → Prop) : Prop := (cI A = 0 ∧ v = some (.inl (-1)) ∧ t = 1 ∧ L s H J) ∨ (cI A ≠ 0 ∧ J.length = 3 ∧ v = some (.inl (-1)) ∧ t = 3 ∧ L s H J) ∨ (cI A ≠ 0 ∧ J.length < 3 ∧ v = some (.inl (nI J.length)) ∧ t = 0 ∧ L s H (J ++ [s]))
def okZ (A : pA) (s : nS) (H J : List nS) : Prop := nOK A s ∧ (∀ t ∈ H, nOK A t) ∧ ∀ t ∈ J, nOK A t
section TWO
variable {t i : Nat} {h h' g : zH} {A : pA} {c w b k n j : Nat} {s s' : nS} {H J H' J' : List nS} {kk : Bool} {im : Int32} {v1 v2 : Option zV} {t1 t2 x y z : Int32} {L1 L2 : nS → List nS → List nS → Prop}
theorem nSn_cg (e : s'.2.2.2.2.1 = s.2.2.2.2.1) : ∀ n, nSn s' n = nSn s n
  | 0 => rfl
  | n + 1 => by
    show nSn s' n + (match s'.2.2.2.2.1 n with | some _ => 1 | none => 0) = nSn s n + (match s.2.2.2.2.1 n with | some _ => 1 | none => 0)
    rw [nSn_cg e n, e]
theorem nOK.cg (o : nOK A s) (e : s'.2.2 = s.2.2) (hy : s'.1 ≤ 9999) : nOK A s' := by
  obtain ⟨-, o2, o3⟩ := o
  unfold nOK
  rw [nSn_cg (s := s) (by rw [e]), e]
  exact ⟨hy, o2, o3⟩
theorem tunS_ok (hI : pI A) (hB : tB A) (hT : tA A) (o : nOK A s) (hb : b < cB A) (hn : n < ntA A) : nOK A (tunS s b k n) := by
  obtain ⟨-, q2, -⟩ := num_box hI hB hT hb
  obtain ⟨-, -, -, -, n4, -⟩ := okN_of hI q2
  obtain ⟨o1, o2, o3⟩ := o
  unfold nOK
  rw [nSn_cg (s := s) (s' := tunS s b k n) rfl]
  refine ⟨o1, o2, fun j hj => ?_⟩
  obtain ⟨p1, p2, p3⟩ := o3 j hj
  show okN (ntA A) (if j = b then tnL (s.2.2.2.2.2 b) k n else s.2.2.2.2.2 j) ∧ (if j = b then tnL (s.2.2.2.2.2 b) k n else s.2.2.2.2.2 j).length = lB A j ∧ _
  by_cases e : j = b
  · rw [if_pos e, tnL_len]
    subst e
    exact ⟨tnL_ok n4 hn p1, p2, p3⟩
  · rw [if_neg e]
    exact ⟨p1, p2, p3⟩
theorem snd_two (hI : pI A) (hB : tB A) (hT : tA A) (o : okZ A s H J) (h0 : cI A = 0 → (cW A = 0 ∧ cH A = 0 ∧ cB A = 0) ∧ H = [] ∧ J = []) (h1 : sndO A s H J x y v1 t1 L1) (h2 : sndO A s H J x y v2 t2 L2) : ∃ s' H' J', (L1 s' H' J' ∧ L2 s' H' J') ∧ v1 = v2 ∧ t1 = t2 ∧ okZ A s' H' J' ∧ (cI A = 0 → s' = s ∧ H' = H ∧ J' = J) := by
  obtain ⟨b1, b2, b3, b4, b5⟩ := hI.2.2.1
  have nr : ∀ w b : Nat, x = nI w → y = nI b → w < cH A → b < cB A → (0 ≤ x.toInt ∧ x.toInt < (cH A : Int)) ∧ 0 ≤ y.toInt ∧ y.toInt < (cB A : Int) := fun w b e1 e2 hw hb => by
    rw [e1, e2, nI_toInt (by omega), nI_toInt (by omega)]
    omega
  rcases h1 with ⟨r1, e1, q1, l1⟩ | ⟨w, b, ex, ey, hw, hb, h1⟩ <;> rcases h2 with ⟨r2, e2, q2, l2⟩ | ⟨w', b', ex', ey', hw', hb', h2⟩
  · exact ⟨s, H, J, ⟨l1, l2⟩, e1.trans e2.symm, q1.trans q2.symm, o, fun _ => ⟨rfl, rfl, rfl⟩⟩
  · exact absurd (nr _ _ ex' ey' hw' hb') r1
  · exact absurd (nr _ _ ex ey hw hb) r2
  · have ew : w' = w := (nI_eq (by omega) (by omega)).mp (ex'.symm.trans ex)
    have eb : b' = b := (nI_eq (by omega) (by omega)).mp (ey'.symm.trans ey)
    subst ew
    subst eb
    rcases h1 with ⟨p1, e1, q1, l1⟩ | ⟨p, p1, e1, q1, l1⟩ <;> rcases h2 with ⟨p2, e2, q2, l2⟩ | ⟨p', p2, e2, q2, l2⟩
    · exact ⟨s, H, J, ⟨l1, l2⟩, e1.trans e2.symm, q1.trans q2.symm, o, fun _ => ⟨rfl, rfl, rfl⟩⟩
    · rw [p1] at p2
      cases p2
    · rw [p1] at p2
      cases p2
    · have p2' := p2
      rw [p1] at p2
      cases p2
      exact ⟨_, _, _, ⟨l1, l2⟩, e1.trans e2.symm, q1.trans q2.symm, ⟨snd_ok hI hB hT o.1 hw hb p1, okz_push o.1 o.2.1, o.2.2⟩, fun e => by have := (h0 e).1; omega⟩
theorem tun_two (hI : pI A) (hB : tB A) (hT : tA A) (o : okZ A s H J) (h0 : cI A = 0 → (cW A = 0 ∧ cH A = 0 ∧ cB A = 0) ∧ H = [] ∧ J = []) (h1 : tunO A s H J x y z v1 t1 L1) (h2 : tunO A s H J x y z v2 t2 L2) : ∃ s' H' J', (L1 s' H' J' ∧ L2 s' H' J') ∧ v1 = v2 ∧ t1 = t2 ∧ okZ A s' H' J' ∧ (cI A = 0 → s' = s ∧ H' = H ∧ J' = J) := by
  obtain ⟨b1, b2, b3, b4, b5⟩ := hI.2.2.1
  have l6 : ∀ b, b < cB A → lB A b ≤ 6 ∧ ntA A ≤ 4 := fun b hb => by
    obtain ⟨-, q2, -⟩ := num_box hI hB hT hb
    obtain ⟨-, a1, -, -, a2, -⟩ := okN_of hI q2
    exact ⟨a1, a2⟩
  rcases h1 with ⟨r1, e1, q1, l1⟩ | ⟨b, k, ex, ey, hb, hk, h1⟩ <;> rcases h2 with ⟨r2, e2, q2, l2⟩ | ⟨b', k', ex', ey', hb', hk', h2⟩
  · exact ⟨s, H, J, ⟨l1, l2⟩, e1.trans e2.symm, q1.trans q2.symm, o, fun _ => ⟨rfl, rfl, rfl⟩⟩
  · exact (r1 _ _ ex' ey' hb' hk').elim
  · exact (r2 _ _ ex ey hb hk).elim
  · have eb : b' = b := (nI_eq (by omega) (by omega)).mp (ex'.symm.trans ex)
    subst eb
    obtain ⟨m6, m4⟩ := l6 _ hb
    have ek : k' = k := (nI_eq (by omega) (by omega)).mp (ey'.symm.trans ey)
    subst ek
    have nr : ∀ n : Nat, z = nI n → n < ntA A → 0 ≤ z.toInt ∧ z.toInt < (ntA A : Int) := fun n e hn => by
      rw [e, nI_toInt (by omega)]
      omega
    rcases h1 with ⟨p1, e1, q1, l1⟩ | ⟨n, en, hn, h1⟩ <;> rcases h2 with ⟨p2, e2, q2, l2⟩ | ⟨n', en', hn', h2⟩
    · exact ⟨s, H, J, ⟨l1, l2⟩, e1.trans e2.symm, q1.trans q2.symm, o, fun _ => ⟨rfl, rfl, rfl⟩⟩
    · exact absurd (nr _ en' hn') p1
    · exact absurd (nr _ en hn) p2
    · have e : n' = n := (nI_eq (by omega) (by omega)).mp (en'.symm.trans en)
      subst e
      rcases h1 with ⟨p1, e1, q1, l1⟩ | ⟨p1, u1, e1, q1, l1⟩ <;> rcases h2 with ⟨p2, e2, q2, l2⟩ | ⟨p2, u2, e2, q2, l2⟩
      · exact ⟨s, H, J, ⟨l1, l2⟩, e1.trans e2.symm, q1.trans q2.symm, o, fun _ => ⟨rfl, rfl, rfl⟩⟩
      · exact p1.elim (fun q => absurd p2 q) (fun q => absurd q u2)
      · exact p2.elim (fun q => absurd p1 q) (fun q => absurd q u1)
      · exact ⟨_, _, _, ⟨l1, l2⟩, e1.trans e2.symm, q1.trans q2.symm, ⟨tunS_ok hI hB hT o.1 hb hn, okz_push o.1 o.2.1, o.2.2⟩, fun e => by have := (h0 e).1; omega⟩
theorem yr_two (o : okZ A s H J) (h0 : cI A = 0 → (cW A = 0 ∧ cH A = 0 ∧ cB A = 0) ∧ H = [] ∧ J = []) (h1 : yrO A s H J x v1 t1 L1) (h2 : yrO A s H J x v2 t2 L2) : ∃ s' H' J', (L1 s' H' J' ∧ L2 s' H' J') ∧ v1 = v2 ∧ t1 = t2 ∧ okZ A s' H' J' ∧ (cI A = 0 → s' = s ∧ H' = H ∧ J' = J) := by
  have nr : ∀ n : Nat, x = nI n → 1 ≤ n → n ≤ 99 → 1 ≤ x.toInt ∧ x.toInt ≤ 99 := fun n e w1 w2 => by
    rw [e, nI_toInt (by omega)]
    omega
  rcases h1 with ⟨r1, e1, q1, l1⟩ | ⟨z1, r1, e1, q1, l1⟩ | ⟨n, z1, en, w1, w2, h1⟩ <;> rcases h2 with ⟨r2, e2, q2, l2⟩ | ⟨z2, r2, e2, q2, l2⟩ | ⟨n', z2, en', w1', w2', h2⟩
  · exact ⟨s, H, J, ⟨l1, l2⟩, e1.trans e2.symm, q1.trans q2.symm, o, fun _ => ⟨rfl, rfl, rfl⟩⟩
  · exact absurd r1 z2
  · exact absurd r1 z2
  · exact absurd r2 z1
  · exact ⟨s, H, J, ⟨l1, l2⟩, e1.trans e2.symm, q1.trans q2.symm, o, fun _ => ⟨rfl, rfl, rfl⟩⟩
  · exact absurd (nr _ en' w1' w2') r1
  · exact absurd r2 z1
  · exact absurd (nr _ en w1 w2) r2
  · have e : n' = n := (nI_eq (by omega) (by omega)).mp (en'.symm.trans en)
    subst e
    rcases h1 with ⟨p1, e1, q1, l1⟩ | ⟨p1, e1, q1, l1⟩ <;> rcases h2 with ⟨p2, e2, q2, l2⟩ | ⟨p2, e2, q2, l2⟩
    · exact ⟨s, H, J, ⟨l1, l2⟩, e1.trans e2.symm, q1.trans q2.symm, o, fun _ => ⟨rfl, rfl, rfl⟩⟩
    · omega
    · omega
    · exact ⟨_, _, _, ⟨l1, l2⟩, e1.trans e2.symm, q1.trans q2.symm, ⟨o.1.cg rfl p1, okz_push o.1 o.2.1, o.2.2⟩, fun e => absurd e z1⟩
theorem cls_two (hI : pI A) (o : okZ A s H J) (h0 : cI A = 0 → (cW A = 0 ∧ cH A = 0 ∧ cB A = 0) ∧ H = [] ∧ J = []) (h1 : clsO A s H J x y v1 t1 L1) (h2 : clsO A s H J x y v2 t2 L2) : ∃ s' H' J', (L1 s' H' J' ∧ L2 s' H' J') ∧ v1 = v2 ∧ t1 = t2 ∧ okZ A s' H' J' ∧ (cI A = 0 → s' = s ∧ H' = H ∧ J' = J) := by
  have b2 := hI.2.2.1.2.1
  have nr : ∀ w : Nat, x = nI w → w < cW A → 0 ≤ x.toInt ∧ x.toInt < (cW A : Int) := fun w e hw => by
    rw [e, nI_toInt (by omega)]
    omega
  rcases h1 with ⟨r1, e1, q1, l1⟩ | ⟨w, ex, hw, h1⟩ <;> rcases h2 with ⟨r2, e2, q2, l2⟩ | ⟨w', ex', hw', h2⟩
  · exact ⟨s, H, J, ⟨l1, l2⟩, e1.trans e2.symm, q1.trans q2.symm, o, fun _ => ⟨rfl, rfl, rfl⟩⟩
  · exact absurd (nr _ ex' hw') r1
  · exact absurd (nr _ ex hw) r2
  · have e : w' = w := (nI_eq (by omega) (by omega)).mp (ex'.symm.trans ex)
    subst e
    rcases h1 with ⟨p1, e1, q1, l1⟩ | ⟨p1, e1, q1, l1⟩ <;> rcases h2 with ⟨p2, e2, q2, l2⟩ | ⟨p2, e2, q2, l2⟩
    · exact ⟨s, H, J, ⟨l1, l2⟩, e1.trans e2.symm, q1.trans q2.symm, o, fun _ => ⟨rfl, rfl, rfl⟩⟩
    · exact absurd p1 p2
    · exact absurd p2 p1
    · exact ⟨_, _, _, ⟨l1, l2⟩, e1.trans e2.symm, q1.trans q2.symm, ⟨o.1.cg rfl o.1.1, okz_push o.1 o.2.1, o.2.2⟩, fun e => by have := (h0 e).1; omega⟩
theorem und_two (o : okZ A s H J) (h0 : cI A = 0 → (cW A = 0 ∧ cH A = 0 ∧ cB A = 0) ∧ H = [] ∧ J = []) (h1 : undO A s H J v1 t1 L1) (h2 : undO A s H J v2 t2 L2) : ∃ s' H' J', (L1 s' H' J' ∧ L2 s' H' J') ∧ v1 = v2 ∧ t1 = t2 ∧ okZ A s' H' J' ∧ (cI A = 0 → s' = s ∧ H' = H ∧ J' = J) := by
  rcases h1 with ⟨r1, e1, q1, l1⟩ | ⟨u, T, r1, e1, q1, l1⟩ <;> rcases h2 with ⟨r2, e2, q2, l2⟩ | ⟨u', T', r2, e2, q2, l2⟩
  · exact ⟨s, H, J, ⟨l1, l2⟩, e1.trans e2.symm, q1.trans q2.symm, o, fun _ => ⟨rfl, rfl, rfl⟩⟩
  · rw [r1] at r2
    cases r2
  · rw [r1] at r2
    cases r2
  · have r := r1.symm.trans r2
    cases r
    refine ⟨_, _, _, ⟨l1, l2⟩, e1.trans e2.symm, q1.trans q2.symm, ⟨o.2.1 u (by rw [r1]; exact List.mem_cons_self), fun t ht => o.2.1 t (by rw [r1]; exact List.mem_cons_of_mem _ ht), o.2.2⟩, fun e => by have := (h0 e).2.1; rw [r1] at this; cases this⟩
theorem bck_two (o : okZ A s H J) (h0 : cI A = 0 → (cW A = 0 ∧ cH A = 0 ∧ cB A = 0) ∧ H = [] ∧ J = []) (h1 : bckO A s H J x v1 t1 L1) (h2 : bckO A s H J x v2 t2 L2) : ∃ s' H' J', (L1 s' H' J' ∧ L2 s' H' J') ∧ v1 = v2 ∧ t1 = t2 ∧ okZ A s' H' J' ∧ (cI A = 0 → s' = s ∧ H' = H ∧ J' = J) := by
  have nr : ∀ u, J[x.toInt.toNat]? = some u → 0 ≤ x.toInt → ¬ (x.toInt < 0 ∨ (J.length : Int) ≤ x.toInt) := fun u e hx => by
    have := (List.getElem?_eq_some_iff.mp e).1
    omega
  rcases h1 with ⟨r1, e1, q1, l1⟩ | ⟨u, x1, r1, e1, q1, l1⟩ <;> rcases h2 with ⟨r2, e2, q2, l2⟩ | ⟨u', x2, r2, e2, q2, l2⟩
  · exact ⟨s, H, J, ⟨l1, l2⟩, e1.trans e2.symm, q1.trans q2.symm, o, fun _ => ⟨rfl, rfl, rfl⟩⟩
  · exact absurd r1 (nr _ r2 x2)
  · exact absurd r2 (nr _ r1 x1)
  · have r := r1.symm.trans r2
    cases r
    exact ⟨_, _, _, ⟨l1, l2⟩, e1.trans e2.symm, q1.trans q2.symm, ⟨o.2.2 u (List.mem_of_getElem? r1), fun t ht => (nomatch ht), o.2.2⟩, fun e => by have := (h0 e).2.2; rw [this] at r1; cases r1⟩
theorem img_two (o : okZ A s H J) (h0 : cI A = 0 → (cW A = 0 ∧ cH A = 0 ∧ cB A = 0) ∧ H = [] ∧ J = []) (h1 : imgO A s H J v1 t1 L1) (h2 : imgO A s H J v2 t2 L2) : ∃ s' H' J', (L1 s' H' J' ∧ L2 s' H' J') ∧ v1 = v2 ∧ t1 = t2 ∧ okZ A s' H' J' ∧ (cI A = 0 → s' = s ∧ H' = H ∧ J' = J) := by
  rcases h1 with ⟨r1, e1, q1, l1⟩ | ⟨z1, r1, e1, q1, l1⟩ | ⟨z1, r1, e1, q1, l1⟩ <;> rcases h2 with ⟨r2, e2, q2, l2⟩ | ⟨z2, r2, e2, q2, l2⟩ | ⟨z2, r2, e2, q2, l2⟩
  · exact ⟨s, H, J, ⟨l1, l2⟩, e1.trans e2.symm, q1.trans q2.symm, o, fun _ => ⟨rfl, rfl, rfl⟩⟩
  · exact absurd r1 z2
  · exact absurd r1 z2
  · exact absurd r2 z1
  · exact ⟨s, H, J, ⟨l1, l2⟩, e1.trans e2.symm, q1.trans q2.symm, o, fun _ => ⟨rfl, rfl, rfl⟩⟩
  · omega
  · exact absurd r2 z1
  · omega
  · refine ⟨_, _, _, ⟨l1, l2⟩, e1.trans e2.symm, q1.trans q2.symm, ⟨o.1, o.2.1, fun t ht => ?_⟩, fun e => absurd e z1⟩
    rcases List.mem_append.mp ht with e | e
    · exact o.2.2 t e
    · rw [List.mem_singleton.mp e]
      exact o.1
theorem lZ.two (z : lZ A c s H J h) (x : lX A c s H J h) (m : lMid kk im t h g) (F : mwG g h') (w : ∃ s' H' J', (lNC A s' H' J' g ∧ lNM A s' H' J' h') ∧ v1 = v2 ∧ t1 = t2 ∧ okZ A s' H' J' ∧ (cI A = 0 → s' = s ∧ H' = H ∧ J' = J)) : ∃ s' H' J', (lZ A c s' H' J' h' ∧ lX A c s' H' J' h') ∧ v1 = v2 ∧ t1 = t2 := by
  obtain ⟨s', H', J', ⟨l1, l2⟩, ev, et, ok, o⟩ := w
  exact ⟨s', H', J', ⟨z.act m F l1 l2 ok, x.ac z m F o⟩, ev, et⟩
end TWO
/-! the law's loop: feed, post, led, decade beside the states -/
def ldE (h g : zH) : Prop := (∀ a k, g.2.1 a k = h.2.1 a k) ∧ ∀ a k, g.2.2.2.1 a k = h.2.2.2.1 a k
section LZP
variable {t i L n : Nat} {h h' g : zH} {A : pA} {c : Nat} {s : nS} {H J : List nS} {kk : Bool} {im : Int32} {x : Int32}
theorem lZ.led (z : lZ A c s H J h) (e : ldE h g) : lZ A c s H J g := ⟨⟨z.1.1.fr (fun a j _ _ => e.1 a j) (fun j => e.1 _ _) (e.1 _ _) (e.2 _ _), z.1.2⟩, z.2.1, z.2.2.1.fr (fun a j _ => e.1 a j) (e.1 _ _) (e.1 _ _) (e.1 _ _), z.2.2.2.fr (fun a j _ => e.1 a j) (e.1 _ _) (e.1 _ _)⟩
theorem lX.led (x : lX A c s H J h) (e : ldE h g) : lX A c s H J g := x.fr (fun k => e.1 _ _)
theorem lX.feed (x : lX A c s H J h) (z : lZ A c s H J h) (f1 : fC1 h g) (q2 : mqF g h') : lX A c s H J h' := x.fr (fun j => by
  have hc : c = 2 ∨ c = 42 := z.1.1.2.1
  exact (q2.1 c j (by omega)).trans (f1.1 c j (by omega)))
theorem lZ.mid (z : lZ A c s H J h) : lZm A c s H J s H J h := ⟨z.1.1, z.2.2.1, z.2.2.2⟩
theorem l_led2 {x : Int32} (hi : lInv t h) (ht : t < 1000) : zCt 1004 zledM [.inr (.inr (some 0)), .inl x] h (fun v h' => (∃ b : Int32, v = some (.inl b) ∧ lInv (t + 1) h' ∧ ldE h h') ∨ ((∃ y : Int64, v = some (.inr (.inl y))) ∧ lInv (t + 1) h' ∧ ldE h h')) := by
  have hr : h.2.2.2.1 0 3 = some 2 ∨ h.2.2.2.1 0 3 = some 42 := hi.2.1.imp (fun z => z ((0, 3), 2) List.mem_cons_self) (fun z => z ((0, 3), 42) List.mem_cons_self)
  refine zEx.mono (S_led (d := 1003) (x := x) hi.1 hr (Nat.lt_of_le_of_lt hi.2.2.2.1 ht)) (fun v h' hq => ?_)
  have kp : ∀ g, ldS h g → lInv t g := fun g hg => ⟨hg.1, hi.2.1.imp (fun z q hq => (hg.2.2.2.1 _ _).trans (z q hq)) (fun z q hq => (hg.2.2.2.1 _ _).trans (z q hq)), by rw [hg.2.2.1, hg.2.2.1]; exact hi.2.2.1, by rw [hg.2.2.2.2]; exact hi.2.2.2.1, hg.2.1.trans hi.2.2.2.2.1, hi.tp.fr (hg.2.2.1 _ _) (fun k => hg.2.2.1 _ _) (fun k => hg.2.2.1 _ _), hi.ys.fr (fun a j _ _ => hg.2.2.1 a j) (fun j => hg.2.2.1 199 j) (hg.2.2.1 _ _) (hg.2.2.1 _ _) (hg.2.2.1 _ _) (hg.2.2.1 _ _) (hg.2.2.1 _ _) (hg.2.2.1 _ _) (hg.2.2.1 _ _) (hg.2.2.2.1 _ _)⟩
  rcases hq with ⟨b, e, hg⟩ | ⟨e, g, hg, eg⟩
  · exact .inl ⟨b, e, (kp _ hg).up, fun a k => hg.2.2.1 a k, fun a k => hg.2.2.2.1 a k⟩
  · have k := kp g hg
    subst eg
    exact .inr ⟨⟨-1, e⟩, ⟨k.1, k.2.1, k.2.2.1, Nat.succ_le_succ k.2.2.2.1, k.2.2.2.2⟩, fun a k => hg.2.2.1 a k, fun a k => hg.2.2.2.1 a k⟩
theorem n_decade {x1 x2 : Int32} (m : lMid kk im t g h) : zPa 1004 mX12_decade [.inr (.inr (some 196)), .inl x1, .inl x2] h (fun _ h' => mqF h h') := by
  have key : ∀ c : aCt, aSpec wd c → (lkNM c && lkD c) = true → c.1 = mX12_decade → c.2.1 = [.inr (.inl [196]), .inl aTop, .inl aTop] → aPre h c.2.2.1 → zPa 1004 mX12_decade [.inr (.inr (some 196)), .inl x1, .inl x2] h (fun _ h' => mqF h h') := by
    intro c hS hk hm ha hp
    rw [Bool.and_eq_true] at hk
    rw [← hm]
    exact zPa.of (zEx.mono (hS 1004 (Nat.le_of_ble_eq_true hk.2) _ h (by rw [ha]; exact ⟨⟨196, List.mem_cons_self, rfl⟩, ⟨_, rfl, aIn_top _⟩, ⟨_, rfl, aIn_top _⟩, trivial⟩) m.2.1.1 hp) (fun v h' hq => mq_in hk.1 hq.2.1))
  have pre1 : ∀ (a k : Nat) (n : Int), aIn (h.2.1 a k).toInt [(n, n, 1)] → aPre h ([((a, k), [(n, n, 1)])], []) := by
    intro a k n hn
    refine ⟨fun q hq => ?_, fun q hq => nomatch hq⟩
    have e : q = ((a, k), [(n, n, 1)]) := by simpa using hq
    subst e
    exact hn
  have hp : aIn (h.2.1 196 14).toInt [(0, ((1 : Nat) : Int), 1)] := aLe_in (A := gSeg (wd.2.1 196) 14) (by decide +kernel) (m.2.1.1.2.1 196 14)
  obtain ⟨s, hs, e⟩ := nI_rg hp (by decide)
  have hs : s = 0 ∨ s = 1 := by omega
  rcases hs with rfl | rfl
  · exact key ct_1094 S_1094 (by decide +kernel) rfl rfl (pre1 196 14 0 (by rw [e]; exact aR1_in (lo := 0) (hi := 0) (by decide) (by decide)))
  · have hm := m.2.1.1.2.2.2.1 ([((196, 14), [(1, 1, 1)])], ((199, 4), [(1, 7, 1)])) (by decide +kernel) (fun q hq => by
      have eq : q = ((196, 14), [(1, 1, 1)]) := by simpa using (show q ∈ [(((196, 14), [(1, 1, 1)]) : (Nat × Nat) × aI)] from hq)
      subst eq
      rw [e]
      exact aR1_in (lo := 1) (hi := 1) (by decide) (by decide))
    obtain ⟨q, hq, a, b, -⟩ := hm
    have eq : q = (1, 7, 1) := by simpa using hq
    subst eq
    have a : 1 ≤ (h.2.1 199 4).toInt := a
    have b : (h.2.1 199 4).toInt ≤ 7 := b
    have hc : (h.2.1 199 4).toInt = 1 ∨ (h.2.1 199 4).toInt = 2 ∨ (h.2.1 199 4).toInt = 3 ∨ (h.2.1 199 4).toInt = 4 ∨ (h.2.1 199 4).toInt = 5 ∨ (h.2.1 199 4).toInt = 6 ∨ (h.2.1 199 4).toInt = 7 := by omega
    rcases hc with z | z | z | z | z | z | z
    · exact key ct_1113 S_1113 (by decide +kernel) rfl rfl (pre1 199 4 1 (by rw [z]; exact aR1_in (lo := 1) (hi := 1) (by decide) (by decide)))
    · exact key ct_1132 S_1132 (by decide +kernel) rfl rfl (pre1 199 4 2 (by rw [z]; exact aR1_in (lo := 2) (hi := 2) (by decide) (by decide)))
    · exact key ct_1152 S_1152 (by decide +kernel) rfl rfl (pre1 199 4 3 (by rw [z]; exact aR1_in (lo := 3) (hi := 3) (by decide) (by decide)))
    · exact key ct_1173 S_1173 (by decide +kernel) rfl rfl (pre1 199 4 4 (by rw [z]; exact aR1_in (lo := 4) (hi := 4) (by decide) (by decide)))
    · exact key ct_1195 S_1195 (by decide +kernel) rfl rfl (pre1 199 4 5 (by rw [z]; exact aR1_in (lo := 5) (hi := 5) (by decide) (by decide)))
    · exact key ct_1218 S_1218 (by decide +kernel) rfl rfl (pre1 199 4 6 (by rw [z]; exact aR1_in (lo := 6) (hi := 6) (by decide) (by decide)))
    · exact key ct_1242 S_1242 (by decide +kernel) rfl rfl (pre1 199 4 7 (by rw [z]; exact aR1_in (lo := 7) (hi := 7) (by decide) (by decide)))
theorem n_feed11 {x1 x2 x3 x4 x5 : Int32} (hi : lInv t h) : zPa 1004 mX11_feed [.inr (.inr (some 0)), .inl x1, .inl x2, .inl x3, .inl x4, .inl x5] h (fun _ h' => nqF h h') := zPa.of (zEx.mono (S_5 1004 (by decide) [.inr (.inr (some 0)), .inl x1, .inl x2, .inl x3, .inl x4, .inl x5] h ⟨⟨0, List.mem_cons_self, rfl⟩, ⟨_, rfl, aIn_top _⟩, ⟨_, rfl, aIn_top _⟩, ⟨_, rfl, aIn_top _⟩, ⟨_, rfl, aIn_top _⟩, ⟨_, rfl, aIn_top _⟩, trivial⟩ hi.1 ⟨fun q hq => (nomatch hq), fun q hq => (nomatch hq)⟩) (fun v h' hq => nq_in (ct := ct_5) (by decide +kernel) hq.2.1))
theorem n_feed12 {x1 x2 x3 x4 x5 : Int32} (hi : lIn0 t h) : zPa 1004 mX12_feed [.inr (.inr (some 196)), .inl x1, .inl x2, .inl x3, .inl x4, .inl x5] h (fun _ h' => mqF h h') := zPa.of (zEx.mono (S_446 1004 (by decide) [.inr (.inr (some 196)), .inl x1, .inl x2, .inl x3, .inl x4, .inl x5] h ⟨⟨196, List.mem_cons_self, rfl⟩, ⟨_, rfl, aIn_top _⟩, ⟨_, rfl, aIn_top _⟩, ⟨_, rfl, aIn_top _⟩, ⟨_, rfl, aIn_top _⟩, ⟨_, rfl, aIn_top _⟩, trivial⟩ hi.1 ⟨fun q hq => (nomatch hq), fun q hq => (nomatch hq)⟩) (fun v h' hq => mq_in (ct := ct_446) (by decide +kernel) hq.2.1))
theorem lZ.feed (z : lZ A c s H J h) (f1 : fC1 h g) (q1 : nqF h g) (q2 : mqF g h') : lZ A c s H J h' := by
  have hA : lPA A c g := z.1.1.fr (fun a j h1 h2 => f1.1 a j (by have := z.1.1.2.1.rg h1 h2; omega)) (fun j => f1.1 199 j (by decide)) (f1.1 196 14 (by decide)) (f1.2.2.2 0 3)
  have zm : lZm A c s H J s H J g := ⟨hA, z.2.2.1.fr (fun a j w => q1.1 a j (by omega)) q1.2.1 q1.2.2.1 q1.2.2.2, z.2.2.2.fr (fun a j w => f1.1 a j (by omega)) (f1.1 _ _ (by decide)) (f1.1 _ _ (by decide))⟩
  exact zm.ref z q2
theorem n_post11 {s : Nat} (hi : lInv t h) (hs : s ≤ 1000) (e1 : h.2.1 0 1 = nI s) : zPa 1004 mX11_post [.inr (.inr (some 0)), .inl x] h (fun _ h' => (¬ pOK x s → h' = zsI h 0 2 2) ∧ (pOK x s → pcN h (pst (h.2.1 1) x) h')) := by
  by_cases k : pOK x s
  · obtain ⟨en, hn⟩ := k.nI hs
    rcases hi.2.1 with hv | hv
    · have := N_post11n_0 (d := 1003) (n := x.toInt.toNat) hi.1 hi.2.2.2.2.1 hv e1 hs hn (by decide)
      rw [← en] at this
      exact this.mono (fun v h' hq => ⟨fun q => absurd k q, fun _ => hq⟩)
    · have := N_post11n_1 (d := 1003) (n := x.toInt.toNat) hi.1 hi.2.2.2.2.1 hv e1 hs hn (by decide)
      rw [← en] at this
      exact this.mono (fun v h' hq => ⟨fun q => absurd k q, fun _ => hq⟩)
  · exact (N_no11 hi.1 e1 hs k).mono (fun v h' hq => ⟨fun _ => hq.2, fun q => absurd q k⟩)
theorem n_post12 {s : Nat} {y : Nat → Int32} (hi : lIn0 t h) (hs : s ≤ 1000) (e2 : h.2.1 196 2 = nI s) (hy : ∀ k : Nat, (k : Int) < (nI s).toInt → TB (y k) (h.2.1 197 k)) : zPa 1004 mX12_post [.inr (.inr (some 196)), .inl x] h (fun v h' => (¬ pOK x s ∧ v = some (.inl (-1)) ∧ h' = zsI (zsI (zsI h 196 0 0) 196 11 0) 196 11 2) ∨ (pOK x s ∧ rtS (pst y x) v h')) := N_post12n (d := 1003) (x := x) (y := y) hi.1 hi.2.2.2 e2 hs hy
theorem lZ_post {st : Nat} {v w : Int32} {ov : Option zV} (z : lZ A c s H J h) (lx : lX A c s H J h) (ho : hOK wd h') (a : pQ1 x st h v g) (a2 : (¬ pOK x st → g = zsI h 0 2 2) ∧ (pOK x st → pcN h (pst (h.2.1 1) x) g)) (b : pQ2 (h.2.1 1) x st g w h') (b2 : (¬ pOK x st ∧ ov = some (.inl (-1)) ∧ h' = zsI (zsI (zsI g 196 0 0) 196 11 0) 196 11 2) ∨ (pOK x st ∧ rtS (pst (h.2.1 1) x) ov h')) : lZs h' := by
  obtain ⟨a1, a5⟩ := a
  obtain ⟨b1, b3, b4, b6⟩ := b
  rcases b2 with ⟨k, -, eh⟩ | ⟨k, R⟩
  · have eg := a2.1 k
    have e : ∀ a j, ¬ (a = 0 ∧ j = 2) → ¬ (a = 196 ∧ (j = 0 ∨ j = 11)) → h'.2.1 a j = h.2.1 a j := fun a j w1 w2 => by rw [eh, zsI_no (by omega), zsI_no (by omega), zsI_no (by omega), eg, zsI_no (by omega)]
    refine ⟨A, c, s, H, J, ⟨⟨z.1.1.fr (fun a j h1 h2 => e _ _ (by have := z.1.1.2.1.rg h1 h2; omega) (by have := z.1.1.2.1.rg h1 h2; omega)) (fun j => e _ _ (by omega) (by omega)) (e _ _ (by omega) (by omega)) (by rw [eh, eg]; rfl), z.1.2⟩, z.2.1, z.2.2.1.fr (fun a j w => e _ _ (by omega) (by omega)) (e _ _ (by omega) (by omega)) (e _ _ (by omega) (by omega)) (e _ _ (by omega) (by omega)), z.2.2.2.fr (fun a j w => e _ _ (by omega) (by omega)) (e _ _ (by omega) (by omega)) (e _ _ (by omega) (by omega))⟩, lx.fr (fun j => e _ _ (by have hc : c = 2 ∨ c = 42 := z.1.1.2.1; omega) (by have hc : c = 2 ∨ c = 42 := z.1.1.2.1; omega))⟩
  · have P := a2.2 k
    rcases a5 with ⟨q, -⟩ | ⟨-, c', b', hc', hb', pc⟩
    · exact absurd k q
    rcases b6 with ⟨q, -⟩ | ⟨-, rt⟩
    · exact absurd k q
    cases er : pst (h.2.1 1) x with
    | inl e =>
      rw [er] at P pc rt
      obtain ⟨p1, p12, p13⟩ := P
      obtain ⟨-, -, -, f4, f5, f6⟩ := pc
      obtain ⟨-, -, -, -, g4⟩ := rt
      have ec : b' = c := Option.some.inj (hb'.symm.trans z.1.1.2.2.1)
      subst ec
      have n1 : ∀ a j, 86 ≤ a → a < 196 → h'.2.1 a j = h.2.1 a j := fun a j w1 w2 => (b1 a j (.inl w2)).trans (p1 a j w1)
      have n2 : ∀ a j, mKp a j → 196 ≤ a → h'.2.1 a j = h.2.1 a j := fun a j w1 w2 => (g4 a j w1).trans (a1 a j w2)
      refine ⟨A, b', s, H, J, ⟨⟨z.1.1.fr (fun a j h1 h2 => (b1 a j (.inl (by have := z.1.1.2.1.rg h1 h2; omega))).trans (f4 a j h1 h2)) (fun j => n2 _ _ (.inl (by decide)) (by decide)) (n2 _ _ (.inr (by decide)) (by decide)) ((b3 0 3).trans f5), z.1.2⟩, z.2.1, z.2.2.1.fr (fun a j w => n1 _ _ (by omega) (by omega)) ((b1 _ _ (.inl (by decide))).trans p12) ((b1 _ _ (.inl (by decide))).trans p13) ((b1 _ _ (.inl (by decide))).trans f6), z.2.2.2.fr (fun a j w => n2 _ _ (.inl (by omega)) (by omega)) (n2 _ _ (.inr (by decide)) (by decide)) (n2 _ _ (.inr (by decide)) (by decide))⟩, lx.fr (fun j => (b1 b' j (.inl (by have hc : b' = 2 ∨ b' = 42 := z.1.1.2.1; omega))).trans (f4 b' j (Nat.le_refl _) (by omega)))⟩
    | inr B =>
      rw [er] at P pc rt
      obtain ⟨p1, p13⟩ := P
      obtain ⟨-, f1, f2, f3, f4, f5, f6, f7⟩ := pc
      obtain ⟨g1, g2, g3⟩ := rt
      have hT := sText_tA _ _ _ pI_0 tA_0 (Nat.zero_le _) er
      have hB := sText_tB _ _ _ pI_0 tB_0 (Nat.zero_le _) er
      obtain ⟨r1, r2⟩ := R B er hT hB
      have ew : w ≠ -1 := by
        cases g1
        intro q
        have := congrArg Int32.toInt q
        have b7 := f2.2.2.1.1
        rw [nI_toInt (by omega), show (-1 : Int32).toInt = -1 by decide] at this
        omega
      obtain ⟨-, -, z21⟩ := b4 ew
      have ok := nS0_ok f2 hB hT
      obtain ⟨nw, hn, en⟩ := nI_rg (n := 11) (aLe_in (A := gSeg (wd.2.1 0) 12) (by decide +kernel) (ho.2.1 0 12)) (by decide)
      refine ⟨B, c', nS0 B, [], [], ⟨⟨⟨f2, hc', (b3 0 3).trans f3, rcC.frB f2 (fun a j h1 h2 => b1 a j (.inl (by have := hc'.rg h1 h2; omega))) f1, .inr ⟨g3, f7, g2⟩⟩, hT, hB⟩, ⟨ok, fun t ht => (nomatch ht), fun t ht => (nomatch ht)⟩, ⟨p1.fr (fun a j w1 w2 => b1 a j (.inl (by omega))), ⟨nw, by omega, en, (b1 0 13 (.inl (by decide))).trans p13, Nat.zero_le _, fun k t hk => (nomatch hk)⟩, (b1 0 15 (.inl (by decide))).trans f6, Nat.zero_le _, fun k t hk => (nomatch hk)⟩, ⟨r1, ok.len f2 hB hT⟩, ⟨r2, Nat.zero_le _, fun k t hk => (nomatch hk)⟩, z21, Nat.zero_le _, fun k t hk => (nomatch hk)⟩, sText_tU _ _ _ pI_0 tU_0 (Nat.zero_le _) er, fun q => absurd q f7⟩
/-- the states at the beginning -/
def nSb : nS := (0, 0, fun _ => 0, fun _ => 0, fun _ => none, fun _ => [])
theorem lPA_beg : lPA pA0 2 hh_487 := ⟨pI_0, .inl rfl, by decide +kernel, ⟨by decide +kernel, by decide +kernel, by decide +kernel, by decide +kernel, by decide +kernel, by decide +kernel, fun i hi => absurd hi (Nat.not_lt_zero i), fun i hi => absurd hi (Nat.not_lt_zero i), fun i hi => absurd hi (Nat.not_lt_zero i), fun j hj => absurd rfl hj⟩, .inl ⟨by decide +kernel, rfl⟩⟩
theorem lZ_beg : lZs hh_487 := by
  have hA := lPA_beg
  have w0 : ∀ w, w < cH pA0 → False := fun w hw => Nat.not_lt_zero w hw
  have b0 : ∀ b, b < cB pA0 → False := fun b hb => Nat.not_lt_zero b hb
  exact ⟨pA0, 2, nSb, [], [], ⟨⟨hA, tA_0, tB_0⟩, ⟨⟨Nat.zero_le _, fun w hw => (w0 w hw).elim, fun b hb => (b0 b hb).elim⟩, fun t ht => (nomatch ht), fun t ht => (nomatch ht)⟩, ⟨⟨by decide +kernel, by decide +kernel, fun w hw => (w0 w hw).elim, fun b hb => (b0 b hb).elim⟩, ⟨0, by decide, by decide +kernel, by decide +kernel, Nat.zero_le _, fun k t hk => (nomatch hk)⟩, by decide +kernel, Nat.zero_le _, fun k t hk => (nomatch hk)⟩, ⟨⟨by decide +kernel, by decide +kernel, fun w hw => (w0 w hw).elim, fun b hb => (b0 b hb).elim⟩, fun b hb => (b0 b hb).elim⟩, ⟨by decide +kernel, Nat.zero_le _, fun k t hk => (nomatch hk)⟩, by decide +kernel, Nat.zero_le _, fun k t hk => (nomatch hk)⟩, tU_0, fun _ => ⟨⟨rfl, rfl, rfl⟩, fun k w1 w2 => by
    have : k = 1 ∨ k = 2 ∨ k = 3 := by omega
    rcases this with e | e | e <;> subst e <;> decide +kernel⟩⟩
end LZP
end Pk3
