/-! length, season, image, back -/
section HLB
variable {t c n d : Nat} {h h' g : zH} {A : pA} {x y : Int32} {k : Bool} {im : Int32}
theorem x_nI (h1 : 0 ≤ x.toInt) : x = nI x.toInt.toNat := by
  have h2 : x.toInt ≤ 2147483647 := (i32_rg x).2
  refine Int32.toInt_inj.mp ?_
  rw [nI_toInt (by omega)]
  omega
theorem lPA.gd (hA : lPA A c h) : lPA A c (zsI (zsI h 196 0 0) 196 11 0) := hA.fr (fun a j h1 h2 => by have := hA.2.1.rg h1 h2; rw [zsI_no (by omega), zsI_no (by omega)]) (fun j => by rw [zsI_no (by omega), zsI_no (by omega)]) (by rw [zsI_no (by omega), zsI_no (by omega)]) rfl
def lnA (A : pA) (x : Int32) : Int32 := if 0 ≤ x.toInt ∧ x.toInt < (cI A : Int) then nI (A.2.2.1 x.toInt.toNat).length else -1
theorem N_length11 (hA : lPA A c h) (ho : hOK wd h) (h1 : h.1 = hh_487.1) : zPa d mX11_length [.inr (.inr (some 0)), .inl x] h (fun v _ => v = some (.inl (lnA A x))) := by
  intro N
  have s0 : zsh h 0 = some (11, 16) := zsh_by h1 (by decide +kernel)
  have hc : c = 2 ∨ c = 42 := hA.2.1
  have sl : zsh h (c + 2) = some (14, 7) := zsh_by h1 (by rcases hc with e | e <;> subst e <;> decide +kernel)
  have r10 : h.2.2.2.1 c 10 = some (c + 2) := by
    rcases hc with e | e <;> subst e
    · exact ho.2.2.1 2 10 4 (by decide +kernel)
    · exact ho.2.2.1 42 10 44 (by decide +kernel)
  show zPn N none d mX11_length (0, [(0, .inr (.inr (some 0))), (1, .inl x)], [], h) _
  refine pa_aload_n (pc' := 1) dX11_length_0 rfl rfl ?_
  refine pa_iload_n (pc' := 2) dX11_length_1 rfl rfl ?_
  refine pa_callv (pc' := 5) (vs := [.inl x]) (rest := []) dX11_length_2 ml_11_174 (by decide) rfl rfl rfl (fun d' _ => N_isI11 hA h1) (fun v g2 hq => ?_)
  obtain ⟨er, eh⟩ := hq
  subst er
  rw [eh]
  unfold lnA
  by_cases z : 0 ≤ x.toInt ∧ x.toInt < (cI A : Int)
  · rw [if_pos z, if_pos z]
    show zPn N none d mX11_length (5, [(0, .inr (.inr (some 0))), (1, .inl x)], [.inl 1], h) _
    refine pa_if_f (pc' := 8) dX11_length_5 (by decide) (by decide) rfl ?_
    refine pa_aload_n (pc' := 9) dX11_length_8 rfl rfl ?_
    refine pa_aload_n (pc' := 10) dX11_length_9 rfl rfl ?_
    refine pa_getR (pc' := 13) (n := 16) (r := c) dX11_length_10 fl_11_23 s0 (by decide) hA.2.2.1 rfl ?_
    refine pa_getR (pc' := 16) (n := 15) (r := c + 2) dX11_length_13 fl_11_177 (hA.sc h1) (by decide) r10 rfl ?_
    refine pa_iload_n (pc' := 17) dX11_length_16 rfl rfl ?_
    refine pa_iald (pc' := 18) (n := 7) dX11_length_17 sl rfl (fun _ => ?_)
    have e : h.2.1 (c + 2) x.toNatClampNeg = nI (A.2.2.1 x.toInt.toNat).length := (hA.2.2.2.1.2.2.2.2.2.2.1 x.toInt.toNat (by omega)).1
    rw [e]
    refine pa_callv (pc' := 21) (vs := [.inl (nI (A.2.2.1 x.toInt.toNat).length)]) (rest := []) dX11_length_18 ml_11_112 (by decide) rfl rfl rfl (fun d' _ => c_gra s0) (fun v g3 hq => ?_)
    obtain ⟨er, -⟩ := hq
    subst er
    show zPn N none d mX11_length (21, [(0, .inr (.inr (some 0))), (1, .inl x)], [.inl (nI (A.2.2.1 x.toInt.toNat).length)], g3) _
    refine pa_goto (pc' := 29) dX11_length_21 (by decide) ?_
    exact pa_iret dX11_length_29 rfl rfl rfl
  · rw [if_neg z, if_neg z]
    show zPn N none d mX11_length (5, [(0, .inr (.inr (some 0))), (1, .inl x)], [.inl 0], h) _
    refine pa_if_t (pc' := 24) dX11_length_5 (by decide) (by decide) ?_
    refine pa_aload_n (pc' := 25) dX11_length_24 rfl rfl ?_
    refine pa_iconst (v := 1) (pc' := 26) dX11_length_25 (by decide) rfl ?_
    refine pa_callv (pc' := 29) (vs := [.inl 1]) (rest := []) dX11_length_26 ml_11_98 (by decide) rfl rfl rfl (fun d' _ => c_ref s0) (fun v g3 hq => ?_)
    obtain ⟨er, -⟩ := hq
    subst er
    exact pa_iret dX11_length_29 rfl rfl rfl
theorem N_songLong {i : Nat} (h1 : h.1 = hh_487.1) (r15 : h.2.2.2.1 196 15 = some 199) (hi : i ≤ 7) : zPa d mX12_songLong [.inr (.inr (some 196)), .inl (nI i)] h (fun v h' => v = some (.inl (h.2.1 199 (10 + 7 * i))) ∧ h' = h) := by
  intro N
  have s196 := sh_196' h1
  have s199 : zsh h 199 = some (14, 363) := zsh_by h1 (by decide +kernel)
  show zPn N none d mX12_songLong (0, [(0, .inr (.inr (some 196))), (1, .inl (nI i))], [], h) _
  refine pa_aload_n (pc' := 1) dX12_songLong_0 rfl rfl ?_
  refine pa_getR (pc' := 4) (n := 39) (r := 199) dX12_songLong_1 fl_12_20 s196 (by decide) r15 rfl ?_
  refine pa_bipush (v := nI 10) (pc' := 6) dX12_songLong_4 (by decide) rfl ?_
  refine pa_bipush (v := nI 7) (pc' := 8) dX12_songLong_6 (by decide) rfl ?_
  refine pa_iload_n (pc' := 9) dX12_songLong_8 rfl rfl ?_
  refine pa_imul (pc' := 10) (v := nI (7 * i)) dX12_songLong_9 (nI_mul 7 i) rfl ?_
  refine pa_iadd (pc' := 11) (v := nI (10 + 7 * i)) dX12_songLong_10 (nI_add 10 (7 * i)) rfl ?_
  refine pa_iald (pc' := 12) (n := 363) dX12_songLong_11 s199 rfl (fun _ => ?_)
  rw [nI_clamp (by omega)]
  exact pa_iret dX12_songLong_12 rfl rfl ⟨rfl, rfl⟩
theorem N_length12 (hA : lPA A c h) (ho : hOK wd h) (h1 : h.1 = hh_487.1) : zPa d mX12_length [.inr (.inr (some 196)), .inl x] h (fun v _ => v = some (.inl (lnA A x))) := by
  intro N
  have s196 := sh_196' h1
  have r15 : h.2.2.2.1 196 15 = some 199 := ho.2.2.1 196 15 199 (by decide +kernel)
  show zPn N none d mX12_length (0, [(0, .inr (.inr (some 196))), (1, .inl x)], [], h) _
  refine pa_aload_n (pc' := 1) dX12_length_0 rfl rfl ?_
  refine pa_callv (pc' := 4) (vs := []) (rest := []) dX12_length_1 ml_12_167 (by decide) rfl rfl rfl (fun d' _ => m_good s196) (fun v g hq => ?_)
  obtain ⟨er, eg⟩ := hq
  subst er
  have hB : lPA A c g := by rw [eg]; exact hA.gd
  have g1 : g.1 = hh_487.1 := by rw [eg]; exact h1
  have r15 : g.2.2.2.1 196 15 = some 199 := by rw [eg]; exact r15
  have s196 := sh_196' g1
  show zPn N none d mX12_length (4, [(0, .inr (.inr (some 196))), (1, .inl x)], [], g) _
  refine pa_aload_n (pc' := 5) dX12_length_4 rfl rfl ?_
  refine pa_iload_n (pc' := 6) dX12_length_5 rfl rfl ?_
  refine pa_callv (pc' := 9) (vs := [.inl x]) (rest := []) dX12_length_6 ml_12_277 (by decide) rfl rfl rfl (fun d' _ => N_isI12 hB r15 g1) (fun v g2 hq => ?_)
  obtain ⟨er, eh⟩ := hq
  subst er
  rw [eh]
  unfold lnA
  by_cases z : 0 ≤ x.toInt ∧ x.toInt < (cI A : Int)
  · rw [if_pos z, if_pos z]
    have hle := hA.le
    have ex := x_nI z.1
    have K : g.2.1 199 (10 + 7 * x.toInt.toNat) = nI (A.2.2.1 x.toInt.toNat).length := by
      rcases hB.2.2.2.2 with ⟨-, b⟩ | ⟨-, -, K⟩
      · rw [b] at z
        have : (cI pA0 : Int) = 0 := rfl
        omega
      · exact (K.2.2.2.2.2.2.2.1 x.toInt.toNat (by omega)).1
    show zPn N none d mX12_length (9, [(0, .inr (.inr (some 196))), (1, .inl x)], [.inl 1], g) _
    refine pa_if_f (pc' := 12) dX12_length_9 (by decide) (by decide) rfl ?_
    refine pa_aload_n (pc' := 13) dX12_length_12 rfl rfl ?_
    refine pa_iload_n (pc' := 14) dX12_length_13 rfl rfl ?_
    refine pa_callv (pc' := 17) (vs := [.inl x]) (rest := []) dX12_length_14 ml_12_265 (by decide) rfl rfl rfl (fun d' _ => by
      have := N_songLong (d := d') (i := x.toInt.toNat) g1 r15 (by omega)
      rw [← ex] at this
      exact this) (fun v g3 hq => ?_)
    obtain ⟨er, -⟩ := hq
    rw [K] at er
    subst er
    show zPn N none d mX12_length (17, [(0, .inr (.inr (some 196))), (1, .inl x)], [.inl (nI (A.2.2.1 x.toInt.toNat).length)], g3) _
    refine pa_goto (pc' := 25) dX12_length_17 (by decide) ?_
    exact pa_iret dX12_length_25 rfl rfl rfl
  · rw [if_neg z, if_neg z]
    show zPn N none d mX12_length (9, [(0, .inr (.inr (some 196))), (1, .inl x)], [.inl 0], g) _
    refine pa_if_t (pc' := 20) dX12_length_9 (by decide) (by decide) ?_
    refine pa_aload_n (pc' := 21) dX12_length_20 rfl rfl ?_
    refine pa_iconst (v := 1) (pc' := 22) dX12_length_21 (by decide) rfl ?_
    refine pa_callv (pc' := 25) (vs := [.inl 1]) (rest := []) dX12_length_22 ml_12_170 (by decide) rfl rfl rfl (fun d' _ => m_no s196) (fun v g3 hq => ?_)
    obtain ⟨er, -⟩ := hq
    subst er
    exact pa_iret dX12_length_25 rfl rfl rfl
def ssA (A : pA) (x : Int32) : Int32 := if cI A = 0 then -1 else if 0 ≤ x.toInt ∧ x.toInt ≤ 99999 then x / 90 - x / 90 / 4 * 4 else -1
theorem N_within : zPa d mX11_isWithin [.inl x, .inl y] h (fun v h' => v = some (.inl (if 0 ≤ x.toInt ∧ x.toInt ≤ y.toInt then 1 else 0)) ∧ h' = h) := by
  intro N
  have k0 : (0 : Int32).toInt = 0 := by decide
  have e13 : ¬ (0 ≤ x.toInt ∧ x.toInt ≤ y.toInt) → zPn N none d mX11_isWithin (13, [(0, .inl x), (1, .inl y)], [], h) (fun v h' => v = some (.inl (if 0 ≤ x.toInt ∧ x.toInt ≤ y.toInt then 1 else 0)) ∧ h' = h) := fun z => by
    refine pa_iconst (v := 0) (pc' := 14) dX11_isWithin_13 (by decide) rfl ?_
    exact pa_iret dX11_isWithin_14 rfl rfl ⟨by rw [if_neg z], rfl⟩
  show zPn N none d mX11_isWithin (0, [(0, .inl x), (1, .inl y)], [], h) _
  refine pa_iload_n (pc' := 1) dX11_isWithin_0 rfl rfl ?_
  refine pa_if (pc' := 13) (pc2 := 4) dX11_isWithin_1 (by decide) rfl (fun z => e13 (fun w => by have := zi_lt z; omega)) (fun z => ?_)
  refine pa_iload_n (pc' := 5) dX11_isWithin_4 rfl rfl ?_
  refine pa_iload_n (pc' := 6) dX11_isWithin_5 rfl rfl ?_
  refine pa_icmp (pc' := 13) (pc2 := 9) dX11_isWithin_6 (by decide) rfl (fun w => e13 (fun q => by have := zi_gt w; omega)) (fun w => ?_)
  have w := zi_ngt w
  have z := zi_nlt z
  refine pa_iconst (v := 1) (pc' := 10) dX11_isWithin_9 (by decide) rfl ?_
  refine pa_goto (pc' := 14) dX11_isWithin_10 (by decide) ?_
  exact pa_iret dX11_isWithin_14 rfl rfl ⟨by rw [if_pos ⟨by omega, w⟩], rfl⟩
theorem N_season11 (hA : lPA A c h) (h1 : h.1 = hh_487.1) : zPa d mX11_season [.inr (.inr (some 0)), .inl x] h (fun v _ => v = some (.inl (ssA A x))) := by
  intro N
  have s0 : zsh h 0 = some (11, 16) := zsh_by h1 (by decide +kernel)
  have k9 : (99999 : Int32).toInt = 99999 := by decide
  show zPn N none d mX11_season (0, [(0, .inr (.inr (some 0))), (1, .inl x)], [], h) _
  refine pa_aload_n (pc' := 1) dX11_season_0 rfl rfl ?_
  refine pa_callv (pc' := 4) (vs := []) (rest := []) dX11_season_1 ml_11_222 (by decide) rfl rfl rfl (fun d' _ => N_hasPost hA h1) (fun v g2 hq => ?_)
  obtain ⟨er, eh⟩ := hq
  subst er
  rw [eh]
  unfold ssA
  by_cases z : cI A = 0
  · rw [if_pos z, if_pos z]
    show zPn N none d mX11_season (4, [(0, .inr (.inr (some 0))), (1, .inl x)], [.inl 0], h) _
    refine pa_if_f (pc' := 7) dX11_season_4 (by decide) (by decide) rfl ?_
    refine pa_aload_n (pc' := 8) dX11_season_7 rfl rfl ?_
    refine pa_iconst (v := 1) (pc' := 9) dX11_season_8 (by decide) rfl ?_
    refine pa_callv (pc' := 12) (vs := [.inl 1]) (rest := []) dX11_season_9 ml_11_98 (by decide) rfl rfl rfl (fun d' _ => c_ref s0) (fun v g3 hq => ?_)
    obtain ⟨er, -⟩ := hq
    subst er
    exact pa_iret dX11_season_12 rfl rfl rfl
  · rw [if_neg z, if_neg z]
    show zPn N none d mX11_season (4, [(0, .inr (.inr (some 0))), (1, .inl x)], [.inl 1], h) _
    refine pa_if_t (pc' := 13) dX11_season_4 (by decide) (by decide) ?_
    refine pa_iload_n (pc' := 14) dX11_season_13 rfl rfl ?_
    refine pa_ldc (pc' := 16) dX11_season_14 cl_11_226 rfl rfl ?_
    refine pa_calls (pc' := 19) (kd := 1) (vs := [.inl x, .inl 99999]) (rest := []) dX11_season_16 ml_11_227 (.inl rfl) rfl rfl rfl (fun d' _ => N_within) (fun v g3 hq => ?_)
    obtain ⟨er, eh⟩ := hq
    subst er
    rw [eh, k9]
    by_cases w : 0 ≤ x.toInt ∧ x.toInt ≤ 99999
    · rw [if_pos w, if_pos w]
      show zPn N none d mX11_season (19, [(0, .inr (.inr (some 0))), (1, .inl x)], [.inl 1], h) _
      refine pa_if_t (pc' := 28) dX11_season_19 (by decide) (by decide) ?_
      refine pa_aload_n (pc' := 29) dX11_season_28 rfl rfl ?_
      refine pa_iload_n (pc' := 30) dX11_season_29 rfl rfl ?_
      refine pa_bipush (v := 90) (pc' := 32) dX11_season_30 (by decide) rfl ?_
      refine pa_idiv (pc' := 33) dX11_season_32 (by decide) rfl rfl ?_
      refine pa_iconst (v := 4) (pc' := 34) dX11_season_33 (by decide) rfl ?_
      refine pa_irem (pc' := 35) dX11_season_34 (by decide) rfl rfl ?_
      refine pa_callv (pc' := 38) (vs := [.inl (x / 90 - x / 90 / 4 * 4)]) (rest := []) dX11_season_35 ml_11_112 (by decide) rfl rfl rfl (fun d' _ => c_gra s0) (fun v g3 hq => ?_)
      obtain ⟨er, -⟩ := hq
      subst er
      exact pa_iret dX11_season_38 rfl rfl rfl
    · rw [if_neg w, if_neg w]
      show zPn N none d mX11_season (19, [(0, .inr (.inr (some 0))), (1, .inl x)], [.inl 0], h) _
      refine pa_if_f (pc' := 22) dX11_season_19 (by decide) (by decide) rfl ?_
      refine pa_aload_n (pc' := 23) dX11_season_22 rfl rfl ?_
      refine pa_iconst (v := 2) (pc' := 24) dX11_season_23 (by decide) rfl ?_
      refine pa_callv (pc' := 27) (vs := [.inl 2]) (rest := []) dX11_season_24 ml_11_98 (by decide) rfl rfl rfl (fun d' _ => c_ref s0) (fun v g3 hq => ?_)
      obtain ⟨er, -⟩ := hq
      subst er
      exact pa_iret dX11_season_27 rfl rfl rfl
theorem N_seasonOf : zPa d mX12_seasonOf [.inl x] h (fun v h' => v = some (.inl (x / 90 - x / 90 / 4 * 4)) ∧ h' = h) := by
  intro N
  show zPn N none d mX12_seasonOf (0, [(0, .inl x)], [], h) _
  refine pa_iload_n (pc' := 1) dX12_seasonOf_0 rfl rfl ?_
  refine pa_bipush (v := 90) (pc' := 3) dX12_seasonOf_1 (by decide) rfl ?_
  refine pa_idiv (pc' := 4) dX12_seasonOf_3 (by decide) rfl rfl ?_
  refine pa_iconst (v := 4) (pc' := 5) dX12_seasonOf_4 (by decide) rfl ?_
  refine pa_irem (pc' := 6) dX12_seasonOf_5 (by decide) rfl rfl ?_
  exact pa_iret dX12_seasonOf_6 rfl rfl ⟨rfl, rfl⟩
theorem N_season12 (hA : lPA A c h) (h1 : h.1 = hh_487.1) : zPa d mX12_season [.inr (.inr (some 196)), .inl x] h (fun v _ => v = some (.inl (ssA A x))) := by
  intro N
  have s196 := sh_196' h1
  have k9 : (99999 : Int32).toInt = 99999 := by decide
  show zPn N none d mX12_season (0, [(0, .inr (.inr (some 196))), (1, .inl x)], [], h) _
  refine pa_aload_n (pc' := 1) dX12_season_0 rfl rfl ?_
  refine pa_callv (pc' := 4) (vs := []) (rest := []) dX12_season_1 ml_12_167 (by decide) rfl rfl rfl (fun d' _ => m_good s196) (fun v g hq => ?_)
  obtain ⟨er, eg⟩ := hq
  subst er
  have hB : lPA A c g := by rw [eg]; exact hA.gd
  have g1 : g.1 = hh_487.1 := by rw [eg]; exact h1
  have s196 := sh_196' g1
  show zPn N none d mX12_season (4, [(0, .inr (.inr (some 196))), (1, .inl x)], [], g) _
  refine pa_aload_n (pc' := 5) dX12_season_4 rfl rfl ?_
  unfold ssA
  rcases hB.pos with ⟨z, p14⟩ | ⟨z, p14⟩
  · rw [if_pos z]
    refine pa_getI (pc' := 8) (n := 39) (v := 0) dX12_season_5 fl_12_180 s196 (by decide) p14 rfl ?_
    refine pa_if_f (pc' := 11) dX12_season_8 (by decide) (by decide) rfl ?_
    refine pa_aload_n (pc' := 12) dX12_season_11 rfl rfl ?_
    refine pa_iconst (v := 1) (pc' := 13) dX12_season_12 (by decide) rfl ?_
    refine pa_callv (pc' := 16) (vs := [.inl 1]) (rest := []) dX12_season_13 ml_12_170 (by decide) rfl rfl rfl (fun d' _ => m_no s196) (fun v g3 hq => ?_)
    obtain ⟨er, -⟩ := hq
    subst er
    exact pa_iret dX12_season_16 rfl rfl rfl
  · rw [if_neg z]
    refine pa_getI (pc' := 8) (n := 39) (v := 1) dX12_season_5 fl_12_180 s196 (by decide) p14 rfl ?_
    refine pa_if_t (pc' := 17) dX12_season_8 (by decide) (by decide) ?_
    refine pa_iload_n (pc' := 18) dX12_season_17 rfl rfl ?_
    refine pa_iconst (v := 0) (pc' := 19) dX12_season_18 (by decide) rfl ?_
    refine pa_ldcw (pc' := 22) dX12_season_19 cl_12_340 rfl rfl ?_
    refine pa_calls (pc' := 25) (kd := 1) (vs := [.inl x, .inl 0, .inl 99999]) (rest := []) dX12_season_22 ml_12_149 (.inl rfl) rfl rfl rfl (fun d' _ => zPa.of in_ex) (fun v g2 hq => ?_)
    obtain ⟨r, er, eh, hq⟩ := hq
    subst er
    rw [eh]
    rw [k9] at hq
    show zPn N none d mX12_season (25, [(0, .inr (.inr (some 196))), (1, .inl x)], [.inl r], g) _
    rcases hq with ⟨er, w⟩ | ⟨er, w⟩
    · subst er
      rw [if_pos w]
      refine pa_if_f (pc' := 28) dX12_season_25 (by decide) (by decide) rfl ?_
      refine pa_iload_n (pc' := 29) dX12_season_28 rfl rfl ?_
      refine pa_calls (pc' := 32) (kd := 1) (vs := [.inl x]) (rest := []) dX12_season_29 ml_12_337 (.inl rfl) rfl rfl rfl (fun d' _ => N_seasonOf) (fun v g3 hq => ?_)
      obtain ⟨er, -⟩ := hq
      subst er
      show zPn N none d mX12_season (32, [(0, .inr (.inr (some 196))), (1, .inl x)], [.inl (x / 90 - x / 90 / 4 * 4)], g3) _
      refine pa_goto (pc' := 40) dX12_season_32 (by decide) ?_
      exact pa_iret dX12_season_40 rfl rfl rfl
    · subst er
      rw [if_neg w]
      refine pa_if_t (pc' := 35) dX12_season_25 (by decide) (by decide) ?_
      refine pa_aload_n (pc' := 36) dX12_season_35 rfl rfl ?_
      refine pa_iconst (v := 2) (pc' := 37) dX12_season_36 (by decide) rfl ?_
      refine pa_callv (pc' := 40) (vs := [.inl 2]) (rest := []) dX12_season_37 ml_12_170 (by decide) rfl rfl rfl (fun d' _ => m_no s196) (fun v g3 hq => ?_)
      obtain ⟨er, -⟩ := hq
      subst er
      exact pa_iret dX12_season_40 rfl rfl rfl
end HLB
