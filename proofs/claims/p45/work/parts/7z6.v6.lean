/-! image and back: how many there are -/
section HLI
variable {t c n d : Nat} {h h' g : zH} {A : pA} {x : Int32} {k : Bool} {im : Int32}
def imN (A : pA) (n : Nat) : Nat := if cI A = 0 ∨ n = 3 then n else n + 1
def imV (A : pA) (n : Nat) : Int32 := if cI A = 0 ∨ n = 3 then -1 else nI n
def bkV (n : Nat) (x : Int32) : Int32 := if 0 ≤ x.toInt ∧ x.toInt < (n : Int) then 1 else 0
theorem im_rf (ho : hOK wd h) (hn : n < 3) : ∃ r, r ∈ [178, 184, 190] ∧ h.2.2.2.1 105 n = some r := by
  have e : n = 0 ∨ n = 1 ∨ n = 2 := by omega
  rcases e with e | e | e <;> subst e
  · exact ⟨178, by decide, ho.2.2.1 105 0 178 (by decide +kernel)⟩
  · exact ⟨184, by decide, ho.2.2.1 105 1 184 (by decide +kernel)⟩
  · exact ⟨190, by decide, ho.2.2.1 105 2 190 (by decide +kernel)⟩
theorem nI_s1 (hn : n ≤ 1000) : nI (n + 1) - 1 = nI n := by
  have := nI_sub (a := n + 1) (b := 1) (by omega)
  rw [show nI 1 = 1 from rfl] at this
  exact this
theorem N_image11 (hA : lPA A c h) (ho : hOK wd h) (h1 : h.1 = hh_487.1) (en : h.2.1 0 15 = nI n) (hn : n ≤ 3) (hd : 2 ≤ d + 1) : zPa (d + 1) mX11_image [.inr (.inr (some 0))] h (fun v h' => v = some (.inl (imV A n)) ∧ h'.2.1 0 15 = nI (imN A n)) := by
  intro N
  have s0 : zsh h 0 = some (11, 16) := zsh_by h1 (by decide +kernel)
  have s105 : zsh h 105 = some (17, 3) := zsh_by h1 (by decide +kernel)
  have k3 : (3 : Int32).toInt = 3 := by decide
  have r6 : h.2.2.2.1 0 6 = some 86 := ho.2.2.1 0 6 86 (by decide +kernel)
  have r14 : h.2.2.2.1 0 14 = some 105 := ho.2.2.1 0 14 105 (by decide +kernel)
  show zPn N none (d + 1) mX11_image (0, [(0, .inr (.inr (some 0)))], [], h) _
  refine pa_aload_n (pc' := 1) dX11_image_0 rfl rfl ?_
  refine pa_callv (pc' := 4) (vs := []) (rest := []) dX11_image_1 ml_11_222 (by decide) rfl rfl rfl (fun d' _ => N_hasPost hA h1) (fun v g2 hq => ?_)
  obtain ⟨er, eh⟩ := hq
  subst er
  rw [eh]
  unfold imV imN
  by_cases z : cI A = 0
  · rw [if_pos z, if_pos (.inl z), if_pos (.inl z)]
    show zPn N none (d + 1) mX11_image (4, [(0, .inr (.inr (some 0)))], [.inl 0], h) _
    refine pa_if_f (pc' := 7) dX11_image_4 (by decide) (by decide) rfl ?_
    refine pa_aload_n (pc' := 8) dX11_image_7 rfl rfl ?_
    refine pa_iconst (v := 1) (pc' := 9) dX11_image_8 (by decide) rfl ?_
    refine pa_callv (pc' := 12) (vs := [.inl 1]) (rest := []) dX11_image_9 ml_11_98 (by decide) rfl rfl rfl (fun d' _ => c_ref s0) (fun v g3 hq => ?_)
    obtain ⟨er, eg⟩ := hq
    subst er
    exact pa_iret dX11_image_12 rfl rfl ⟨rfl, by rw [eg, zsI_no (by omega)]; exact en⟩
  · rw [if_neg z]
    show zPn N none (d + 1) mX11_image (4, [(0, .inr (.inr (some 0)))], [.inl 1], h) _
    refine pa_if_t (pc' := 13) dX11_image_4 (by decide) (by decide) ?_
    refine pa_aload_n (pc' := 14) dX11_image_13 rfl rfl ?_
    refine pa_getI (pc' := 17) (n := 16) (v := nI n) dX11_image_14 fl_11_91 s0 (by decide) en rfl ?_
    refine pa_iconst (v := 3) (pc' := 18) dX11_image_17 (by decide) rfl ?_
    refine pa_icmp (pc' := 27) (pc2 := 21) dX11_image_18 (by decide) rfl (fun w => ?_) (fun w => ?_)
    · have w := zi_lt w
      rw [nI_toInt (by omega), k3] at w
      have w3 : n < 3 := by omega
      have nz : ¬ (cI A = 0 ∨ n = 3) := by omega
      rw [if_neg nz, if_neg nz]
      obtain ⟨r, hr, er⟩ := im_rf ho w3
      refine pa_aload_n (pc' := 28) dX11_image_27 rfl rfl ?_
      refine pa_getR (pc' := 31) (n := 16) (r := 105) dX11_image_28 fl_11_88 s0 (by decide) r14 rfl ?_
      refine pa_aload_n (pc' := 32) dX11_image_31 rfl rfl ?_
      refine pa_getI (pc' := 35) (n := 16) (v := nI n) dX11_image_32 fl_11_91 s0 (by decide) en rfl ?_
      refine pa_aald (pc' := 36) (n := 3) (kd := 17) (r := r) dX11_image_35 s105 (by decide) (zn_in w3 (by decide)) (by rw [nI_clamp (by omega)]; exact er) rfl ?_
      refine pa_aload_n (pc' := 37) dX11_image_36 rfl rfl ?_
      refine pa_getR (pc' := 40) (n := 16) (r := 86) dX11_image_37 fl_11_42 s0 (by decide) r6 rfl ?_
      refine pa_callv (pc' := 43) (vs := [.inr (.inr (some 86))]) (rest := []) dX11_image_40 ml_11_359 (by decide) rfl rfl rfl (fun d' hd' => zPa.of (S_449 d' (by show 1 ≤ d'; omega) [.inr (.inr (some r)), .inr (.inr (some 86))] h ⟨⟨r, hr, rfl⟩, ⟨86, List.mem_cons_self, rfl⟩, trivial⟩ ho ⟨fun q hq => (nomatch hq), fun q hq => (nomatch hq)⟩)) (fun v g3 hq => ?_)
      obtain ⟨ho3, hf3, p, hp, hret, -⟩ := hq
      have hall : ct_449.2.2.2.1.all (fun p => decide (p.1 = none)) = true := by decide +kernel
      have ev : v = none := by
        rw [of_decide_eq_true (List.all_eq_true.mp hall p hp)] at hret
        exact hret
      subst ev
      have s0 : zsh g3 0 = some (11, 16) := zsh_by (hf3.1.trans h1) (by decide +kernel)
      have en : g3.2.1 0 15 = nI n := (hf3.2.2.1 0 15 (by decide)).trans en
      show zPn N none (d + 1) mX11_image (43, [(0, .inr (.inr (some 0)))], [], g3) _
      refine pa_aload_n (pc' := 44) dX11_image_43 rfl rfl ?_
      refine pa_dup (pc' := 45) dX11_image_44 rfl rfl ?_
      refine pa_getI (pc' := 48) (n := 16) (v := nI n) dX11_image_45 fl_11_91 s0 (by decide) en rfl ?_
      refine pa_iconst (v := nI 1) (pc' := 49) dX11_image_48 (by decide) rfl ?_
      refine pa_iadd (pc' := 50) (v := nI (n + 1)) dX11_image_49 (nI_add n 1) rfl ?_
      refine pa_putI (pc' := 53) (n := 16) dX11_image_50 fl_11_91 s0 (Or.inl rfl) (Or.inl rfl) rfl ?_
      refine pa_aload_n (pc' := 54) dX11_image_53 rfl rfl ?_
      refine pa_aload_n (pc' := 55) dX11_image_54 rfl rfl ?_
      refine pa_getI (pc' := 58) (n := 16) (v := nI (n + 1)) dX11_image_55 fl_11_91 s0 (by decide) zsI_eq rfl ?_
      refine pa_iconst (v := 1) (pc' := 59) dX11_image_58 (by decide) rfl ?_
      refine pa_isub (pc' := 60) (v := nI n) dX11_image_59 (nI_s1 (by omega)) rfl ?_
      refine pa_callv (pc' := 63) (vs := [.inl (nI n)]) (rest := []) dX11_image_60 ml_11_112 (by decide) rfl rfl rfl (fun d' _ => c_gra s0) (fun v g4 hq => ?_)
      obtain ⟨er, eg⟩ := hq
      subst er
      exact pa_iret dX11_image_63 rfl rfl ⟨rfl, by rw [eg, zsI_no (by omega)]; exact zsI_eq⟩
    · have w := zi_nlt w
      rw [nI_toInt (by omega), k3] at w
      have n3 : n = 3 := by omega
      rw [if_pos (.inr n3), if_pos (.inr n3)]
      refine pa_aload_n (pc' := 22) dX11_image_21 rfl rfl ?_
      refine pa_iconst (v := 3) (pc' := 23) dX11_image_22 (by decide) rfl ?_
      refine pa_callv (pc' := 26) (vs := [.inl 3]) (rest := []) dX11_image_23 ml_11_98 (by decide) rfl rfl rfl (fun d' _ => c_ref s0) (fun v g3 hq => ?_)
      obtain ⟨er, eg⟩ := hq
      subst er
      exact pa_iret dX11_image_26 rfl rfl ⟨rfl, by rw [eg, zsI_no (by omega)]; exact en⟩
theorem N_image12 (hA : lPA A c h) (ho : hOK wd h) (h1 : h.1 = hh_487.1) (en : h.2.1 196 21 = nI n) (hn : n ≤ 3) : zPa d mX12_image [.inr (.inr (some 196))] h (fun v h' => v = some (.inl (imV A n)) ∧ h'.2.1 196 21 = nI (imN A n)) := by
  intro N
  have s196 := sh_196' h1
  have r17 : h.2.2.2.1 196 17 = some 201 := ho.2.2.1 196 17 201 (by decide +kernel)
  have r19 : h.2.2.2.1 196 19 = some 203 := ho.2.2.1 196 19 203 (by decide +kernel)
  show zPn N none d mX12_image (0, [(0, .inr (.inr (some 196)))], [], h) _
  refine pa_aload_n (pc' := 1) dX12_image_0 rfl rfl ?_
  refine pa_callv (pc' := 4) (vs := []) (rest := []) dX12_image_1 ml_12_167 (by decide) rfl rfl rfl (fun d' _ => m_good s196) (fun v g hq => ?_)
  obtain ⟨er, eg⟩ := hq
  subst er
  have hB : lPA A c g := by rw [eg]; exact hA.gd
  have g1 : g.1 = hh_487.1 := by rw [eg]; exact h1
  have s196 := sh_196' g1
  have r17 : g.2.2.2.1 196 17 = some 201 := by rw [eg]; exact r17
  have r19 : g.2.2.2.1 196 19 = some 203 := by rw [eg]; exact r19
  have en : g.2.1 196 21 = nI n := by rw [eg, zsI_no (by omega), zsI_no (by omega)]; exact en
  show zPn N none d mX12_image (4, [(0, .inr (.inr (some 196)))], [], g) _
  refine pa_aload_n (pc' := 5) dX12_image_4 rfl rfl ?_
  unfold imV imN
  rcases hB.pos with ⟨z, p14⟩ | ⟨z, p14⟩
  · rw [if_pos (.inl z), if_pos (.inl z)]
    refine pa_getI (pc' := 8) (n := 39) (v := 0) dX12_image_5 fl_12_180 s196 (by decide) p14 rfl ?_
    refine pa_if_f (pc' := 11) dX12_image_8 (by decide) (by decide) rfl ?_
    refine pa_aload_n (pc' := 12) dX12_image_11 rfl rfl ?_
    refine pa_iconst (v := 1) (pc' := 13) dX12_image_12 (by decide) rfl ?_
    refine pa_callv (pc' := 16) (vs := [.inl 1]) (rest := []) dX12_image_13 ml_12_170 (by decide) rfl rfl rfl (fun d' _ => m_no s196) (fun v g3 hq => ?_)
    obtain ⟨er, eg3⟩ := hq
    subst er
    exact pa_iret dX12_image_16 rfl rfl ⟨rfl, by rw [eg3, zsI_no (by omega)]; exact en⟩
  · refine pa_getI (pc' := 8) (n := 39) (v := 1) dX12_image_5 fl_12_180 s196 (by decide) p14 rfl ?_
    refine pa_if_t (pc' := 17) dX12_image_8 (by decide) (by decide) ?_
    refine pa_aload_n (pc' := 18) dX12_image_17 rfl rfl ?_
    refine pa_getI (pc' := 21) (n := 39) (v := nI n) dX12_image_18 fl_12_186 s196 (by decide) en rfl ?_
    refine pa_iconst (v := 3) (pc' := 22) dX12_image_21 (by decide) rfl ?_
    by_cases n3 : n = 3
    · rw [if_pos (.inr n3), if_pos (.inr n3)]
      refine pa_icmp_f (pc' := 25) dX12_image_22 (by rw [n3]; decide) (by decide) rfl ?_
      refine pa_aload_n (pc' := 26) dX12_image_25 rfl rfl ?_
      refine pa_iconst (v := 3) (pc' := 27) dX12_image_26 (by decide) rfl ?_
      refine pa_callv (pc' := 30) (vs := [.inl 3]) (rest := []) dX12_image_27 ml_12_170 (by decide) rfl rfl rfl (fun d' _ => m_no s196) (fun v g3 hq => ?_)
      obtain ⟨er, eg3⟩ := hq
      subst er
      exact pa_iret dX12_image_30 rfl rfl ⟨rfl, by rw [eg3, zsI_no (by omega)]; exact en⟩
    · have nz : ¬ (cI A = 0 ∨ n = 3) := by omega
      rw [if_neg nz, if_neg nz]
      refine pa_icmp_t (pc' := 31) dX12_image_22 (decide_eq_true (fun z => n3 (by
        have := congrArg Int32.toInt z
        rw [nI_toInt (by omega), show (3 : Int32).toInt = 3 by decide] at this
        omega))) (by decide) ?_
      refine pa_aload_n (pc' := 32) dX12_image_31 rfl rfl ?_
      refine pa_getR (pc' := 35) (n := 39) (r := 201) dX12_image_32 fl_12_26 s196 (by decide) r17 rfl ?_
      refine pa_iconst (v := 0) (pc' := 36) dX12_image_35 (by decide) rfl ?_
      refine pa_aload_n (pc' := 37) dX12_image_36 rfl rfl ?_
      refine pa_getR (pc' := 40) (n := 39) (r := 203) dX12_image_37 fl_12_32 s196 (by decide) r19 rfl ?_
      refine pa_bipush (v := 76) (pc' := 42) dX12_image_40 (by decide) rfl ?_
      refine pa_aload_n (pc' := 43) dX12_image_42 rfl rfl ?_
      refine pa_getI (pc' := 46) (n := 39) (v := nI n) dX12_image_43 fl_12_186 s196 (by decide) en rfl ?_
      refine pa_imul (pc' := 47) dX12_image_46 rfl rfl ?_
      refine pa_bipush (v := 76) (pc' := 49) dX12_image_47 (by decide) rfl ?_
      refine pa_calls (pc' := 52) (kd := 1) (vs := [.inr (.inr (some 201)), .inl 0, .inr (.inr (some 203)), .inl (76 * nI n), .inl 76]) (rest := []) dX12_image_49 ml_12_176 (.inl rfl) rfl rfl rfl (fun d' _ => m_cpF (na := 76) (nb := 228) (zsh_by g1 (by decide +kernel)) (zsh_by g1 (by decide +kernel))) (fun v g3 hq => ?_)
      obtain ⟨er, hb⟩ := hq
      subst er
      have s196 := sh_196' (hb.1.trans g1)
      have en : g3.2.1 196 21 = nI n := (hb.2.2 196 21 (by decide)).trans en
      show zPn N none d mX12_image (52, [(0, .inr (.inr (some 196)))], [], g3) _
      refine pa_aload_n (pc' := 53) dX12_image_52 rfl rfl ?_
      refine pa_dup (pc' := 54) dX12_image_53 rfl rfl ?_
      refine pa_getI (pc' := 57) (n := 39) (v := nI n) dX12_image_54 fl_12_186 s196 (by decide) en rfl ?_
      refine pa_iconst (v := nI 1) (pc' := 58) dX12_image_57 (by decide) rfl ?_
      refine pa_iadd (pc' := 59) (v := nI (n + 1)) dX12_image_58 (nI_add n 1) rfl ?_
      refine pa_putI (pc' := 62) (n := 39) dX12_image_59 fl_12_186 s196 (Or.inl rfl) (Or.inl rfl) rfl ?_
      refine pa_aload_n (pc' := 63) dX12_image_62 rfl rfl ?_
      refine pa_getI (pc' := 66) (n := 39) (v := nI (n + 1)) dX12_image_63 fl_12_186 s196 (by decide) zsI_eq rfl ?_
      refine pa_iconst (v := 1) (pc' := 67) dX12_image_66 (by decide) rfl ?_
      refine pa_isub (pc' := 68) (v := nI n) dX12_image_67 (nI_s1 (by omega)) rfl ?_
      exact pa_iret dX12_image_68 rfl rfl ⟨rfl, zsI_eq⟩
theorem c_hRef {k : Int32} (s0 : zsh h 0 = some (11, 16)) : zPa d mX11_hasRefused [.inr (.inr (some 0)), .inl k] h (fun v h' => v = some (.inl 0)) := by
  intro N
  show zPn N none d mX11_hasRefused (0, [(0, .inr (.inr (some 0))), (1, .inl k)], [], h) _
  refine pa_aload_n (pc' := 1) dX11_hasRefused_0 rfl rfl ?_
  refine pa_iload_n (pc' := 2) dX11_hasRefused_1 rfl rfl ?_
  refine pa_putI (pc' := 5) (n := 16) dX11_hasRefused_2 fl_11_17 s0 (Or.inl rfl) (Or.inl rfl) rfl ?_
  refine pa_iconst (v := 0) (pc' := 6) dX11_hasRefused_5 (by decide) rfl ?_
  exact pa_iret dX11_hasRefused_6 rfl rfl rfl
theorem c_hGra (s0 : zsh h 0 = some (11, 16)) : zPa d mX11_hasGranted [.inr (.inr (some 0))] h (fun v h' => v = some (.inl 1)) := by
  intro N
  show zPn N none d mX11_hasGranted (0, [(0, .inr (.inr (some 0)))], [], h) _
  refine pa_aload_n (pc' := 1) dX11_hasGranted_0 rfl rfl ?_
  refine pa_iconst (v := 0) (pc' := 2) dX11_hasGranted_1 (by decide) rfl ?_
  refine pa_putI (pc' := 5) (n := 16) dX11_hasGranted_2 fl_11_17 s0 (Or.inl rfl) (Or.inl rfl) rfl ?_
  refine pa_iconst (v := 1) (pc' := 6) dX11_hasGranted_5 (by decide) rfl ?_
  exact pa_iret dX11_hasGranted_6 rfl rfl rfl
theorem m_isNot {k : Int32} (s196 : zsh h 196 = some (12, 39)) : zPa d mX12_isNot [.inr (.inr (some 196)), .inl k] h (fun v h' => v = some (.inl 0)) := by
  intro N
  show zPn N none d mX12_isNot (0, [(0, .inr (.inr (some 196))), (1, .inl k)], [], h) _
  refine pa_aload_n (pc' := 1) dX12_isNot_0 rfl rfl ?_
  refine pa_iload_n (pc' := 2) dX12_isNot_1 rfl rfl ?_
  refine pa_putI (pc' := 5) (n := 39) dX12_isNot_2 fl_12_65 s196 (Or.inl rfl) (Or.inl rfl) rfl ?_
  refine pa_iconst (v := 0) (pc' := 6) dX12_isNot_5 (by decide) rfl ?_
  exact pa_iret dX12_isNot_6 rfl rfl rfl
theorem N_back11 (ho : hOK wd h) (h1 : h.1 = hh_487.1) (en : h.2.1 0 15 = nI n) (hn : n ≤ 3) (hd : 2 ≤ d + 1) : zPa (d + 1) mX11_back [.inr (.inr (some 0)), .inl x] h (fun v _ => v = some (.inl (bkV n x))) := by
  intro N
  have s0 : zsh h 0 = some (11, 16) := zsh_by h1 (by decide +kernel)
  have s105 : zsh h 105 = some (17, 3) := zsh_by h1 (by decide +kernel)
  have k0 : (0 : Int32).toInt = 0 := by decide
  have r6 : h.2.2.2.1 0 6 = some 86 := ho.2.2.1 0 6 86 (by decide +kernel)
  have r14 : h.2.2.2.1 0 14 = some 105 := ho.2.2.1 0 14 105 (by decide +kernel)
  unfold bkV
  have e12 : ¬ (0 ≤ x.toInt ∧ x.toInt < (n : Int)) → zPn N none (d + 1) mX11_back (12, [(0, .inr (.inr (some 0))), (1, .inl x)], [], h) (fun v _ => v = some (.inl (if 0 ≤ x.toInt ∧ x.toInt < (n : Int) then 1 else 0))) := fun z => by
    rw [if_neg z]
    refine pa_aload_n (pc' := 13) dX11_back_12 rfl rfl ?_
    refine pa_iconst (v := 1) (pc' := 14) dX11_back_13 (by decide) rfl ?_
    refine pa_callv (pc' := 17) (vs := [.inl 1]) (rest := []) dX11_back_14 ml_11_347 (by decide) rfl rfl rfl (fun d' _ => c_hRef s0) (fun v g3 hq => ?_)
    subst hq
    exact pa_iret dX11_back_17 rfl rfl rfl
  show zPn N none (d + 1) mX11_back (0, [(0, .inr (.inr (some 0))), (1, .inl x)], [], h) _
  refine pa_iload_n (pc' := 1) dX11_back_0 rfl rfl ?_
  refine pa_if (pc' := 12) (pc2 := 4) dX11_back_1 (by decide) rfl (fun z => e12 (fun w => by have := zi_lt z; omega)) (fun z => ?_)
  refine pa_iload_n (pc' := 5) dX11_back_4 rfl rfl ?_
  refine pa_aload_n (pc' := 6) dX11_back_5 rfl rfl ?_
  refine pa_getI (pc' := 9) (n := 16) (v := nI n) dX11_back_6 fl_11_91 s0 (by decide) en rfl ?_
  refine pa_icmp (pc' := 18) (pc2 := 12) dX11_back_9 (by decide) rfl (fun w => ?_) (fun w => ?_)
  · have w := zi_lt w
    rw [nI_toInt (by omega)] at w
    have z := zi_nlt z
    have z : 0 ≤ x.toInt := by omega
    rw [if_pos ⟨z, w⟩]
    obtain ⟨r, hr, er⟩ := im_rf (n := x.toInt.toNat) ho (by omega)
    have ex := x_nI z
    refine pa_aload_n (pc' := 19) dX11_back_18 rfl rfl ?_
    refine pa_getR (pc' := 22) (n := 16) (r := 86) dX11_back_19 fl_11_42 s0 (by decide) r6 rfl ?_
    refine pa_aload_n (pc' := 23) dX11_back_22 rfl rfl ?_
    refine pa_getR (pc' := 26) (n := 16) (r := 105) dX11_back_23 fl_11_88 s0 (by decide) r14 rfl ?_
    refine pa_iload_n (pc' := 27) dX11_back_26 rfl rfl ?_
    refine pa_aald (pc' := 28) (n := 3) (kd := 17) (r := r) dX11_back_27 s105 (by decide) (by rw [ex]; exact zn_in (by omega) (by decide)) er rfl ?_
    refine pa_callv (pc' := 31) (vs := [.inr (.inr (some r))]) (rest := []) dX11_back_28 ml_11_359 (by decide) rfl rfl rfl (fun d' hd' => zPa.of (S_452 d' (by show 1 ≤ d'; omega) [.inr (.inr (some 86)), .inr (.inr (some r))] h ⟨⟨86, List.mem_cons_self, rfl⟩, ⟨r, hr, rfl⟩, trivial⟩ ho ⟨fun q hq => (nomatch hq), fun q hq => (nomatch hq)⟩)) (fun v g3 hq => ?_)
    obtain ⟨ho3, hf3, p, hp, hret, -⟩ := hq
    have hall : ct_452.2.2.2.1.all (fun p => decide (p.1 = none)) = true := by decide +kernel
    have ev : v = none := by
      rw [of_decide_eq_true (List.all_eq_true.mp hall p hp)] at hret
      exact hret
    subst ev
    have s0 : zsh g3 0 = some (11, 16) := zsh_by (hf3.1.trans h1) (by decide +kernel)
    show zPn N none (d + 1) mX11_back (31, [(0, .inr (.inr (some 0))), (1, .inl x)], [], g3) _
    refine pa_aload_n (pc' := 32) dX11_back_31 rfl rfl ?_
    refine pa_iconst (v := 0) (pc' := 33) dX11_back_32 (by decide) rfl ?_
    refine pa_putI (pc' := 36) (n := 16) dX11_back_33 fl_11_85 s0 (Or.inl rfl) (Or.inl rfl) rfl ?_
    refine pa_aload_n (pc' := 37) dX11_back_36 rfl rfl ?_
    refine pa_callv (pc' := 40) (vs := []) (rest := []) dX11_back_37 ml_11_356 (by decide) rfl rfl rfl (fun d' _ => c_hGra s0) (fun v g4 hq => ?_)
    subst hq
    exact pa_iret dX11_back_40 rfl rfl rfl
  · have w := zi_nlt w
    rw [nI_toInt (by omega)] at w
    exact e12 (fun q => by omega)
theorem N_back12 (ho : hOK wd h) (h1 : h.1 = hh_487.1) (en : h.2.1 196 21 = nI n) (hn : n ≤ 3) : zPa d mX12_back [.inr (.inr (some 196)), .inl x] h (fun v _ => v = some (.inl (bkV n x))) := by
  intro N
  have s196 := sh_196' h1
  have r17 : h.2.2.2.1 196 17 = some 201 := ho.2.2.1 196 17 201 (by decide +kernel)
  have r19 : h.2.2.2.1 196 19 = some 203 := ho.2.2.1 196 19 203 (by decide +kernel)
  show zPn N none d mX12_back (0, [(0, .inr (.inr (some 196))), (1, .inl x)], [], h) _
  refine pa_aload_n (pc' := 1) dX12_back_0 rfl rfl ?_
  refine pa_callv (pc' := 4) (vs := []) (rest := []) dX12_back_1 ml_12_167 (by decide) rfl rfl rfl (fun d' _ => m_good s196) (fun v g hq => ?_)
  obtain ⟨er, eg⟩ := hq
  subst er
  have g1 : g.1 = hh_487.1 := by rw [eg]; exact h1
  have s196 := sh_196' g1
  have r17 : g.2.2.2.1 196 17 = some 201 := by rw [eg]; exact r17
  have r19 : g.2.2.2.1 196 19 = some 203 := by rw [eg]; exact r19
  have en : g.2.1 196 21 = nI n := by rw [eg, zsI_no (by omega), zsI_no (by omega)]; exact en
  show zPn N none d mX12_back (4, [(0, .inr (.inr (some 196))), (1, .inl x)], [], g) _
  refine pa_iload_n (pc' := 5) dX12_back_4 rfl rfl ?_
  refine pa_iconst (v := 0) (pc' := 6) dX12_back_5 (by decide) rfl ?_
  refine pa_aload_n (pc' := 7) dX12_back_6 rfl rfl ?_
  refine pa_getI (pc' := 10) (n := 39) (v := nI n) dX12_back_7 fl_12_186 s196 (by decide) en rfl ?_
  refine pa_iconst (v := 1) (pc' := 11) dX12_back_10 (by decide) rfl ?_
  refine pa_isub (pc' := 12) (v := nI n - 1) dX12_back_11 rfl rfl ?_
  refine pa_calls (pc' := 15) (kd := 1) (vs := [.inl x, .inl 0, .inl (nI n - 1)]) (rest := []) dX12_back_12 ml_12_149 (.inl rfl) rfl rfl rfl (fun d' _ => zPa.of in_ex) (fun v g2 hq => ?_)
  obtain ⟨r, er, eh, hq⟩ := hq
  subst er
  rw [eh]
  have e : (nI n - 1).toInt = (n : Int) - 1 := by
    rw [Int32.toInt_sub, nI_toInt (by omega)]
    exact bmod_fit (by have : (1 : Int32).toInt = 1 := by decide
                       omega) (by have : (1 : Int32).toInt = 1 := by decide
                                  omega)
  rw [e] at hq
  unfold bkV
  show zPn N none d mX12_back (15, [(0, .inr (.inr (some 196))), (1, .inl x)], [.inl r], g) _
  rcases hq with ⟨er, w⟩ | ⟨er, w⟩
  · subst er
    rw [if_pos (by omega)]
    refine pa_if_t (pc' := 24) dX12_back_15 (by decide) (by decide) ?_
    refine pa_aload_n (pc' := 25) dX12_back_24 rfl rfl ?_
    refine pa_getR (pc' := 28) (n := 39) (r := 203) dX12_back_25 fl_12_32 s196 (by decide) r19 rfl ?_
    refine pa_bipush (v := 76) (pc' := 30) dX12_back_28 (by decide) rfl ?_
    refine pa_iload_n (pc' := 31) dX12_back_30 rfl rfl ?_
    refine pa_imul (pc' := 32) dX12_back_31 rfl rfl ?_
    refine pa_aload_n (pc' := 33) dX12_back_32 rfl rfl ?_
    refine pa_getR (pc' := 36) (n := 39) (r := 201) dX12_back_33 fl_12_26 s196 (by decide) r17 rfl ?_
    refine pa_iconst (v := 0) (pc' := 37) dX12_back_36 (by decide) rfl ?_
    refine pa_bipush (v := 76) (pc' := 39) dX12_back_37 (by decide) rfl ?_
    refine pa_calls (pc' := 42) (kd := 1) (vs := [.inr (.inr (some 203)), .inl (76 * x), .inr (.inr (some 201)), .inl 0, .inl 76]) (rest := []) dX12_back_39 ml_12_176 (.inl rfl) rfl rfl rfl (fun d' _ => m_cpF (na := 228) (nb := 76) (zsh_by g1 (by decide +kernel)) (zsh_by g1 (by decide +kernel))) (fun v g3 hq => ?_)
    obtain ⟨er, hb⟩ := hq
    subst er
    have s196 := sh_196' (hb.1.trans g1)
    show zPn N none d mX12_back (42, [(0, .inr (.inr (some 196))), (1, .inl x)], [], g3) _
    refine pa_aload_n (pc' := 43) dX12_back_42 rfl rfl ?_
    refine pa_iconst (v := 0) (pc' := 44) dX12_back_43 (by decide) rfl ?_
    refine pa_putI (pc' := 47) (n := 39) dX12_back_44 fl_12_183 s196 (Or.inl rfl) (Or.inl rfl) rfl ?_
    refine pa_iconst (v := 1) (pc' := 48) dX12_back_47 (by decide) rfl ?_
    exact pa_iret dX12_back_48 rfl rfl rfl
  · subst er
    rw [if_neg (by omega)]
    refine pa_if_f (pc' := 18) dX12_back_15 (by decide) (by decide) rfl ?_
    refine pa_aload_n (pc' := 19) dX12_back_18 rfl rfl ?_
    refine pa_iconst (v := 1) (pc' := 20) dX12_back_19 (by decide) rfl ?_
    refine pa_callv (pc' := 23) (vs := [.inl 1]) (rest := []) dX12_back_20 ml_12_427 (by decide) rfl rfl rfl (fun d' _ => m_isNot s196) (fun v g3 hq => ?_)
    subst hq
    exact pa_iret dX12_back_23 rfl rfl rfl
/-! the law's lemmas of answers -/
theorem zCi.an {m : zM} {vs : List zV} {Q : Int32 → zH → Prop} {V : Int32} (a : zCi d m vs h Q) (b : zPa d m vs h (fun v _ => v = some (.inl V))) : zCi d m vs h (fun x h' => Q x h' ∧ x = V) := by
  refine zEx.mono (zPa.and a b) (fun v h' hq => ?_)
  obtain ⟨⟨x, e, q⟩, e2⟩ := hq
  refine ⟨x, e, q, ?_⟩
  rw [e] at e2
  cases e2
  rfl
theorem l_im (hi : lInv t h) : ∃ n : Nat, n ≤ 3 ∧ h.2.1 0 15 = nI n := by
  obtain ⟨s, hs, e⟩ := nI_rg (n := 3) (aLe_in (A := gSeg (wd.2.1 0) 15) (by decide +kernel) (hi.1.2.1 0 15)) (by decide)
  exact ⟨s, hs, e⟩
theorem l_image11 (hi : lInv t h) (hA : lPA A c h) (en : h.2.1 0 15 = nI n) (hn : n ≤ 3) : zCi 1004 mX11_image [.inr (.inr (some 0))] h (fun x h' => lMid false (nI (imN A n)) t h h' ∧ x = imV A n) := by
  have key : ∀ ct : aCt, aSpec wd ct → (lkC0 false ct && lkD ct) = true → ct.1 = mX11_image → ct.2.1 = [.inr (.inl [0])] → aPre h ct.2.2.1 → zCi 1004 mX11_image [.inr (.inr (some 0))] h (fun x h' => lMid false (nI (imN A n)) t h h' ∧ x = imV A n) := by
    intro ct hS hk hm ha hp
    rw [Bool.and_eq_true] at hk
    have g := hS 1004 (Nat.le_of_ble_eq_true hk.2) [.inr (.inr (some 0))] h (by rw [ha]; exact ⟨⟨0, List.mem_cons_self, rfl⟩, trivial⟩) hi.1 hp
    rw [hm] at g
    refine zEx.mono (zPa.and g (N_image11 (d := 1003) hA hi.1 hi.2.2.2.2.1 en hn (by decide))) (fun v h' hq => ?_)
    obtain ⟨⟨ho, hf, p, hp, hr, -, hs, -⟩, e1, e2⟩ := hq
    have e := lkC0_in hk.1 hf hp hs
    exact ⟨_, e1, ⟨hi, hi.dn.kp ho hf.1 hf.2.1 e.2.2.1, e, e2⟩, rfl⟩
  rcases hi.2.1 with hv | hv
  · exact key ct_451 S_451 (by decide +kernel) rfl rfl (lkP_in (rv := rv0) (by decide +kernel) hv)
  · exact key ct_646 S_646 (by decide +kernel) rfl rfl (lkP_in (rv := rv1) (by decide +kernel) hv)
theorem l_image12 (m : lMid false (nI (imN A n)) t g h) (hA : lPA A c h) (en : h.2.1 196 21 = nI n) (hn : n ≤ 3) : zCi 1004 mX12_image [.inr (.inr (some 196))] h (fun x h' => lInv t h' ∧ x = imV A n) := by
  have g := S_1876 1004 (by decide) [.inr (.inr (some 196))] h ⟨⟨196, List.mem_cons_self, rfl⟩, trivial⟩ m.2.1.1 ⟨fun q hq => (nomatch hq), fun q hq => (nomatch hq)⟩
  refine zEx.mono (zPa.and g (N_image12 (d := 1004) hA m.2.1.1 m.2.1.2.2.2 en hn)) (fun v h' hq => ?_)
  obtain ⟨⟨ho, hf, p, hp, hr, -, hs, -⟩, e1, e2⟩ := hq
  have e := lkM0_in (k := false) (c := ct_1876) (by decide +kernel) hf hp hs
  exact ⟨_, e1, m.to (m.2.1.kp ho hf.1 hf.2.1 e.2.2.1) ⟨e, e2⟩, rfl⟩
theorem lMid.ims (m : lMid k im t h g) (en : h.2.1 0 15 = nI n) : g.2.1 196 21 = nI n := (m.2.2.1.1 196 21 (.inr (by decide))).trans (m.1.ys.2.2.2.symm.trans en)
theorem an_fault (m : lMid k im t h g) : h.2.1 82 11 = g.2.1 196 9 := by
  rw [m.2.2.1.1 196 9 (.inr (by decide))]
  exact m.1.ys.2.1
theorem an_where (m : lMid k im t h g) : (if h.2.1 0 2 = 4 then h.2.1 82 12 else -1) = (if g.2.1 196 11 = 4 then g.2.1 196 10 else -1) := by
  rw [m.2.2.1.1 196 11 (.inr (by decide)), m.2.2.1.1 196 10 (.inr (by decide))]
  obtain ⟨a, b⟩ := m.1.ys.2.2.1
  by_cases z : h.2.1 196 11 = 4
  · rw [if_pos (a.mpr z), if_pos z]
    exact b z
  · rw [if_neg (fun w => z (a.mp w)), if_neg z]
end HLI
