/-! the answers that rest on the post alone -/
section HLA
variable {t c n d : Nat} {h h' g : zH} {A : pA} {x : Int32}
theorem lPA.h4 (hA : lPA A c h) : h.2.1 c 4 = nI (cI A) := hA.2.2.2.1.2.1
theorem lPA.le (hA : lPA A c h) : cI A ≤ 7 := hA.1.2.2.1.1
theorem lPA.sc (hA : lPA A c h) (h1 : h.1 = hh_487.1) : zsh h c = some (4, 15) := by
  have hc : c = 2 ∨ c = 42 := hA.2.1
  have e : zsh hh_487 c = some (4, 15) := by rcases hc with e | e <;> subst e <;> decide +kernel
  unfold zsh at *
  rw [h1]
  exact e
theorem lPA.pos (hA : lPA A c h) : (cI A = 0 ∧ h.2.1 196 14 = 0) ∨ (cI A ≠ 0 ∧ h.2.1 196 14 = 1) := by
  rcases hA.2.2.2.2 with ⟨a, b⟩ | ⟨a, b, -⟩
  · exact .inl ⟨by subst b; rfl, a⟩
  · exact .inr ⟨b, a⟩
theorem zsh_by {a : Nat} {q : Option (Nat × Nat)} (h1 : h.1 = hh_487.1) (e : zsh hh_487 a = q) : zsh h a = q := by
  unfold zsh at *
  rw [h1]
  exact e
theorem N_hasPost (hA : lPA A c h) (h1 : h.1 = hh_487.1) : zPa d mX11_hasPost [.inr (.inr (some 0))] h (fun v h' => v = some (.inl (if cI A = 0 then 0 else 1)) ∧ h' = h) := by
  intro N
  have s0 : zsh h 0 = some (11, 16) := zsh_by h1 (by decide +kernel)
  have hle := hA.le
  have k0 : (0 : Int32).toInt = 0 := by decide
  show zPn N none d mX11_hasPost (0, [(0, .inr (.inr (some 0)))], [], h) _
  refine pa_aload_n (pc' := 1) dX11_hasPost_0 rfl rfl ?_
  refine pa_getR (pc' := 4) (n := 16) (r := c) dX11_hasPost_1 fl_11_23 s0 (by decide) hA.2.2.1 rfl ?_
  refine pa_getI (pc' := 7) (n := 15) (v := nI (cI A)) dX11_hasPost_4 fl_11_109 (hA.sc h1) (by decide) hA.h4 rfl ?_
  refine pa_if (pc' := 14) (pc2 := 10) dX11_hasPost_7 (by decide) rfl (fun z => ?_) (fun z => ?_)
  · have z := zi_ngt (zk_le_gt z)
    rw [nI_toInt (by omega), k0] at z
    refine pa_iconst (v := 0) (pc' := 15) dX11_hasPost_14 (by decide) rfl ?_
    exact pa_iret dX11_hasPost_15 rfl rfl ⟨by rw [if_pos (by omega)], rfl⟩
  · have z := zi_gt (zk_le_gt z)
    rw [nI_toInt (by omega), k0] at z
    refine pa_iconst (v := 1) (pc' := 11) dX11_hasPost_10 (by decide) rfl ?_
    refine pa_goto (pc' := 15) dX11_hasPost_11 (by decide) ?_
    exact pa_iret dX11_hasPost_15 rfl rfl ⟨by rw [if_neg (by omega)], rfl⟩
theorem N_isI11 (hA : lPA A c h) (h1 : h.1 = hh_487.1) : zPa d mX11_isIsland [.inr (.inr (some 0)), .inl x] h (fun v h' => v = some (.inl (if 0 ≤ x.toInt ∧ x.toInt < (cI A : Int) then 1 else 0)) ∧ h' = h) := by
  intro N
  have s0 : zsh h 0 = some (11, 16) := zsh_by h1 (by decide +kernel)
  have hle := hA.le
  have k0 : (0 : Int32).toInt = 0 := by decide
  have e19 : ¬ (0 ≤ x.toInt ∧ x.toInt < (cI A : Int)) → zPn N none d mX11_isIsland (19, [(0, .inr (.inr (some 0))), (1, .inl x)], [], h) (fun v h' => v = some (.inl (if 0 ≤ x.toInt ∧ x.toInt < (cI A : Int) then 1 else 0)) ∧ h' = h) := fun z => by
    refine pa_iconst (v := 0) (pc' := 20) dX11_isIsland_19 (by decide) rfl ?_
    exact pa_iret dX11_isIsland_20 rfl rfl ⟨by rw [if_neg z], rfl⟩
  show zPn N none d mX11_isIsland (0, [(0, .inr (.inr (some 0))), (1, .inl x)], [], h) _
  refine pa_iload_n (pc' := 1) dX11_isIsland_0 rfl rfl ?_
  refine pa_if (pc' := 19) (pc2 := 4) dX11_isIsland_1 (by decide) rfl (fun z => e19 (fun w => by have := zi_lt z; omega)) (fun z => ?_)
  refine pa_iload_n (pc' := 5) dX11_isIsland_4 rfl rfl ?_
  refine pa_aload_n (pc' := 6) dX11_isIsland_5 rfl rfl ?_
  refine pa_getR (pc' := 9) (n := 16) (r := c) dX11_isIsland_6 fl_11_23 s0 (by decide) hA.2.2.1 rfl ?_
  refine pa_getI (pc' := 12) (n := 15) (v := nI (cI A)) dX11_isIsland_9 fl_11_109 (hA.sc h1) (by decide) hA.h4 rfl ?_
  refine pa_icmp (pc' := 19) (pc2 := 15) dX11_isIsland_12 (by decide) rfl (fun w => ?_) (fun w => ?_)
  · have w := zi_nlt (zk_ge_lt w)
    rw [nI_toInt (by omega)] at w
    exact e19 (fun q => by omega)
  · have w := zi_lt (zk_ge_lt w)
    rw [nI_toInt (by omega)] at w
    have z := zi_nlt z
    refine pa_iconst (v := 1) (pc' := 16) dX11_isIsland_15 (by decide) rfl ?_
    refine pa_goto (pc' := 20) dX11_isIsland_16 (by decide) ?_
    exact pa_iret dX11_isIsland_20 rfl rfl ⟨by rw [if_pos ⟨by omega, w⟩], rfl⟩
theorem sh_196' (h1 : h.1 = hh_487.1) : zsh h 196 = some (12, 39) := zsh_by h1 (by decide +kernel)
theorem N_isI12 (hA : lPA A c h) (r15 : h.2.2.2.1 196 15 = some 199) (h1 : h.1 = hh_487.1) : zPa d mX12_isIsland [.inr (.inr (some 196)), .inl x] h (fun v h' => v = some (.inl (if 0 ≤ x.toInt ∧ x.toInt < (cI A : Int) then 1 else 0)) ∧ h' = h) := by
  intro N
  have s196 := sh_196' h1
  have s199 : zsh h 199 = some (14, 363) := zsh_by h1 (by decide +kernel)
  have hle := hA.le
  have e27 : ¬ (0 ≤ x.toInt ∧ x.toInt < (cI A : Int)) → zPn N none d mX12_isIsland (27, [(0, .inr (.inr (some 196))), (1, .inl x)], [], h) (fun v h' => v = some (.inl (if 0 ≤ x.toInt ∧ x.toInt < (cI A : Int) then 1 else 0)) ∧ h' = h) := fun z => by
    refine pa_iconst (v := 0) (pc' := 28) dX12_isIsland_27 (by decide) rfl ?_
    exact pa_iret dX12_isIsland_28 rfl rfl ⟨by rw [if_neg z], rfl⟩
  show zPn N none d mX12_isIsland (0, [(0, .inr (.inr (some 196))), (1, .inl x)], [], h) _
  refine pa_aload_n (pc' := 1) dX12_isIsland_0 rfl rfl ?_
  rcases hA.2.2.2.2 with ⟨a, b⟩ | ⟨a, b, K⟩
  · refine pa_getI (pc' := 4) (n := 39) (v := 0) dX12_isIsland_1 fl_12_180 s196 (by decide) a rfl ?_
    refine pa_if_t (pc' := 27) dX12_isIsland_4 (by decide) (by decide) ?_
    exact e27 (fun z => by
      rw [b] at z
      have : (cI pA0 : Int) = 0 := rfl
      omega)
  · refine pa_getI (pc' := 4) (n := 39) (v := 1) dX12_isIsland_1 fl_12_180 s196 (by decide) a rfl ?_
    refine pa_if_f (pc' := 7) dX12_isIsland_4 (by decide) (by decide) rfl ?_
    have k4 : h.2.1 199 4 = nI (cI A) := K.2.2.1
    refine pa_iload_n (pc' := 8) dX12_isIsland_7 rfl rfl ?_
    refine pa_iconst (v := 0) (pc' := 9) dX12_isIsland_8 (by decide) rfl ?_
    refine pa_aload_n (pc' := 10) dX12_isIsland_9 rfl rfl ?_
    refine pa_getR (pc' := 13) (n := 39) (r := 199) dX12_isIsland_10 fl_12_20 s196 (by decide) r15 rfl ?_
    refine pa_iconst (v := nI 4) (pc' := 14) dX12_isIsland_13 (by decide) rfl ?_
    refine pa_iald (pc' := 15) (n := 363) dX12_isIsland_14 s199 rfl (fun _ => ?_)
    rw [nI_clamp (by omega), k4]
    refine pa_iconst (v := 1) (pc' := 16) dX12_isIsland_15 (by decide) rfl ?_
    refine pa_isub (pc' := 17) (v := nI (cI A) - 1) dX12_isIsland_16 rfl rfl ?_
    refine pa_calls (pc' := 20) (kd := 1) (vs := [.inl x, .inl 0, .inl (nI (cI A) - 1)]) (rest := []) dX12_isIsland_17 ml_12_149 (.inl rfl) rfl rfl rfl (fun d' _ => zPa.of in_ex) (fun r h2 hq => ?_)
    obtain ⟨r, er, eh, hq⟩ := hq
    subst er; subst eh
    have e : (nI (cI A) - 1).toInt = (cI A : Int) - 1 := by
      rw [Int32.toInt_sub, nI_toInt (by omega)]
      exact bmod_fit (by have : (1 : Int32).toInt = 1 := by decide
                         omega) (by have : (1 : Int32).toInt = 1 := by decide
                                    omega)
    rw [e] at hq
    show zPn N none d mX12_isIsland (20, [(0, .inr (.inr (some 196))), (1, .inl x)], [.inl r], h2) _
    rcases hq with ⟨er, z⟩ | ⟨er, z⟩
    · subst er
      refine pa_if_f (pc' := 23) dX12_isIsland_20 (by decide) (by decide) rfl ?_
      refine pa_iconst (v := 1) (pc' := 24) dX12_isIsland_23 (by decide) rfl ?_
      refine pa_goto (pc' := 28) dX12_isIsland_24 (by decide) ?_
      exact pa_iret dX12_isIsland_28 rfl rfl ⟨by rw [if_pos (by omega)], rfl⟩
    · subst er
      refine pa_if_t (pc' := 27) dX12_isIsland_20 (by decide) (by decide) ?_
      exact e27 (fun q => z (by omega))
/-! fault, where -/
theorem N_fault11 (ho : hOK wd h) (h1 : h.1 = hh_487.1) : zPa d mX11_fault [.inr (.inr (some 0))] h (fun v _ => v = some (.inl (h.2.1 82 11))) := by
  intro N
  have s0 : zsh h 0 = some (11, 16) := zsh_by h1 (by decide +kernel)
  have r5 : h.2.2.2.1 0 5 = some 82 := ho.2.2.1 0 5 82 (by decide +kernel)
  show zPn N none d mX11_fault (0, [(0, .inr (.inr (some 0)))], [], h) _
  refine pa_aload_n (pc' := 1) dX11_fault_0 rfl rfl ?_
  refine pa_getR (pc' := 4) (n := 16) (r := 82) dX11_fault_1 fl_11_35 s0 (by decide) r5 rfl ?_
  refine pa_getI (pc' := 7) (n := 13) dX11_fault_4 fl_11_115 (zsh_by h1 (by decide +kernel)) (by decide) rfl rfl ?_
  exact pa_iret dX11_fault_7 rfl rfl rfl
theorem N_fault12 (h1 : h.1 = hh_487.1) : zPa d mX12_fault [.inr (.inr (some 196))] h (fun v _ => v = some (.inl (h.2.1 196 9))) := by
  intro N
  have s196 := sh_196' h1
  show zPn N none d mX12_fault (0, [(0, .inr (.inr (some 196)))], [], h) _
  refine pa_aload_n (pc' := 1) dX12_fault_0 rfl rfl ?_
  refine pa_iconst (v := 0) (pc' := 2) dX12_fault_1 (by decide) rfl ?_
  refine pa_putI (pc' := 5) (n := 39) dX12_fault_2 fl_12_62 s196 (Or.inl rfl) (Or.inl rfl) rfl ?_
  refine pa_aload_n (pc' := 6) dX12_fault_5 rfl rfl ?_
  refine pa_getI (pc' := 9) (n := 39) (v := h.2.1 196 9) dX12_fault_6 fl_12_104 s196 (by decide) (zsI_no (by omega)) rfl ?_
  exact pa_iret dX12_fault_9 rfl rfl rfl
theorem N_where11 (ho : hOK wd h) (h1 : h.1 = hh_487.1) : zPa d mX11_where [.inr (.inr (some 0))] h (fun v _ => v = some (.inl (if h.2.1 0 2 = 4 then h.2.1 82 12 else -1))) := by
  intro N
  have s0 : zsh h 0 = some (11, 16) := zsh_by h1 (by decide +kernel)
  have r5 : h.2.2.2.1 0 5 = some 82 := ho.2.2.1 0 5 82 (by decide +kernel)
  show zPn N none d mX11_where (0, [(0, .inr (.inr (some 0)))], [], h) _
  refine pa_aload_n (pc' := 1) dX11_where_0 rfl rfl ?_
  refine pa_getI (pc' := 4) (n := 16) dX11_where_1 fl_11_17 s0 (by decide) rfl rfl ?_
  refine pa_iconst (v := 4) (pc' := 5) dX11_where_4 (by decide) rfl ?_
  by_cases z : h.2.1 0 2 = 4
  · rw [if_pos z]
    refine pa_icmp_f (pc' := 8) dX11_where_5 (by rw [z]; decide) (by decide) rfl ?_
    refine pa_aload_n (pc' := 9) dX11_where_8 rfl rfl ?_
    refine pa_getR (pc' := 12) (n := 16) (r := 82) dX11_where_9 fl_11_35 s0 (by decide) r5 rfl ?_
    refine pa_getI (pc' := 15) (n := 13) dX11_where_12 fl_11_118 (zsh_by h1 (by decide +kernel)) (by decide) rfl rfl ?_
    refine pa_goto (pc' := 19) dX11_where_15 (by decide) ?_
    exact pa_iret dX11_where_19 rfl rfl rfl
  · rw [if_neg z]
    refine pa_icmp_t (pc' := 18) dX11_where_5 (decide_eq_true z) (by decide) ?_
    refine pa_iconst (v := -1) (pc' := 19) dX11_where_18 (by decide) rfl ?_
    exact pa_iret dX11_where_19 rfl rfl rfl
theorem N_where12 (h1 : h.1 = hh_487.1) : zPa d mX12_where [.inr (.inr (some 196))] h (fun v _ => v = some (.inl (if h.2.1 196 11 = 4 then h.2.1 196 10 else -1))) := by
  intro N
  have s196 := sh_196' h1
  show zPn N none d mX12_where (0, [(0, .inr (.inr (some 196)))], [], h) _
  refine pa_aload_n (pc' := 1) dX12_where_0 rfl rfl ?_
  refine pa_iconst (v := 0) (pc' := 2) dX12_where_1 (by decide) rfl ?_
  refine pa_putI (pc' := 5) (n := 39) dX12_where_2 fl_12_62 s196 (Or.inl rfl) (Or.inl rfl) rfl ?_
  refine pa_aload_n (pc' := 6) dX12_where_5 rfl rfl ?_
  refine pa_getI (pc' := 9) (n := 39) (v := h.2.1 196 11) dX12_where_6 fl_12_65 s196 (by decide) (zsI_no (by omega)) rfl ?_
  refine pa_iconst (v := 4) (pc' := 10) dX12_where_9 (by decide) rfl ?_
  by_cases z : h.2.1 196 11 = 4
  · rw [if_pos z]
    refine pa_icmp_f (pc' := 13) dX12_where_10 (by rw [z]; decide) (by decide) rfl ?_
    refine pa_aload_n (pc' := 14) dX12_where_13 rfl rfl ?_
    refine pa_getI (pc' := 17) (n := 39) (v := h.2.1 196 10) dX12_where_14 fl_12_13 s196 (by decide) (zsI_no (by omega)) rfl ?_
    refine pa_goto (pc' := 21) dX12_where_17 (by decide) ?_
    exact pa_iret dX12_where_21 rfl rfl rfl
  · rw [if_neg z]
    refine pa_icmp_t (pc' := 20) dX12_where_10 (decide_eq_true z) (by decide) ?_
    refine pa_iconst (v := -1) (pc' := 21) dX12_where_20 (by decide) rfl ?_
    exact pa_iret dX12_where_21 rfl rfl rfl
end HLA
