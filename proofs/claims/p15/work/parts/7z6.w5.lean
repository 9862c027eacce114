/-! image (class and reference), back (reference) -/
section IMG
variable {d N q p b k c : Nat} {h g : zH} {A : pA} {s : nS} {H J : List nS}
theorem getE_app {α : Type} {J : List α} {s t : α} {k : Nat} (hk : (J ++ [s])[k]? = some t) : (k < J.length ∧ J[k]? = some t) ∨ (k = J.length ∧ t = s) := by
  by_cases z : k < J.length
  · rw [List.getElem?_append_left z] at hk
    exact .inl ⟨z, hk⟩
  · rw [List.getElem?_append_right (by omega)] at hk
    have hl := (List.getElem?_eq_some_iff.mp hk).1
    rw [List.length_singleton] at hl
    have e : k - J.length = 0 := by omega
    rw [e] at hk
    cases hk
    exact .inr ⟨by omega, rfl⟩
theorem C_image (S : nwS h) (hA : lPA A c h) (b3 : cH A ≤ 5) (b4 : cB A ≤ 8) (L : lNC A s H J h) : zPa d mX11_image [.inr (.inr (some 0))] h (fun v g => nwF h g ∧ ((cI A = 0 ∧ v = some (.inl (-1)) ∧ g.2.1 0 2 = 1 ∧ lNC A s H J g) ∨ (cI A ≠ 0 ∧ J.length = 3 ∧ v = some (.inl (-1)) ∧ g.2.1 0 2 = 3 ∧ lNC A s H J g) ∨ (cI A ≠ 0 ∧ J.length < 3 ∧ v = some (.inl (nI J.length)) ∧ g.2.1 0 2 = 0 ∧ lNC A s H (J ++ [s]) g))) := by
  intro N
  have s0 : zsh h 0 = some (11, 16) := zsh_by S.1 (by decide +kernel)
  have s105 : zsh h 105 = some (17, 3) := zsh_by S.1 (by decide +kernel)
  have r6 := S.2.1
  have r14 := S.2.2.2.1
  have L' := L
  obtain ⟨L1, ⟨nw, hn, e12, e13, hl, hh⟩, j1, j2, j3⟩ := L
  have o86 := S.o86
  show zPn N none d mX11_image (0, [(0, .inr (.inr (some 0)))], [], h) _
  refine pa_aload_n (pc' := 1) dX11_image_0 rfl rfl ?_
  refine pa_callv (pc' := 4) (vs := []) (rest := []) dX11_image_1 ml_11_222 (by decide) rfl rfl rfl (fun d' _ => (N_hasPost hA S.1)) (fun v g9 hq => ?_)
  obtain ⟨ev, eh⟩ := hq
  subst ev
  rw [eh]
  show zPn N none d mX11_image (4, _, [.inl (if cI A = 0 then 0 else 1)], h) _
  by_cases z0 : cI A = 0
  · rw [if_pos z0]
    refine pa_if_f (pc' := 7) dX11_image_4 (by decide) (by decide) rfl ?_
    refine pa_aload_n (pc' := 8) dX11_image_7 rfl rfl ?_
    refine pa_iconst (v := nI 1) (pc' := 9) dX11_image_8 (by decide) rfl ?_
    refine pa_callv (pc' := 12) (vs := [.inl (nI 1)]) (rest := []) dX11_image_9 ml_11_98 (by decide) rfl rfl rfl (fun d' _ => (c_ref s0)) (fun v g hq => ?_)
    obtain ⟨ev, eh⟩ := hq
    subst ev
    show zPn N none d mX11_image (12, _, [.inl ((-1))], g) _
    subst eh
    refine pa_iret dX11_image_12 rfl rfl ?_
    exact ⟨nwF.t2, .inl ⟨z0, rfl, by rw [zsI_at, if_pos ⟨rfl, rfl⟩]; rfl, L'.t2⟩⟩
  · rw [if_neg z0]
    refine pa_if_t (pc' := 13) dX11_image_4 (by decide) (by decide) ?_
    refine pa_aload_n (pc' := 14) dX11_image_13 rfl rfl ?_
    refine pa_getI (pc' := 17) (n := 16) (v := nI J.length) dX11_image_14 fl_11_91 s0 (by decide) j1 rfl ?_
    refine pa_iconst (v := nI 3) (pc' := 18) dX11_image_17 (by decide) rfl ?_
    by_cases z1 : J.length < 3
    · refine pa_icmp_t (pc' := 27) dX11_image_18 (decide_eq_true (lt_i.mpr (by rw [nI_toInt (by omega), nI_toInt (by omega)]; omega))) (by decide) ?_
      have rq := S.2.2.2.2.2.1 _ z1
      have oq := S.oI z1
      refine pa_aload_n (pc' := 28) dX11_image_27 rfl rfl ?_
      refine pa_getR (pc' := 31) (n := 16) (r := 105) dX11_image_28 fl_11_88 s0 (by decide) r14 rfl ?_
      refine pa_aload_n (pc' := 32) dX11_image_31 rfl rfl ?_
      refine pa_getI (pc' := 35) (n := 16) (v := nI J.length) dX11_image_32 fl_11_91 s0 (by decide) j1 rfl ?_
      refine pa_aald (pc' := 36) (r := 178 + 6 * J.length) dX11_image_35 s105 (by decide) (zn_in (by omega) (by omega)) (by rw [nI_clamp (by omega)]; exact rq) rfl ?_
      refine pa_aload_n (pc' := 37) dX11_image_36 rfl rfl ?_
      refine pa_getR (pc' := 40) (n := 16) (r := 86) dX11_image_37 fl_11_42 s0 (by decide) r6 rfl ?_
      refine pa_callv (pc' := 43) (vs := [.inr (.inr (some 86))]) (rest := []) dX11_image_40 ml_11_359 (by decide) rfl rfl rfl (fun d' _ => (N_copyFrom oq o86 (by omega))) (fun v g hq => ?_)
      obtain ⟨ev, eh⟩ := hq
      subst ev
      show zPn N none d mX11_image (43, _, [], g) _
      obtain ⟨g1, g2, e⟩ := eh
      have t0 : zsh g 0 = some (11, 16) := by unfold zsh; rw [g1]; exact s0
      have f15 : g.2.1 0 15 = nI J.length := by rw [e, cpIo (by omega)]; exact j1
      refine pa_aload_n (pc' := 44) dX11_image_43 rfl rfl ?_
      refine pa_dup (pc' := 45) dX11_image_44 rfl rfl ?_
      refine pa_getI (pc' := 48) (n := 16) (v := nI J.length) dX11_image_45 fl_11_91 t0 (by decide) f15 rfl ?_
      refine pa_iconst (v := nI 1) (pc' := 49) dX11_image_48 (by decide) rfl ?_
      refine pa_iadd (pc' := 50) (v := nI (J.length + 1)) dX11_image_49 (nI_add _ _) rfl ?_
      refine pa_putI (pc' := 53) (n := 16) dX11_image_50 fl_11_91 t0 (Or.inl rfl) (Or.inl rfl) rfl ?_
      refine pa_aload_n (pc' := 54) dX11_image_53 rfl rfl ?_
      refine pa_aload_n (pc' := 55) dX11_image_54 rfl rfl ?_
      refine pa_getI (pc' := 58) (n := 16) (v := nI (J.length + 1)) dX11_image_55 fl_11_91 t0 (by decide) (by rw [zsI_at, if_pos ⟨rfl, rfl⟩]) rfl ?_
      refine pa_iconst (v := nI 1) (pc' := 59) dX11_image_58 (by decide) rfl ?_
      refine pa_isub (pc' := 60) (v := nI ((J.length + 1) - 1)) dX11_image_59 (nI_sub (by omega)) rfl ?_
      refine pa_callv (pc' := 63) (vs := [.inl (nI ((J.length + 1) - 1))]) (rest := []) dX11_image_60 ml_11_112 (by decide) rfl rfl rfl (fun d' _ => (c_gra t0)) (fun v g3 hq => ?_)
      obtain ⟨ev, eh⟩ := hq
      subst ev
      show zPn N none d mX11_image (63, _, [.inl (nI (J.length + 1 - 1))], g3) _
      subst eh
      refine pa_iret dX11_image_63 rfl rfl ?_
      have at' : ∀ b k, (zsI (zsI g 0 15 (nI (J.length + 1))) 0 2 0).2.1 b k = if b = 0 ∧ k = 2 then 0 else if b = 0 ∧ k = 15 then nI (J.length + 1) else cpI h.2.1 (178 + 6 * J.length) 86 b k := fun b k => by
        rw [zsI_at, zsI_at, e]
      have out : ∀ b k, b ≠ 0 → (b < 178 + 6 * J.length ∨ 178 + 6 * J.length + 5 < b) → (zsI (zsI g 0 15 (nI (J.length + 1))) 0 2 0).2.1 b k = h.2.1 b k := fun b k z w => by
        rw [at', if_neg (fun q => z q.1), if_neg (fun q => z q.1), cpIo (by omega)]
      have Lq : nC A s (178 + 6 * J.length) (zsI (zsI g 0 15 (nI (J.length + 1))) 0 2 0) := (nC.cp b3 b4 e L1).fr (fun b k w1 w2 => by rw [at', if_neg (by omega), if_neg (by omega), e])
      refine ⟨⟨g1, g2, fun k w0 w1 w2 w3 => ?_, fun b k w1 w2 w3 => out b k w1 (by omega)⟩, .inr (.inr ⟨z0, z1, by rw [Nat.add_sub_cancel], ?_, L1.fr (fun b k w1 w2 => out b k (by omega) (by omega)), ⟨nw, hn, ?_, ?_, hl, fun k t hk => ?_⟩, ?_, ?_, fun k t hk => ?_⟩)⟩
      · rw [at', if_neg (by omega), if_neg (by omega), cpIo (by omega)]
      · rw [at', if_pos ⟨rfl, rfl⟩]
      · rw [at', if_neg (by omega), if_neg (by omega), cpIo (by omega)]
        exact e12
      · rw [at', if_neg (by omega), if_neg (by omega), cpIo (by omega)]
        exact e13
      · exact (hh k t hk).fr (fun b j w1 w2 => out b j (by omega) (by omega))
      · rw [at', if_neg (by omega), if_pos ⟨rfl, rfl⟩, List.length_append, List.length_singleton]
      · rw [List.length_append, List.length_singleton]
        omega
      · rcases getE_app hk with ⟨w, hk⟩ | ⟨w, e2⟩
        · exact (j3 k t hk).fr (fun b j w1 w2 => out b j (by omega) (by omega))
        · rw [w, e2]
          exact Lq
    · refine pa_icmp_f (pc' := 21) dX11_image_18 (decide_eq_false (fun q => by have := lt_i.mp q; rw [nI_toInt (by omega), nI_toInt (by omega)] at this; omega)) (by decide) rfl ?_
      refine pa_aload_n (pc' := 22) dX11_image_21 rfl rfl ?_
      refine pa_iconst (v := nI 3) (pc' := 23) dX11_image_22 (by decide) rfl ?_
      refine pa_callv (pc' := 26) (vs := [.inl (nI 3)]) (rest := []) dX11_image_23 ml_11_98 (by decide) rfl rfl rfl (fun d' _ => (c_ref s0)) (fun v g hq => ?_)
      obtain ⟨ev, eh⟩ := hq
      subst ev
      show zPn N none d mX11_image (26, _, [.inl ((-1))], g) _
      subst eh
      refine pa_iret dX11_image_26 rfl rfl ?_
      exact ⟨nwF.t2, .inr (.inl ⟨z0, by omega, rfl, by rw [zsI_at, if_pos ⟨rfl, rfl⟩]; rfl, L'.t2⟩)⟩
/-- the reference: a heap in which only numbers of the model at 0, 11 have changed -/
theorem lNM.ch (b3 : cH A ≤ 5) (b4 : cB A ≤ 8) (L : lNM A s H J h) (e : ∀ b k, 196 ≤ b → b ≤ 203 → (b = 196 → k ≠ 0 ∧ k ≠ 11) → g.2.1 b k = h.2.1 b k) : lNM A s H J g := by
  obtain ⟨⟨L1, l1⟩, ⟨e20, hl, hh⟩, j1, j2, j3⟩ := L
  exact ⟨⟨nMo.cp b3 b4 l1 (fun k hk => e _ _ (by omega) (by omega) (by omega)) L1, l1⟩, ⟨(e _ _ (by omega) (by omega) (by omega)).trans e20, hl, fun k t hk => ⟨nMo.cp b3 b4 (hh k t hk).2 (fun k hk => e _ _ (by omega) (by omega) (by omega)) (hh k t hk).1, (hh k t hk).2⟩⟩, (e _ _ (by omega) (by omega) (by omega)).trans j1, j2, fun k t hk => ⟨nMo.cp b3 b4 (j3 k t hk).2 (fun k hk => e _ _ (by omega) (by omega) (by omega)) (j3 k t hk).1, (j3 k t hk).2⟩⟩
theorem mwF.gd : mwF h (zsI (zsI h 196 0 0) 196 11 0) := ⟨rfl, rfl, fun k w1 w2 w3 w4 => by rw [zsI_at, zsI_at, if_neg (by omega), if_neg (by omega)], fun b k w1 w2 w3 w4 => by rw [zsI_at, zsI_at, if_neg (by omega), if_neg (by omega)]⟩
theorem mwF.t {v : Int32} : mwF h (zsI h 196 11 v) := ⟨rfl, rfl, fun k w1 w2 w3 w4 => by rw [zsI_at, if_neg (by omega)], fun b k w1 w2 w3 w4 => by rw [zsI_at, if_neg (by omega)]⟩
theorem mwF.tr {f : zH} (a : mwF h g) (b : mwF g f) : mwF h f := ⟨b.1.trans a.1, b.2.1.trans a.2.1, fun k e1 e2 e3 e4 => (b.2.2.1 k e1 e2 e3 e4).trans (a.2.2.1 k e1 e2 e3 e4), fun c k e1 e2 e3 e4 => (b.2.2.2 c k e1 e2 e3 e4).trans (a.2.2.2 c k e1 e2 e3 e4)⟩
theorem M_image (S : mwS h) (hA : lPA A c h) (b3 : cH A ≤ 5) (b4 : cB A ≤ 8) (L : lNM A s H J h) : zPa d mX12_image [.inr (.inr (some 196))] h (fun v g => mwF h g ∧ ((cI A = 0 ∧ v = some (.inl (-1)) ∧ g.2.1 196 11 = 1 ∧ lNM A s H J g) ∨ (cI A ≠ 0 ∧ J.length = 3 ∧ v = some (.inl (-1)) ∧ g.2.1 196 11 = 3 ∧ lNM A s H J g) ∨ (cI A ≠ 0 ∧ J.length < 3 ∧ v = some (.inl (nI J.length)) ∧ g.2.1 196 11 = 0 ∧ lNM A s H (J ++ [s]) g))) := by
  intro N
  have s196 : zsh h 196 = some (12, 39) := zsh_by S.1 (by decide +kernel)
  have s201 : zsh h 201 = some (14, 76) := zsh_by S.1 (by decide +kernel)
  have s203 : zsh h 203 = some (14, 228) := zsh_by S.1 (by decide +kernel)
  have r17 := S.2.1
  have r19 := S.2.2.2
  generalize eh1 : zsI (zsI h 196 0 0) 196 11 0 = h1
  have F1 : mwF h h1 := by rw [← eh1]; exact mwF.gd
  have t11 : h1.2.1 196 11 = 0 := by rw [← eh1, zsI_at, if_pos ⟨rfl, rfl⟩]
  have L1 : lNM A s H J h1 := L.ch b3 b4 (fun b k w1 w2 w3 => by rw [← eh1, zsI_at, zsI_at, if_neg (by omega), if_neg (by omega)])
  have e14 : h1.2.1 196 14 = h.2.1 196 14 := F1.2.2.1 14 (by decide) (by decide) (by decide) (by decide)
  have z196 : zsh h1 196 = some (12, 39) := by rw [← eh1]; exact s196
  have z201 : zsh h1 201 = some (14, 76) := by rw [← eh1]; exact s201
  have z203 : zsh h1 203 = some (14, 228) := by rw [← eh1]; exact s203
  have q17 : h1.2.2.2.1 196 17 = some 201 := by rw [← eh1]; exact r17
  have q19 : h1.2.2.2.1 196 19 = some 203 := by rw [← eh1]; exact r19
  have L1' := L1
  obtain ⟨⟨L2, l2⟩, ⟨e20, hl, hh⟩, j1, j2, j3⟩ := L1
  show zPn N none d mX12_image (0, [(0, .inr (.inr (some 196)))], [], h) _
  refine pa_aload_n (pc' := 1) dX12_image_0 rfl rfl ?_
  refine pa_callv (pc' := 4) (vs := []) (rest := []) dX12_image_1 ml_12_167 (by decide) rfl rfl rfl (fun d' _ => (m_good s196)) (fun v g hq => ?_)
  obtain ⟨ev, eh⟩ := hq
  subst ev
  show zPn N none d mX12_image (4, _, [], g) _
  rw [eh1] at eh
  subst eh
  rcases hA.pos with ⟨z0, e14'⟩ | ⟨z0, e14'⟩
  · have e14 := e14.trans e14'
    refine pa_aload_n (pc' := 5) dX12_image_4 rfl rfl ?_
    refine pa_getI (pc' := 8) (n := 39) (v := nI 0) dX12_image_5 fl_12_180 z196 (by decide) e14 rfl ?_
    refine pa_if_f (pc' := 11) dX12_image_8 (by decide) (by decide) rfl ?_
    refine pa_aload_n (pc' := 12) dX12_image_11 rfl rfl ?_
    refine pa_iconst (v := nI 1) (pc' := 13) dX12_image_12 (by decide) rfl ?_
    refine pa_callv (pc' := 16) (vs := [.inl (nI 1)]) (rest := []) dX12_image_13 ml_12_170 (by decide) rfl rfl rfl (fun d' _ => (m_no z196)) (fun v g3 hq => ?_)
    obtain ⟨ev, eh⟩ := hq
    subst ev
    show zPn N none d mX12_image (16, _, [.inl ((-1))], g3) _
    subst eh
    refine pa_iret dX12_image_16 rfl rfl ?_
    exact ⟨F1.tr mwF.t, .inl ⟨z0, rfl, by rw [zsI_at, if_pos ⟨rfl, rfl⟩]; rfl, L1'.ch b3 b4 (fun b k w1 w2 w3 => by rw [zsI_at, if_neg (by omega)])⟩⟩
  · have e14 := e14.trans e14'
    refine pa_aload_n (pc' := 5) dX12_image_4 rfl rfl ?_
    refine pa_getI (pc' := 8) (n := 39) (v := nI 1) dX12_image_5 fl_12_180 z196 (by decide) e14 rfl ?_
    refine pa_if_t (pc' := 17) dX12_image_8 (by decide) (by decide) ?_
    refine pa_aload_n (pc' := 18) dX12_image_17 rfl rfl ?_
    refine pa_getI (pc' := 21) (n := 39) (v := nI J.length) dX12_image_18 fl_12_186 z196 (by decide) j1 rfl ?_
    refine pa_iconst (v := nI 3) (pc' := 22) dX12_image_21 (by decide) rfl ?_
    by_cases z1 : J.length = 3
    · refine pa_icmp_f (pc' := 25) dX12_image_22 (decide_eq_false (not_not_intro (by rw [z1]))) (by decide) rfl ?_
      refine pa_aload_n (pc' := 26) dX12_image_25 rfl rfl ?_
      refine pa_iconst (v := nI 3) (pc' := 27) dX12_image_26 (by decide) rfl ?_
      refine pa_callv (pc' := 30) (vs := [.inl (nI 3)]) (rest := []) dX12_image_27 ml_12_170 (by decide) rfl rfl rfl (fun d' _ => (m_no z196)) (fun v g3 hq => ?_)
      obtain ⟨ev, eh⟩ := hq
      subst ev
      show zPn N none d mX12_image (30, _, [.inl ((-1))], g3) _
      subst eh
      refine pa_iret dX12_image_30 rfl rfl ?_
      exact ⟨F1.tr mwF.t, .inr (.inl ⟨z0, z1, rfl, by rw [zsI_at, if_pos ⟨rfl, rfl⟩]; rfl, L1'.ch b3 b4 (fun b k w1 w2 w3 => by rw [zsI_at, if_neg (by omega)])⟩)⟩
    · refine pa_icmp_t (pc' := 31) dX12_image_22 (decide_eq_true (fun q => z1 (by have := congrArg Int32.toInt q; rw [nI_toInt (by omega), nI_toInt (by omega)] at this; omega))) (by decide) ?_
      refine pa_aload_n (pc' := 32) dX12_image_31 rfl rfl ?_
      refine pa_getR (pc' := 35) (n := 39) (r := 201) dX12_image_32 fl_12_26 z196 (by decide) q17 rfl ?_
      refine pa_iconst (v := nI 0) (pc' := 36) dX12_image_35 (by decide) rfl ?_
      refine pa_aload_n (pc' := 37) dX12_image_36 rfl rfl ?_
      refine pa_getR (pc' := 40) (n := 39) (r := 203) dX12_image_37 fl_12_32 z196 (by decide) q19 rfl ?_
      refine pa_bipush (v := nI 76) (pc' := 42) dX12_image_40 (by decide) rfl ?_
      refine pa_aload_n (pc' := 43) dX12_image_42 rfl rfl ?_
      refine pa_getI (pc' := 46) (n := 39) (v := nI J.length) dX12_image_43 fl_12_186 z196 (by decide) j1 rfl ?_
      refine pa_imul (pc' := 47) (v := nI (76 * J.length)) dX12_image_46 (nI_mul _ _) rfl ?_
      refine pa_bipush (v := nI 76) (pc' := 49) dX12_image_47 (by decide) rfl ?_
      refine pa_calls (pc' := 52) (kd := 1) (vs := [.inr (.inr (some 201)), .inl (nI 0), .inr (.inr (some 203)), .inl (nI (76 * J.length)), .inl (nI 76)]) (rest := []) dX12_image_49 ml_12_176 (.inl rfl) rfl rfl rfl (fun d' _ => (M_copy z201 z203 (by decide) (by omega) (by omega) (by decide) (by decide))) (fun v g3 hq => ?_)
      obtain ⟨ev, eh⟩ := hq
      subst ev
      show zPn N none d mX12_image (52, _, [], g3) _
      rw [eh]
      have f21 : (cpyH g 201 0 203 (76 * J.length) 76).2.1 196 21 = nI J.length := by rw [cpyH_at, if_neg (by omega)]; exact j1
      refine pa_aload_n (pc' := 53) dX12_image_52 rfl rfl ?_
      refine pa_dup (pc' := 54) dX12_image_53 rfl rfl ?_
      refine pa_getI (pc' := 57) (n := 39) (v := nI J.length) dX12_image_54 fl_12_186 z196 (by decide) f21 rfl ?_
      refine pa_iconst (v := nI 1) (pc' := 58) dX12_image_57 (by decide) rfl ?_
      refine pa_iadd (pc' := 59) (v := nI (J.length + 1)) dX12_image_58 (nI_add _ _) rfl ?_
      refine pa_putI (pc' := 62) (n := 39) dX12_image_59 fl_12_186 z196 (Or.inl rfl) (Or.inl rfl) rfl ?_
      refine pa_aload_n (pc' := 63) dX12_image_62 rfl rfl ?_
      refine pa_getI (pc' := 66) (n := 39) (v := nI (J.length + 1)) dX12_image_63 fl_12_186 z196 (by decide) (by rw [zsI_at, if_pos ⟨rfl, rfl⟩]) rfl ?_
      refine pa_iconst (v := nI 1) (pc' := 67) dX12_image_66 (by decide) rfl ?_
      refine pa_isub (pc' := 68) (v := nI ((J.length + 1) - 1)) dX12_image_67 (nI_sub (by omega)) rfl ?_
      refine pa_iret dX12_image_68 rfl rfl ?_
      have at' : ∀ b k, (zsI (cpyH g 201 0 203 (76 * J.length) 76) 196 21 (nI (J.length + 1))).2.1 b k = if b = 196 ∧ k = 21 then nI (J.length + 1) else if b = 203 ∧ 76 * J.length ≤ k ∧ k < 76 * J.length + 76 then g.2.1 201 (0 + (k - 76 * J.length)) else g.2.1 b k := fun b k => by
        rw [zsI_at, cpyH_at]
      have out : ∀ b k, (b = 196 → k ≠ 21) → (b = 203 → k < 76 * J.length) → (zsI (cpyH g 201 0 203 (76 * J.length) 76) 196 21 (nI (J.length + 1))).2.1 b k = g.2.1 b k := fun b k w1 w2 => by
        rw [at', if_neg (by omega), if_neg (by omega)]
      refine ⟨F1.tr ⟨rfl, rfl, fun k w1 w2 w3 w4 => out _ _ (by omega) (by omega), fun b k w1 w2 w3 w4 => out _ _ (by omega) (by omega)⟩, .inr (.inr ⟨z0, by omega, by rw [Nat.add_sub_cancel], (out _ _ (by omega) (by omega)).trans t11, ⟨nMo.cp b3 b4 l2 (fun k hk => out _ _ (by omega) (by omega)) L2, l2⟩, ⟨(out _ _ (by omega) (by omega)).trans e20, hl, fun k t hk => ⟨nMo.cp b3 b4 (hh k t hk).2 (fun k hk => out _ _ (by omega) (by omega)) (hh k t hk).1, (hh k t hk).2⟩⟩, ?_, ?_, fun k t hk => ?_⟩)⟩
      · rw [at', if_pos ⟨rfl, rfl⟩, List.length_append, List.length_singleton]
      · rw [List.length_append, List.length_singleton]
        omega
      · rcases getE_app hk with ⟨w, hk⟩ | ⟨w, e2⟩
        · exact ⟨nMo.cp b3 b4 (j3 k t hk).2 (fun k hk => out _ _ (by omega) (by omega)) (j3 k t hk).1, (j3 k t hk).2⟩
        · rw [w, e2]
          refine ⟨nMo.cp b3 b4 l2 (fun k hk => ?_) L2, l2⟩
          rw [at', if_neg (by omega), if_pos ⟨rfl, by omega, by omega⟩]
          exact congrArg (g.2.1 201) (by omega)
theorem nI_prd4 : ∀ x : Nat, x < 4 → (nI x - 1).toInt = (x : Int) - 1 := by decide
theorem M_back {i : Int32} (S : mwS h) (b3 : cH A ≤ 5) (b4 : cB A ≤ 8) (L : lNM A s H J h) : zPa d mX12_back [.inr (.inr (some 196)), .inl i] h (fun v g => mwF h g ∧ (((i.toInt < 0 ∨ (J.length : Int) ≤ i.toInt) ∧ v = some (.inl 0) ∧ g.2.1 196 11 = 1 ∧ lNM A s H J g) ∨ ∃ t, 0 ≤ i.toInt ∧ J[i.toInt.toNat]? = some t ∧ v = some (.inl 1) ∧ g.2.1 196 11 = 0 ∧ lNM A t [] J g)) := by
  intro N
  have s196 : zsh h 196 = some (12, 39) := zsh_by S.1 (by decide +kernel)
  have s201 : zsh h 201 = some (14, 76) := zsh_by S.1 (by decide +kernel)
  have s203 : zsh h 203 = some (14, 228) := zsh_by S.1 (by decide +kernel)
  have r17 := S.2.1
  have r19 := S.2.2.2
  generalize eh1 : zsI (zsI h 196 0 0) 196 11 0 = h1
  have F1 : mwF h h1 := by rw [← eh1]; exact mwF.gd
  have t11 : h1.2.1 196 11 = 0 := by rw [← eh1, zsI_at, if_pos ⟨rfl, rfl⟩]
  have L1 : lNM A s H J h1 := L.ch b3 b4 (fun b k w1 w2 w3 => by rw [← eh1, zsI_at, zsI_at, if_neg (by omega), if_neg (by omega)])
  have z196 : zsh h1 196 = some (12, 39) := by rw [← eh1]; exact s196
  have z201 : zsh h1 201 = some (14, 76) := by rw [← eh1]; exact s201
  have z203 : zsh h1 203 = some (14, 228) := by rw [← eh1]; exact s203
  have q17 : h1.2.2.2.1 196 17 = some 201 := by rw [← eh1]; exact r17
  have q19 : h1.2.2.2.1 196 19 = some 203 := by rw [← eh1]; exact r19
  have L1' := L1
  obtain ⟨⟨L2, l2⟩, ⟨e20, hl, hh⟩, j1, j2, j3⟩ := L1
  show zPn N none d mX12_back (0, [(0, .inr (.inr (some 196))), (1, .inl i)], [], h) _
  refine pa_aload_n (pc' := 1) dX12_back_0 rfl rfl ?_
  refine pa_callv (pc' := 4) (vs := []) (rest := []) dX12_back_1 ml_12_167 (by decide) rfl rfl rfl (fun d' _ => (m_good s196)) (fun v g hq => ?_)
  obtain ⟨ev, eh⟩ := hq
  subst ev
  show zPn N none d mX12_back (4, _, [], g) _
  rw [eh1] at eh
  subst eh
  refine pa_iload_n (pc' := 5) dX12_back_4 rfl rfl ?_
  refine pa_iconst (v := 0) (pc' := 6) dX12_back_5 (by decide) rfl ?_
  refine pa_aload_n (pc' := 7) dX12_back_6 rfl rfl ?_
  refine pa_getI (pc' := 10) (n := 39) (v := nI J.length) dX12_back_7 fl_12_186 z196 (by decide) j1 rfl ?_
  refine pa_iconst (v := 1) (pc' := 11) dX12_back_10 (by decide) rfl ?_
  refine pa_isub (pc' := 12) dX12_back_11 rfl rfl ?_
  refine pa_calls (pc' := 15) (kd := 1) (vs := [.inl i, .inl 0, .inl (nI J.length - 1)]) (rest := []) dX12_back_12 ml_12_149 (.inl rfl) rfl rfl rfl (fun d' _ => in_ex2) (fun v g3 hq => ?_)
  obtain ⟨eh, hq⟩ := hq
  rw [eh]
  have pr := nI_prd4 J.length (by omega)
  rcases hq with ⟨ev, w1, w2⟩ | ⟨ev, w⟩
  · subst ev
    have w1 := Int32.le_iff_toInt_le.mp w1
    have w2 := Int32.le_iff_toInt_le.mp w2
    rw [pr] at w2
    rw [show (0 : Int32).toInt = 0 by decide] at w1
    obtain ⟨n, hn⟩ : ∃ n : Nat, i = nI n ∧ n < J.length := ⟨i.toInt.toNat, Int32.toInt_inj.mp (by rw [nI_toInt (by omega)]; omega), by omega⟩
    obtain ⟨ei, hn⟩ := hn
    subst ei
    obtain ⟨t, ht⟩ : ∃ t, J[n]? = some t := ⟨_, List.getElem?_eq_getElem hn⟩
    obtain ⟨x1, x2⟩ := j3 n t ht
    have en : (nI n).toInt.toNat = n := by rw [nI_toInt (by omega)]; rfl
    refine pa_if_t (pc' := 24) dX12_back_15 (by decide) (by decide) ?_
    refine pa_aload_n (pc' := 25) dX12_back_24 rfl rfl ?_
    refine pa_getR (pc' := 28) (n := 39) (r := 203) dX12_back_25 fl_12_32 z196 (by decide) q19 rfl ?_
    refine pa_bipush (v := nI 76) (pc' := 30) dX12_back_28 (by decide) rfl ?_
    refine pa_iload_n (pc' := 31) dX12_back_30 rfl rfl ?_
    refine pa_imul (pc' := 32) (v := nI (76 * n)) dX12_back_31 (nI_mul _ _) rfl ?_
    refine pa_aload_n (pc' := 33) dX12_back_32 rfl rfl ?_
    refine pa_getR (pc' := 36) (n := 39) (r := 201) dX12_back_33 fl_12_26 z196 (by decide) q17 rfl ?_
    refine pa_iconst (v := nI 0) (pc' := 37) dX12_back_36 (by decide) rfl ?_
    refine pa_bipush (v := nI 76) (pc' := 39) dX12_back_37 (by decide) rfl ?_
    refine pa_calls (pc' := 42) (kd := 1) (vs := [.inr (.inr (some 203)), .inl (nI (76 * n)), .inr (.inr (some 201)), .inl (nI 0), .inl (nI 76)]) (rest := []) dX12_back_39 ml_12_176 (.inl rfl) rfl rfl rfl (fun d' _ => (M_copy z203 z201 (by decide) (by omega) (by omega) (by decide) (by decide))) (fun v g3 hq => ?_)
    obtain ⟨ev, eh⟩ := hq
    subst ev
    show zPn N none d mX12_back (42, _, [], g3) _
    rw [eh]
    refine pa_aload_n (pc' := 43) dX12_back_42 rfl rfl ?_
    refine pa_iconst (v := nI 0) (pc' := 44) dX12_back_43 (by decide) rfl ?_
    refine pa_putI (pc' := 47) (n := 39) dX12_back_44 fl_12_183 z196 (Or.inl rfl) (Or.inl rfl) rfl ?_
    refine pa_iconst (v := nI 1) (pc' := 48) dX12_back_47 (by decide) rfl ?_
    refine pa_iret dX12_back_48 rfl rfl ?_
    have at' : ∀ b k, (zsI (cpyH g 203 (76 * n) 201 0 76) 196 20 (nI 0)).2.1 b k = if b = 196 ∧ k = 20 then nI 0 else if b = 201 ∧ 0 ≤ k ∧ k < 0 + 76 then g.2.1 203 (76 * n + (k - 0)) else g.2.1 b k := fun b k => by
      rw [zsI_at, cpyH_at]
    have out : ∀ b k, (b = 196 → k ≠ 20) → b ≠ 201 → (zsI (cpyH g 203 (76 * n) 201 0 76) 196 20 (nI 0)).2.1 b k = g.2.1 b k := fun b k w1 w2 => by
      rw [at', if_neg (by omega), if_neg (by omega)]
    refine ⟨F1.tr ⟨rfl, rfl, fun k w1 w2 w3 w4 => out _ _ (by omega) (by omega), fun b k w1 w2 w3 w4 => out _ _ (by omega) (by omega)⟩, .inr ⟨t, w1, by rw [en]; exact ht, rfl, (out _ _ (by omega) (by omega)).trans t11, ⟨nMo.cp b3 b4 x2 (fun k hk => ?_) x1, x2⟩, ⟨?_, Nat.zero_le _, fun k t hk => ?_⟩, (out _ _ (by omega) (by omega)).trans j1, j2, fun k t hk => ⟨nMo.cp b3 b4 (j3 k t hk).2 (fun k hk => out _ _ (by omega) (by omega)) (j3 k t hk).1, (j3 k t hk).2⟩⟩⟩
    · rw [at', if_neg (by omega), if_pos ⟨rfl, by omega, by omega⟩]
      exact congrArg (g.2.1 203) (by omega)
    · rw [at', if_pos ⟨rfl, rfl⟩]
      rfl
    · cases hk
  · subst ev
    refine pa_if_f (pc' := 18) dX12_back_15 (by decide) (by decide) rfl ?_
    refine pa_aload_n (pc' := 19) dX12_back_18 rfl rfl ?_
    refine pa_iconst (v := nI 1) (pc' := 20) dX12_back_19 (by decide) rfl ?_
    refine pa_callv (pc' := 23) (vs := [.inl (nI 1)]) (rest := []) dX12_back_20 ml_12_427 (by decide) rfl rfl rfl (fun d' _ => (m_isN z196)) (fun v g3 hq => ?_)
    obtain ⟨ev, eh⟩ := hq
    subst ev
    show zPn N none d mX12_back (23, _, [.inl 0], g3) _
    subst eh
    refine pa_iret dX12_back_23 rfl rfl ?_
    refine ⟨F1.tr mwF.t, .inl ⟨?_, rfl, by rw [zsI_at, if_pos ⟨rfl, rfl⟩]; rfl, L1'.ch b3 b4 (fun b k w1 w2 w3 => by rw [zsI_at, if_neg (by omega)])⟩⟩
    rw [Int32.le_iff_toInt_le, Int32.le_iff_toInt_le, pr, show (0 : Int32).toInt = 0 by decide] at w
    omega
end IMG
/-! the reference: a state is kept for undoing (note1) -/
section NT1
variable {d N q p b k u : Nat} {h g : zH} {A : pA} {s : nS} {H J : List nS}
theorem n1_shift (S : mwS h) {Q : Option zV → zH → Prop} (nx : ∀ (N : Nat) (ls : zL), zget ls 0 = some (.inr (.inr (some 196))) → zPn N none d mX12_note1 (39, ls, [], shfH h 836) Q) : ∀ (N k : Nat) (ls : zL), k ≤ 836 → zget ls 0 = some (.inr (.inr (some 196))) → zget ls 1 = some (.inl (nI k)) → zPn N none d mX12_note1 (11, ls, [], shfH h k) Q := by
  have s196 : zsh h 196 = some (12, 39) := zsh_by S.1 (by decide +kernel)
  have s202 : zsh h 202 = some (14, 912) := zsh_by S.1 (by decide +kernel)
  have r18 := S.2.2.1
  intro N
  induction N with
  | zero => intros; exact zPn.zero
  | succ N ih =>
    intro k ls hk hl0 hl1
    have fv : (shfH h k).2.1 202 (k + 76) = h.2.1 202 (k + 76) := by rw [shfH_at, if_neg (by omega)]
    refine pa_iload_n (pc' := 12) dX12_note1_11 hl1 rfl ?_
    refine pa_sipush (v := nI 836) (pc' := 15) dX12_note1_12 (by decide) rfl ?_
    refine pa_icmp (pc' := 39) (pc2 := 18) dX12_note1_15 (by decide) rfl (fun z => ?_) (fun z => ?_)
    · have z := zi_nlt (zk_ge_lt z)
      rw [nI_toInt (by omega), nI_toInt (by omega)] at z
      have e : k = 836 := by omega
      subst e
      exact nx _ ls hl0
    · have z := zi_lt (zk_ge_lt z)
      rw [nI_toInt (by omega), nI_toInt (by omega)] at z
      refine pa_aload_n (pc' := 19) dX12_note1_18 hl0 rfl ?_
      refine pa_getR (pc' := 22) (n := 39) (r := 202) dX12_note1_19 fl_12_29 s196 (by decide) r18 rfl ?_
      refine pa_iload_n (pc' := 23) dX12_note1_22 hl1 rfl ?_
      refine pa_aload_n (pc' := 24) dX12_note1_23 hl0 rfl ?_
      refine pa_getR (pc' := 27) (n := 39) (r := 202) dX12_note1_24 fl_12_29 s196 (by decide) r18 rfl ?_
      refine pa_iload_n (pc' := 28) dX12_note1_27 hl1 rfl ?_
      refine pa_bipush (v := nI 76) (pc' := 30) dX12_note1_28 (by decide) rfl ?_
      refine pa_iadd (pc' := 31) (v := nI (k + 76)) dX12_note1_30 (nI_add _ _) rfl ?_
      refine pa_iald (pc' := 32) dX12_note1_31 s202 rfl (fun _ => ?_)
      rw [nI_clamp (by omega), fv]
      refine pa_iast (pc' := 33) dX12_note1_32 s202 rfl (fun _ => ?_)
      rw [nI_clamp (by omega)]
      rw [shfH_s]
      refine pa_iinc (pc' := 36) (v := nI (k + 1)) dX12_note1_33 hl1 (by decide) (nI_add k 1) rfl rfl ?_
      refine pa_gotos (pc' := 11) dX12_note1_36 (by decide) ?_
      exact ih (k + 1) _ (by omega) (zget_s1 hl0 (by decide) (by simp [zcat])) zget_s1e
theorem n1_last (S : mwS h) (hu : h.2.1 196 20 = nI u) (hu2 : u ≤ 11) {Q : Option zV → zH → Prop} {ls : zL} (hl0 : zget ls 0 = some (.inr (.inr (some 196)))) (hQ : Q none (zsI (cpyH h 201 0 202 (76 * u) 76) 196 20 (nI (u + 1)))) (N : Nat) : zPn N none d mX12_note1 (49, ls, [], h) Q := by
  have s196 : zsh h 196 = some (12, 39) := zsh_by S.1 (by decide +kernel)
  have s201 : zsh h 201 = some (14, 76) := zsh_by S.1 (by decide +kernel)
  have s202 : zsh h 202 = some (14, 912) := zsh_by S.1 (by decide +kernel)
  have r17 := S.2.1
  have r18 := S.2.2.1
  have f20 : (cpyH h 201 0 202 (76 * u) 76).2.1 196 20 = nI u := by rw [cpyH_at, if_neg (by omega)]; exact hu
  refine pa_aload_n (pc' := 50) dX12_note1_49 hl0 rfl ?_
  refine pa_getR (pc' := 53) (n := 39) (r := 201) dX12_note1_50 fl_12_26 s196 (by decide) r17 rfl ?_
  refine pa_iconst (v := nI 0) (pc' := 54) dX12_note1_53 (by decide) rfl ?_
  refine pa_aload_n (pc' := 55) dX12_note1_54 hl0 rfl ?_
  refine pa_getR (pc' := 58) (n := 39) (r := 202) dX12_note1_55 fl_12_29 s196 (by decide) r18 rfl ?_
  refine pa_bipush (v := nI 76) (pc' := 60) dX12_note1_58 (by decide) rfl ?_
  refine pa_aload_n (pc' := 61) dX12_note1_60 hl0 rfl ?_
  refine pa_getI (pc' := 64) (n := 39) (v := nI u) dX12_note1_61 fl_12_183 s196 (by decide) hu rfl ?_
  refine pa_imul (pc' := 65) (v := nI (76 * u)) dX12_note1_64 (nI_mul _ _) rfl ?_
  refine pa_bipush (v := nI 76) (pc' := 67) dX12_note1_65 (by decide) rfl ?_
  refine pa_calls (pc' := 70) (kd := 1) (vs := [.inr (.inr (some 201)), .inl (nI 0), .inr (.inr (some 202)), .inl (nI (76 * u)), .inl (nI 76)]) (rest := []) dX12_note1_67 ml_12_176 (.inl rfl) rfl rfl rfl (fun d' _ => (M_copy s201 s202 (by decide) (by omega) (by omega) (by decide) (by decide))) (fun v g3 hq => ?_)
  obtain ⟨ev, eh⟩ := hq
  subst ev
  show zPn N none d mX12_note1 (70, _, [], g3) _
  rw [eh]
  refine pa_aload_n (pc' := 71) dX12_note1_70 hl0 rfl ?_
  refine pa_dup (pc' := 72) dX12_note1_71 rfl rfl ?_
  refine pa_getI (pc' := 75) (n := 39) (v := nI u) dX12_note1_72 fl_12_183 s196 (by decide) f20 rfl ?_
  refine pa_iconst (v := nI 1) (pc' := 76) dX12_note1_75 (by decide) rfl ?_
  refine pa_iadd (pc' := 77) (v := nI (u + 1)) dX12_note1_76 (nI_add _ _) rfl ?_
  refine pa_putI (pc' := 80) (n := 39) dX12_note1_77 fl_12_183 s196 (Or.inl rfl) (Or.inl rfl) rfl ?_
  refine pa_vret dX12_note1_80 rfl ?_
  exact hQ
/-- what the push leaves -/
theorem n1_fin (b3 : cH A ≤ 5) (b4 : cB A ≤ 8) (L : lNM A s H J h) {h1 : zH} {T : List nS} (hT : (s :: H).take 12 = s :: T) (hu : u = T.length) (e1 : h1.1 = h.1) (e2 : h1.2.2 = h.2.2) (e3 : ∀ b k, b ≠ 202 → (b = 196 → k ≠ 20) → h1.2.1 b k = h.2.1 b k) (e4 : ∀ k t, T[k]? = some t → nMo A t 202 (76 * (T.length - 1 - k)) h1 ∧ lenO A t) : mwF h (zsI (cpyH h1 201 0 202 (76 * u) 76) 196 20 (nI (u + 1))) ∧ lNM A s ((s :: H).take 12) J (zsI (cpyH h1 201 0 202 (76 * u) 76) 196 20 (nI (u + 1))) ∧ ∀ b k, b ≠ 202 → (b = 196 → k ≠ 20) → (zsI (cpyH h1 201 0 202 (76 * u) 76) 196 20 (nI (u + 1))).2.1 b k = h.2.1 b k := by
  obtain ⟨⟨L1, l1⟩, -, j1, j2, j3⟩ := L
  have hl : T.length + 1 ≤ 12 := by
    have e := congrArg List.length hT
    rw [List.length_take, List.length_cons, List.length_cons] at e
    have := Nat.min_le_left 12 (H.length + 1)
    omega
  have at' : ∀ b k, (zsI (cpyH h1 201 0 202 (76 * u) 76) 196 20 (nI (u + 1))).2.1 b k = if b = 196 ∧ k = 20 then nI (u + 1) else if b = 202 ∧ 76 * u ≤ k ∧ k < 76 * u + 76 then h1.2.1 201 (0 + (k - 76 * u)) else h1.2.1 b k := fun b k => by
    rw [zsI_at, cpyH_at]
  have out : ∀ b k, b ≠ 202 → (b = 196 → k ≠ 20) → (zsI (cpyH h1 201 0 202 (76 * u) 76) 196 20 (nI (u + 1))).2.1 b k = h.2.1 b k := fun b k w1 w2 => by
    rw [at', if_neg (by omega), if_neg (by omega), e3 b k w1 w2]
  refine ⟨⟨e1, e2, fun k w1 w2 w3 w4 => out _ _ (by decide) (by omega), fun b k w1 w2 w3 w4 => out _ _ (by omega) (by omega)⟩, ⟨⟨nMo.cp b3 b4 l1 (fun k hk => out _ _ (by decide) (by omega)) L1, l1⟩, ⟨?_, ?_, fun k t hk => ?_⟩, (out _ _ (by decide) (by omega)).trans j1, j2, fun k t hk => ⟨nMo.cp b3 b4 (j3 k t hk).2 (fun k hk => out _ _ (by decide) (by omega)) (j3 k t hk).1, (j3 k t hk).2⟩⟩, out⟩
  · rw [at', if_pos ⟨rfl, rfl⟩, hT, List.length_cons, hu]
  · rw [hT, List.length_cons]
    exact hl
  · rw [hT] at hk ⊢
    rw [List.length_cons]
    cases k with
    | zero =>
      cases hk
      refine ⟨nMo.cp b3 b4 l1 (fun k hk => ?_) L1, l1⟩
      rw [at', if_neg (by omega), if_pos ⟨rfl, by omega, by omega⟩, e3 _ _ (by decide) (by omega)]
      exact congrArg (h.2.1 201) (by omega)
    | succ k =>
      have hk : T[k]? = some t := hk
      have kl := (List.getElem?_eq_some_iff.mp hk).1
      obtain ⟨x1, x2⟩ := e4 k t hk
      rw [show T.length + 1 - 1 - (k + 1) = T.length - 1 - k by omega]
      exact ⟨nMo.cp b3 b4 x2 (fun j hj => by rw [at', if_neg (by omega), if_neg (by omega)]) x1, x2⟩
theorem M_note1 (S : mwS h) (b3 : cH A ≤ 5) (b4 : cB A ≤ 8) (L : lNM A s H J h) : zPa d mX12_note1 [.inr (.inr (some 196))] h (fun v g => v = none ∧ mwF h g ∧ lNM A s ((s :: H).take 12) J g ∧ ∀ b k, b ≠ 202 → (b = 196 → k ≠ 20) → g.2.1 b k = h.2.1 b k) := by
  intro N
  have s196 : zsh h 196 = some (12, 39) := zsh_by S.1 (by decide +kernel)
  obtain ⟨e20, hl, hh⟩ := L.2.1
  show zPn N none d mX12_note1 (0, [(0, .inr (.inr (some 196)))], [], h) _
  refine pa_aload_n (pc' := 1) dX12_note1_0 rfl rfl ?_
  refine pa_getI (pc' := 4) (n := 39) (v := nI H.length) dX12_note1_1 fl_12_183 s196 (by decide) e20 rfl ?_
  refine pa_bipush (v := nI 12) (pc' := 6) dX12_note1_4 (by decide) rfl ?_
  by_cases z : H.length = 12
  · refine pa_icmp_f (pc' := 9) dX12_note1_6 (decide_eq_false (not_not_intro (by rw [z]))) (by decide) rfl ?_
    refine pa_iconst (v := nI 0) (pc' := 10) dX12_note1_9 (by decide) rfl ?_
    refine pa_istore_n (pc' := 11) dX12_note1_10 (by decide) rfl rfl ?_
    refine Eq.mp (congrArg (fun x => zPn N none d mX12_note1 (11, _, [], x) _) (shfH_0 (h := h))) (n1_shift S (fun N ls hl0 => ?_) N 0 _ (by omega) (by rfl) (by rfl))
    have f20 : (shfH h 836).2.1 196 20 = nI 12 := by rw [shfH_at, if_neg (by omega), e20, z]
    refine pa_aload_n (pc' := 40) dX12_note1_39 hl0 rfl ?_
    refine pa_dup (pc' := 41) dX12_note1_40 rfl rfl ?_
    refine pa_getI (pc' := 44) (n := 39) (v := nI 12) dX12_note1_41 fl_12_183 s196 (by decide) f20 rfl ?_
    refine pa_iconst (v := nI 1) (pc' := 45) dX12_note1_44 (by decide) rfl ?_
    refine pa_isub (pc' := 46) (v := nI (12 - 1)) dX12_note1_45 (nI_sub (by omega)) rfl ?_
    refine pa_putI (pc' := 49) (n := 39) dX12_note1_46 fl_12_183 s196 (Or.inl rfl) (Or.inl rfl) rfl ?_
    have hT : (s :: H).take 12 = s :: H.take 11 := rfl
    have lT : (H.take 11).length = 11 := by rw [List.length_take, z]; rfl
    have F := n1_fin (h1 := zsI (shfH h 836) 196 20 (nI (12 - 1))) (u := 11) b3 b4 L hT lT.symm rfl rfl (fun b k w1 w2 => by rw [zsI_at, if_neg (by omega), shfH_at, if_neg (by omega)]) (fun k t hk => by
      rw [List.getElem?_take] at hk
      by_cases w : k < 11
      · rw [if_pos w] at hk
        obtain ⟨x1, x2⟩ := hh k t hk
        rw [z] at x1
        rw [lT]
        refine ⟨nMo.cp b3 b4 x2 (fun j hj => ?_) x1, x2⟩
        rw [zsI_at, if_neg (by omega), shfH_at, if_pos ⟨rfl, by omega⟩]
        exact congrArg (h.2.1 202) (by omega)
      · rw [if_neg w] at hk
        cases hk)
    exact n1_last (h := zsI (shfH h 836) 196 20 (nI (12 - 1))) (u := 11) S (by rw [zsI_at, if_pos ⟨rfl, rfl⟩]) (by decide) hl0 ⟨rfl, F⟩ N
  · refine pa_icmp_t (pc' := 49) dX12_note1_6 (decide_eq_true (fun q => z (by have := congrArg Int32.toInt q; rw [nI_toInt (by omega), nI_toInt (by omega)] at this; omega))) (by decide) ?_
    have hT : (s :: H).take 12 = s :: H := List.take_of_length_le (by rw [List.length_cons]; omega)
    have F := n1_fin (h1 := h) (u := H.length) b3 b4 L hT rfl rfl rfl (fun b k w1 w2 => rfl) hh
    exact n1_last S e20 (by omega) rfl ⟨rfl, F⟩ N
end NT1
/-! is there such a whale, box, way: class and reference -/
section ISX
variable {d N c : Nat} {h g : zH} {A : pA} {x : Int32}
theorem N_isWhale (hA : lPA A c h) (h1 : h.1 = hh_487.1) : zPa d mX11_isWhale [.inr (.inr (some 0)), .inl x] h (fun v h' => v = some (.inl (if 0 ≤ x.toInt ∧ x.toInt < (cH A : Int) then 1 else 0)) ∧ h' = h) := by
  intro N
  have s0 : zsh h 0 = some (11, 16) := zsh_by h1 (by decide +kernel)
  have sc := hA.sc h1
  have r3 := hA.2.2.1
  have k0 : (0 : Int32).toInt = 0 := by decide
  obtain ⟨b1, b2, b3, b4, b5⟩ := hA.1.2.2.1
  obtain ⟨-, -, e5, e6, e7, -⟩ := hA.2.2.2.1
  have e19 : ¬ (0 ≤ x.toInt ∧ x.toInt < (cH A : Int)) → ∀ N, zPn N none d mX11_isWhale (19, [(0, .inr (.inr (some 0))), (1, .inl x)], [], h) (fun v h' => v = some (.inl (if 0 ≤ x.toInt ∧ x.toInt < (cH A : Int) then 1 else 0)) ∧ h' = h) := fun z N => by
    refine pa_iconst (v := 0) (pc' := 20) dX11_isWhale_19 (by decide) rfl ?_
    refine pa_iret dX11_isWhale_20 rfl rfl ?_
    exact ⟨by rw [if_neg z], rfl⟩
  show zPn N none d mX11_isWhale (0, [(0, .inr (.inr (some 0))), (1, .inl x)], [], h) _
  refine pa_iload_n (pc' := 1) dX11_isWhale_0 rfl rfl ?_
  refine pa_if (pc' := 19) (pc2 := 4) dX11_isWhale_1 (by decide) rfl (fun z => ?_) (fun z => ?_)
  · have z := zi_lt z
    rw [k0] at z
    exact e19 (by omega) _
  · have z := zi_nlt z
    rw [k0] at z
    refine pa_iload_n (pc' := 5) dX11_isWhale_4 rfl rfl ?_
    refine pa_aload_n (pc' := 6) dX11_isWhale_5 rfl rfl ?_
    refine pa_getR (pc' := 9) (n := 16) (r := c) dX11_isWhale_6 fl_11_23 s0 (by decide) r3 rfl ?_
    refine pa_getI (pc' := 12) (n := 15) (v := nI (cH A)) dX11_isWhale_9 fl_11_382 sc (by decide) e6 rfl ?_
    refine pa_icmp (pc' := 19) (pc2 := 15) dX11_isWhale_12 (by decide) rfl (fun y => ?_) (fun y => ?_)
    · have y := zi_nlt (zk_ge_lt y)
      rw [nI_toInt (by omega)] at y
      exact e19 (by omega) _
    · have y := zi_lt (zk_ge_lt y)
      rw [nI_toInt (by omega)] at y
      refine pa_iconst (v := 1) (pc' := 16) dX11_isWhale_15 (by decide) rfl ?_
      refine pa_goto (pc' := 20) dX11_isWhale_16 (by decide) ?_
      refine pa_iret dX11_isWhale_20 rfl rfl ?_
      exact ⟨by rw [if_pos ⟨by omega, by omega⟩], rfl⟩
theorem M_isWhale (hA : lPA A c h) (r15 : h.2.2.2.1 196 15 = some 199) (h1 : h.1 = hh_487.1) : zPa d mX12_isWhale [.inr (.inr (some 196)), .inl x] h (fun v h' => v = some (.inl (if 0 ≤ x.toInt ∧ x.toInt < (cH A : Int) then 1 else 0)) ∧ h' = h) := by
  intro N
  have s196 : zsh h 196 = some (12, 39) := zsh_by h1 (by decide +kernel)
  have s199 : zsh h 199 = some (14, 363) := zsh_by h1 (by decide +kernel)
  obtain ⟨b1, b2, b3, b4, b5⟩ := hA.1.2.2.1
  have e28 : ¬ (0 ≤ x.toInt ∧ x.toInt < (cH A : Int)) → ∀ N, zPn N none d mX12_isWhale (28, [(0, .inr (.inr (some 196))), (1, .inl x)], [], h) (fun v h' => v = some (.inl (if 0 ≤ x.toInt ∧ x.toInt < (cH A : Int) then 1 else 0)) ∧ h' = h) := fun z N => by
    refine pa_iconst (v := 0) (pc' := 29) dX12_isWhale_28 (by decide) rfl ?_
    refine pa_iret dX12_isWhale_29 rfl rfl ?_
    exact ⟨by rw [if_neg z], rfl⟩
  show zPn N none d mX12_isWhale (0, [(0, .inr (.inr (some 196))), (1, .inl x)], [], h) _
  rcases hA.2.2.2.2 with ⟨a, b⟩ | ⟨a, b, K⟩
  · refine pa_aload_n (pc' := 1) dX12_isWhale_0 rfl rfl ?_
    refine pa_getI (pc' := 4) (n := 39) (v := 0) dX12_isWhale_1 fl_12_180 s196 (by decide) a rfl ?_
    refine pa_if_t (pc' := 28) dX12_isWhale_4 (by decide) (by decide) ?_
    refine e28 (fun z => ?_) _
    rw [b] at z
    have : (cH pA0 : Int) = 0 := rfl
    omega
  · have k4 : h.2.1 199 6 = nI (cH A) := K.2.2.2.2.1
    refine pa_aload_n (pc' := 1) dX12_isWhale_0 rfl rfl ?_
    refine pa_getI (pc' := 4) (n := 39) (v := 1) dX12_isWhale_1 fl_12_180 s196 (by decide) a rfl ?_
    refine pa_if_f (pc' := 7) dX12_isWhale_4 (by decide) (by decide) rfl ?_
    refine pa_iload_n (pc' := 8) dX12_isWhale_7 rfl rfl ?_
    refine pa_iconst (v := 0) (pc' := 9) dX12_isWhale_8 (by decide) rfl ?_
    refine pa_aload_n (pc' := 10) dX12_isWhale_9 rfl rfl ?_
    refine pa_getR (pc' := 13) (n := 39) (r := 199) dX12_isWhale_10 fl_12_20 s196 (by decide) r15 rfl ?_
    refine pa_bipush (v := nI 6) (pc' := 15) dX12_isWhale_13 (by decide) rfl ?_
    refine pa_iald (pc' := 16) dX12_isWhale_15 s199 rfl (fun _ => ?_)
    rw [nI_clamp (by omega), k4]
    refine pa_iconst (v := 1) (pc' := 17) dX12_isWhale_16 (by decide) rfl ?_
    refine pa_isub (pc' := 18) dX12_isWhale_17 rfl rfl ?_
    refine pa_calls (pc' := 21) (kd := 1) (vs := [.inl x, .inl 0, .inl (nI (cH A) - 1)]) (rest := []) dX12_isWhale_18 ml_12_149 (.inl rfl) rfl rfl rfl (fun d' _ => zPa.of in_ex) (fun r h2 hq => ?_)
    obtain ⟨r, er, eh, hq⟩ := hq
    subst er; subst eh
    have e : (nI (cH A) - 1).toInt = (cH A : Int) - 1 := by
      rw [Int32.toInt_sub, nI_toInt (by omega)]
      exact bmod_fit (by have : (1 : Int32).toInt = 1 := by decide
                         omega) (by have : (1 : Int32).toInt = 1 := by decide
                                    omega)
    rw [e] at hq
    show zPn N none d mX12_isWhale (21, [(0, .inr (.inr (some 196))), (1, .inl x)], [.inl r], h2) _
    rcases hq with ⟨er, y⟩ | ⟨er, y⟩
    · subst er
      refine pa_if_f (pc' := 24) dX12_isWhale_21 (by decide) (by decide) rfl ?_
      refine pa_iconst (v := 1) (pc' := 25) dX12_isWhale_24 (by decide) rfl ?_
      refine pa_goto (pc' := 29) dX12_isWhale_25 (by decide) ?_
      refine pa_iret dX12_isWhale_29 rfl rfl ?_
      exact ⟨by rw [if_pos ⟨by omega, by omega⟩], rfl⟩
    · subst er
      refine pa_if_t (pc' := 28) dX12_isWhale_21 (by decide) (by decide) ?_
      exact e28 (by omega) _
theorem N_isBox (hA : lPA A c h) (h1 : h.1 = hh_487.1) : zPa d mX11_isBox [.inr (.inr (some 0)), .inl x] h (fun v h' => v = some (.inl (if 0 ≤ x.toInt ∧ x.toInt < (cB A : Int) then 1 else 0)) ∧ h' = h) := by
  intro N
  have s0 : zsh h 0 = some (11, 16) := zsh_by h1 (by decide +kernel)
  have sc := hA.sc h1
  have r3 := hA.2.2.1
  have k0 : (0 : Int32).toInt = 0 := by decide
  obtain ⟨b1, b2, b3, b4, b5⟩ := hA.1.2.2.1
  obtain ⟨-, -, e5, e6, e7, -⟩ := hA.2.2.2.1
  have e19 : ¬ (0 ≤ x.toInt ∧ x.toInt < (cB A : Int)) → ∀ N, zPn N none d mX11_isBox (19, [(0, .inr (.inr (some 0))), (1, .inl x)], [], h) (fun v h' => v = some (.inl (if 0 ≤ x.toInt ∧ x.toInt < (cB A : Int) then 1 else 0)) ∧ h' = h) := fun z N => by
    refine pa_iconst (v := 0) (pc' := 20) dX11_isBox_19 (by decide) rfl ?_
    refine pa_iret dX11_isBox_20 rfl rfl ?_
    exact ⟨by rw [if_neg z], rfl⟩
  show zPn N none d mX11_isBox (0, [(0, .inr (.inr (some 0))), (1, .inl x)], [], h) _
  refine pa_iload_n (pc' := 1) dX11_isBox_0 rfl rfl ?_
  refine pa_if (pc' := 19) (pc2 := 4) dX11_isBox_1 (by decide) rfl (fun z => ?_) (fun z => ?_)
  · have z := zi_lt z
    rw [k0] at z
    exact e19 (by omega) _
  · have z := zi_nlt z
    rw [k0] at z
    refine pa_iload_n (pc' := 5) dX11_isBox_4 rfl rfl ?_
    refine pa_aload_n (pc' := 6) dX11_isBox_5 rfl rfl ?_
    refine pa_getR (pc' := 9) (n := 16) (r := c) dX11_isBox_6 fl_11_23 s0 (by decide) r3 rfl ?_
    refine pa_getI (pc' := 12) (n := 15) (v := nI (cB A)) dX11_isBox_9 fl_11_239 sc (by decide) e7 rfl ?_
    refine pa_icmp (pc' := 19) (pc2 := 15) dX11_isBox_12 (by decide) rfl (fun y => ?_) (fun y => ?_)
    · have y := zi_nlt (zk_ge_lt y)
      rw [nI_toInt (by omega)] at y
      exact e19 (by omega) _
    · have y := zi_lt (zk_ge_lt y)
      rw [nI_toInt (by omega)] at y
      refine pa_iconst (v := 1) (pc' := 16) dX11_isBox_15 (by decide) rfl ?_
      refine pa_goto (pc' := 20) dX11_isBox_16 (by decide) ?_
      refine pa_iret dX11_isBox_20 rfl rfl ?_
      exact ⟨by rw [if_pos ⟨by omega, by omega⟩], rfl⟩
theorem M_isBox (hA : lPA A c h) (r15 : h.2.2.2.1 196 15 = some 199) (h1 : h.1 = hh_487.1) : zPa d mX12_isBox [.inr (.inr (some 196)), .inl x] h (fun v h' => v = some (.inl (if 0 ≤ x.toInt ∧ x.toInt < (cB A : Int) then 1 else 0)) ∧ h' = h) := by
  intro N
  have s196 : zsh h 196 = some (12, 39) := zsh_by h1 (by decide +kernel)
  have s199 : zsh h 199 = some (14, 363) := zsh_by h1 (by decide +kernel)
  obtain ⟨b1, b2, b3, b4, b5⟩ := hA.1.2.2.1
  have e28 : ¬ (0 ≤ x.toInt ∧ x.toInt < (cB A : Int)) → ∀ N, zPn N none d mX12_isBox (28, [(0, .inr (.inr (some 196))), (1, .inl x)], [], h) (fun v h' => v = some (.inl (if 0 ≤ x.toInt ∧ x.toInt < (cB A : Int) then 1 else 0)) ∧ h' = h) := fun z N => by
    refine pa_iconst (v := 0) (pc' := 29) dX12_isBox_28 (by decide) rfl ?_
    refine pa_iret dX12_isBox_29 rfl rfl ?_
    exact ⟨by rw [if_neg z], rfl⟩
  show zPn N none d mX12_isBox (0, [(0, .inr (.inr (some 196))), (1, .inl x)], [], h) _
  rcases hA.2.2.2.2 with ⟨a, b⟩ | ⟨a, b, K⟩
  · refine pa_aload_n (pc' := 1) dX12_isBox_0 rfl rfl ?_
    refine pa_getI (pc' := 4) (n := 39) (v := 0) dX12_isBox_1 fl_12_180 s196 (by decide) a rfl ?_
    refine pa_if_t (pc' := 28) dX12_isBox_4 (by decide) (by decide) ?_
    refine e28 (fun z => ?_) _
    rw [b] at z
    have : (cB pA0 : Int) = 0 := rfl
    omega
  · have k4 : h.2.1 199 7 = nI (cB A) := K.2.2.2.2.2.1
    refine pa_aload_n (pc' := 1) dX12_isBox_0 rfl rfl ?_
    refine pa_getI (pc' := 4) (n := 39) (v := 1) dX12_isBox_1 fl_12_180 s196 (by decide) a rfl ?_
    refine pa_if_f (pc' := 7) dX12_isBox_4 (by decide) (by decide) rfl ?_
    refine pa_iload_n (pc' := 8) dX12_isBox_7 rfl rfl ?_
    refine pa_iconst (v := 0) (pc' := 9) dX12_isBox_8 (by decide) rfl ?_
    refine pa_aload_n (pc' := 10) dX12_isBox_9 rfl rfl ?_
    refine pa_getR (pc' := 13) (n := 39) (r := 199) dX12_isBox_10 fl_12_20 s196 (by decide) r15 rfl ?_
    refine pa_bipush (v := nI 7) (pc' := 15) dX12_isBox_13 (by decide) rfl ?_
    refine pa_iald (pc' := 16) dX12_isBox_15 s199 rfl (fun _ => ?_)
    rw [nI_clamp (by omega), k4]
    refine pa_iconst (v := 1) (pc' := 17) dX12_isBox_16 (by decide) rfl ?_
    refine pa_isub (pc' := 18) dX12_isBox_17 rfl rfl ?_
    refine pa_calls (pc' := 21) (kd := 1) (vs := [.inl x, .inl 0, .inl (nI (cB A) - 1)]) (rest := []) dX12_isBox_18 ml_12_149 (.inl rfl) rfl rfl rfl (fun d' _ => zPa.of in_ex) (fun r h2 hq => ?_)
    obtain ⟨r, er, eh, hq⟩ := hq
    subst er; subst eh
    have e : (nI (cB A) - 1).toInt = (cB A : Int) - 1 := by
      rw [Int32.toInt_sub, nI_toInt (by omega)]
      exact bmod_fit (by have : (1 : Int32).toInt = 1 := by decide
                         omega) (by have : (1 : Int32).toInt = 1 := by decide
                                    omega)
    rw [e] at hq
    show zPn N none d mX12_isBox (21, [(0, .inr (.inr (some 196))), (1, .inl x)], [.inl r], h2) _
    rcases hq with ⟨er, y⟩ | ⟨er, y⟩
    · subst er
      refine pa_if_f (pc' := 24) dX12_isBox_21 (by decide) (by decide) rfl ?_
      refine pa_iconst (v := 1) (pc' := 25) dX12_isBox_24 (by decide) rfl ?_
      refine pa_goto (pc' := 29) dX12_isBox_25 (by decide) ?_
      refine pa_iret dX12_isBox_29 rfl rfl ?_
      exact ⟨by rw [if_pos ⟨by omega, by omega⟩], rfl⟩
    · subst er
      refine pa_if_t (pc' := 28) dX12_isBox_21 (by decide) (by decide) ?_
      exact e28 (by omega) _
end ISX
/-! send: what it makes of a state -/
def sntS (s : nS) (w b dy gl : Nat) : nS := (s.1, s.2.1, (fun k => if k = w then gl else s.2.2.1 k), (fun k => if k = w then dy else s.2.2.2.1 k), (fun k => if k = b then some (dy, gl) else s.2.2.2.2.1 k), s.2.2.2.2.2)
section SNO
variable {w b : Nat} {A : pA} {s : nS} {p : Nat × Nat × Nat}
theorem nSn_snd {dy gl : Nat} (hb : s.2.2.2.2.1 b = none) : ∀ n, nSn (sntS s w b dy gl) n = nSn s n + (if b < n then 1 else 0)
  | 0 => by rw [if_neg (Nat.not_lt_zero b)]; rfl
  | n + 1 => by
    show nSn (sntS s w b dy gl) n + (match (if n = b then some (dy, gl) else s.2.2.2.2.1 n) with | some _ => 1 | none => 0) = nSn s n + (match s.2.2.2.2.1 n with | some _ => 1 | none => 0) + (if b < n + 1 then 1 else 0)
    rw [nSn_snd hb n]
    by_cases z : n = b
    · subst z
      rw [if_pos rfl, hb, if_neg (Nat.lt_irrefl n), if_pos (Nat.lt_succ_self n)]
    · rw [if_neg z]
      by_cases y : b < n
      · rw [if_pos y, if_pos (by omega)]
        omega
      · rw [if_neg y, if_neg (by omega)]
        omega
/-- who brings: bounds -/
theorem brV_ok (hI : pI A) (hB : tB A) (hT : tA A) (hO : nOK A s) (hw : w < cH A) (hb : b < cB A) (e : brV A s w b = some p) : s.2.2.2.2.1 b = none ∧ p.2.2 < cI A ∧ p.2.1 + nu A (109 + 4 * w) ≤ 88722 * (nSn s (cB A) + 1) := by
  obtain ⟨-, hwh, -⟩ := hO
  obtain ⟨-, frl⟩ := hwh w hw
  obtain ⟨-, -, kp9, -, -⟩ := num_whale hI hB hT hw
  obtain ⟨bf, -, -, bdy, -⟩ := num_box hI hB hT hb
  unfold brV at e
  cases o : s.2.2.2.2.1 b with
  | some q =>
    rw [o] at e
    cases e
  | none =>
    rw [o] at e
    dsimp only at e
    refine ⟨rfl, ?_⟩
    split at e
    · cases e
    · unfold brG at e
      split at e
      · cases e
      · next z =>
        split at e
        · cases e
        · next x ex =>
          split at e
          · cases e
          · next y ey =>
            cases e
            have l1 := dyD_le hI hB hT ex
            have l2 := dyD_le hI hB hT ey
            refine ⟨dyD_lt hB hI hT bf ey, ?_⟩
            show y + nu A (109 + 4 * w) ≤ _
            have := Nat.max_le.mpr ⟨show x ≤ 88722 * nSn s (cB A) + 39312 by omega, show nu A (130 + 4 * b) ≤ 88722 * nSn s (cB A) + 39312 by omega⟩
            omega
theorem snd_ok (hI : pI A) (hB : tB A) (hT : tA A) (hO : nOK A s) (hw : w < cH A) (hb : b < cB A) (e : brV A s w b = some p) : nOK A (sntS s w b (p.2.1 + nu A (109 + 4 * w)) p.2.2) := by
  obtain ⟨e1, e2, e3⟩ := brV_ok hI hB hT hO hw hb e
  have n1 : nSn (sntS s w b (p.2.1 + nu A (109 + 4 * w)) p.2.2) (cB A) = nSn s (cB A) + 1 := by rw [nSn_snd e1, if_pos hb]
  obtain ⟨hy, hwh, hbx⟩ := hO
  refine ⟨hy, fun k hk => ?_, fun k hk => ?_⟩
  · rw [n1]
    show (if k = w then p.2.2 else s.2.2.1 k) < cI A ∧ (if k = w then p.2.1 + nu A (109 + 4 * w) else s.2.2.2.1 k) ≤ _
    by_cases z : k = w
    · rw [if_pos z, if_pos z]
      exact ⟨e2, e3⟩
    · rw [if_neg z, if_neg z]
      have := hwh k hk
      exact ⟨this.1, by omega⟩
  · obtain ⟨a1, a2, a3⟩ := hbx k hk
    refine ⟨a1, a2, fun q hq => ?_⟩
    rw [n1]
    have hq : (if k = b then some (p.2.1 + nu A (109 + 4 * w), p.2.2) else s.2.2.2.2.1 k) = some q := hq
    by_cases z : k = b
    · rw [if_pos z] at hq
      cases hq
      exact ⟨e2, e3⟩
    · rw [if_neg z] at hq
      have := a3 q hq
      exact ⟨this.1, by omega⟩
end SNO
/-! the class: send -/
/-- what a call may write: the answer's number, history, now, the days and songs at work -/
def nwG (h g : zH) : Prop := g.1 = h.1 ∧ g.2.2 = h.2.2 ∧ (∀ k, k ≠ 2 → k ≠ 12 → k ≠ 13 → k ≠ 15 → g.2.1 0 k = h.2.1 0 k) ∧ ∀ b k, b ≠ 0 → ¬ (86 ≤ b ∧ b ≤ 95) → ¬ (106 ≤ b ∧ b ≤ 195) → g.2.1 b k = h.2.1 b k
section CSN
variable {d N c w b : Nat} {h g : zH} {A : pA} {s : nS} {H J : List nS} {x y : Int32}
/-- a box: then there is a post -/
theorem lPA.has (hA : lPA A c h) (hb : b < cB A) : cI A ≠ 0 := by
  rcases hA.2.2.2.2 with ⟨-, e⟩ | ⟨-, z, -⟩
  · rw [e] at hb
    exact absurd hb (Nat.not_lt_zero b)
  · exact z
theorem nwF.G (f : nwF h g) : nwG h g := ⟨f.1, f.2.1, f.2.2.1, fun b k e1 e2 e3 => f.2.2.2 b k e1 (by omega) e3⟩
theorem gF3.G (f : gF3 h g) : nwG h g := ⟨f.1, f.2.1, fun k _ _ _ _ => f.2.2 0 k (by decide) (by decide) (by decide), fun b k _ e2 _ => f.2.2 b k (by omega) (by omega) (by omega)⟩
theorem nwG.tr {f : zH} (a : nwG h g) (b : nwG g f) : nwG h f := ⟨b.1.trans a.1, b.2.1.trans a.2.1, fun k e0 e1 e2 e3 => (b.2.2.1 k e0 e1 e2 e3).trans (a.2.2.1 k e0 e1 e2 e3), fun c k e1 e2 e3 => (b.2.2.2 c k e1 e2 e3).trans (a.2.2.2 c k e1 e2 e3)⟩
theorem lNC.g3 (L : lNC A s H J h) (f : gF3 h g) : lNC A s H J g := by
  have f := f.2.2
  obtain ⟨L1, ⟨nw, hn, e12, e13, hl, hh⟩, j1, j2, j3⟩ := L
  refine ⟨L1.fr (fun b k w1 w2 => f b k (by omega) (by omega) (by omega)), ⟨nw, hn, (f 0 12 (by decide) (by decide) (by decide)).trans e12, (f 0 13 (by decide) (by decide) (by decide)).trans e13, hl, fun k t hk => (hh k t hk).fr (fun b j w1 w2 => f b j (by omega) (by omega) (by omega))⟩, (f 0 15 (by decide) (by decide) (by decide)).trans j1, j2, fun k t hk => (j3 k t hk).fr (fun b j w1 w2 => f b j (by omega) (by omega) (by omega))⟩
theorem C_send (S : nwS h) (hA : lPA A c h) (r8 : h.2.2.2.1 0 8 = some 94) (B : cI A ≠ 0 → bgC A c s h) (L : lNC A s H J h) : zPa d mX11_send [.inr (.inr (some 0)), .inl x, .inl y] h (fun v g => nwG h g ∧ ((¬ ((0 ≤ x.toInt ∧ x.toInt < (cH A : Int)) ∧ 0 ≤ y.toInt ∧ y.toInt < (cB A : Int)) ∧ v = some (.inl (-1)) ∧ g.2.1 0 2 = 1 ∧ lNC A s H J g) ∨ ∃ w b, x = nI w ∧ y = nI b ∧ w < cH A ∧ b < cB A ∧ ((brV A s w b = none ∧ v = some (.inl (-1)) ∧ g.2.1 0 2 = 5 ∧ lNC A s H J g) ∨ ∃ p, brV A s w b = some p ∧ v = some (.inl (nI (p.2.1 + nu A (109 + 4 * w)))) ∧ g.2.1 0 2 = 0 ∧ lNC A (sntS s w b (p.2.1 + nu A (109 + 4 * w)) p.2.2) ((s :: H).take 12) J g))) := by
  intro N
  have hI := hA.1
  obtain ⟨b1, b2, b3, b4, b5⟩ := hI.2.2.1
  have s0 : zsh h 0 = some (11, 16) := zsh_by S.1 (by decide +kernel)
  have ref : ¬ ((0 ≤ x.toInt ∧ x.toInt < (cH A : Int)) ∧ 0 ≤ y.toInt ∧ y.toInt < (cB A : Int)) → ∀ N, zPn N none d mX11_send (16, [(0, .inr (.inr (some 0))), (1, .inl x), (2, .inl y)], [], h) (fun v g => nwG h g ∧ ((¬ ((0 ≤ x.toInt ∧ x.toInt < (cH A : Int)) ∧ 0 ≤ y.toInt ∧ y.toInt < (cB A : Int)) ∧ v = some (.inl (-1)) ∧ g.2.1 0 2 = 1 ∧ lNC A s H J g) ∨ ∃ w b, x = nI w ∧ y = nI b ∧ w < cH A ∧ b < cB A ∧ ((brV A s w b = none ∧ v = some (.inl (-1)) ∧ g.2.1 0 2 = 5 ∧ lNC A s H J g) ∨ ∃ p, brV A s w b = some p ∧ v = some (.inl (nI (p.2.1 + nu A (109 + 4 * w)))) ∧ g.2.1 0 2 = 0 ∧ lNC A (sntS s w b (p.2.1 + nu A (109 + 4 * w)) p.2.2) ((s :: H).take 12) J g))) := fun hr N => by
    refine pa_aload_n (pc' := 17) dX11_send_16 rfl rfl ?_
    refine pa_iconst (v := nI 1) (pc' := 18) dX11_send_17 (by decide) rfl ?_
    refine pa_callv (pc' := 21) (vs := [.inl (nI 1)]) (rest := []) dX11_send_18 ml_11_98 (by decide) rfl rfl rfl (fun d' _ => (c_ref s0)) (fun v g hq => ?_)
    obtain ⟨ev, eh⟩ := hq
    subst ev
    show zPn N none d mX11_send (21, _, [.inl ((-1))], g) _
    subst eh
    refine pa_iret dX11_send_21 rfl rfl ?_
    exact ⟨nwF.t2.G, .inl ⟨hr, rfl, by rw [zsI_at, if_pos ⟨rfl, rfl⟩]; rfl, L.t2⟩⟩
  show zPn N none d mX11_send (0, [(0, .inr (.inr (some 0))), (1, .inl x), (2, .inl y)], [], h) _
  refine pa_aload_n (pc' := 1) dX11_send_0 rfl rfl ?_
  refine pa_iload_n (pc' := 2) dX11_send_1 rfl rfl ?_
  refine pa_callv (pc' := 5) (vs := [.inl x]) (rest := []) dX11_send_2 ml_11_121 (by decide) rfl rfl rfl (fun d' _ => (N_isWhale hA S.1)) (fun v g9 hq => ?_)
  obtain ⟨ev, eh⟩ := hq
  subst ev
  rw [eh]
  show zPn N none d mX11_send (5, _, [.inl (if 0 ≤ x.toInt ∧ x.toInt < (cH A:Int) then 1 else 0)], h) _
  by_cases hx : 0 ≤ x.toInt ∧ x.toInt < (cH A : Int)
  case neg =>
    rw [if_neg hx]
    refine pa_if_t (pc' := 16) dX11_send_5 (by decide) (by decide) ?_
    exact ref (fun q => hx q.1) _
  rw [if_pos hx]
  refine pa_if_f (pc' := 8) dX11_send_5 (by decide) (by decide) rfl ?_
  refine pa_aload_n (pc' := 9) dX11_send_8 rfl rfl ?_
  refine pa_iload_n (pc' := 10) dX11_send_9 rfl rfl ?_
  refine pa_callv (pc' := 13) (vs := [.inl y]) (rest := []) dX11_send_10 ml_11_147 (by decide) rfl rfl rfl (fun d' _ => (N_isBox hA S.1)) (fun v g9 hq => ?_)
  obtain ⟨ev, eh⟩ := hq
  subst ev
  rw [eh]
  show zPn N none d mX11_send (13, _, [.inl (if 0 ≤ y.toInt ∧ y.toInt < (cB A:Int) then 1 else 0)], h) _
  by_cases hy : 0 ≤ y.toInt ∧ y.toInt < (cB A : Int)
  case neg =>
    rw [if_neg hy]
    refine pa_if_f (pc' := 16) dX11_send_13 (by decide) (by decide) rfl ?_
    exact ref (fun q => hy q.2) _
  rw [if_pos hy]
  refine pa_if_t (pc' := 22) dX11_send_13 (by decide) (by decide) ?_
  obtain ⟨w, ew, hw⟩ : ∃ w : Nat, x = nI w ∧ w < cH A := ⟨x.toInt.toNat, Int32.toInt_inj.mp (by rw [nI_toInt (by omega)]; omega), by omega⟩
  obtain ⟨b, eb, hb⟩ : ∃ b : Nat, y = nI b ∧ b < cB A := ⟨y.toInt.toNat, Int32.toInt_inj.mp (by rw [nI_toInt (by omega)]; omega), by omega⟩
  subst ew
  subst eb
  clear ref
  have B := B (hA.has hb)
  obtain ⟨-, hT, hB, hO⟩ := B.1
  refine pa_aload_n (pc' := 23) dX11_send_22 rfl rfl ?_
  refine pa_getR (pc' := 26) (n := 16) (r := 94) dX11_send_23 fl_11_60 s0 (by decide) r8 rfl ?_
  refine pa_iload_n (pc' := 27) dX11_send_26 rfl rfl ?_
  refine pa_iload_n (pc' := 28) dX11_send_27 rfl rfl ?_
  refine pa_callv (pc' := 31) (vs := [.inl (nI w), .inl (nI b)]) (rest := []) dX11_send_28 ml_11_283 (by decide) rfl rfl rfl (fun d' _ => (N_brings B hw hb)) (fun v g hq => ?_)
  obtain ⟨ev, eh⟩ := hq
  subst ev
  show zPn N none d mX11_send (31, _, [.inl (brR A w (brV A s w b))], g) _
  refine pa_istore_n (pc' := 32) dX11_send_31 (by decide) rfl rfl ?_
  refine pa_iload_n (pc' := 33) dX11_send_32 rfl rfl ?_
  refine pa_bipush (v := (-2)) (pc' := 35) dX11_send_33 (by decide) rfl ?_
  obtain ⟨fg, hp⟩ := eh
  have t0 : zsh g 0 = some (11, 16) := by unfold zsh; rw [fg.1]; exact s0
  have Sg := S.fr fg.1 fg.2.1
  have Lg := L.g3 fg
  cases e : brV A s w b with
  | none =>
    refine pa_icmp_f (pc' := 38) dX11_send_35 (show zcond .ne (-2 : Int32) (-2) = false by decide) (by decide) rfl ?_
    refine pa_aload_n (pc' := 39) dX11_send_38 rfl rfl ?_
    refine pa_iconst (v := nI 5) (pc' := 40) dX11_send_39 (by decide) rfl ?_
    refine pa_callv (pc' := 43) (vs := [.inl (nI 5)]) (rest := []) dX11_send_40 ml_11_98 (by decide) rfl rfl rfl (fun d' _ => (c_ref t0)) (fun v g4 hq => ?_)
    obtain ⟨ev, eh⟩ := hq
    subst ev
    show zPn N none d mX11_send (43, _, [.inl ((-1))], g4) _
    subst eh
    refine pa_iret dX11_send_43 rfl rfl ?_
    exact ⟨fg.G.tr nwF.t2.G, .inr ⟨w, b, rfl, rfl, hw, hb, .inl ⟨e, rfl, by rw [zsI_at, if_pos ⟨rfl, rfl⟩]; rfl, Lg.t2⟩⟩⟩
  | some p =>
    obtain ⟨v1, v2, v3⟩ := brV_ok hI hB hT hO hw hb e
    obtain ⟨p4, -, -⟩ := hp p e
    have n8 : nSn s (cB A) + 1 ≤ cB A := nSn_lt v1 _ hb
    generalize eD : p.2.1 + nu A (109 + 4 * w) = D at *
    have hD : D ≤ 709776 := by omega
    have hR : brR A w (some p) = nI D := by
      show nI (p.2.1 + nu A (109 + 4 * w)) = nI D
      rw [eD]
    rw [hR]
    refine pa_icmp_t (pc' := 44) dX11_send_35 (decide_eq_true (fun q => by have := congrArg Int32.toInt q; rw [nI_toInt (by omega), show (-2 : Int32).toInt = -2 by decide] at this; omega)) (by decide) ?_
    refine pa_aload_n (pc' := 45) dX11_send_44 rfl rfl ?_
    refine pa_callv (pc' := 48) (vs := []) (rest := []) dX11_send_45 ml_11_341 (by decide) rfl rfl rfl (fun d' _ => (N_keep Sg b3 b4 Lg)) (fun v g5 hq => ?_)
    obtain ⟨ev, eh⟩ := hq
    subst ev
    show zPn N none d mX11_send (48, _, [], g5) _
    obtain ⟨L5, F5⟩ := eh
    have S5 := Sg.fr F5.1 F5.2.1
    have q0 : zsh g5 0 = some (11, 16) := zsh_by S5.1 (by decide +kernel)
    have q86 : zsh g5 86 = some (2, 7) := zsh_by S5.1 (by decide +kernel)
    have q87 : zsh g5 87 = some (14, 5) := zsh_by S5.1 (by decide +kernel)
    have q88 : zsh g5 88 = some (14, 5) := zsh_by S5.1 (by decide +kernel)
    have q89 : zsh g5 89 = some (14, 8) := zsh_by S5.1 (by decide +kernel)
    have q90 : zsh g5 90 = some (14, 8) := zsh_by S5.1 (by decide +kernel)
    have q94 : zsh g5 94 = some (6, 7) := zsh_by S5.1 (by decide +kernel)
    have x6 := S5.2.1
    obtain ⟨y2, y3, y4, y5, -⟩ := S5.o86.2
    have x8 : g5.2.2.2.1 0 8 = some 94 := by rw [F5.2.1, fg.2.1]; exact r8
    have w4 : g5.2.1 94 4 = nI p.2.2 := (F5.2.2.2 94 4 (by decide) (by omega) (by omega)).trans p4
    refine pa_aload_n (pc' := 49) dX11_send_48 rfl rfl ?_
    refine pa_getR (pc' := 52) (n := 16) (r := 86) dX11_send_49 fl_11_42 q0 (by decide) x6 rfl ?_
    refine pa_getR (pc' := 55) (n := 7) (r := 87) dX11_send_52 fl_11_134 q86 (by decide) y2 rfl ?_
    refine pa_iload_n (pc' := 56) dX11_send_55 rfl rfl ?_
    refine pa_aload_n (pc' := 57) dX11_send_56 rfl rfl ?_
    refine pa_getR (pc' := 60) (n := 16) (r := 94) dX11_send_57 fl_11_60 q0 (by decide) x8 rfl ?_
    refine pa_getI (pc' := 63) (n := 7) (v := nI p.2.2) dX11_send_60 fl_11_344 q94 (by decide) w4 rfl ?_
    refine pa_iast (pc' := 64) dX11_send_63 q87 rfl (fun _ => ?_)
    rw [nI_clamp (by omega)]
    refine pa_aload_n (pc' := 65) dX11_send_64 rfl rfl ?_
    refine pa_getR (pc' := 68) (n := 16) (r := 86) dX11_send_65 fl_11_42 q0 (by decide) x6 rfl ?_
    refine pa_getR (pc' := 71) (n := 7) (r := 88) dX11_send_68 fl_11_138 q86 (by decide) y3 rfl ?_
    refine pa_iload_n (pc' := 72) dX11_send_71 rfl rfl ?_
    refine pa_iload_n (pc' := 73) dX11_send_72 rfl rfl ?_
    refine pa_iast (pc' := 74) dX11_send_73 q88 rfl (fun _ => ?_)
    rw [nI_clamp (by omega)]
    refine pa_aload_n (pc' := 75) dX11_send_74 rfl rfl ?_
    refine pa_getR (pc' := 78) (n := 16) (r := 86) dX11_send_75 fl_11_42 q0 (by decide) x6 rfl ?_
    refine pa_getR (pc' := 81) (n := 7) (r := 89) dX11_send_78 fl_11_168 q86 (by decide) y4 rfl ?_
    refine pa_iload_n (pc' := 82) dX11_send_81 rfl rfl ?_
    refine pa_iload_n (pc' := 83) dX11_send_82 rfl rfl ?_
    refine pa_iast (pc' := 84) dX11_send_83 q89 rfl (fun _ => ?_)
    rw [nI_clamp (by omega)]
    refine pa_aload_n (pc' := 85) dX11_send_84 rfl rfl ?_
    refine pa_getR (pc' := 88) (n := 16) (r := 86) dX11_send_85 fl_11_42 q0 (by decide) x6 rfl ?_
    refine pa_getR (pc' := 91) (n := 7) (r := 90) dX11_send_88 fl_11_171 q86 (by decide) y5 rfl ?_
    refine pa_iload_n (pc' := 92) dX11_send_91 rfl rfl ?_
    refine pa_aload_n (pc' := 93) dX11_send_92 rfl rfl ?_
    refine pa_getR (pc' := 96) (n := 16) (r := 94) dX11_send_93 fl_11_60 q0 (by decide) x8 rfl ?_
    refine pa_getI (pc' := 99) (n := 7) (v := nI p.2.2) dX11_send_96 fl_11_344 q94 (by decide) ((zsI_no (by omega)).trans ((zsI_no (by omega)).trans ((zsI_no (by omega)).trans w4))) rfl ?_
    refine pa_iast (pc' := 100) dX11_send_99 q90 rfl (fun _ => ?_)
    rw [nI_clamp (by omega)]
    refine pa_aload_n (pc' := 101) dX11_send_100 rfl rfl ?_
    refine pa_iload_n (pc' := 102) dX11_send_101 rfl rfl ?_
    refine pa_callv (pc' := 105) (vs := [.inl (nI D)]) (rest := []) dX11_send_102 ml_11_112 (by decide) rfl rfl rfl (fun d' _ => (c_gra q0)) (fun v g6 hq => ?_)
    obtain ⟨ev, eh⟩ := hq
    subst ev
    show zPn N none d mX11_send (105, _, [.inl (nI D)], g6) _
    subst eh
    generalize e6 : zsI (zsI (zsI (zsI (zsI g5 87 w (nI p.2.2)) 88 w (nI D)) 89 b (nI D)) 90 b (nI p.2.2)) 0 2 0 = g6
    refine pa_iret dX11_send_105 rfl rfl ?_
    have at' : ∀ a k, g6.2.1 a k = if a = 0 ∧ k = 2 then 0 else if a = 90 ∧ k = b then nI p.2.2 else if a = 89 ∧ k = b then nI D else if a = 88 ∧ k = w then nI D else if a = 87 ∧ k = w then nI p.2.2 else g5.2.1 a k := fun a k => by
      rw [← e6, zsI_at, zsI_at, zsI_at, zsI_at, zsI_at]
    have F6 : nwF g5 g6 := ⟨by rw [← e6]; rfl, by rw [← e6]; rfl, fun k w0 w1 w2 w3 => by rw [at', if_neg (by omega), if_neg (by omega), if_neg (by omega), if_neg (by omega), if_neg (by omega)], fun a k w1 w2 w3 => by rw [at', if_neg (by omega), if_neg (by omega), if_neg (by omega), if_neg (by omega), if_neg (by omega)]⟩
    have out : ∀ a k, 106 ≤ a → g6.2.1 a k = g5.2.1 a k := fun a k w1 => by rw [at', if_neg (by omega), if_neg (by omega), if_neg (by omega), if_neg (by omega), if_neg (by omega)]
    have out0 : ∀ k, k ≠ 2 → g6.2.1 0 k = g5.2.1 0 k := fun k w1 => by rw [at', if_neg (by omega), if_neg (by omega), if_neg (by omega), if_neg (by omega), if_neg (by omega)]
    refine ⟨fg.G.tr (F5.G.tr F6.G), .inr ⟨w, b, rfl, rfl, hw, hb, .inr ⟨p, e, by rw [eD], by rw [at', if_pos ⟨rfl, rfl⟩], ?_⟩⟩⟩
    rw [eD]
    obtain ⟨⟨n1, n2, n3, n4⟩, ⟨nw, hn, e12, e13, hl, hh⟩, j1, j2, j3⟩ := L5
    refine ⟨⟨?_, ?_, fun k hk => ⟨?_, ?_⟩, fun k hk => ⟨?_, ?_, ?_⟩⟩, ⟨nw, hn, (out0 12 (by decide)).trans e12, (out0 13 (by decide)).trans e13, hl, fun k t hk => (hh k t hk).fr (fun a j w1 w2 => out a j (by omega))⟩, (out0 15 (by decide)).trans j1, j2, fun k t hk => (j3 k t hk).fr (fun a j w1 w2 => out a j (by omega))⟩
    · rw [at', if_neg (by omega), if_neg (by omega), if_neg (by omega), if_neg (by omega), if_neg (by omega)]
      exact n1
    · rw [at', if_neg (by omega), if_neg (by omega), if_neg (by omega), if_neg (by omega), if_neg (by omega)]
      exact n2
    · rw [at', if_neg (by omega), if_neg (by omega), if_neg (by omega), if_neg (by omega)]
      show _ = nI (if k = w then p.2.2 else s.2.2.1 k)
      by_cases z : k = w
      · rw [if_pos ⟨rfl, z⟩, if_pos z]
      · rw [if_neg (fun q => z q.2), if_neg z]
        exact (n3 k hk).1
    · rw [at', if_neg (by omega), if_neg (by omega), if_neg (by omega)]
      show _ = nI (if k = w then D else s.2.2.2.1 k)
      by_cases z : k = w
      · rw [if_pos ⟨rfl, z⟩, if_pos z]
      · rw [if_neg (fun q => z q.2), if_neg (by omega), if_neg z]
        exact (n3 k hk).2
    · rw [at', if_neg (by omega), if_neg (by omega)]
      show _ = sDy (if k = b then some (D, p.2.2) else s.2.2.2.2.1 k)
      by_cases z : k = b
      · rw [if_pos ⟨rfl, z⟩, if_pos z]
        rfl
      · rw [if_neg (fun q => z q.2), if_neg (by omega), if_neg (by omega), if_neg z]
        exact (n4 k hk).1
    · rw [at', if_neg (by omega)]
      show _ = sGo (if k = b then some (D, p.2.2) else s.2.2.2.2.1 k)
      by_cases z : k = b
      · rw [if_pos ⟨rfl, z⟩, if_pos z]
        rfl
      · rw [if_neg (fun q => z q.2), if_neg (by omega), if_neg (by omega), if_neg (by omega), if_neg z]
        exact (n4 k hk).2.1
    · rw [at', if_neg (by omega), if_neg (by omega), if_neg (by omega), if_neg (by omega), if_neg (by omega)]
      exact (n4 k hk).2.2
end CSN
/-! the reference: send -/
def mwG (h g : zH) : Prop := g.1 = h.1 ∧ g.2.2 = h.2.2 ∧ (∀ k, k ≠ 0 → k ≠ 11 → k ≠ 20 → k ≠ 21 → k ≠ 26 → k ≠ 27 → g.2.1 196 k = h.2.1 196 k) ∧ ∀ b k, b ≠ 196 → b ≠ 201 → b ≠ 202 → b ≠ 203 → b ≠ 205 → b ≠ 206 → g.2.1 b k = h.2.1 b k
section MFR
variable {q o : Nat} {h g : zH} {A : pA} {s : nS} {H J : List nS}
theorem nMo.fr (e : ∀ k, g.2.1 q k = h.2.1 q k) (n : nMo A s q o h) : nMo A s q o g := by
  obtain ⟨n1, n2, n3, n4⟩ := n
  exact ⟨(e _).trans n1, (e _).trans n2, fun w hw => ⟨(e _).trans (n3 w hw).1, (e _).trans (n3 w hw).2⟩, fun b hb => ⟨(e _).trans (n4 b hb).1, (e _).trans (n4 b hb).2.1, fun k hk => (e _).trans ((n4 b hb).2.2 k hk)⟩⟩
theorem lNM.fr (L : lNM A s H J h) (e : ∀ a j, 201 ≤ a ∧ a ≤ 203 → g.2.1 a j = h.2.1 a j) (e20 : g.2.1 196 20 = h.2.1 196 20) (e21 : g.2.1 196 21 = h.2.1 196 21) : lNM A s H J g := by
  obtain ⟨⟨L1, l1⟩, ⟨a1, a2, a3⟩, b1, b2, b3⟩ := L
  exact ⟨⟨L1.fr (fun k => e _ _ (by decide)), l1⟩, ⟨e20.trans a1, a2, fun k t hk => ⟨(a3 k t hk).1.fr (fun k => e _ _ (by decide)), (a3 k t hk).2⟩⟩, e21.trans b1, b2, fun k t hk => ⟨(b3 k t hk).1.fr (fun k => e _ _ (by decide)), (b3 k t hk).2⟩⟩
end MFR
section MSN
variable {d N c w b : Nat} {h g : zH} {A : pA} {s : nS} {H J : List nS} {x y : Int32} {p : Nat × Nat × Nat}
theorem mwF.G (f : mwF h g) : mwG h g := ⟨f.1, f.2.1, fun k e1 e2 e3 e4 _ _ => f.2.2.1 k e1 e2 e3 e4, fun b k e1 e2 e3 e4 _ _ => f.2.2.2 b k e1 e2 e3 e4⟩
theorem gF4.G (f : gF4 h g) : mwG h g := ⟨f.1, f.2.1, fun k _ _ _ _ e5 e6 => f.2.2 196 k (by decide) (by decide) (fun _ => ⟨e5, e6⟩), fun b k e1 _ _ _ e5 e6 => f.2.2 b k e5 e6 (fun z => absurd z e1)⟩
theorem mwG.tr {f : zH} (a : mwG h g) (b : mwG g f) : mwG h f := ⟨b.1.trans a.1, b.2.1.trans a.2.1, fun k e1 e2 e3 e4 e5 e6 => (b.2.2.1 k e1 e2 e3 e4 e5 e6).trans (a.2.2.1 k e1 e2 e3 e4 e5 e6), fun c k e1 e2 e3 e4 e5 e6 => (b.2.2.2 c k e1 e2 e3 e4 e5 e6).trans (a.2.2.2 c k e1 e2 e3 e4 e5 e6)⟩
theorem mwS.fr (S : mwS h) (e1 : g.1 = h.1) (e2 : g.2.2 = h.2.2) : mwS g := by
  unfold mwS at S ⊢
  rw [e1, e2]
  exact S
theorem brV_he (hI : pI A) (e : brV A s w b = some p) : heA A (s.2.2.2.2.2 b) s.1 = nI p.2.2 := by
  unfold brV at e
  split at e
  · cases e
  · split at e
    · cases e
    · rcases heA_i hI (s.2.2.2.2.2 b) s.1 with z | ⟨q, -, z1, z2, z3, -⟩
      · rw [z] at e
        unfold brG at e
        rw [if_pos rfl] at e
        cases e
      · unfold brG at e
        rw [if_neg z3, z2] at e
        split at e
        · cases e
        · split at e
          · cases e
          · cases e
            exact z1
theorem M_send (S : mwS h) (hA : lPA A c h) (r15 : h.2.2.2.1 196 15 = some 199) (B : cI A ≠ 0 → bgM A s h) (L : lNM A s H J h) : zPa d mX12_send [.inr (.inr (some 196)), .inl x, .inl y] h (fun v g => mwG h g ∧ ((¬ ((0 ≤ x.toInt ∧ x.toInt < (cH A : Int)) ∧ 0 ≤ y.toInt ∧ y.toInt < (cB A : Int)) ∧ v = some (.inl (-1)) ∧ g.2.1 196 11 = 1 ∧ lNM A s H J g) ∨ ∃ w b, x = nI w ∧ y = nI b ∧ w < cH A ∧ b < cB A ∧ ((brV A s w b = none ∧ v = some (.inl (-1)) ∧ g.2.1 196 11 = 5 ∧ lNM A s H J g) ∨ ∃ p, brV A s w b = some p ∧ v = some (.inl (nI (p.2.1 + nu A (109 + 4 * w)))) ∧ g.2.1 196 11 = 0 ∧ lNM A (sntS s w b (p.2.1 + nu A (109 + 4 * w)) p.2.2) ((s :: H).take 12) J g))) := by
  intro N
  have hI := hA.1
  obtain ⟨b1, b2, b3, b4, b5⟩ := hI.2.2.1
  have s196 : zsh h 196 = some (12, 39) := zsh_by S.1 (by decide +kernel)
  generalize eh1 : zsI (zsI h 196 0 0) 196 11 0 = h1
  have F1 : mwF h h1 := by rw [← eh1]; exact mwF.gd
  have t11 : h1.2.1 196 11 = 0 := by rw [← eh1, zsI_at, if_pos ⟨rfl, rfl⟩]
  have L1 : lNM A s H J h1 := L.ch b3 b4 (fun b k w1 w2 w3 => by rw [← eh1, zsI_at, zsI_at, if_neg (by omega), if_neg (by omega)])
  have S1 : mwS h1 := S.fr F1.1 F1.2.1
  have hA1 : lPA A c h1 := by rw [← eh1]; exact hA.gd
  have B1 : cI A ≠ 0 → bgM A s h1 := fun z0 => by
    obtain ⟨B1, B2, B3, ⟨n1, n2, n3, n4⟩, B5, B6⟩ := B z0
    have e : ∀ a k, a ≠ 196 → h1.2.1 a k = h.2.1 a k := fun a k ha => by rw [← eh1, zsI_at, zsI_at, if_neg (fun q => ha q.1), if_neg (fun q => ha q.1)]
    refine ⟨B1, ?_, ?_, ⟨(e _ _ (by decide)).trans n1, (e _ _ (by decide)).trans n2, fun w hw => ⟨(e _ _ (by decide)).trans (n3 w hw).1, (e _ _ (by decide)).trans (n3 w hw).2⟩, fun b hb => ⟨(e _ _ (by decide)).trans (n4 b hb).1, (e _ _ (by decide)).trans (n4 b hb).2.1, fun k hk => (e _ _ (by decide)).trans ((n4 b hb).2.2 k hk)⟩⟩, fun w hw j hj => (e _ _ (by decide)).trans (B5 w hw j hj), fun b hb j hj => (e _ _ (by decide)).trans (B6 b hb j hj)⟩
    · obtain ⟨k1, k2, k3, k4, ⟨k5, k6, k7⟩, k8⟩ := B2
      refine ⟨F1.1.trans k1, k2, k3, by rw [F1.2.1]; exact k4, ⟨(e _ _ (by decide)).trans k5, (e _ _ (by decide)).trans k6, (e _ _ (by decide)).trans k7⟩, fun k hk => ?_⟩
      rw [e _ _ (by decide), e _ _ (by decide), e _ _ (by decide), e _ _ (by decide)]
      exact k8 k hk
    · obtain ⟨k1, k2, ⟨k3, k4, k5, k6⟩, k7, k8⟩ := B3
      refine ⟨F1.1.trans k1, by rw [F1.2.1]; exact k2, ⟨(e _ _ (by decide)).trans k3, (e _ _ (by decide)).trans k4, (e _ _ (by decide)).trans k5, (e _ _ (by decide)).trans k6⟩, k7, fun i hi => ?_⟩
      obtain ⟨a1, a2, a3⟩ := k8 i hi
      exact ⟨(e _ _ (by decide)).trans a1, fun k hk => (e _ _ (by decide)).trans (a2 k hk), a3⟩
  have q15 : h1.2.2.2.1 196 15 = some 199 := by rw [← eh1]; exact r15
  have z196 : zsh h1 196 = some (12, 39) := by rw [← eh1]; exact s196
  have ref : ¬ ((0 ≤ x.toInt ∧ x.toInt < (cH A : Int)) ∧ 0 ≤ y.toInt ∧ y.toInt < (cB A : Int)) → ∀ N, zPn N none d mX12_send (20, [(0, .inr (.inr (some 196))), (1, .inl x), (2, .inl y)], [], h1) (fun v g => mwG h g ∧ ((¬ ((0 ≤ x.toInt ∧ x.toInt < (cH A : Int)) ∧ 0 ≤ y.toInt ∧ y.toInt < (cB A : Int)) ∧ v = some (.inl (-1)) ∧ g.2.1 196 11 = 1 ∧ lNM A s H J g) ∨ ∃ w b, x = nI w ∧ y = nI b ∧ w < cH A ∧ b < cB A ∧ ((brV A s w b = none ∧ v = some (.inl (-1)) ∧ g.2.1 196 11 = 5 ∧ lNM A s H J g) ∨ ∃ p, brV A s w b = some p ∧ v = some (.inl (nI (p.2.1 + nu A (109 + 4 * w)))) ∧ g.2.1 196 11 = 0 ∧ lNM A (sntS s w b (p.2.1 + nu A (109 + 4 * w)) p.2.2) ((s :: H).take 12) J g))) := fun hr N => by
    refine pa_aload_n (pc' := 21) dX12_send_20 rfl rfl ?_
    refine pa_iconst (v := nI 1) (pc' := 22) dX12_send_21 (by decide) rfl ?_
    refine pa_callv (pc' := 25) (vs := [.inl (nI 1)]) (rest := []) dX12_send_22 ml_12_170 (by decide) rfl rfl rfl (fun d' _ => (m_no z196)) (fun v g hq => ?_)
    obtain ⟨ev, eh⟩ := hq
    subst ev
    show zPn N none d mX12_send (25, _, [.inl ((-1))], g) _
    subst eh
    refine pa_iret dX12_send_25 rfl rfl ?_
    exact ⟨(F1.tr mwF.t).G, .inl ⟨hr, rfl, by rw [zsI_at, if_pos ⟨rfl, rfl⟩]; rfl, L1.ch b3 b4 (fun b k w1 w2 w3 => by rw [zsI_at, if_neg (by omega)])⟩⟩
  show zPn N none d mX12_send (0, [(0, .inr (.inr (some 196))), (1, .inl x), (2, .inl y)], [], h) _
  refine pa_aload_n (pc' := 1) dX12_send_0 rfl rfl ?_
  refine pa_callv (pc' := 4) (vs := []) (rest := []) dX12_send_1 ml_12_167 (by decide) rfl rfl rfl (fun d' _ => (m_good s196)) (fun v g hq => ?_)
  obtain ⟨ev, eh⟩ := hq
  subst ev
  show zPn N none d mX12_send (4, _, [], g) _
  rw [eh1] at eh
  subst eh
  refine pa_aload_n (pc' := 5) dX12_send_4 rfl rfl ?_
  refine pa_iload_n (pc' := 6) dX12_send_5 rfl rfl ?_
  refine pa_callv (pc' := 9) (vs := [.inl x]) (rest := []) dX12_send_6 ml_12_268 (by decide) rfl rfl rfl (fun d' _ => (M_isWhale hA1 q15 S1.1)) (fun v g9 hq => ?_)
  obtain ⟨ev, eh⟩ := hq
  subst ev
  rw [eh]
  show zPn N none d mX12_send (9, _, [.inl (if 0 ≤ x.toInt ∧ x.toInt < (cH A:Int) then 1 else 0)], g) _
  by_cases hx : 0 ≤ x.toInt ∧ x.toInt < (cH A : Int)
  case neg =>
    rw [if_neg hx]
    refine pa_if_t (pc' := 20) dX12_send_9 (by decide) (by decide) ?_
    exact ref (fun q => hx q.1) _
  rw [if_pos hx]
  refine pa_if_f (pc' := 12) dX12_send_9 (by decide) (by decide) rfl ?_
  refine pa_aload_n (pc' := 13) dX12_send_12 rfl rfl ?_
  refine pa_iload_n (pc' := 14) dX12_send_13 rfl rfl ?_
  refine pa_callv (pc' := 17) (vs := [.inl y]) (rest := []) dX12_send_14 ml_12_274 (by decide) rfl rfl rfl (fun d' _ => (M_isBox hA1 q15 S1.1)) (fun v g9 hq => ?_)
  obtain ⟨ev, eh⟩ := hq
  subst ev
  rw [eh]
  show zPn N none d mX12_send (17, _, [.inl (if 0 ≤ y.toInt ∧ y.toInt < (cB A:Int) then 1 else 0)], g) _
  by_cases hy : 0 ≤ y.toInt ∧ y.toInt < (cB A : Int)
  case neg =>
    rw [if_neg hy]
    refine pa_if_f (pc' := 20) dX12_send_17 (by decide) (by decide) rfl ?_
    exact ref (fun q => hy q.2) _
  rw [if_pos hy]
  refine pa_if_t (pc' := 26) dX12_send_17 (by decide) (by decide) ?_
  obtain ⟨w, ew, hw⟩ : ∃ w : Nat, x = nI w ∧ w < cH A := ⟨x.toInt.toNat, Int32.toInt_inj.mp (by rw [nI_toInt (by omega)]; omega), by omega⟩
  obtain ⟨b, eb, hb⟩ : ∃ b : Nat, y = nI b ∧ b < cB A := ⟨y.toInt.toNat, Int32.toInt_inj.mp (by rw [nI_toInt (by omega)]; omega), by omega⟩
  subst ew
  subst eb
  clear ref
  have B1 := B1 (hA.has hb)
  obtain ⟨-, hT, hB, hO⟩ := B1.1
  refine pa_aload_n (pc' := 27) dX12_send_26 rfl rfl ?_
  refine pa_iload_n (pc' := 28) dX12_send_27 rfl rfl ?_
  refine pa_iload_n (pc' := 29) dX12_send_28 rfl rfl ?_
  refine pa_callv (pc' := 32) (vs := [.inl (nI w), .inl (nI b)]) (rest := []) dX12_send_29 ml_12_367 (by decide) rfl rfl rfl (fun d' _ => (M_bringsOf B1 hw hb)) (fun v g3 hq => ?_)
  obtain ⟨ev, eh⟩ := hq
  subst ev
  show zPn N none d mX12_send (32, _, [.inl (brR A w (brV A s w b))], g3) _
  refine pa_istore_n (pc' := 33) dX12_send_32 (by decide) rfl rfl ?_
  refine pa_iload_n (pc' := 34) dX12_send_33 rfl rfl ?_
  have fg := eh
  have t0 : zsh g3 196 = some (12, 39) := by unfold zsh; rw [fg.1]; exact z196
  have S3 := S1.fr fg.1 fg.2.1
  have L3 : lNM A s H J g3 := L1.fr (fun a k w => fg.2.2 a k (by omega) (by omega) (by omega)) (fg.2.2 196 20 (by decide) (by decide) (by decide)) (fg.2.2 196 21 (by decide) (by decide) (by decide))
  have B3 := B1.fr fg
  cases e : brV A s w b with
  | none =>
    refine pa_if_f (pc' := 37) dX12_send_34 (show zcond .ge (-2 : Int32) 0 = false by decide) (by decide) rfl ?_
    refine pa_aload_n (pc' := 38) dX12_send_37 rfl rfl ?_
    refine pa_iconst (v := nI 5) (pc' := 39) dX12_send_38 (by decide) rfl ?_
    refine pa_callv (pc' := 42) (vs := [.inl (nI 5)]) (rest := []) dX12_send_39 ml_12_170 (by decide) rfl rfl rfl (fun d' _ => (m_no t0)) (fun v g4 hq => ?_)
    obtain ⟨ev, eh⟩ := hq
    subst ev
    show zPn N none d mX12_send (42, _, [.inl ((-1))], g4) _
    subst eh
    refine pa_iret dX12_send_42 rfl rfl ?_
    exact ⟨F1.G.tr (fg.G.tr mwF.t.G), .inr ⟨w, b, rfl, rfl, hw, hb, .inl ⟨e, rfl, by rw [zsI_at, if_pos ⟨rfl, rfl⟩]; rfl, L3.ch b3 b4 (fun a k w1 w2 w3 => by rw [zsI_at, if_neg (by omega)])⟩⟩⟩
  | some p =>
    obtain ⟨v1, v2, v3⟩ := brV_ok hI hB hT hO hw hb e
    have he := brV_he hI e
    have n8 : nSn s (cB A) + 1 ≤ cB A := nSn_lt v1 _ hb
    generalize eD : p.2.1 + nu A (109 + 4 * w) = D at *
    have hD : D ≤ 709776 := by omega
    have hR : brR A w (some p) = nI D := by
      show nI (p.2.1 + nu A (109 + 4 * w)) = nI D
      rw [eD]
    rw [hR]
    refine pa_if_t (pc' := 43) dX12_send_34 (by rw [zcond_i]; exact decide_eq_true (by rw [nI_toInt (by omega), show (0 : Int32).toInt = 0 by decide]; omega)) (by decide) ?_
    refine pa_aload_n (pc' := 44) dX12_send_43 rfl rfl ?_
    refine pa_iload_n (pc' := 45) dX12_send_44 rfl rfl ?_
    refine pa_callv (pc' := 48) (vs := [.inl (nI b)]) (rest := []) dX12_send_45 ml_12_295 (by decide) rfl rfl rfl (fun d' _ => (M_heardNow B3 hb)) (fun v g9 hq => ?_)
    obtain ⟨ev, eh⟩ := hq
    subst ev
    rw [eh]
    show zPn N none d mX12_send (48, _, [.inl (heA A (s.2.2.2.2.2 b) s.1)], g3) _
    rw [he]
    refine pa_istore (pc' := 50) dX12_send_48 (by decide) rfl rfl ?_
    refine pa_aload_n (pc' := 51) dX12_send_50 rfl rfl ?_
    refine pa_callv (pc' := 54) (vs := []) (rest := []) dX12_send_51 ml_12_424 (by decide) rfl rfl rfl (fun d' _ => (M_note1 S3 b3 b4 L3)) (fun v g5 hq => ?_)
    obtain ⟨ev, eh⟩ := hq
    subst ev
    show zPn N none d mX12_send (54, _, [], g5) _
    obtain ⟨F5, L5, O5⟩ := eh
    have S5 := S3.fr F5.1 F5.2.1
    have q196 : zsh g5 196 = some (12, 39) := zsh_by S5.1 (by decide +kernel)
    have q201 : zsh g5 201 = some (14, 76) := zsh_by S5.1 (by decide +kernel)
    have x17 := S5.2.1
    refine pa_aload_n (pc' := 55) dX12_send_54 rfl rfl ?_
    refine pa_getR (pc' := 58) (n := 39) (r := 201) dX12_send_55 fl_12_26 q196 (by decide) x17 rfl ?_
    refine pa_iconst (v := nI 2) (pc' := 59) dX12_send_58 (by decide) rfl ?_
    refine pa_iload_n (pc' := 60) dX12_send_59 rfl rfl ?_
    refine pa_iadd (pc' := 61) (v := nI (2 + w)) dX12_send_60 (nI_add _ _) rfl ?_
    refine pa_iload (pc' := 63) dX12_send_61 rfl rfl ?_
    refine pa_iast (pc' := 64) dX12_send_63 q201 rfl (fun _ => ?_)
    rw [nI_clamp (by omega)]
    refine pa_aload_n (pc' := 65) dX12_send_64 rfl rfl ?_
    refine pa_getR (pc' := 68) (n := 39) (r := 201) dX12_send_65 fl_12_26 q196 (by decide) x17 rfl ?_
    refine pa_bipush (v := nI 7) (pc' := 70) dX12_send_68 (by decide) rfl ?_
    refine pa_iload_n (pc' := 71) dX12_send_70 rfl rfl ?_
    refine pa_iadd (pc' := 72) (v := nI (7 + w)) dX12_send_71 (nI_add _ _) rfl ?_
    refine pa_iload_n (pc' := 73) dX12_send_72 rfl rfl ?_
    refine pa_iast (pc' := 74) dX12_send_73 q201 rfl (fun _ => ?_)
    rw [nI_clamp (by omega)]
    refine pa_aload_n (pc' := 75) dX12_send_74 rfl rfl ?_
    refine pa_getR (pc' := 78) (n := 39) (r := 201) dX12_send_75 fl_12_26 q196 (by decide) x17 rfl ?_
    refine pa_bipush (v := nI 12) (pc' := 80) dX12_send_78 (by decide) rfl ?_
    refine pa_iload_n (pc' := 81) dX12_send_80 rfl rfl ?_
    refine pa_iadd (pc' := 82) (v := nI (12 + b)) dX12_send_81 (nI_add _ _) rfl ?_
    refine pa_iload_n (pc' := 83) dX12_send_82 rfl rfl ?_
    refine pa_iconst (v := nI 1) (pc' := 84) dX12_send_83 (by decide) rfl ?_
    refine pa_iadd (pc' := 85) (v := nI (D + 1)) dX12_send_84 (nI_add _ _) rfl ?_
    refine pa_iast (pc' := 86) dX12_send_85 q201 rfl (fun _ => ?_)
    rw [nI_clamp (by omega)]
    refine pa_aload_n (pc' := 87) dX12_send_86 rfl rfl ?_
    refine pa_getR (pc' := 90) (n := 39) (r := 201) dX12_send_87 fl_12_26 q196 (by decide) x17 rfl ?_
    refine pa_bipush (v := nI 20) (pc' := 92) dX12_send_90 (by decide) rfl ?_
    refine pa_iload_n (pc' := 93) dX12_send_92 rfl rfl ?_
    refine pa_iadd (pc' := 94) (v := nI (20 + b)) dX12_send_93 (nI_add _ _) rfl ?_
    refine pa_iload (pc' := 96) dX12_send_94 rfl rfl ?_
    refine pa_iconst (v := nI 1) (pc' := 97) dX12_send_96 (by decide) rfl ?_
    refine pa_iadd (pc' := 98) (v := nI (p.2.2 + 1)) dX12_send_97 (nI_add _ _) rfl ?_
    refine pa_iast (pc' := 99) dX12_send_98 q201 rfl (fun _ => ?_)
    rw [nI_clamp (by omega)]
    refine pa_iload_n (pc' := 100) dX12_send_99 rfl rfl ?_
    refine pa_iret dX12_send_100 rfl rfl ?_
    generalize e6 : zsI (zsI (zsI (zsI g5 201 (2 + w) (nI p.2.2)) 201 (7 + w) (nI D)) 201 (12 + b) (nI (D + 1))) 201 (20 + b) (nI (p.2.2 + 1)) = g6
    have at' : ∀ a k, g6.2.1 a k = if a = 201 ∧ k = 20 + b then nI (p.2.2 + 1) else if a = 201 ∧ k = 12 + b then nI (D + 1) else if a = 201 ∧ k = 7 + w then nI D else if a = 201 ∧ k = 2 + w then nI p.2.2 else g5.2.1 a k := fun a k => by
      rw [← e6, zsI_at, zsI_at, zsI_at, zsI_at]
    have out : ∀ a k, a ≠ 201 → g6.2.1 a k = g5.2.1 a k := fun a k w1 => by rw [at', if_neg (fun q => w1 q.1), if_neg (fun q => w1 q.1), if_neg (fun q => w1 q.1), if_neg (fun q => w1 q.1)]
    have F6 : mwF g5 g6 := ⟨by rw [← e6]; rfl, by rw [← e6]; rfl, fun k w1 w2 w3 w4 => out _ _ (by decide), fun a k w1 w2 w3 w4 => out _ _ w2⟩
    have t5 : g5.2.1 196 11 = 0 := (O5 196 11 (by decide) (by omega)).trans ((fg.2.2 196 11 (by decide) (by decide) (by omega)).trans t11)
    refine ⟨F1.G.tr (fg.G.tr (F5.G.tr F6.G)), .inr ⟨w, b, rfl, rfl, hw, hb, .inr ⟨p, e, by rw [eD], (out _ _ (by decide)).trans t5, ?_⟩⟩⟩
    rw [eD]
    obtain ⟨⟨⟨n1, n2, n3, n4⟩, l1⟩, ⟨e20, hl, hh⟩, j1, j2, j3⟩ := L5
    refine ⟨⟨⟨?_, ?_, fun k hk => ⟨?_, ?_⟩, fun k hk => ⟨?_, ?_, fun j hj => ?_⟩⟩, l1⟩, ⟨(out _ _ (by decide)).trans e20, hl, fun k t hk => ⟨nMo.cp b3 b4 (hh k t hk).2 (fun j hj => out _ _ (by decide)) (hh k t hk).1, (hh k t hk).2⟩⟩, (out _ _ (by decide)).trans j1, j2, fun k t hk => ⟨nMo.cp b3 b4 (j3 k t hk).2 (fun j hj => out _ _ (by decide)) (j3 k t hk).1, (j3 k t hk).2⟩⟩
    · rw [at', if_neg (by omega), if_neg (by omega), if_neg (by omega), if_neg (by omega)]
      exact n1
    · rw [at', if_neg (by omega), if_neg (by omega), if_neg (by omega), if_neg (by omega)]
      exact n2
    · rw [at', if_neg (by omega), if_neg (by omega), if_neg (by omega)]
      show _ = nI (if k = w then p.2.2 else s.2.2.1 k)
      by_cases z : k = w
      · rw [if_pos ⟨rfl, by omega⟩, if_pos z]
      · rw [if_neg (by omega), if_neg z]
        exact (n3 k hk).1
    · rw [at', if_neg (by omega), if_neg (by omega)]
      show _ = nI (if k = w then D else s.2.2.2.1 k)
      by_cases z : k = w
      · rw [if_pos ⟨rfl, by omega⟩, if_pos z]
      · rw [if_neg (by omega), if_neg (by omega), if_neg z]
        exact (n3 k hk).2
    · rw [at', if_neg (by omega)]
      show _ = tDy (if k = b then some (D, p.2.2) else s.2.2.2.2.1 k)
      by_cases z : k = b
      · rw [if_pos ⟨rfl, by omega⟩, if_pos z]
        rfl
      · rw [if_neg (by omega), if_neg (by omega), if_neg (by omega), if_neg z]
        exact (n4 k hk).1
    · rw [at']
      show _ = tGo (if k = b then some (D, p.2.2) else s.2.2.2.2.1 k)
      by_cases z : k = b
      · rw [if_pos ⟨rfl, by omega⟩, if_pos z]
        rfl
      · rw [if_neg (by omega), if_neg (by omega), if_neg (by omega), if_neg (by omega), if_neg z]
        exact (n4 k hk).2.1
    · have h6 := l1 k hk
      have hj : j < (s.2.2.2.2.2 k).length := hj
      rw [at', if_neg (by omega), if_neg (by omega), if_neg (by omega), if_neg (by omega)]
      exact (n4 k hk).2.2 j hj
end MSN
/-! years, close: class and reference -/
/-- what years does: the answer, the trouble, what is then -/
def yrO (A : pA) (s : nS) (H J : List nS) (x : Int32) (v : Option zV) (t : Int32) (L : nS → List nS → List nS → Prop) : Prop := (cI A = 0 ∧ v = some (.inl (-1)) ∧ t = 1 ∧ L s H J) ∨ (cI A ≠ 0 ∧ ¬ (1 ≤ x.toInt ∧ x.toInt ≤ 99) ∧ v = some (.inl (-1)) ∧ t = 2 ∧ L s H J) ∨ ∃ n : Nat, cI A ≠ 0 ∧ x = nI n ∧ 1 ≤ n ∧ n ≤ 99 ∧ ((9999 < s.1 + n ∧ v = some (.inl (-1)) ∧ t = 3 ∧ L s H J) ∨ (s.1 + n ≤ 9999 ∧ v = some (.inl (nI (s.1 + n))) ∧ t = 0 ∧ L (s.1 + n, s.2) ((s :: H).take 12) J))
section YRS
variable {d N c w b : Nat} {h g : zH} {A : pA} {s : nS} {H J : List nS} {x y : Int32}
theorem C_years (S : nwS h) (hA : lPA A c h) (hy : s.1 ≤ 9999) (L : lNC A s H J h) : zPa d mX11_years [.inr (.inr (some 0)), .inl x] h (fun v g => nwF h g ∧ yrO A s H J x v (g.2.1 0 2) (fun s H J => lNC A s H J g)) := by
  intro N
  obtain ⟨b1, b2, b3, b4, b5⟩ := hA.1.2.2.1
  have s0 : zsh h 0 = some (11, 16) := zsh_by S.1 (by decide +kernel)
  have s86 : zsh h 86 = some (2, 7) := zsh_by S.1 (by decide +kernel)
  have r6 := S.2.1
  have n1 := L.1.1
  have no : (cI A ≠ 0 ∧ ¬ (1 ≤ x.toInt ∧ x.toInt ≤ 99)) → ∀ N, zPn N none d mX11_years (24, [(0, .inr (.inr (some 0))), (1, .inl x)], [], h) (fun v g => nwF h g ∧ yrO A s H J x v (g.2.1 0 2) (fun s H J => lNC A s H J g)) := fun hr N => by
    refine pa_aload_n (pc' := 25) dX11_years_24 rfl rfl ?_
    refine pa_iconst (v := nI 2) (pc' := 26) dX11_years_25 (by decide) rfl ?_
    refine pa_callv (pc' := 29) (vs := [.inl (nI 2)]) (rest := []) dX11_years_26 ml_11_98 (by decide) rfl rfl rfl (fun d' _ => (c_ref s0)) (fun v g hq => ?_)
    obtain ⟨ev, eh⟩ := hq
    subst ev
    show zPn N none d mX11_years (29, _, [.inl ((-1))], g) _
    subst eh
    refine pa_iret dX11_years_29 rfl rfl ?_
    exact ⟨nwF.t2, .inr (.inl ⟨hr.1, hr.2, rfl, by rw [zsI_at, if_pos ⟨rfl, rfl⟩]; rfl, L.t2⟩)⟩
  show zPn N none d mX11_years (0, [(0, .inr (.inr (some 0))), (1, .inl x)], [], h) _
  refine pa_aload_n (pc' := 1) dX11_years_0 rfl rfl ?_
  refine pa_callv (pc' := 4) (vs := []) (rest := []) dX11_years_1 ml_11_222 (by decide) rfl rfl rfl (fun d' _ => (N_hasPost hA S.1)) (fun v g9 hq => ?_)
  obtain ⟨ev, eh⟩ := hq
  subst ev
  rw [eh]
  show zPn N none d mX11_years (4, _, [.inl (if cI A = 0 then 0 else 1)], h) _
  by_cases z0 : cI A = 0
  case pos =>
    rw [if_pos z0]
    refine pa_if_f (pc' := 7) dX11_years_4 (by decide) (by decide) rfl ?_
    refine pa_aload_n (pc' := 8) dX11_years_7 rfl rfl ?_
    refine pa_iconst (v := nI 1) (pc' := 9) dX11_years_8 (by decide) rfl ?_
    refine pa_callv (pc' := 12) (vs := [.inl (nI 1)]) (rest := []) dX11_years_9 ml_11_98 (by decide) rfl rfl rfl (fun d' _ => (c_ref s0)) (fun v g hq => ?_)
    obtain ⟨ev, eh⟩ := hq
    subst ev
    show zPn N none d mX11_years (12, _, [.inl ((-1))], g) _
    subst eh
    refine pa_iret dX11_years_12 rfl rfl ?_
    exact ⟨nwF.t2, .inl ⟨z0, rfl, by rw [zsI_at, if_pos ⟨rfl, rfl⟩]; rfl, L.t2⟩⟩
  rw [if_neg z0]
  refine pa_if_t (pc' := 13) dX11_years_4 (by decide) (by decide) ?_
  refine pa_iload_n (pc' := 14) dX11_years_13 rfl rfl ?_
  refine pa_iconst (v := nI 1) (pc' := 15) dX11_years_14 (by decide) rfl ?_
  refine pa_icmp (pc' := 24) (pc2 := 18) dX11_years_15 (by decide) rfl (fun z1 => ?_) (fun z1 => ?_)
  · have z1 := zi_lt z1
    rw [nI_toInt (by omega)] at z1
    exact no ⟨z0, by omega⟩ _
  have z1 := zi_nlt z1
  rw [nI_toInt (by omega)] at z1
  refine pa_iload_n (pc' := 19) dX11_years_18 rfl rfl ?_
  refine pa_bipush (v := nI 99) (pc' := 21) dX11_years_19 (by decide) rfl ?_
  refine pa_icmp (pc' := 30) (pc2 := 24) dX11_years_21 (by decide) rfl (fun z2 => ?_) (fun z2 => ?_)
  case refine_2 =>
    have z2 := of_decide_eq_false z2
    rw [Int32.le_iff_toInt_le, nI_toInt (by omega)] at z2
    exact no ⟨z0, by omega⟩ _
  have z2 := Int32.le_iff_toInt_le.mp (of_decide_eq_true z2)
  rw [nI_toInt (by omega)] at z2
  obtain ⟨n, en, hn⟩ : ∃ n : Nat, x = nI n ∧ 1 ≤ n ∧ n ≤ 99 := ⟨x.toInt.toNat, Int32.toInt_inj.mp (by rw [nI_toInt (by omega)]; omega), by omega⟩
  subst en
  clear no
  refine pa_aload_n (pc' := 31) dX11_years_30 rfl rfl ?_
  refine pa_getR (pc' := 34) (n := 16) (r := 86) dX11_years_31 fl_11_42 s0 (by decide) r6 rfl ?_
  refine pa_getI (pc' := 37) (n := 7) (v := nI s.1) dX11_years_34 fl_11_180 s86 (by decide) n1 rfl ?_
  refine pa_iload_n (pc' := 38) dX11_years_37 rfl rfl ?_
  refine pa_iadd (pc' := 39) (v := nI (s.1 + n)) dX11_years_38 (nI_add _ _) rfl ?_
  refine pa_sipush (v := nI 9999) (pc' := 42) dX11_years_39 (by decide) rfl ?_
  by_cases z3 : s.1 + n ≤ 9999
  case neg =>
    refine pa_icmp_f (pc' := 45) dX11_years_42 (decide_eq_false (fun q => by have := Int32.le_iff_toInt_le.mp q; rw [nI_toInt (by omega), nI_toInt (by omega)] at this; omega)) (by decide) rfl ?_
    refine pa_aload_n (pc' := 46) dX11_years_45 rfl rfl ?_
    refine pa_iconst (v := nI 3) (pc' := 47) dX11_years_46 (by decide) rfl ?_
    refine pa_callv (pc' := 50) (vs := [.inl (nI 3)]) (rest := []) dX11_years_47 ml_11_98 (by decide) rfl rfl rfl (fun d' _ => (c_ref s0)) (fun v g hq => ?_)
    obtain ⟨ev, eh⟩ := hq
    subst ev
    show zPn N none d mX11_years (50, _, [.inl ((-1))], g) _
    subst eh
    refine pa_iret dX11_years_50 rfl rfl ?_
    exact ⟨nwF.t2, .inr (.inr ⟨n, z0, rfl, hn.1, hn.2, .inl ⟨by omega, rfl, by rw [zsI_at, if_pos ⟨rfl, rfl⟩]; rfl, L.t2⟩⟩)⟩
  refine pa_icmp_t (pc' := 51) dX11_years_42 (decide_eq_true (Int32.le_iff_toInt_le.mpr (by rw [nI_toInt (by omega), nI_toInt (by omega)]; omega))) (by decide) ?_
  refine pa_aload_n (pc' := 52) dX11_years_51 rfl rfl ?_
  refine pa_callv (pc' := 55) (vs := []) (rest := []) dX11_years_52 ml_11_341 (by decide) rfl rfl rfl (fun d' _ => (N_keep S b3 b4 L)) (fun v g5 hq => ?_)
  obtain ⟨ev, eh⟩ := hq
  subst ev
  show zPn N none d mX11_years (55, _, [], g5) _
  obtain ⟨L5, F5⟩ := eh
  have S5 := S.fr F5.1 F5.2.1
  have q0 : zsh g5 0 = some (11, 16) := zsh_by S5.1 (by decide +kernel)
  have q86 : zsh g5 86 = some (2, 7) := zsh_by S5.1 (by decide +kernel)
  have x6 := S5.2.1
  have m1 := L5.1.1
  refine pa_aload_n (pc' := 56) dX11_years_55 rfl rfl ?_
  refine pa_getR (pc' := 59) (n := 16) (r := 86) dX11_years_56 fl_11_42 q0 (by decide) x6 rfl ?_
  refine pa_dup (pc' := 60) dX11_years_59 rfl rfl ?_
  refine pa_getI (pc' := 63) (n := 7) (v := nI s.1) dX11_years_60 fl_11_180 q86 (by decide) m1 rfl ?_
  refine pa_iload_n (pc' := 64) dX11_years_63 rfl rfl ?_
  refine pa_iadd (pc' := 65) (v := nI (s.1 + n)) dX11_years_64 (nI_add _ _) rfl ?_
  refine pa_putI (pc' := 68) (n := 7) dX11_years_65 fl_11_180 q86 (Or.inl rfl) (Or.inl rfl) rfl ?_
  refine pa_aload_n (pc' := 69) dX11_years_68 rfl rfl ?_
  refine pa_aload_n (pc' := 70) dX11_years_69 rfl rfl ?_
  refine pa_getR (pc' := 73) (n := 16) (r := 86) dX11_years_70 fl_11_42 q0 (by decide) x6 rfl ?_
  refine pa_getI (pc' := 76) (n := 7) (v := nI (s.1 + n)) dX11_years_73 fl_11_180 q86 (by decide) (by rw [zsI_at, if_pos ⟨rfl, rfl⟩]) rfl ?_
  refine pa_callv (pc' := 79) (vs := [.inl (nI (s.1 + n))]) (rest := []) dX11_years_76 ml_11_112 (by decide) rfl rfl rfl (fun d' _ => (c_gra q0)) (fun v g6 hq => ?_)
  obtain ⟨ev, eh⟩ := hq
  subst ev
  show zPn N none d mX11_years (79, _, [.inl (nI (s.1 + n))], g6) _
  subst eh
  refine pa_iret dX11_years_79 rfl rfl ?_
  have at' : ∀ a k, (zsI (zsI g5 86 0 (nI (s.1 + n))) 0 2 0).2.1 a k = if a = 0 ∧ k = 2 then 0 else if a = 86 ∧ k = 0 then nI (s.1 + n) else g5.2.1 a k := fun a k => by
    rw [zsI_at, zsI_at]
  have out : ∀ a k, (a = 0 → k ≠ 2) → (a = 86 → k ≠ 0) → (zsI (zsI g5 86 0 (nI (s.1 + n))) 0 2 0).2.1 a k = g5.2.1 a k := fun a k w1 w2 => by rw [at', if_neg (by omega), if_neg (by omega)]
  obtain ⟨⟨m1, m2, m3, m4⟩, ⟨nw, hn2, e12, e13, hl, hh⟩, j1, j2, j3⟩ := L5
  refine ⟨F5.tr ⟨rfl, rfl, fun k w0 w1 w2 w3 => out _ _ (by omega) (by omega), fun a k w1 w2 w3 => out _ _ (by omega) (by omega)⟩, .inr (.inr ⟨n, z0, rfl, hn.1, hn.2, .inr ⟨z3, rfl, by rw [at', if_pos ⟨rfl, rfl⟩], ⟨?_, (out _ _ (by omega) (by omega)).trans m2, fun k hk => ⟨(out _ _ (by omega) (by omega)).trans (m3 k hk).1, (out _ _ (by omega) (by omega)).trans (m3 k hk).2⟩, fun k hk => ⟨(out _ _ (by omega) (by omega)).trans (m4 k hk).1, (out _ _ (by omega) (by omega)).trans (m4 k hk).2.1, (out _ _ (by omega) (by omega)).trans (m4 k hk).2.2⟩⟩, ⟨nw, hn2, (out _ _ (by omega) (by omega)).trans e12, (out _ _ (by omega) (by omega)).trans e13, hl, fun k t hk => (hh k t hk).fr (fun a j w1 w2 => out _ _ (by omega) (by omega))⟩, (out _ _ (by omega) (by omega)).trans j1, j2, fun k t hk => (j3 k t hk).fr (fun a j w1 w2 => out _ _ (by omega) (by omega))⟩⟩)⟩
  rw [at', if_neg (by omega), if_pos ⟨rfl, rfl⟩]
theorem M_years (S : mwS h) (hA : lPA A c h) (hy : s.1 ≤ 9999) (L : lNM A s H J h) : zPa d mX12_years [.inr (.inr (some 196)), .inl x] h (fun v g => mwF h g ∧ yrO A s H J x v (g.2.1 196 11) (fun s H J => lNM A s H J g)) := by
  intro N
  obtain ⟨b1, b2, b3, b4, b5⟩ := hA.1.2.2.1
  have s196 : zsh h 196 = some (12, 39) := zsh_by S.1 (by decide +kernel)
  generalize eh1 : zsI (zsI h 196 0 0) 196 11 0 = h1
  have F1 : mwF h h1 := by rw [← eh1]; exact mwF.gd
  have t11 : h1.2.1 196 11 = 0 := by rw [← eh1, zsI_at, if_pos ⟨rfl, rfl⟩]
  have L1 : lNM A s H J h1 := L.ch b3 b4 (fun b k w1 w2 w3 => by rw [← eh1, zsI_at, zsI_at, if_neg (by omega), if_neg (by omega)])
  have S1 : mwS h1 := S.fr F1.1 F1.2.1
  have e14 : h1.2.1 196 14 = h.2.1 196 14 := F1.2.2.1 14 (by decide) (by decide) (by decide) (by decide)
  have z196 : zsh h1 196 = some (12, 39) := zsh_by S1.1 (by decide +kernel)
  have z201 : zsh h1 201 = some (14, 76) := zsh_by S1.1 (by decide +kernel)
  have q17 := S1.2.1
  have n1 : h1.2.1 201 0 = nI s.1 := L1.1.1.1
  show zPn N none d mX12_years (0, [(0, .inr (.inr (some 196))), (1, .inl x)], [], h) _
  refine pa_aload_n (pc' := 1) dX12_years_0 rfl rfl ?_
  refine pa_callv (pc' := 4) (vs := []) (rest := []) dX12_years_1 ml_12_167 (by decide) rfl rfl rfl (fun d' _ => (m_good s196)) (fun v g hq => ?_)
  obtain ⟨ev, eh⟩ := hq
  subst ev
  show zPn N none d mX12_years (4, _, [], g) _
  rw [eh1] at eh
  subst eh
  rcases hA.pos with ⟨z0, e14'⟩ | ⟨z0, e14'⟩
  case inl =>
    have e14 := e14.trans e14'
    refine pa_aload_n (pc' := 5) dX12_years_4 rfl rfl ?_
    refine pa_getI (pc' := 8) (n := 39) (v := nI 0) dX12_years_5 fl_12_180 z196 (by decide) e14 rfl ?_
    refine pa_if_f (pc' := 11) dX12_years_8 (by decide) (by decide) rfl ?_
    refine pa_aload_n (pc' := 12) dX12_years_11 rfl rfl ?_
    refine pa_iconst (v := nI 1) (pc' := 13) dX12_years_12 (by decide) rfl ?_
    refine pa_callv (pc' := 16) (vs := [.inl (nI 1)]) (rest := []) dX12_years_13 ml_12_170 (by decide) rfl rfl rfl (fun d' _ => (m_no z196)) (fun v g3 hq => ?_)
    obtain ⟨ev, eh⟩ := hq
    subst ev
    show zPn N none d mX12_years (16, _, [.inl ((-1))], g3) _
    subst eh
    refine pa_iret dX12_years_16 rfl rfl ?_
    exact ⟨F1.tr mwF.t, .inl ⟨z0, rfl, by rw [zsI_at, if_pos ⟨rfl, rfl⟩]; rfl, L1.ch b3 b4 (fun b k w1 w2 w3 => by rw [zsI_at, if_neg (by omega)])⟩⟩
  have e14 := e14.trans e14'
  refine pa_aload_n (pc' := 5) dX12_years_4 rfl rfl ?_
  refine pa_getI (pc' := 8) (n := 39) (v := nI 1) dX12_years_5 fl_12_180 z196 (by decide) e14 rfl ?_
  refine pa_if_t (pc' := 17) dX12_years_8 (by decide) (by decide) ?_
  refine pa_iload_n (pc' := 18) dX12_years_17 rfl rfl ?_
  refine pa_iconst (v := 1) (pc' := 19) dX12_years_18 (by decide) rfl ?_
  refine pa_bipush (v := 99) (pc' := 21) dX12_years_19 (by decide) rfl ?_
  refine pa_calls (pc' := 24) (kd := 1) (vs := [.inl x, .inl 1, .inl 99]) (rest := []) dX12_years_21 ml_12_149 (.inl rfl) rfl rfl rfl (fun d' _ => in_ex2) (fun v g3 hq => ?_)
  obtain ⟨eh, hq⟩ := hq
  subst eh
  have i1 : (1 : Int32).toInt = 1 := by decide
  have i99 : (99 : Int32).toInt = 99 := by decide
  rcases hq with ⟨ev, w1, w2⟩ | ⟨ev, w⟩
  case inr =>
    subst ev
    show zPn N none d mX12_years (24, [(0, .inr (.inr (some 196))), (1, .inl x)], [.inl 0], _) _
    refine pa_if_f (pc' := 27) dX12_years_24 (by decide) (by decide) rfl ?_
    refine pa_aload_n (pc' := 28) dX12_years_27 rfl rfl ?_
    refine pa_iconst (v := nI 2) (pc' := 29) dX12_years_28 (by decide) rfl ?_
    refine pa_callv (pc' := 32) (vs := [.inl (nI 2)]) (rest := []) dX12_years_29 ml_12_170 (by decide) rfl rfl rfl (fun d' _ => (m_no z196)) (fun v g4 hq => ?_)
    obtain ⟨ev, eh⟩ := hq
    subst ev
    show zPn N none d mX12_years (32, _, [.inl ((-1))], g4) _
    subst eh
    refine pa_iret dX12_years_32 rfl rfl ?_
    refine ⟨F1.tr mwF.t, .inr (.inl ⟨z0, fun q => w ⟨Int32.le_iff_toInt_le.mpr (by rw [i1]; exact q.1), Int32.le_iff_toInt_le.mpr (by rw [i99]; exact q.2)⟩, rfl, by rw [zsI_at, if_pos ⟨rfl, rfl⟩]; rfl, L1.ch b3 b4 (fun b k w1 w2 w3 => by rw [zsI_at, if_neg (by omega)])⟩)⟩
  subst ev
  have w1 := Int32.le_iff_toInt_le.mp w1
  have w2 := Int32.le_iff_toInt_le.mp w2
  rw [i1] at w1
  rw [i99] at w2
  obtain ⟨n, en, hn⟩ : ∃ n : Nat, x = nI n ∧ 1 ≤ n ∧ n ≤ 99 := ⟨x.toInt.toNat, Int32.toInt_inj.mp (by rw [nI_toInt (by omega)]; omega), by omega⟩
  subst en
  show zPn N none d mX12_years (24, [(0, .inr (.inr (some 196))), (1, .inl (nI n))], [.inl 1], _) _
  refine pa_if_t (pc' := 33) dX12_years_24 (by decide) (by decide) ?_
  refine pa_aload_n (pc' := 34) dX12_years_33 rfl rfl ?_
  refine pa_getR (pc' := 37) (n := 39) (r := 201) dX12_years_34 fl_12_26 z196 (by decide) q17 rfl ?_
  refine pa_iconst (v := nI 0) (pc' := 38) dX12_years_37 (by decide) rfl ?_
  refine pa_iald (pc' := 39) dX12_years_38 z201 rfl (fun _ => ?_)
  rw [nI_clamp (by omega), n1]
  refine pa_iload_n (pc' := 40) dX12_years_39 rfl rfl ?_
  refine pa_iadd (pc' := 41) (v := nI (s.1 + n)) dX12_years_40 (nI_add _ _) rfl ?_
  refine pa_sipush (v := nI 9999) (pc' := 44) dX12_years_41 (by decide) rfl ?_
  by_cases z3 : s.1 + n ≤ 9999
  case neg =>
    refine pa_icmp_f (pc' := 47) dX12_years_44 (decide_eq_false (fun q => by have := Int32.le_iff_toInt_le.mp q; rw [nI_toInt (by omega), nI_toInt (by omega)] at this; omega)) (by decide) rfl ?_
    refine pa_aload_n (pc' := 48) dX12_years_47 rfl rfl ?_
    refine pa_iconst (v := nI 3) (pc' := 49) dX12_years_48 (by decide) rfl ?_
    refine pa_callv (pc' := 52) (vs := [.inl (nI 3)]) (rest := []) dX12_years_49 ml_12_170 (by decide) rfl rfl rfl (fun d' _ => (m_no z196)) (fun v g4 hq => ?_)
    obtain ⟨ev, eh⟩ := hq
    subst ev
    show zPn N none d mX12_years (52, _, [.inl ((-1))], g4) _
    subst eh
    refine pa_iret dX12_years_52 rfl rfl ?_
    exact ⟨F1.tr mwF.t, .inr (.inr ⟨n, z0, rfl, hn.1, hn.2, .inl ⟨by omega, rfl, by rw [zsI_at, if_pos ⟨rfl, rfl⟩]; rfl, L1.ch b3 b4 (fun b k w1 w2 w3 => by rw [zsI_at, if_neg (by omega)])⟩⟩)⟩
  refine pa_icmp_t (pc' := 53) dX12_years_44 (decide_eq_true (Int32.le_iff_toInt_le.mpr (by rw [nI_toInt (by omega), nI_toInt (by omega)]; omega))) (by decide) ?_
  refine pa_aload_n (pc' := 54) dX12_years_53 rfl rfl ?_
  refine pa_callv (pc' := 57) (vs := []) (rest := []) dX12_years_54 ml_12_424 (by decide) rfl rfl rfl (fun d' _ => (M_note1 S1 b3 b4 L1)) (fun v g5 hq => ?_)
  obtain ⟨ev, eh⟩ := hq
  subst ev
  show zPn N none d mX12_years (57, _, [], g5) _
  obtain ⟨F5, L5, O5⟩ := eh
  have S5 := S1.fr F5.1 F5.2.1
  have q196 : zsh g5 196 = some (12, 39) := zsh_by S5.1 (by decide +kernel)
  have q201 : zsh g5 201 = some (14, 76) := zsh_by S5.1 (by decide +kernel)
  have x17 := S5.2.1
  have m1 : g5.2.1 201 0 = nI s.1 := L5.1.1.1
  refine pa_aload_n (pc' := 58) dX12_years_57 rfl rfl ?_
  refine pa_getR (pc' := 61) (n := 39) (r := 201) dX12_years_58 fl_12_26 q196 (by decide) x17 rfl ?_
  refine pa_iconst (v := nI 0) (pc' := 62) dX12_years_61 (by decide) rfl ?_
  refine pa_dup2 (pc' := 63) dX12_years_62 ⟨rfl, rfl⟩ rfl ?_
  refine pa_iald (pc' := 64) dX12_years_63 q201 rfl (fun _ => ?_)
  rw [nI_clamp (by omega), m1]
  refine pa_iload_n (pc' := 65) dX12_years_64 rfl rfl ?_
  refine pa_iadd (pc' := 66) (v := nI (s.1 + n)) dX12_years_65 (nI_add _ _) rfl ?_
  refine pa_iast (pc' := 67) dX12_years_66 q201 rfl (fun _ => ?_)
  rw [nI_clamp (by omega)]
  have m2 : (zsI g5 201 0 (nI (s.1 + n))).2.1 201 0 = nI (s.1 + n) := by rw [zsI_at, if_pos ⟨rfl, rfl⟩]
  refine pa_aload_n (pc' := 68) dX12_years_67 rfl rfl ?_
  refine pa_getR (pc' := 71) (n := 39) (r := 201) dX12_years_68 fl_12_26 q196 (by decide) x17 rfl ?_
  refine pa_iconst (v := nI 0) (pc' := 72) dX12_years_71 (by decide) rfl ?_
  refine pa_iald (pc' := 73) dX12_years_72 q201 rfl (fun _ => ?_)
  rw [nI_clamp (by omega), m2]
  refine pa_iret dX12_years_73 rfl rfl ?_
  have out : ∀ a k, (a = 201 → k ≠ 0) → (zsI g5 201 0 (nI (s.1 + n))).2.1 a k = g5.2.1 a k := fun a k w1 => by rw [zsI_at, if_neg (by omega)]
  have t5 : g5.2.1 196 11 = 0 := (O5 196 11 (by decide) (by omega)).trans t11
  obtain ⟨⟨⟨m1, m3, m4, m5⟩, l1⟩, ⟨e20, hl, hh⟩, j1, j2, j3⟩ := L5
  refine ⟨F1.tr (F5.tr ⟨rfl, rfl, fun k w1 w2 w3 w4 => out _ _ (by omega), fun a k w1 w2 w3 w4 => out _ _ (by omega)⟩), .inr (.inr ⟨n, z0, rfl, hn.1, hn.2, .inr ⟨z3, rfl, (out _ _ (by omega)).trans t5, ⟨⟨m2, (out _ _ (by omega)).trans m3, fun k hk => ⟨(out _ _ (by omega)).trans (m4 k hk).1, (out _ _ (by omega)).trans (m4 k hk).2⟩, fun k hk => ⟨(out _ _ (by omega)).trans (m5 k hk).1, (out _ _ (by omega)).trans (m5 k hk).2.1, fun j hj => (out _ _ (by omega)).trans ((m5 k hk).2.2 j hj)⟩⟩, l1⟩, ⟨(out _ _ (by omega)).trans e20, hl, fun k t hk => ⟨nMo.cp b3 b4 (hh k t hk).2 (fun j hj => out _ _ (by omega)) (hh k t hk).1, (hh k t hk).2⟩⟩, (out _ _ (by omega)).trans j1, j2, fun k t hk => ⟨nMo.cp b3 b4 (j3 k t hk).2 (fun j hj => out _ _ (by omega)) (j3 k t hk).1, (j3 k t hk).2⟩⟩⟩)⟩
end YRS
/-! close: class and reference -/
def clsS (s : nS) (w : Nat) : nS := (s.1, s.2.1 ^^^ (nI 1 <<< (nI w &&& 31)), s.2.2)
def bI (b : Bool) : Int32 := if b = true then 1 else 0
def clsO (A : pA) (s : nS) (H J : List nS) (x y : Int32) (v : Option zV) (t : Int32) (L : nS → List nS → List nS → Prop) : Prop := (¬ (0 ≤ x.toInt ∧ x.toInt < (cW A : Int)) ∧ v = some (.inl 0) ∧ t = 1 ∧ L s H J) ∨ ∃ w : Nat, x = nI w ∧ w < cW A ∧ ((bI (clB s.2.1 w) = y ∧ v = some (.inl 0) ∧ t = 5 ∧ L s H J) ∨ (bI (clB s.2.1 w) ≠ y ∧ v = some (.inl 1) ∧ t = 0 ∧ L (clsS s w) ((s :: H).take 12) J))
section CLS
variable {d N c w b : Nat} {h g : zH} {A : pA} {s : nS} {H J : List nS} {x y : Int32}
theorem N_isWay (hA : lPA A c h) (h1 : h.1 = hh_487.1) : zPa d mX11_isWay [.inr (.inr (some 0)), .inl x] h (fun v h' => v = some (.inl (if 0 ≤ x.toInt ∧ x.toInt < (cW A : Int) then 1 else 0)) ∧ h' = h) := by
  intro N
  have s0 : zsh h 0 = some (11, 16) := zsh_by h1 (by decide +kernel)
  have sc := hA.sc h1
  have r3 := hA.2.2.1
  have k0 : (0 : Int32).toInt = 0 := by decide
  obtain ⟨b1, b2, b3, b4, b5⟩ := hA.1.2.2.1
  obtain ⟨-, -, e5, e6, e7, -⟩ := hA.2.2.2.1
  have e19 : ¬ (0 ≤ x.toInt ∧ x.toInt < (cW A : Int)) → ∀ N, zPn N none d mX11_isWay (19, [(0, .inr (.inr (some 0))), (1, .inl x)], [], h) (fun v h' => v = some (.inl (if 0 ≤ x.toInt ∧ x.toInt < (cW A : Int) then 1 else 0)) ∧ h' = h) := fun z N => by
    refine pa_iconst (v := 0) (pc' := 20) dX11_isWay_19 (by decide) rfl ?_
    refine pa_iret dX11_isWay_20 rfl rfl ?_
    exact ⟨by rw [if_neg z], rfl⟩
  show zPn N none d mX11_isWay (0, [(0, .inr (.inr (some 0))), (1, .inl x)], [], h) _
  refine pa_iload_n (pc' := 1) dX11_isWay_0 rfl rfl ?_
  refine pa_if (pc' := 19) (pc2 := 4) dX11_isWay_1 (by decide) rfl (fun z => ?_) (fun z => ?_)
  · have z := zi_lt z
    rw [k0] at z
    exact e19 (by omega) _
  · have z := zi_nlt z
    rw [k0] at z
    refine pa_iload_n (pc' := 5) dX11_isWay_4 rfl rfl ?_
    refine pa_aload_n (pc' := 6) dX11_isWay_5 rfl rfl ?_
    refine pa_getR (pc' := 9) (n := 16) (r := c) dX11_isWay_6 fl_11_23 s0 (by decide) r3 rfl ?_
    refine pa_getI (pc' := 12) (n := 15) (v := nI (cW A)) dX11_isWay_9 fl_11_379 sc (by decide) e5 rfl ?_
    refine pa_icmp (pc' := 19) (pc2 := 15) dX11_isWay_12 (by decide) rfl (fun y => ?_) (fun y => ?_)
    · have y := zi_nlt (zk_ge_lt y)
      rw [nI_toInt (by omega)] at y
      exact e19 (by omega) _
    · have y := zi_lt (zk_ge_lt y)
      rw [nI_toInt (by omega)] at y
      refine pa_iconst (v := 1) (pc' := 16) dX11_isWay_15 (by decide) rfl ?_
      refine pa_goto (pc' := 20) dX11_isWay_16 (by decide) ?_
      refine pa_iret dX11_isWay_20 rfl rfl ?_
      exact ⟨by rw [if_pos ⟨by omega, by omega⟩], rfl⟩
theorem C_close (S : nwS h) (hA : lPA A c h) (L : lNC A s H J h) : zPa d mX11_close [.inr (.inr (some 0)), .inl x, .inl y] h (fun v g => nwF h g ∧ clsO A s H J x y v (g.2.1 0 2) (fun s H J => lNC A s H J g)) := by
  intro N
  obtain ⟨b1, b2, b3, b4, b5⟩ := hA.1.2.2.1
  have s0 : zsh h 0 = some (11, 16) := zsh_by S.1 (by decide +kernel)
  have r6 := S.2.1
  have n1 : h.2.1 86 1 = s.2.1 := L.1.2.1
  show zPn N none d mX11_close (0, [(0, .inr (.inr (some 0))), (1, .inl x), (2, .inl y)], [], h) _
  refine pa_aload_n (pc' := 1) dX11_close_0 rfl rfl ?_
  refine pa_iload_n (pc' := 2) dX11_close_1 rfl rfl ?_
  refine pa_callv (pc' := 5) (vs := [.inl x]) (rest := []) dX11_close_2 ml_11_230 (by decide) rfl rfl rfl (fun d' _ => (N_isWay hA S.1)) (fun v g9 hq => ?_)
  obtain ⟨ev, eh⟩ := hq
  subst ev
  rw [eh]
  show zPn N none d mX11_close (5, _, [.inl (if 0 ≤ x.toInt ∧ x.toInt < (cW A:Int) then 1 else 0)], h) _
  by_cases hx : 0 ≤ x.toInt ∧ x.toInt < (cW A : Int)
  case neg =>
    rw [if_neg hx]
    refine pa_if_f (pc' := 8) dX11_close_5 (by decide) (by decide) rfl ?_
    refine pa_aload_n (pc' := 9) dX11_close_8 rfl rfl ?_
    refine pa_iconst (v := nI 1) (pc' := 10) dX11_close_9 (by decide) rfl ?_
    refine pa_callv (pc' := 13) (vs := [.inl (nI 1)]) (rest := []) dX11_close_10 ml_11_347 (by decide) rfl rfl rfl (fun d' _ => (c_hRe s0)) (fun v g hq => ?_)
    obtain ⟨ev, eh⟩ := hq
    subst ev
    show zPn N none d mX11_close (13, _, [.inl 0], g) _
    subst eh
    refine pa_iret dX11_close_13 rfl rfl ?_
    exact ⟨nwF.t2, .inl ⟨hx, rfl, by rw [zsI_at, if_pos ⟨rfl, rfl⟩]; rfl, L.t2⟩⟩
  rw [if_pos hx]
  refine pa_if_t (pc' := 14) dX11_close_5 (by decide) (by decide) ?_
  obtain ⟨w, ew, hw⟩ : ∃ w : Nat, x = nI w ∧ w < cW A := ⟨x.toInt.toNat, Int32.toInt_inj.mp (by rw [nI_toInt (by omega)]; omega), by omega⟩
  subst ew
  refine pa_aload_n (pc' := 15) dX11_close_14 rfl rfl ?_
  refine pa_getR (pc' := 18) (n := 16) (r := 86) dX11_close_15 fl_11_42 s0 (by decide) r6 rfl ?_
  refine pa_iload_n (pc' := 19) dX11_close_18 rfl rfl ?_
  refine pa_callv (pc' := 22) (vs := [.inl (nI w)]) (rest := []) dX11_close_19 ml_11_210 (by decide) rfl rfl rfl (fun d' _ => (N_isClosed S.1 n1)) (fun v g9 hq => ?_)
  obtain ⟨ev, eh⟩ := hq
  subst ev
  rw [eh]
  show zPn N none d mX11_close (22, _, [.inl (if clB s.2.1 w = true then 1 else 0)], h) _
  refine pa_iload_n (pc' := 23) dX11_close_22 rfl rfl ?_
  by_cases hy : bI (clB s.2.1 w) = y
  case pos =>
    refine pa_icmp_f (pc' := 26) dX11_close_23 (decide_eq_false (not_not_intro hy)) (by decide) rfl ?_
    refine pa_aload_n (pc' := 27) dX11_close_26 rfl rfl ?_
    refine pa_iconst (v := nI 5) (pc' := 28) dX11_close_27 (by decide) rfl ?_
    refine pa_callv (pc' := 31) (vs := [.inl (nI 5)]) (rest := []) dX11_close_28 ml_11_347 (by decide) rfl rfl rfl (fun d' _ => (c_hRe s0)) (fun v g hq => ?_)
    obtain ⟨ev, eh⟩ := hq
    subst ev
    show zPn N none d mX11_close (31, _, [.inl 0], g) _
    subst eh
    refine pa_iret dX11_close_31 rfl rfl ?_
    exact ⟨nwF.t2, .inr ⟨w, rfl, hw, .inl ⟨hy, rfl, by rw [zsI_at, if_pos ⟨rfl, rfl⟩]; rfl, L.t2⟩⟩⟩
  refine pa_icmp_t (pc' := 32) dX11_close_23 (decide_eq_true hy) (by decide) ?_
  refine pa_aload_n (pc' := 33) dX11_close_32 rfl rfl ?_
  refine pa_callv (pc' := 36) (vs := []) (rest := []) dX11_close_33 ml_11_341 (by decide) rfl rfl rfl (fun d' _ => (N_keep S b3 b4 L)) (fun v g5 hq => ?_)
  obtain ⟨ev, eh⟩ := hq
  subst ev
  show zPn N none d mX11_close (36, _, [], g5) _
  obtain ⟨L5, F5⟩ := eh
  have S5 := S.fr F5.1 F5.2.1
  have q0 : zsh g5 0 = some (11, 16) := zsh_by S5.1 (by decide +kernel)
  have q86 : zsh g5 86 = some (2, 7) := zsh_by S5.1 (by decide +kernel)
  have x6 := S5.2.1
  have m1 := L5.1.2.1
  refine pa_aload_n (pc' := 37) dX11_close_36 rfl rfl ?_
  refine pa_getR (pc' := 40) (n := 16) (r := 86) dX11_close_37 fl_11_42 q0 (by decide) x6 rfl ?_
  refine pa_dup (pc' := 41) dX11_close_40 rfl rfl ?_
  refine pa_getI (pc' := 44) (n := 7) (v := s.2.1) dX11_close_41 fl_11_322 q86 (by decide) m1 rfl ?_
  refine pa_iconst (v := nI 1) (pc' := 45) dX11_close_44 (by decide) rfl ?_
  refine pa_iload_n (pc' := 46) dX11_close_45 rfl rfl ?_
  refine pa_ishl (pc' := 47) dX11_close_46 rfl rfl ?_
  refine pa_ixor (pc' := 48) dX11_close_47 rfl rfl ?_
  refine pa_putI (pc' := 51) (n := 7) dX11_close_48 fl_11_322 q86 (Or.inl rfl) (Or.inl rfl) rfl ?_
  refine pa_aload_n (pc' := 52) dX11_close_51 rfl rfl ?_
  refine pa_callv (pc' := 55) (vs := []) (rest := []) dX11_close_52 ml_11_356 (by decide) rfl rfl rfl (fun d' _ => (c_hGr q0)) (fun v g6 hq => ?_)
  obtain ⟨ev, eh⟩ := hq
  subst ev
  show zPn N none d mX11_close (55, _, [.inl 1], g6) _
  subst eh
  refine pa_iret dX11_close_55 rfl rfl ?_
  have at' : ∀ a k, (zsI (zsI g5 86 1 (s.2.1 ^^^ (nI 1 <<< (nI w &&& 31)))) 0 2 0).2.1 a k = if a = 0 ∧ k = 2 then 0 else if a = 86 ∧ k = 1 then s.2.1 ^^^ (nI 1 <<< (nI w &&& 31)) else g5.2.1 a k := fun a k => by
    rw [zsI_at, zsI_at]
  have out : ∀ a k, (a = 0 → k ≠ 2) → (a = 86 → k ≠ 1) → (zsI (zsI g5 86 1 (s.2.1 ^^^ (nI 1 <<< (nI w &&& 31)))) 0 2 0).2.1 a k = g5.2.1 a k := fun a k w1 w2 => by rw [at', if_neg (by omega), if_neg (by omega)]
  obtain ⟨⟨m1, m2, m3, m4⟩, ⟨nw, hn2, e12, e13, hl, hh⟩, j1, j2, j3⟩ := L5
  refine ⟨F5.tr ⟨rfl, rfl, fun k w0 w1 w2 w3 => out _ _ (by omega) (by omega), fun a k w1 w2 w3 => out _ _ (by omega) (by omega)⟩, .inr ⟨w, rfl, hw, .inr ⟨hy, rfl, by rw [at', if_pos ⟨rfl, rfl⟩], ⟨(out _ _ (by omega) (by omega)).trans m1, ?_, fun k hk => ⟨(out _ _ (by omega) (by omega)).trans (m3 k hk).1, (out _ _ (by omega) (by omega)).trans (m3 k hk).2⟩, fun k hk => ⟨(out _ _ (by omega) (by omega)).trans (m4 k hk).1, (out _ _ (by omega) (by omega)).trans (m4 k hk).2.1, (out _ _ (by omega) (by omega)).trans (m4 k hk).2.2⟩⟩, ⟨nw, hn2, (out _ _ (by omega) (by omega)).trans e12, (out _ _ (by omega) (by omega)).trans e13, hl, fun k t hk => (hh k t hk).fr (fun a j w1 w2 => out _ _ (by omega) (by omega))⟩, (out _ _ (by omega) (by omega)).trans j1, j2, fun k t hk => (j3 k t hk).fr (fun a j w1 w2 => out _ _ (by omega) (by omega))⟩⟩⟩
  rw [at', if_neg (by omega), if_pos ⟨rfl, rfl⟩]
  rfl
theorem M_close (S : mwS h) (hA : lPA A c h) (r15 : h.2.2.2.1 196 15 = some 199) (B : cI A ≠ 0 → bgM A s h) (L : lNM A s H J h) : zPa d mX12_close [.inr (.inr (some 196)), .inl x, .inl y] h (fun v g => mwF h g ∧ clsO A s H J x y v (g.2.1 196 11) (fun s H J => lNM A s H J g)) := by
  intro N
  obtain ⟨b1, b2, b3, b4, b5⟩ := hA.1.2.2.1
  have s196 : zsh h 196 = some (12, 39) := zsh_by S.1 (by decide +kernel)
  generalize eh1 : zsI (zsI h 196 0 0) 196 11 0 = h1
  have F1 : mwF h h1 := by rw [← eh1]; exact mwF.gd
  have t11 : h1.2.1 196 11 = 0 := by rw [← eh1, zsI_at, if_pos ⟨rfl, rfl⟩]
  have L1 : lNM A s H J h1 := L.ch b3 b4 (fun b k w1 w2 w3 => by rw [← eh1, zsI_at, zsI_at, if_neg (by omega), if_neg (by omega)])
  have S1 : mwS h1 := S.fr F1.1 F1.2.1
  have e14 : h1.2.1 196 14 = h.2.1 196 14 := F1.2.2.1 14 (by decide) (by decide) (by decide) (by decide)
  have z196 : zsh h1 196 = some (12, 39) := zsh_by S1.1 (by decide +kernel)
  have z199 : zsh h1 199 = some (14, 363) := zsh_by S1.1 (by decide +kernel)
  have q15 : h1.2.2.2.1 196 15 = some 199 := by rw [F1.2.1]; exact r15
  have ref : ¬ (0 ≤ x.toInt ∧ x.toInt < (cW A : Int)) → ∀ N, zPn N none d mX12_close (27, [(0, .inr (.inr (some 196))), (1, .inl x), (2, .inl y)], [], h1) (fun v g => mwF h g ∧ clsO A s H J x y v (g.2.1 196 11) (fun s H J => lNM A s H J g)) := fun hx N => by
    refine pa_aload_n (pc' := 28) dX12_close_27 rfl rfl ?_
    refine pa_iconst (v := nI 1) (pc' := 29) dX12_close_28 (by decide) rfl ?_
    refine pa_callv (pc' := 32) (vs := [.inl (nI 1)]) (rest := []) dX12_close_29 ml_12_427 (by decide) rfl rfl rfl (fun d' _ => (m_isN z196)) (fun v g3 hq => ?_)
    obtain ⟨ev, eh⟩ := hq
    subst ev
    show zPn N none d mX12_close (32, _, [.inl 0], g3) _
    subst eh
    refine pa_iret dX12_close_32 rfl rfl ?_
    exact ⟨F1.tr mwF.t, .inl ⟨hx, rfl, by rw [zsI_at, if_pos ⟨rfl, rfl⟩]; rfl, L1.ch b3 b4 (fun b k w1 w2 w3 => by rw [zsI_at, if_neg (by omega)])⟩⟩
  show zPn N none d mX12_close (0, [(0, .inr (.inr (some 196))), (1, .inl x), (2, .inl y)], [], h) _
  refine pa_aload_n (pc' := 1) dX12_close_0 rfl rfl ?_
  refine pa_callv (pc' := 4) (vs := []) (rest := []) dX12_close_1 ml_12_167 (by decide) rfl rfl rfl (fun d' _ => (m_good s196)) (fun v g hq => ?_)
  obtain ⟨ev, eh⟩ := hq
  subst ev
  show zPn N none d mX12_close (4, _, [], g) _
  rw [eh1] at eh
  subst eh
  rcases hA.2.2.2.2 with ⟨e14', eA⟩ | ⟨e14', z0, K⟩
  case inl =>
    have e14 := e14.trans e14'
    refine pa_aload_n (pc' := 5) dX12_close_4 rfl rfl ?_
    refine pa_getI (pc' := 8) (n := 39) (v := 0) dX12_close_5 fl_12_180 z196 (by decide) e14 rfl ?_
    refine pa_if_t (pc' := 27) dX12_close_8 (by decide) (by decide) ?_
    refine ref (fun z => ?_) _
    rw [eA] at z
    have : (cW pA0 : Int) = 0 := rfl
    omega
  have B := B z0
  have e14 := e14.trans e14'
  have k5 : g.2.1 199 5 = nI (cW A) := (F1.2.2.2 199 5 (by decide) (by decide) (by decide) (by decide)).trans K.2.2.2.1
  refine pa_aload_n (pc' := 5) dX12_close_4 rfl rfl ?_
  refine pa_getI (pc' := 8) (n := 39) (v := 1) dX12_close_5 fl_12_180 z196 (by decide) e14 rfl ?_
  refine pa_if_f (pc' := 11) dX12_close_8 (by decide) (by decide) rfl ?_
  refine pa_iload_n (pc' := 12) dX12_close_11 rfl rfl ?_
  refine pa_iconst (v := 0) (pc' := 13) dX12_close_12 (by decide) rfl ?_
  refine pa_aload_n (pc' := 14) dX12_close_13 rfl rfl ?_
  refine pa_getR (pc' := 17) (n := 39) (r := 199) dX12_close_14 fl_12_20 z196 (by decide) q15 rfl ?_
  refine pa_iconst (v := nI 5) (pc' := 18) dX12_close_17 (by decide) rfl ?_
  refine pa_iald (pc' := 19) dX12_close_18 z199 rfl (fun _ => ?_)
  rw [nI_clamp (by omega), k5]
  refine pa_iconst (v := 1) (pc' := 20) dX12_close_19 (by decide) rfl ?_
  refine pa_isub (pc' := 21) dX12_close_20 rfl rfl ?_
  refine pa_calls (pc' := 24) (kd := 1) (vs := [.inl x, .inl 0, .inl (nI (cW A) - 1)]) (rest := []) dX12_close_21 ml_12_149 (.inl rfl) rfl rfl rfl (fun d' _ => zPa.of in_ex) (fun r h2 hq => ?_)
  obtain ⟨r, er, eh, hq⟩ := hq
  subst er; subst eh
  have e : (nI (cW A) - 1).toInt = (cW A : Int) - 1 := by
    rw [Int32.toInt_sub, nI_toInt (by omega)]
    exact bmod_fit (by have : (1 : Int32).toInt = 1 := by decide
                       omega) (by have : (1 : Int32).toInt = 1 := by decide
                                  omega)
  rw [e] at hq
  show zPn N none d mX12_close (24, [(0, .inr (.inr (some 196))), (1, .inl x), (2, .inl y)], [.inl r], _) _
  rcases hq with ⟨er, hx⟩ | ⟨er, hx⟩
  case inr =>
    subst er
    refine pa_if_f (pc' := 27) dX12_close_24 (by decide) (by decide) rfl ?_
    exact ref (by omega) _
  subst er
  refine pa_if_t (pc' := 33) dX12_close_24 (by decide) (by decide) ?_
  obtain ⟨w, ew, hw⟩ : ∃ w : Nat, x = nI w ∧ w < cW A := ⟨x.toInt.toNat, Int32.toInt_inj.mp (by rw [nI_toInt (by omega)]; omega), by omega⟩
  subst ew
  clear ref
  have K1 : seM (cI A) (cW A) (wa A) (wb A) (dyA A) (opA A) s.2.1 h2 := by
    obtain ⟨k1, k2, k3, k4, ⟨k5, k6, k7⟩, k8⟩ := B.2.1
    have e : ∀ a k, (a = 199 ∨ a = 201) → h2.2.1 a k = h.2.1 a k := fun a k ha => by rw [← eh1, zsI_at, zsI_at, if_neg (by omega), if_neg (by omega)]
    refine ⟨F1.1.trans k1, k2, k3, by rw [F1.2.1]; exact k4, ⟨(e _ _ (.inl rfl)).trans k5, (e _ _ (.inl rfl)).trans k6, (e _ _ (.inr rfl)).trans k7⟩, fun k hk => ?_⟩
    rw [e _ _ (.inl rfl), e _ _ (.inl rfl), e _ _ (.inl rfl), e _ _ (.inl rfl)]
    exact k8 k hk
  refine pa_aload_n (pc' := 34) dX12_close_33 rfl rfl ?_
  refine pa_iload_n (pc' := 35) dX12_close_34 rfl rfl ?_
  refine pa_callv (pc' := 38) (vs := [.inl (nI w)]) (rest := []) dX12_close_35 ml_12_302 (by decide) rfl rfl rfl (fun d' _ => (M_isClosed K1)) (fun v g9 hq => ?_)
  obtain ⟨ev, eh⟩ := hq
  subst ev
  rw [eh]
  show zPn N none d mX12_close (38, _, [.inl (if clB s.2.1 w = true then 1 else 0)], h2) _
  refine pa_iload_n (pc' := 39) dX12_close_38 rfl rfl ?_
  by_cases hy : bI (clB s.2.1 w) = y
  case pos =>
    refine pa_icmp_f (pc' := 42) dX12_close_39 (decide_eq_false (not_not_intro hy)) (by decide) rfl ?_
    refine pa_aload_n (pc' := 43) dX12_close_42 rfl rfl ?_
    refine pa_iconst (v := nI 5) (pc' := 44) dX12_close_43 (by decide) rfl ?_
    refine pa_callv (pc' := 47) (vs := [.inl (nI 5)]) (rest := []) dX12_close_44 ml_12_427 (by decide) rfl rfl rfl (fun d' _ => (m_isN z196)) (fun v g3 hq => ?_)
    obtain ⟨ev, eh⟩ := hq
    subst ev
    show zPn N none d mX12_close (47, _, [.inl 0], g3) _
    subst eh
    refine pa_iret dX12_close_47 rfl rfl ?_
    exact ⟨F1.tr mwF.t, .inr ⟨w, rfl, hw, .inl ⟨hy, rfl, by rw [zsI_at, if_pos ⟨rfl, rfl⟩]; rfl, L1.ch b3 b4 (fun b k w1 w2 w3 => by rw [zsI_at, if_neg (by omega)])⟩⟩⟩
  refine pa_icmp_t (pc' := 48) dX12_close_39 (decide_eq_true hy) (by decide) ?_
  refine pa_aload_n (pc' := 49) dX12_close_48 rfl rfl ?_
  refine pa_callv (pc' := 52) (vs := []) (rest := []) dX12_close_49 ml_12_424 (by decide) rfl rfl rfl (fun d' _ => (M_note1 S1 b3 b4 L1)) (fun v g5 hq => ?_)
  obtain ⟨ev, eh⟩ := hq
  subst ev
  show zPn N none d mX12_close (52, _, [], g5) _
  obtain ⟨F5, L5, O5⟩ := eh
  have S5 := S1.fr F5.1 F5.2.1
  have q196 : zsh g5 196 = some (12, 39) := zsh_by S5.1 (by decide +kernel)
  have q201 : zsh g5 201 = some (14, 76) := zsh_by S5.1 (by decide +kernel)
  have x17 := S5.2.1
  have m1 : g5.2.1 201 1 = s.2.1 := L5.1.1.2.1
  refine pa_aload_n (pc' := 53) dX12_close_52 rfl rfl ?_
  refine pa_getR (pc' := 56) (n := 39) (r := 201) dX12_close_53 fl_12_26 q196 (by decide) x17 rfl ?_
  refine pa_iconst (v := nI 1) (pc' := 57) dX12_close_56 (by decide) rfl ?_
  refine pa_dup2 (pc' := 58) dX12_close_57 ⟨rfl, rfl⟩ rfl ?_
  refine pa_iald (pc' := 59) dX12_close_58 q201 rfl (fun _ => ?_)
  rw [nI_clamp (by omega), m1]
  refine pa_iconst (v := nI 1) (pc' := 60) dX12_close_59 (by decide) rfl ?_
  refine pa_iload_n (pc' := 61) dX12_close_60 rfl rfl ?_
  refine pa_ishl (pc' := 62) dX12_close_61 rfl rfl ?_
  refine pa_ixor (pc' := 63) dX12_close_62 rfl rfl ?_
  refine pa_iast (pc' := 64) dX12_close_63 q201 rfl (fun _ => ?_)
  rw [nI_clamp (by omega)]
  refine pa_iconst (v := 1) (pc' := 65) dX12_close_64 (by decide) rfl ?_
  refine pa_iret dX12_close_65 rfl rfl ?_
  have out : ∀ a k, (a = 201 → k ≠ 1) → (zsI g5 201 1 (s.2.1 ^^^ (nI 1 <<< (nI w &&& 31)))).2.1 a k = g5.2.1 a k := fun a k w1 => by rw [zsI_at, if_neg (by omega)]
  have t5 : g5.2.1 196 11 = 0 := (O5 196 11 (by decide) (by omega)).trans t11
  obtain ⟨⟨⟨m1, m3, m4, m5⟩, l1⟩, ⟨e20, hl, hh⟩, j1, j2, j3⟩ := L5
  refine ⟨F1.tr (F5.tr ⟨rfl, rfl, fun k w1 w2 w3 w4 => out _ _ (by omega), fun a k w1 w2 w3 w4 => out _ _ (by omega)⟩), .inr ⟨w, rfl, hw, .inr ⟨hy, rfl, (out _ _ (by omega)).trans t5, ⟨⟨(out _ _ (by omega)).trans m1, ?_, fun k hk => ⟨(out _ _ (by omega)).trans (m4 k hk).1, (out _ _ (by omega)).trans (m4 k hk).2⟩, fun k hk => ⟨(out _ _ (by omega)).trans (m5 k hk).1, (out _ _ (by omega)).trans (m5 k hk).2.1, fun j hj => (out _ _ (by omega)).trans ((m5 k hk).2.2 j hj)⟩⟩, l1⟩, ⟨(out _ _ (by omega)).trans e20, hl, fun k t hk => ⟨nMo.cp b3 b4 (hh k t hk).2 (fun j hj => out _ _ (by omega)) (hh k t hk).1, (hh k t hk).2⟩⟩, (out _ _ (by omega)).trans j1, j2, fun k t hk => ⟨nMo.cp b3 b4 (j3 k t hk).2 (fun j hj => out _ _ (by omega)) (j3 k t hk).1, (j3 k t hk).2⟩⟩⟩⟩
  rw [zsI_at, if_pos ⟨rfl, rfl⟩]
  rfl
end CLS
