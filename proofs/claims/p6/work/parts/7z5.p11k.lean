section Qx
variable {y : Nat → Int32} {n c d N p : Nat} {h h' : zH} {A : pA}
theorem C_loop (hc : cc2 c) : ∀ (N j p : Nat) (A : pA) (h : zH) (ls : zL), rs y n c A A.2.1 (cI A + cH A + cB A) p h → pI A → j ≤ p → zget ls 0 = some (.inr (.inr (some 82))) → zget ls 3 = some (.inl (nI j)) → zPn N none d mX5_readPost (47, ls, [], h) (txR c (sText y n (n + 1 - j) A p)) := by
  intro N
  induction N with
  | zero => intro j p A h ls _ _ _ _ _; exact zPn.zero
  | succ N ih =>
    intro j p A h ls K hI hj hl0 hl3
    have hp := K.2.2.1
    have hn := K.1.2.2.2.2.2
    have s82 := K.1.sh sh_82
    have e1 := K.1.2.2.2.2.1
    have ef : n + 1 - j = (n - j) + 1 := by omega
    refine pa_iload_n (pc' := 48) dX5_readPost_47 hl3 rfl ?_
    refine pa_aload_n (pc' := 49) dX5_readPost_48 hl0 rfl ?_
    refine pa_getI (pc' := 52) (n := 13) dX5_readPost_49 fl_5_9 s82 (by decide) e1 rfl ?_
    refine pa_icmp_f (pc' := 55) dX5_readPost_52 (zj_ngt (by rw [nI_toInt (by omega), nI_toInt (by omega)]; omega)) (by decide) rfl ?_
    refine pa_aload_n (pc' := 56) dX5_readPost_55 hl0 rfl ?_
    refine pa_callv (pc' := 59) (vs := []) (rest := []) dX5_readPost_56 ml_5_66 (by decide) rfl rfl rfl (fun d' _ => C_line hc hI K) (fun r g1 hq => ?_)
    cases eL : sLine y n A p with
    | inl e =>
      rw [eL] at hq
      obtain ⟨er, hf⟩ := hq
      subst er
      refine pa_if_f (x := 0) (pc' := 62) dX5_readPost_59 (by decide) (by decide) rfl ?_
      refine pa_iconst (v := 0) (pc' := 63) dX5_readPost_62 (by decide) rfl ?_
      refine pa_iret dX5_readPost_63 rfl rfl ?_
      rw [ef]
      unfold sText
      rw [eL]
      exact ⟨rfl, hf⟩
    | inr r =>
      obtain ⟨A1, q⟩ := r
      rw [eL] at hq
      obtain ⟨er, K1, hI1⟩ := hq
      subst er
      dsimp only at K1 hI1
      have hge := sLine_ge hp eL
      have eT : sText y n (n + 1 - j) A p = if tT y n q = 0 then (if cI A1 = 0 then .inl (6, tS y n q) else .inr A1) else if tT y n q = 59 then sText y n (n - j) A1 (tE y n q) else .inl (1, tS y n q) := by
        rw [ef]
        show (match sLine y n A p with | .inl e => _ | .inr (A, p) => _) = _
        rw [eL]
      rw [eT]
      refine pa_if_t (x := 1) (pc' := 64) dX5_readPost_59 (by decide) (by decide) ?_
      refine pa_aload_n (pc' := 65) dX5_readPost_64 hl0 rfl ?_
      refine pa_callv (pc' := 68) (vs := []) (rest := []) dX5_readPost_65 ml_5_70 (by decide) rfl rfl rfl (fun d' _ => c_next K1.1 K1.2.1 K1.2.2.1) (fun r gk hq => ?_)
      obtain ⟨er, hq⟩ := hq
      subst er
      have kt := hq.ct K1.1 K1.2.2.1
      obtain ⟨hx1, -, hs, ht, he⟩ := kt
      have kt := hq.ct K1.1 K1.2.2.1
      have s82 := hx1.sh sh_82
      have sc := hx1.sh (pc_sh hc).1
      have bI := hI1.2.2.1.1
      show zPn (N + 1) none d mX5_readPost (68, ls, [], gk) _
      refine pa_aload_n (pc' := 69) dX5_readPost_68 hl0 rfl ?_
      refine pa_getI (pc' := 72) (n := 13) dX5_readPost_69 fl_5_18 s82 (by decide) ht rfl ?_
      by_cases t0 : tT y n q = 0
      · have K2 := K1.nx hc hI1 hq (by rw [t0]; decide)
        have k4 := K2.2.2.2.1.2.1
        rw [if_pos t0]
        refine pa_if_f (pc' := 75) dX5_readPost_72 (by rw [t0]; decide) (by decide) rfl ?_
        refine pa_aload_n (pc' := 76) dX5_readPost_75 hl0 rfl ?_
        refine pa_getR (pc' := 79) (n := 13) (r := c) dX5_readPost_76 fl_5_51 s82 (by decide) hx1.2.2.1 rfl ?_
        refine pa_getI (pc' := 82) (n := 15) dX5_readPost_79 fl_5_73 sc (by decide) k4 rfl ?_
        by_cases i0 : cI A1 = 0
        · rw [if_pos i0]
          refine pa_if_f (pc' := 85) dX5_readPost_82 (zj_ngt (by rw [nI_toInt (by omega), show (0 : Int32).toInt = 0 by decide]; omega)) (by decide) rfl ?_
          refine pa_aload_n (pc' := 86) dX5_readPost_85 hl0 rfl ?_
          refine pa_bipush (v := 6) (pc' := 88) dX5_readPost_86 (by decide) rfl ?_
          refine pa_callv (pc' := 91) (vs := [.inl 6]) (rest := []) dX5_readPost_88 ml_5_76 (by decide) rfl rfl rfl (fun d' _ => c_flt hx1 hs) (fun r h3 hq5 => ?_)
          obtain ⟨er, hq5⟩ := hq5
          subst er
          refine pa_if_t (x := 0) (pc' := 98) dX5_readPost_91 (by decide) (by decide) ?_
          refine pa_iconst (v := 0) (pc' := 99) dX5_readPost_98 (by decide) rfl ?_
          exact pa_iret dX5_readPost_99 rfl rfl ⟨rfl, hq5.fl⟩
        · rw [if_neg i0]
          refine pa_if_t (pc' := 94) dX5_readPost_82 (zj_gt (by rw [nI_toInt (by omega), show (0 : Int32).toInt = 0 by decide]; omega)) (by decide) ?_
          refine pa_iconst (v := 1) (pc' := 95) dX5_readPost_94 (by decide) rfl ?_
          refine pa_goto (pc' := 99) dX5_readPost_95 (by decide) ?_
          exact pa_iret dX5_readPost_99 rfl rfl ⟨rfl, K2.2.2.2.1, hI1⟩
      · rw [if_neg t0]
        refine pa_if_t (pc' := 100) dX5_readPost_72 (decide_eq_true (fun z => t0 ((kt.tt (t := 0) (by decide)).mp z))) (by decide) ?_
        refine pa_aload_n (pc' := 101) dX5_readPost_100 hl0 rfl ?_
        refine pa_getI (pc' := 104) (n := 13) dX5_readPost_101 fl_5_18 s82 (by decide) ht rfl ?_
        refine pa_iconst (v := 3) (pc' := 105) dX5_readPost_104 (by decide) rfl ?_
        by_cases t59 : tT y n q = 59
        · have K2 := K1.nx hc hI1 hq (by rw [t59]; decide)
          have hb := t59_gt (y := y) hge.2 t59
          rw [if_pos t59]
          refine pa_icmp_t (pc' := 114) dX5_readPost_105 (by rw [t59]; decide) (by decide) ?_
          refine pa_iinc (pc' := 117) (v := nI (j + 1)) dX5_readPost_114 hl3 (by decide) (nI_add j 1) rfl rfl ?_
          refine pa_gotos (pc' := 47) dX5_readPost_117 (by decide) ?_
          have := ih (j + 1) (tE y n q) A1 gk (zset1 ls 3 (.inl (nI (j + 1)))) K2 hI1 (by omega) (zget_s1 hl0 (by decide) (by simp [zcat])) zget_s1e
          rw [show n + 1 - (j + 1) = n - j by omega] at this
          exact this
        · rw [if_neg t59]
          refine pa_icmp_f (pc' := 108) dX5_readPost_105 (decide_eq_false (fun z => t59 ((kt.tt (t := 59) (by decide)).mp z))) (by decide) rfl ?_
          refine pa_aload_n (pc' := 109) dX5_readPost_108 hl0 rfl ?_
          refine pa_iconst (v := 1) (pc' := 110) dX5_readPost_109 (by decide) rfl ?_
          refine pa_callv (pc' := 113) (vs := [.inl 1]) (rest := []) dX5_readPost_110 ml_5_76 (by decide) rfl rfl rfl (fun d' _ => c_flt hx1 hs) (fun r h3 hq5 => ?_)
          obtain ⟨er, hq5⟩ := hq5
          subst er
          exact pa_iret (x := 0) dX5_readPost_113 rfl rfl ⟨rfl, hq5.fl⟩
end Qx
