theorem C_head {y : Nat → Int32} {n c d p : Nat} {h : zH} {A : pA} (hc : cc2 c) (hI : pI A) (h0 : A.1 = 0) (K : rs y n c A A.2.1 (cI A + cH A + cB A) p h) : zPa d mX5_readHead [.inr (.inr (some 82))] h (lnR y n c (sHead y n A p)) := by
  intro N
  show zPn N none d mX5_readHead (0, [(0, .inr (.inr (some 82)))], [], h) _
  have hno := fun s h1 h2 => rcC.no3 K.2.2.2.1 h0 s h1 h2
  refine pa_aload_n (pc' := 1) dX5_readHead_0 rfl rfl ?_
  refine pa_ldc (pc' := 3) dX5_readHead_1 cl_5_137 rfl rfl ?_
  refine pa_callv (pc' := 6) (vs := [.inr (.inr (some 1000016))]) (rest := []) dX5_readHead_3 ml_5_138 (by decide) rfl rfl rfl (fun d' _ => C_word hc hI K (bs := wNotes) rfl) (fun r g1 hq => ?_)
  cases Ew1 : sWord y n wNotes p with
  | inl e =>
    rw [Ew1] at hq
    obtain ⟨er, hf⟩ := hq
    subst er
    refine pa_if_t (x := 0) (pc' := 18) dX5_readHead_6 (by decide) (by decide) ?_
    refine pa_iconst (v := 0) (pc' := 19) dX5_readHead_18 (by decide) rfl ?_
    exact pa_iret dX5_readHead_19 rfl rfl (lnl (by simp only [sHead, sWN, Ew1]) hf)
  | inr q1 =>
    rw [Ew1] at hq
    obtain ⟨er, K, hfr⟩ := hq
    subst er
    refine pa_if_f (x := 1) (pc' := 9) dX5_readHead_6 (by decide) (by decide) rfl ?_
    refine pa_aload_n (pc' := 10) dX5_readHead_9 rfl rfl ?_
    refine pa_iconst (v := 2) (pc' := 11) dX5_readHead_10 (by decide) rfl ?_
    refine pa_iconst (v := 4) (pc' := 12) dX5_readHead_11 (by decide) rfl ?_
    refine pa_callv (pc' := 15) (vs := [.inl 2, .inl 4]) (rest := []) dX5_readHead_12 ml_5_142 (by decide) rfl rfl rfl (fun d' _ => C_whole hc hI K) (fun r g2 hq => ?_)
    cases En2 : sNum y n 2 4 q1 with
    | inl e =>
      rw [En2] at hq
      obtain ⟨er, hf⟩ := hq
      subst er
      refine pa_if_f (x := 0) (pc' := 18) dX5_readHead_15 (by decide) (by decide) rfl ?_
      refine pa_iconst (v := 0) (pc' := 19) dX5_readHead_18 (by decide) rfl ?_
      exact pa_iret dX5_readHead_19 rfl rfl (lnl (by simp only [sHead, sWN, Ew1, En2]) hf)
    | inr q2 =>
      rw [En2] at hq
      obtain ⟨x2, q2⟩ := q2
      obtain ⟨er, K, hv, hfr⟩ := hq
      subst er
      refine pa_if_t (x := 1) (pc' := 20) dX5_readHead_15 (by decide) (by decide) ?_
      refine pa_aload_n (pc' := 21) dX5_readHead_20 rfl rfl ?_
      refine pa_getR (pc' := 24) (n := 13) (r := c) dX5_readHead_21 fl_5_51 (K.1.sh sh_82) (by decide) K.1.2.2.1 rfl ?_
      refine pa_aload_n (pc' := 25) dX5_readHead_24 rfl rfl ?_
      refine pa_getI (pc' := 28) (n := 13) dX5_readHead_25 fl_5_24 (K.1.sh sh_82) (by decide) hv rfl ?_
      refine pa_putI (pc' := 31) (n := 15) dX5_readHead_28 fl_5_84 (K.1.sh (pc_sh hc).1) (Or.inl rfl) (Or.inl rfl) rfl ?_
      have ht : x2 = 2 ∨ x2 = 3 ∨ x2 = 4 := sNum_24 En2
      have hne : x2 ≠ 0 := by rcases ht with z | z | z <;> rw [z] <;> decide
      have hI2 := hI.head ht h0
      have K := K.head hc hI h0 (t := x2)
      clear hI h0
      have hI := hI2
      refine pa_aload_n (pc' := 32) dX5_readHead_31 rfl rfl ?_
      refine pa_ldc (pc' := 34) dX5_readHead_32 cl_5_146 rfl rfl ?_
      refine pa_callv (pc' := 37) (vs := [.inr (.inr (some 1000017))]) (rest := []) dX5_readHead_34 ml_5_138 (by decide) rfl rfl rfl (fun d' _ => C_word hc hI K (bs := wErrors) rfl) (fun r g3 hq => ?_)
      cases Ew3 : sWord y n wErrors q2 with
      | inl e =>
        rw [Ew3] at hq
        obtain ⟨er, hf⟩ := hq
        subst er
        refine pa_if_t (x := 0) (pc' := 49) dX5_readHead_37 (by decide) (by decide) ?_
        refine pa_iconst (v := 0) (pc' := 50) dX5_readHead_49 (by decide) rfl ?_
        exact pa_iret dX5_readHead_50 rfl rfl (lnl (by simp only [sHead, sWN, Ew1, En2, Ew3]) hf)
      | inr q3 =>
        rw [Ew3] at hq
        obtain ⟨er, K, hfr⟩ := hq
        subst er
        refine pa_if_f (x := 1) (pc' := 40) dX5_readHead_37 (by decide) (by decide) rfl ?_
        refine pa_aload_n (pc' := 41) dX5_readHead_40 rfl rfl ?_
        refine pa_iconst (v := 0) (pc' := 42) dX5_readHead_41 (by decide) rfl ?_
        refine pa_iconst (v := 3) (pc' := 43) dX5_readHead_42 (by decide) rfl ?_
        refine pa_callv (pc' := 46) (vs := [.inl 0, .inl 3]) (rest := []) dX5_readHead_43 ml_5_142 (by decide) rfl rfl rfl (fun d' _ => C_whole hc hI K) (fun r g4 hq => ?_)
        cases En4 : sNum y n 0 3 q3 with
        | inl e =>
          rw [En4] at hq
          obtain ⟨er, hf⟩ := hq
          subst er
          refine pa_if_f (x := 0) (pc' := 49) dX5_readHead_46 (by decide) (by decide) rfl ?_
          refine pa_iconst (v := 0) (pc' := 50) dX5_readHead_49 (by decide) rfl ?_
          exact pa_iret dX5_readHead_50 rfl rfl (lnl (by simp only [sHead, sWN, Ew1, En2, Ew3, En4]) hf)
        | inr q4 =>
          rw [En4] at hq
          obtain ⟨x4, q4⟩ := q4
          obtain ⟨er, K, hv, hfr⟩ := hq
          subst er
          refine pa_if_t (x := 1) (pc' := 51) dX5_readHead_46 (by decide) (by decide) ?_
          refine pa_aload_n (pc' := 52) dX5_readHead_51 rfl rfl ?_
          refine pa_getR (pc' := 55) (n := 13) (r := c) dX5_readHead_52 fl_5_51 (K.1.sh sh_82) (by decide) K.1.2.2.1 rfl ?_
          refine pa_aload_n (pc' := 56) dX5_readHead_55 rfl rfl ?_
          refine pa_getI (pc' := 59) (n := 13) dX5_readHead_56 fl_5_24 (K.1.sh sh_82) (by decide) hv rfl ?_
          refine pa_putI (pc' := 62) (n := 15) dX5_readHead_59 fl_5_148 (K.1.sh (pc_sh hc).1) (Or.inl rfl) (Or.inl rfl) rfl ?_
          have K := K.wr (a := c) (j := 1) (v := x4) (wr_c hc (.inl rfl) hI hno)
          have v1 : (zsI g4 (c) 1 (x4)).2.1 (c) 1 = x4 := zsI_eq
          refine pa_aload_n (pc' := 63) dX5_readHead_62 rfl rfl ?_
          refine pa_ldc (pc' := 65) dX5_readHead_63 cl_5_150 rfl rfl ?_
          refine pa_callv (pc' := 68) (vs := [.inr (.inr (some 1000018))]) (rest := []) dX5_readHead_65 ml_5_138 (by decide) rfl rfl rfl (fun d' _ => C_word hc hI K (bs := wDrift) rfl) (fun r g5 hq => ?_)
          cases Ew5 : sWord y n wDrift q4 with
          | inl e =>
            rw [Ew5] at hq
            obtain ⟨er, hf⟩ := hq
            subst er
            refine pa_if_t (x := 0) (pc' := 81) dX5_readHead_68 (by decide) (by decide) ?_
            refine pa_iconst (v := 0) (pc' := 82) dX5_readHead_81 (by decide) rfl ?_
            exact pa_iret dX5_readHead_82 rfl rfl (lnl (by simp only [sHead, sWN, Ew1, En2, Ew3, En4, Ew5]) hf)
          | inr q5 =>
            rw [Ew5] at hq
            obtain ⟨er, K, hfr⟩ := hq
            subst er
            have v1 := (hfr _ _ (by rcases hc with z | z <;> omega)).trans v1
            refine pa_if_f (x := 1) (pc' := 71) dX5_readHead_68 (by decide) (by decide) rfl ?_
            refine pa_aload_n (pc' := 72) dX5_readHead_71 rfl rfl ?_
            refine pa_iconst (v := 0) (pc' := 73) dX5_readHead_72 (by decide) rfl ?_
            refine pa_bipush (v := 50) (pc' := 75) dX5_readHead_73 (by decide) rfl ?_
            refine pa_callv (pc' := 78) (vs := [.inl 0, .inl 50]) (rest := []) dX5_readHead_75 ml_5_142 (by decide) rfl rfl rfl (fun d' _ => C_whole hc hI K) (fun r g6 hq => ?_)
            cases En6 : sNum y n 0 50 q5 with
            | inl e =>
              rw [En6] at hq
              obtain ⟨er, hf⟩ := hq
              subst er
              refine pa_if_f (x := 0) (pc' := 81) dX5_readHead_78 (by decide) (by decide) rfl ?_
              refine pa_iconst (v := 0) (pc' := 82) dX5_readHead_81 (by decide) rfl ?_
              exact pa_iret dX5_readHead_82 rfl rfl (lnl (by simp only [sHead, sWN, Ew1, En2, Ew3, En4, Ew5, En6]) hf)
            | inr q6 =>
              rw [En6] at hq
              obtain ⟨x6, q6⟩ := q6
              obtain ⟨er, K, hv, hfr⟩ := hq
              subst er
              have v1 := (hfr _ _ (by rcases hc with z | z <;> omega)).trans v1
              refine pa_if_t (x := 1) (pc' := 83) dX5_readHead_78 (by decide) (by decide) ?_
              refine pa_aload_n (pc' := 84) dX5_readHead_83 rfl rfl ?_
              refine pa_getR (pc' := 87) (n := 13) (r := c) dX5_readHead_84 fl_5_51 (K.1.sh sh_82) (by decide) K.1.2.2.1 rfl ?_
              refine pa_aload_n (pc' := 88) dX5_readHead_87 rfl rfl ?_
              refine pa_getI (pc' := 91) (n := 13) dX5_readHead_88 fl_5_24 (K.1.sh sh_82) (by decide) hv rfl ?_
              refine pa_putI (pc' := 94) (n := 15) dX5_readHead_91 fl_5_152 (K.1.sh (pc_sh hc).1) (Or.inl rfl) (Or.inl rfl) rfl ?_
              have K := K.wr (a := c) (j := 2) (v := x6) (wr_c hc (.inr (.inl rfl)) hI hno)
              have v1 := (zsI_no (h := g6) (a := c) (k := 2) (x := x6) (by omega)).trans v1
              have v2 : (zsI g6 (c) 2 (x6)).2.1 (c) 2 = x6 := zsI_eq
              refine pa_aload_n (pc' := 95) dX5_readHead_94 rfl rfl ?_
              refine pa_ldc (pc' := 97) dX5_readHead_95 cl_5_154 rfl rfl ?_
              refine pa_callv (pc' := 100) (vs := [.inr (.inr (some 1000019))]) (rest := []) dX5_readHead_97 ml_5_138 (by decide) rfl rfl rfl (fun d' _ => C_word hc hI K (bs := wSlip) rfl) (fun r g7 hq => ?_)
              cases Ew7 : sWord y n wSlip q6 with
              | inl e =>
                rw [Ew7] at hq
                obtain ⟨er, hf⟩ := hq
                subst er
                refine pa_if_t (x := 0) (pc' := 113) dX5_readHead_100 (by decide) (by decide) ?_
                refine pa_iconst (v := 0) (pc' := 114) dX5_readHead_113 (by decide) rfl ?_
                exact pa_iret dX5_readHead_114 rfl rfl (lnl (by simp only [sHead, sWN, Ew1, En2, Ew3, En4, Ew5, En6, Ew7]) hf)
              | inr q7 =>
                rw [Ew7] at hq
                obtain ⟨er, K, hfr⟩ := hq
                subst er
                have v1 := (hfr _ _ (by rcases hc with z | z <;> omega)).trans v1
                have v2 := (hfr _ _ (by rcases hc with z | z <;> omega)).trans v2
                refine pa_if_f (x := 1) (pc' := 103) dX5_readHead_100 (by decide) (by decide) rfl ?_
                refine pa_aload_n (pc' := 104) dX5_readHead_103 rfl rfl ?_
                refine pa_iconst (v := 0) (pc' := 105) dX5_readHead_104 (by decide) rfl ?_
                refine pa_bipush (v := 100) (pc' := 107) dX5_readHead_105 (by decide) rfl ?_
                refine pa_callv (pc' := 110) (vs := [.inl 0, .inl 100]) (rest := []) dX5_readHead_107 ml_5_142 (by decide) rfl rfl rfl (fun d' _ => C_whole hc hI K) (fun r g8 hq => ?_)
                cases En8 : sNum y n 0 100 q7 with
                | inl e =>
                  rw [En8] at hq
                  obtain ⟨er, hf⟩ := hq
                  subst er
                  refine pa_if_f (x := 0) (pc' := 113) dX5_readHead_110 (by decide) (by decide) rfl ?_
                  refine pa_iconst (v := 0) (pc' := 114) dX5_readHead_113 (by decide) rfl ?_
                  exact pa_iret dX5_readHead_114 rfl rfl (lnl (by simp only [sHead, sWN, Ew1, En2, Ew3, En4, Ew5, En6, Ew7, En8]) hf)
                | inr q8 =>
                  rw [En8] at hq
                  obtain ⟨x8, q8⟩ := q8
                  obtain ⟨er, K, hv, hfr⟩ := hq
                  subst er
                  have v1 := (hfr _ _ (by rcases hc with z | z <;> omega)).trans v1
                  have v2 := (hfr _ _ (by rcases hc with z | z <;> omega)).trans v2
                  refine pa_if_t (x := 1) (pc' := 115) dX5_readHead_110 (by decide) (by decide) ?_
                  refine pa_aload_n (pc' := 116) dX5_readHead_115 rfl rfl ?_
                  refine pa_getR (pc' := 119) (n := 13) (r := c) dX5_readHead_116 fl_5_51 (K.1.sh sh_82) (by decide) K.1.2.2.1 rfl ?_
                  refine pa_aload_n (pc' := 120) dX5_readHead_119 rfl rfl ?_
                  refine pa_getI (pc' := 123) (n := 13) dX5_readHead_120 fl_5_24 (K.1.sh sh_82) (by decide) hv rfl ?_
                  refine pa_putI (pc' := 126) (n := 15) dX5_readHead_123 fl_5_156 (K.1.sh (pc_sh hc).1) (Or.inl rfl) (Or.inl rfl) rfl ?_
                  have K := K.wr (a := c) (j := 3) (v := x8) (wr_c hc (.inr (.inr rfl)) hI hno)
                  have v1 := (zsI_no (h := g8) (a := c) (k := 3) (x := x8) (by omega)).trans v1
                  have v2 := (zsI_no (h := g8) (a := c) (k := 3) (x := x8) (by omega)).trans v2
                  have v3 : (zsI g8 (c) 3 (x8)).2.1 (c) 3 = x8 := zsI_eq
                  refine pa_iconst (v := 1) (pc' := 127) dX5_readHead_126 (by decide) rfl ?_
                  refine pa_iret dX5_readHead_127 rfl rfl (lnr (A := (x2, A.2.1, xS (xS (xS A.2.2.1 1 x4) 2 x6) 3 x8, A.2.2.2)) (by simp only [sHead, sWN, Ew1, En2, Ew3, En4, Ew5, En6, Ew7, En8]) (K.headed hc hI hne v1 v2 v3) (hI.songs (fun i hi => xS3 hi)))
theorem C_box {y : Nat → Int32} {n c d p : Nat} {h : zH} {A : pA} (hc : cc2 c) (hI : pI A) (h1 : A.1 ≠ 0) (hB : cB A < 8) (K : rs y n c A A.2.1 (cI A + cH A + cB A) p h) : zPa d mX5_readBox [.inr (.inr (some 82)), .inr (.inr (some (c + 24 + cB A)))] h (lnR y n c (sBox y n A p)) := by
  intro N
  show zPn N none d mX5_readBox (0, [(0, .inr (.inr (some 82))), (1, .inr (.inr (some (c + 24 + cB A))))], [], h) _
  have hn := hI.2.2.2.2.1
  obtain ⟨b1, b2, b3, b4, b5⟩ := hI.2.2.1
  have so := pc_box hc hB
  have hp := K.2.2.1
  refine pa_aload_n (pc' := 1) dX5_readBox_0 rfl rfl ?_
  refine pa_iconst (v := 4) (pc' := 2) dX5_readBox_1 (by decide) rfl ?_
  refine pa_aload_n (pc' := 3) dX5_readBox_2 rfl rfl ?_
  refine pa_getR (pc' := 6) (n := 13) (r := c) dX5_readBox_3 fl_5_51 (K.1.sh sh_82) (by decide) K.1.2.2.1 rfl ?_
  refine pa_getI (pc' := 9) (n := 15) dX5_readBox_6 fl_5_115 (K.1.sh (pc_sh hc).1) (by decide) K.2.2.2.1.2.2.2.2.1 rfl ?_
  refine pa_callv (pc' := 12) (vs := [.inl 4, .inl (nI (cB A))]) (rest := []) dX5_readBox_9 ml_5_158 (by decide) rfl rfl rfl (fun d' _ => C_new (i := 12 + cB A) (.inr (.inr ⟨by omega, rfl, by congr 1; omega⟩)) (by omega) (hI.free (by omega) (fun z => by unfold occ at z; omega)) (by omega) hc hI hn K) (fun r g1 hq => ?_)
  cases Ex1 : sNew y n A.2.1 p with
  | inl e =>
    rw [Ex1] at hq
    obtain ⟨er, hf⟩ := hq
    subst er
    refine pa_if_t (x := 0) (pc' := 32) dX5_readBox_12 (by decide) (by decide) ?_
    refine pa_iconst (v := 0) (pc' := 33) dX5_readBox_32 (by decide) rfl ?_
    exact pa_iret dX5_readBox_33 rfl rfl (lnl (by simp only [sBox, sWN, Ex1]) hf)
  | inr q1 =>
    rw [Ex1] at hq
    obtain ⟨er, K, hn, hfr⟩ := hq
    subst er
    refine pa_if_f (x := 1) (pc' := 15) dX5_readBox_12 (by decide) (by decide) rfl ?_
    refine pa_aload_n (pc' := 16) dX5_readBox_15 rfl rfl ?_
    refine pa_ldc (pc' := 18) dX5_readBox_16 cl_5_215 rfl rfl ?_
    refine pa_callv (pc' := 21) (vs := [.inr (.inr (some 1000029))]) (rest := []) dX5_readBox_18 ml_5_138 (by decide) rfl rfl rfl (fun d' _ => C_word hc hI K (bs := wFrom) rfl) (fun r g2 hq => ?_)
    cases Ew2 : sWord y n wFrom q1 with
    | inl e =>
      rw [Ew2] at hq
      obtain ⟨er, hf⟩ := hq
      subst er
      refine pa_if_t (x := 0) (pc' := 32) dX5_readBox_21 (by decide) (by decide) ?_
      refine pa_iconst (v := 0) (pc' := 33) dX5_readBox_32 (by decide) rfl ?_
      exact pa_iret dX5_readBox_33 rfl rfl (lnl (by simp only [sBox, sWN, Ex1, Ew2]) hf)
    | inr q2 =>
      rw [Ew2] at hq
      obtain ⟨er, K, hfr⟩ := hq
      subst er
      refine pa_if_f (x := 1) (pc' := 24) dX5_readBox_21 (by decide) (by decide) rfl ?_
      refine pa_aload_n (pc' := 25) dX5_readBox_24 rfl rfl ?_
      refine pa_iconst (v := 1) (pc' := 26) dX5_readBox_25 (by decide) rfl ?_
      refine pa_callv (pc' := 29) (vs := [.inl 1]) (rest := []) dX5_readBox_26 ml_5_173 (by decide) rfl rfl rfl (fun d' _ => C_old (.inl ⟨rfl, rfl, rfl⟩) hc hI hn K) (fun r g3 hq => ?_)
      cases Eo3 : sOld y n (upA A.2.1 (12 + cB A) (tW y n p)) 0 6 q2 with
      | inl e =>
        rw [Eo3] at hq
        obtain ⟨er, hf⟩ := hq
        subst er
        refine pa_if_f (x := 0) (pc' := 32) dX5_readBox_29 (by decide) (by decide) rfl ?_
        refine pa_iconst (v := 0) (pc' := 33) dX5_readBox_32 (by decide) rfl ?_
        exact pa_iret dX5_readBox_33 rfl rfl (lnl (by simp only [sBox, sWN, Ex1, Ew2, Eo3]) hf)
      | inr q3 =>
        rw [Eo3] at hq
        obtain ⟨x3, q3⟩ := q3
        obtain ⟨er, K, hv, h84, hfr⟩ := hq
        subst er
        refine pa_if_t (x := 1) (pc' := 34) dX5_readBox_29 (by decide) (by decide) ?_
        refine pa_aload_n (pc' := 35) dX5_readBox_34 rfl rfl ?_
        refine pa_aload_n (pc' := 36) dX5_readBox_35 rfl rfl ?_
        refine pa_getI (pc' := 39) (n := 13) dX5_readBox_36 fl_5_24 (K.1.sh sh_82) (by decide) hv rfl ?_
        refine pa_putI (pc' := 42) (n := 4) dX5_readBox_39 fl_5_217 (K.1.sh so.1) (Or.inl rfl) (Or.inl rfl) rfl ?_
        have K := K.wr (a := c + 24 + cB A) (j := 0) (v := nI x3) (wr_b hc hB hI)
        have v0 : (zsI g3 (c + 24 + cB A) 0 (nI x3)).2.1 (c + 24 + cB A) 0 = nI x3 := zsI_eq
        refine pa_aload_n (pc' := 43) dX5_readBox_42 rfl rfl ?_
        refine pa_ldc (pc' := 45) dX5_readBox_43 cl_5_221 rfl rfl ?_
        refine pa_callv (pc' := 48) (vs := [.inr (.inr (some 1000030))]) (rest := []) dX5_readBox_45 ml_5_138 (by decide) rfl rfl rfl (fun d' _ => C_word hc hI K (bs := wTo) rfl) (fun r g4 hq => ?_)
        cases Ew4 : sWord y n wTo q3 with
        | inl e =>
          rw [Ew4] at hq
          obtain ⟨er, hf⟩ := hq
          subst er
          refine pa_if_t (x := 0) (pc' := 59) dX5_readBox_48 (by decide) (by decide) ?_
          refine pa_iconst (v := 0) (pc' := 60) dX5_readBox_59 (by decide) rfl ?_
          exact pa_iret dX5_readBox_60 rfl rfl (lnl (by simp only [sBox, sWN, Ex1, Ew2, Eo3, Ew4]) hf)
        | inr q4 =>
          rw [Ew4] at hq
          obtain ⟨er, K, hfr⟩ := hq
          subst er
          have v0 := (hfr _ _ (by rcases hc with z | z <;> omega)).trans v0
          refine pa_if_f (x := 1) (pc' := 51) dX5_readBox_48 (by decide) (by decide) rfl ?_
          refine pa_aload_n (pc' := 52) dX5_readBox_51 rfl rfl ?_
          refine pa_iconst (v := 1) (pc' := 53) dX5_readBox_52 (by decide) rfl ?_
          refine pa_callv (pc' := 56) (vs := [.inl 1]) (rest := []) dX5_readBox_53 ml_5_173 (by decide) rfl rfl rfl (fun d' _ => C_old (.inl ⟨rfl, rfl, rfl⟩) hc hI hn K) (fun r g5 hq => ?_)
          cases Eo5 : sOld y n (upA A.2.1 (12 + cB A) (tW y n p)) 0 6 q4 with
          | inl e =>
            rw [Eo5] at hq
            obtain ⟨er, hf⟩ := hq
            subst er
            refine pa_if_f (x := 0) (pc' := 59) dX5_readBox_56 (by decide) (by decide) rfl ?_
            refine pa_iconst (v := 0) (pc' := 60) dX5_readBox_59 (by decide) rfl ?_
            exact pa_iret dX5_readBox_60 rfl rfl (lnl (by simp only [sBox, sWN, Ex1, Ew2, Eo3, Ew4, Eo5]) hf)
          | inr q5 =>
            rw [Eo5] at hq
            obtain ⟨x5, q5⟩ := q5
            obtain ⟨er, K, hv, h84, hfr⟩ := hq
            subst er
            have v0 := (hfr _ _ (by rcases hc with z | z <;> omega)).trans v0
            refine pa_if_t (x := 1) (pc' := 61) dX5_readBox_56 (by decide) (by decide) ?_
            refine pa_aload_n (pc' := 62) dX5_readBox_61 rfl rfl ?_
            refine pa_aload_n (pc' := 63) dX5_readBox_62 rfl rfl ?_
            refine pa_getI (pc' := 66) (n := 13) dX5_readBox_63 fl_5_24 (K.1.sh sh_82) (by decide) hv rfl ?_
            refine pa_putI (pc' := 69) (n := 4) dX5_readBox_66 fl_5_223 (K.1.sh so.1) (Or.inl rfl) (Or.inl rfl) rfl ?_
            have K := K.wr (a := c + 24 + cB A) (j := 1) (v := nI x5) (wr_b hc hB hI)
            have v0 := (zsI_no (h := g5) (a := c + 24 + cB A) (k := 1) (x := nI x5) (by omega)).trans v0
            have v1 : (zsI g5 (c + 24 + cB A) 1 (nI x5)).2.1 (c + 24 + cB A) 1 = nI x5 := zsI_eq
            refine pa_aload_n (pc' := 70) dX5_readBox_69 rfl rfl ?_
            refine pa_ldc (pc' := 72) dX5_readBox_70 cl_5_225 rfl rfl ?_
            refine pa_callv (pc' := 75) (vs := [.inr (.inr (some 1000031))]) (rest := []) dX5_readBox_72 ml_5_138 (by decide) rfl rfl rfl (fun d' _ => C_word hc hI K (bs := wWeighs) rfl) (fun r g6 hq => ?_)
            cases Ew6 : sWord y n wWeighs q5 with
            | inl e =>
              rw [Ew6] at hq
              obtain ⟨er, hf⟩ := hq
              subst er
              refine pa_if_t (x := 0) (pc' := 88) dX5_readBox_75 (by decide) (by decide) ?_
              refine pa_iconst (v := 0) (pc' := 89) dX5_readBox_88 (by decide) rfl ?_
              exact pa_iret dX5_readBox_89 rfl rfl (lnl (by simp only [sBox, sWN, Ex1, Ew2, Eo3, Ew4, Eo5, Ew6]) hf)
            | inr q6 =>
              rw [Ew6] at hq
              obtain ⟨er, K, hfr⟩ := hq
              subst er
              have v0 := (hfr _ _ (by rcases hc with z | z <;> omega)).trans v0
              have v1 := (hfr _ _ (by rcases hc with z | z <;> omega)).trans v1
              refine pa_if_f (x := 1) (pc' := 78) dX5_readBox_75 (by decide) (by decide) rfl ?_
              refine pa_aload_n (pc' := 79) dX5_readBox_78 rfl rfl ?_
              refine pa_iconst (v := 1) (pc' := 80) dX5_readBox_79 (by decide) rfl ?_
              refine pa_bipush (v := 99) (pc' := 82) dX5_readBox_80 (by decide) rfl ?_
              refine pa_callv (pc' := 85) (vs := [.inl 1, .inl 99]) (rest := []) dX5_readBox_82 ml_5_142 (by decide) rfl rfl rfl (fun d' _ => C_whole hc hI K) (fun r g7 hq => ?_)
              cases En7 : sNum y n 1 99 q6 with
              | inl e =>
                rw [En7] at hq
                obtain ⟨er, hf⟩ := hq
                subst er
                refine pa_if_f (x := 0) (pc' := 88) dX5_readBox_85 (by decide) (by decide) rfl ?_
                refine pa_iconst (v := 0) (pc' := 89) dX5_readBox_88 (by decide) rfl ?_
                exact pa_iret dX5_readBox_89 rfl rfl (lnl (by simp only [sBox, sWN, Ex1, Ew2, Eo3, Ew4, Eo5, Ew6, En7]) hf)
              | inr q7 =>
                rw [En7] at hq
                obtain ⟨x7, q7⟩ := q7
                obtain ⟨er, K, hv, hfr⟩ := hq
                subst er
                have v0 := (hfr _ _ (by rcases hc with z | z <;> omega)).trans v0
                have v1 := (hfr _ _ (by rcases hc with z | z <;> omega)).trans v1
                refine pa_if_t (x := 1) (pc' := 90) dX5_readBox_85 (by decide) (by decide) ?_
                refine pa_aload_n (pc' := 91) dX5_readBox_90 rfl rfl ?_
                refine pa_aload_n (pc' := 92) dX5_readBox_91 rfl rfl ?_
                refine pa_getI (pc' := 95) (n := 13) dX5_readBox_92 fl_5_24 (K.1.sh sh_82) (by decide) hv rfl ?_
                refine pa_putI (pc' := 98) (n := 4) dX5_readBox_95 fl_5_227 (K.1.sh so.1) (Or.inl rfl) (Or.inl rfl) rfl ?_
                have K := K.wr (a := c + 24 + cB A) (j := 2) (v := x7) (wr_b hc hB hI)
                have v0 := (zsI_no (h := g7) (a := c + 24 + cB A) (k := 2) (x := x7) (by omega)).trans v0
                have v1 := (zsI_no (h := g7) (a := c + 24 + cB A) (k := 2) (x := x7) (by omega)).trans v1
                have v2 : (zsI g7 (c + 24 + cB A) 2 (x7)).2.1 (c + 24 + cB A) 2 = x7 := zsI_eq
                refine pa_aload_n (pc' := 99) dX5_readBox_98 rfl rfl ?_
                refine pa_ldc (pc' := 101) dX5_readBox_99 cl_5_229 rfl rfl ?_
                refine pa_callv (pc' := 104) (vs := [.inr (.inr (some 1000032))]) (rest := []) dX5_readBox_101 ml_5_138 (by decide) rfl rfl rfl (fun d' _ => C_word hc hI K (bs := wDay) rfl) (fun r g8 hq => ?_)
                cases Ew8 : sWord y n wDay q7 with
                | inl e =>
                  rw [Ew8] at hq
                  obtain ⟨er, hf⟩ := hq
                  subst er
                  refine pa_if_t (x := 0) (pc' := 118) dX5_readBox_104 (by decide) (by decide) ?_
                  refine pa_iconst (v := 0) (pc' := 119) dX5_readBox_118 (by decide) rfl ?_
                  exact pa_iret dX5_readBox_119 rfl rfl (lnl (by simp only [sBox, sWN, Ex1, Ew2, Eo3, Ew4, Eo5, Ew6, En7, Ew8]) hf)
                | inr q8 =>
                  rw [Ew8] at hq
                  obtain ⟨er, K, hfr⟩ := hq
                  subst er
                  have v0 := (hfr _ _ (by rcases hc with z | z <;> omega)).trans v0
                  have v1 := (hfr _ _ (by rcases hc with z | z <;> omega)).trans v1
                  have v2 := (hfr _ _ (by rcases hc with z | z <;> omega)).trans v2
                  refine pa_if_f (x := 1) (pc' := 107) dX5_readBox_104 (by decide) (by decide) rfl ?_
                  refine pa_aload_n (pc' := 108) dX5_readBox_107 rfl rfl ?_
                  refine pa_iconst (v := 0) (pc' := 109) dX5_readBox_108 (by decide) rfl ?_
                  refine pa_sipush (v := 9999) (pc' := 112) dX5_readBox_109 (by decide) rfl ?_
                  refine pa_callv (pc' := 115) (vs := [.inl 0, .inl 9999]) (rest := []) dX5_readBox_112 ml_5_142 (by decide) rfl rfl rfl (fun d' _ => C_whole hc hI K) (fun r g9 hq => ?_)
                  cases En9 : sNum y n 0 9999 q8 with
                  | inl e =>
                    rw [En9] at hq
                    obtain ⟨er, hf⟩ := hq
                    subst er
                    refine pa_if_f (x := 0) (pc' := 118) dX5_readBox_115 (by decide) (by decide) rfl ?_
                    refine pa_iconst (v := 0) (pc' := 119) dX5_readBox_118 (by decide) rfl ?_
                    exact pa_iret dX5_readBox_119 rfl rfl (lnl (by simp only [sBox, sWN, Ex1, Ew2, Eo3, Ew4, Eo5, Ew6, En7, Ew8, En9]) hf)
                  | inr q9 =>
                    rw [En9] at hq
                    obtain ⟨x9, q9⟩ := q9
                    obtain ⟨er, K, hv, hfr⟩ := hq
                    subst er
                    have v0 := (hfr _ _ (by rcases hc with z | z <;> omega)).trans v0
                    have v1 := (hfr _ _ (by rcases hc with z | z <;> omega)).trans v1
                    have v2 := (hfr _ _ (by rcases hc with z | z <;> omega)).trans v2
                    refine pa_if_t (x := 1) (pc' := 120) dX5_readBox_115 (by decide) (by decide) ?_
                    refine pa_aload_n (pc' := 121) dX5_readBox_120 rfl rfl ?_
                    refine pa_aload_n (pc' := 122) dX5_readBox_121 rfl rfl ?_
                    refine pa_getI (pc' := 125) (n := 13) dX5_readBox_122 fl_5_24 (K.1.sh sh_82) (by decide) hv rfl ?_
                    refine pa_putI (pc' := 128) (n := 4) dX5_readBox_125 fl_5_231 (K.1.sh so.1) (Or.inl rfl) (Or.inl rfl) rfl ?_
                    have K := K.wr (a := c + 24 + cB A) (j := 3) (v := x9) (wr_b hc hB hI)
                    have v0 := (zsI_no (h := g9) (a := c + 24 + cB A) (k := 3) (x := x9) (by omega)).trans v0
                    have v1 := (zsI_no (h := g9) (a := c + 24 + cB A) (k := 3) (x := x9) (by omega)).trans v1
                    have v2 := (zsI_no (h := g9) (a := c + 24 + cB A) (k := 3) (x := x9) (by omega)).trans v2
                    have v3 : (zsI g9 (c + 24 + cB A) 3 (x9)).2.1 (c + 24 + cB A) 3 = x9 := zsI_eq
                    refine pa_aload_n (pc' := 129) dX5_readBox_128 rfl rfl ?_
                    refine pa_getR (pc' := 132) (n := 13) (r := c) dX5_readBox_129 fl_5_51 (K.1.sh sh_82) (by decide) K.1.2.2.1 rfl ?_
                    refine pa_dup (pc' := 133) dX5_readBox_132 rfl rfl ?_
                    refine pa_getI (pc' := 136) (n := 15) dX5_readBox_133 fl_5_115 (K.1.sh (pc_sh hc).1) (by decide) K.2.2.2.1.2.2.2.2.1 rfl ?_
                    refine pa_iconst (v := nI 1) (pc' := 137) dX5_readBox_136 (by decide) rfl ?_
                    refine pa_iadd (pc' := 138) (v := nI ((cB A) + 1)) dX5_readBox_137 (nI_add _ _) rfl ?_
                    refine pa_putI (pc' := 141) (n := 15) dX5_readBox_138 fl_5_115 (K.1.sh (pc_sh hc).1) (Or.inl rfl) (Or.inl rfl) rfl ?_
                    refine pa_iconst (v := 1) (pc' := 142) dX5_readBox_141 (by decide) rfl ?_
                    refine pa_iret dX5_readBox_142 rfl rfl (lnr (A := (A.1, upA A.2.1 (12 + cB A) (tW y n p), xS (xS (xS (xS A.2.2.1 (127 + 4 * cB A) (nI x3)) (128 + 4 * cB A) (nI x5)) (129 + 4 * cB A) (x7)) (130 + 4 * cB A) (x9), A.2.2.2.1, A.2.2.2.2.1, cI A, cW A, cH A, cB A + 1, cS A)) (by simp only [sBox, sWN, Ex1, Ew2, Eo3, Ew4, Eo5, Ew6, En7, Ew8, En9]) (K.boxed hc hI hB v0 v1 v2 v3) (hI.boxed (fun i hi => xS4 hi) h1 hB hn (sNew_w hp Ex1)))
theorem C_whale {y : Nat → Int32} {n c d p : Nat} {h : zH} {A : pA} (hc : cc2 c) (hI : pI A) (h1 : A.1 ≠ 0) (hH : cH A < 5) (K : rs y n c A A.2.1 (cI A + cH A + cB A) p h) : zPa d mX5_readWhale [.inr (.inr (some 82)), .inr (.inr (some (c + 19 + cH A)))] h (lnR y n c (sWhale y n A p)) := by
  intro N
  show zPn N none d mX5_readWhale (0, [(0, .inr (.inr (some 82))), (1, .inr (.inr (some (c + 19 + cH A))))], [], h) _
  have hn := hI.2.2.2.2.1
  obtain ⟨b1, b2, b3, b4, b5⟩ := hI.2.2.1
  have so := pc_whl hc hH
  have hp := K.2.2.1
  refine pa_aload_n (pc' := 1) dX5_readWhale_0 rfl rfl ?_
  refine pa_iconst (v := 3) (pc' := 2) dX5_readWhale_1 (by decide) rfl ?_
  refine pa_aload_n (pc' := 3) dX5_readWhale_2 rfl rfl ?_
  refine pa_getR (pc' := 6) (n := 13) (r := c) dX5_readWhale_3 fl_5_51 (K.1.sh sh_82) (by decide) K.1.2.2.1 rfl ?_
  refine pa_getI (pc' := 9) (n := 15) dX5_readWhale_6 fl_5_104 (K.1.sh (pc_sh hc).1) (by decide) K.2.2.2.1.2.2.2.1 rfl ?_
  refine pa_callv (pc' := 12) (vs := [.inl 3, .inl (nI (cH A))]) (rest := []) dX5_readWhale_9 ml_5_158 (by decide) rfl rfl rfl (fun d' _ => C_new (i := 7 + cH A) (.inr (.inl ⟨by omega, by omega, rfl, by congr 1; omega⟩)) (by omega) (hI.free (by omega) (fun z => by unfold occ at z; omega)) (by omega) hc hI hn K) (fun r g1 hq => ?_)
  cases Ex1 : sNew y n A.2.1 p with
  | inl e =>
    rw [Ex1] at hq
    obtain ⟨er, hf⟩ := hq
    subst er
    refine pa_if_f (x := 0) (pc' := 15) dX5_readWhale_12 (by decide) (by decide) rfl ?_
    refine pa_iconst (v := 0) (pc' := 16) dX5_readWhale_15 (by decide) rfl ?_
    exact pa_iret dX5_readWhale_16 rfl rfl (lnl (by simp only [sWhale, sWN, Ex1]) hf)
  | inr q1 =>
    rw [Ex1] at hq
    obtain ⟨er, K, hn, hfr⟩ := hq
    subst er
    refine pa_if_t (x := 1) (pc' := 17) dX5_readWhale_12 (by decide) (by decide) ?_
    refine pa_aload_n (pc' := 18) dX5_readWhale_17 rfl rfl ?_
    refine pa_callv (pc' := 21) (vs := []) (rest := []) dX5_readWhale_18 ml_5_70 (by decide) rfl rfl rfl (fun d' _ => c_next K.1 K.2.1 K.2.2.1) (fun r gk hq => ?_)
    obtain ⟨er, hq⟩ := hq
    subst er
    have kt := hq.ct K.1 K.2.2.1
    show zPn N none d mX5_readWhale (21, [(0, .inr (.inr (some 82))), (1, .inr (.inr (some (c + 19 + cH A))))], [], gk) _
    refine pa_aload_n (pc' := 22) dX5_readWhale_21 rfl rfl ?_
    refine pa_aload_n (pc' := 23) dX5_readWhale_22 rfl rfl ?_
    refine pa_callv (pc' := 26) (vs := []) (rest := [.inr (.inr (some (c + 19 + cH A)))]) dX5_readWhale_23 ml_5_195 (by decide) rfl rfl rfl (fun d' _ => c_kind kt) (fun r gl hq2 => ?_)
    obtain ⟨eh, kx, er, hkx⟩ := hq2
    subst eh
    subst er
    refine pa_putI (pc' := 29) (n := 4) (v := kx) dX5_readWhale_26 fl_5_198 (kt.1.sh so.1) (Or.inl rfl) (Or.inl rfl) rfl ?_
    refine pa_aload_n (pc' := 30) dX5_readWhale_29 rfl rfl ?_
    refine pa_getI (pc' := 33) (n := 4) (v := kx) dX5_readWhale_30 fl_5_198 (kt.1.sh so.1) (by decide) zsI_eq rfl ?_
    refine pa_bipush (v := (-2)) (pc' := 35) dX5_readWhale_33 (by decide) rfl ?_
    rcases knd_k hkx with ⟨ek, ek2⟩ | ⟨ek, ek2⟩
    · have hs4 : (zsI gl (c + 19 + cH A) 0 kx).2.1 82 4 = nI (tS y n q1) := by rw [zsI_no (by rcases hc with z | z <;> omega)]; exact kt.2.2.1
      refine pa_icmp_f (pc' := 38) dX5_readWhale_35 (by rw [ek]; decide) (by decide) rfl ?_
      refine pa_aload_n (pc' := 39) dX5_readWhale_38 rfl rfl ?_
      refine pa_iconst (v := 1) (pc' := 40) dX5_readWhale_39 (by decide) rfl ?_
      refine pa_callv (pc' := 43) (vs := [.inl 1]) (rest := []) dX5_readWhale_40 ml_5_76 (by decide) rfl rfl rfl (fun d' _ => c_flt (kt.1.zw (by rcases hc with z | z <;> omega) (by rcases hc with z | z <;> omega)) hs4) (fun r h3 hq3 => ?_)
      obtain ⟨er, hq3⟩ := hq3
      subst er
      exact pa_iret (x := 0) dX5_readWhale_43 rfl rfl (lnl (by simp only [sWhale, Ex1]; rw [if_neg (by rw [ek2]; decide)]) hq3.fl)
    refine pa_icmp_t (pc' := 44) dX5_readWhale_35 (by simpa [zcond] using ek) (by decide) ?_
    have ek3 : isKind y n q1 = true := ek2
    have K := (K.nx hc hI hq (isKind_t ek3)).wr (a := c + 19 + cH A) (j := 0) (v := kx) (wr_h hc hH hI)
    have v0 : (zsI gl (c + 19 + cH A) 0 kx).2.1 (c + 19 + cH A) 0 = kdV y n q1 := zsI_eq.trans (knd_v hkx ek)
    refine pa_aload_n (pc' := 45) dX5_readWhale_44 rfl rfl ?_
    refine pa_ldc (pc' := 47) dX5_readWhale_45 cl_5_203 rfl rfl ?_
    refine pa_callv (pc' := 50) (vs := [.inr (.inr (some 1000026))]) (rest := []) dX5_readWhale_47 ml_5_138 (by decide) rfl rfl rfl (fun d' _ => C_word hc hI K (bs := wAt) rfl) (fun r g2 hq => ?_)
    cases Ew2 : sWord y n wAt (tE y n q1) with
    | inl e =>
      rw [Ew2] at hq
      obtain ⟨er, hf⟩ := hq
      subst er
      refine pa_if_t (x := 0) (pc' := 61) dX5_readWhale_50 (by decide) (by decide) ?_
      refine pa_iconst (v := 0) (pc' := 62) dX5_readWhale_61 (by decide) rfl ?_
      exact pa_iret dX5_readWhale_62 rfl rfl (lnl (by simp only [sWhale, sWN, Ex1, ek3, eq_self, if_true, Ew2]) hf)
    | inr q2 =>
      rw [Ew2] at hq
      obtain ⟨er, K, hfr⟩ := hq
      subst er
      have v0 := (hfr _ _ (by rcases hc with z | z <;> omega)).trans v0
      refine pa_if_f (x := 1) (pc' := 53) dX5_readWhale_50 (by decide) (by decide) rfl ?_
      refine pa_aload_n (pc' := 54) dX5_readWhale_53 rfl rfl ?_
      refine pa_iconst (v := 1) (pc' := 55) dX5_readWhale_54 (by decide) rfl ?_
      refine pa_callv (pc' := 58) (vs := [.inl 1]) (rest := []) dX5_readWhale_55 ml_5_173 (by decide) rfl rfl rfl (fun d' _ => C_old (.inl ⟨rfl, rfl, rfl⟩) hc hI hn K) (fun r g3 hq => ?_)
      cases Eo3 : sOld y n (upA A.2.1 (7 + cH A) (tW y n p)) 0 6 q2 with
      | inl e =>
        rw [Eo3] at hq
        obtain ⟨er, hf⟩ := hq
        subst er
        refine pa_if_f (x := 0) (pc' := 61) dX5_readWhale_58 (by decide) (by decide) rfl ?_
        refine pa_iconst (v := 0) (pc' := 62) dX5_readWhale_61 (by decide) rfl ?_
        exact pa_iret dX5_readWhale_62 rfl rfl (lnl (by simp only [sWhale, sWN, Ex1, ek3, eq_self, if_true, Ew2, Eo3]) hf)
      | inr q3 =>
        rw [Eo3] at hq
        obtain ⟨x3, q3⟩ := q3
        obtain ⟨er, K, hv, h84, hfr⟩ := hq
        subst er
        have v0 := (hfr _ _ (by rcases hc with z | z <;> omega)).trans v0
        refine pa_if_t (x := 1) (pc' := 63) dX5_readWhale_58 (by decide) (by decide) ?_
        refine pa_aload_n (pc' := 64) dX5_readWhale_63 rfl rfl ?_
        refine pa_aload_n (pc' := 65) dX5_readWhale_64 rfl rfl ?_
        refine pa_getI (pc' := 68) (n := 13) dX5_readWhale_65 fl_5_24 (K.1.sh sh_82) (by decide) hv rfl ?_
        refine pa_putI (pc' := 71) (n := 4) dX5_readWhale_68 fl_5_204 (K.1.sh so.1) (Or.inl rfl) (Or.inl rfl) rfl ?_
        have K := K.wr (a := c + 19 + cH A) (j := 1) (v := nI x3) (wr_h hc hH hI)
        have v0 := (zsI_no (h := g3) (a := c + 19 + cH A) (k := 1) (x := nI x3) (by omega)).trans v0
        have v1 : (zsI g3 (c + 19 + cH A) 1 (nI x3)).2.1 (c + 19 + cH A) 1 = nI x3 := zsI_eq
        refine pa_aload_n (pc' := 72) dX5_readWhale_71 rfl rfl ?_
        refine pa_ldc (pc' := 74) dX5_readWhale_72 cl_5_207 rfl rfl ?_
        refine pa_callv (pc' := 77) (vs := [.inr (.inr (some 1000027))]) (rest := []) dX5_readWhale_74 ml_5_138 (by decide) rfl rfl rfl (fun d' _ => C_word hc hI K (bs := wKeeps) rfl) (fun r g4 hq => ?_)
        cases Ew4 : sWord y n wKeeps q3 with
        | inl e =>
          rw [Ew4] at hq
          obtain ⟨er, hf⟩ := hq
          subst er
          refine pa_if_t (x := 0) (pc' := 90) dX5_readWhale_77 (by decide) (by decide) ?_
          refine pa_iconst (v := 0) (pc' := 91) dX5_readWhale_90 (by decide) rfl ?_
          exact pa_iret dX5_readWhale_91 rfl rfl (lnl (by simp only [sWhale, sWN, Ex1, ek3, eq_self, if_true, Ew2, Eo3, Ew4]) hf)
        | inr q4 =>
          rw [Ew4] at hq
          obtain ⟨er, K, hfr⟩ := hq
          subst er
          have v0 := (hfr _ _ (by rcases hc with z | z <;> omega)).trans v0
          have v1 := (hfr _ _ (by rcases hc with z | z <;> omega)).trans v1
          refine pa_if_f (x := 1) (pc' := 80) dX5_readWhale_77 (by decide) (by decide) rfl ?_
          refine pa_aload_n (pc' := 81) dX5_readWhale_80 rfl rfl ?_
          refine pa_iconst (v := 0) (pc' := 82) dX5_readWhale_81 (by decide) rfl ?_
          refine pa_bipush (v := 99) (pc' := 84) dX5_readWhale_82 (by decide) rfl ?_
          refine pa_callv (pc' := 87) (vs := [.inl 0, .inl 99]) (rest := []) dX5_readWhale_84 ml_5_142 (by decide) rfl rfl rfl (fun d' _ => C_whole hc hI K) (fun r g5 hq => ?_)
          cases En5 : sNum y n 0 99 q4 with
          | inl e =>
            rw [En5] at hq
            obtain ⟨er, hf⟩ := hq
            subst er
            refine pa_if_f (x := 0) (pc' := 90) dX5_readWhale_87 (by decide) (by decide) rfl ?_
            refine pa_iconst (v := 0) (pc' := 91) dX5_readWhale_90 (by decide) rfl ?_
            exact pa_iret dX5_readWhale_91 rfl rfl (lnl (by simp only [sWhale, sWN, Ex1, ek3, eq_self, if_true, Ew2, Eo3, Ew4, En5]) hf)
          | inr q5 =>
            rw [En5] at hq
            obtain ⟨x5, q5⟩ := q5
            obtain ⟨er, K, hv, hfr⟩ := hq
            subst er
            have v0 := (hfr _ _ (by rcases hc with z | z <;> omega)).trans v0
            have v1 := (hfr _ _ (by rcases hc with z | z <;> omega)).trans v1
            refine pa_if_t (x := 1) (pc' := 92) dX5_readWhale_87 (by decide) (by decide) ?_
            refine pa_aload_n (pc' := 93) dX5_readWhale_92 rfl rfl ?_
            refine pa_aload_n (pc' := 94) dX5_readWhale_93 rfl rfl ?_
            refine pa_getI (pc' := 97) (n := 13) dX5_readWhale_94 fl_5_24 (K.1.sh sh_82) (by decide) hv rfl ?_
            refine pa_putI (pc' := 100) (n := 4) dX5_readWhale_97 fl_5_209 (K.1.sh so.1) (Or.inl rfl) (Or.inl rfl) rfl ?_
            have K := K.wr (a := c + 19 + cH A) (j := 2) (v := x5) (wr_h hc hH hI)
            have v0 := (zsI_no (h := g5) (a := c + 19 + cH A) (k := 2) (x := x5) (by omega)).trans v0
            have v1 := (zsI_no (h := g5) (a := c + 19 + cH A) (k := 2) (x := x5) (by omega)).trans v1
            have v2 : (zsI g5 (c + 19 + cH A) 2 (x5)).2.1 (c + 19 + cH A) 2 = x5 := zsI_eq
            refine pa_aload_n (pc' := 101) dX5_readWhale_100 rfl rfl ?_
            refine pa_ldc (pc' := 103) dX5_readWhale_101 cl_5_211 rfl rfl ?_
            refine pa_callv (pc' := 106) (vs := [.inr (.inr (some 1000028))]) (rest := []) dX5_readWhale_103 ml_5_138 (by decide) rfl rfl rfl (fun d' _ => C_word hc hI K (bs := wLost) rfl) (fun r g6 hq => ?_)
            cases Ew6 : sWord y n wLost q5 with
            | inl e =>
              rw [Ew6] at hq
              obtain ⟨er, hf⟩ := hq
              subst er
              refine pa_if_t (x := 0) (pc' := 119) dX5_readWhale_106 (by decide) (by decide) ?_
              refine pa_iconst (v := 0) (pc' := 120) dX5_readWhale_119 (by decide) rfl ?_
              exact pa_iret dX5_readWhale_120 rfl rfl (lnl (by simp only [sWhale, sWN, Ex1, ek3, eq_self, if_true, Ew2, Eo3, Ew4, En5, Ew6]) hf)
            | inr q6 =>
              rw [Ew6] at hq
              obtain ⟨er, K, hfr⟩ := hq
              subst er
              have v0 := (hfr _ _ (by rcases hc with z | z <;> omega)).trans v0
              have v1 := (hfr _ _ (by rcases hc with z | z <;> omega)).trans v1
              have v2 := (hfr _ _ (by rcases hc with z | z <;> omega)).trans v2
              refine pa_if_f (x := 1) (pc' := 109) dX5_readWhale_106 (by decide) (by decide) rfl ?_
              refine pa_aload_n (pc' := 110) dX5_readWhale_109 rfl rfl ?_
              refine pa_iconst (v := 0) (pc' := 111) dX5_readWhale_110 (by decide) rfl ?_
              refine pa_bipush (v := 99) (pc' := 113) dX5_readWhale_111 (by decide) rfl ?_
              refine pa_callv (pc' := 116) (vs := [.inl 0, .inl 99]) (rest := []) dX5_readWhale_113 ml_5_142 (by decide) rfl rfl rfl (fun d' _ => C_whole hc hI K) (fun r g7 hq => ?_)
              cases En7 : sNum y n 0 99 q6 with
              | inl e =>
                rw [En7] at hq
                obtain ⟨er, hf⟩ := hq
                subst er
                refine pa_if_f (x := 0) (pc' := 119) dX5_readWhale_116 (by decide) (by decide) rfl ?_
                refine pa_iconst (v := 0) (pc' := 120) dX5_readWhale_119 (by decide) rfl ?_
                exact pa_iret dX5_readWhale_120 rfl rfl (lnl (by simp only [sWhale, sWN, Ex1, ek3, eq_self, if_true, Ew2, Eo3, Ew4, En5, Ew6, En7]) hf)
              | inr q7 =>
                rw [En7] at hq
                obtain ⟨x7, q7⟩ := q7
                obtain ⟨er, K, hv, hfr⟩ := hq
                subst er
                have v0 := (hfr _ _ (by rcases hc with z | z <;> omega)).trans v0
                have v1 := (hfr _ _ (by rcases hc with z | z <;> omega)).trans v1
                have v2 := (hfr _ _ (by rcases hc with z | z <;> omega)).trans v2
                refine pa_if_t (x := 1) (pc' := 121) dX5_readWhale_116 (by decide) (by decide) ?_
                refine pa_aload_n (pc' := 122) dX5_readWhale_121 rfl rfl ?_
                refine pa_aload_n (pc' := 123) dX5_readWhale_122 rfl rfl ?_
                refine pa_getI (pc' := 126) (n := 13) dX5_readWhale_123 fl_5_24 (K.1.sh sh_82) (by decide) hv rfl ?_
                refine pa_putI (pc' := 129) (n := 4) dX5_readWhale_126 fl_5_213 (K.1.sh so.1) (Or.inl rfl) (Or.inl rfl) rfl ?_
                have K := K.wr (a := c + 19 + cH A) (j := 3) (v := x7) (wr_h hc hH hI)
                have v0 := (zsI_no (h := g7) (a := c + 19 + cH A) (k := 3) (x := x7) (by omega)).trans v0
                have v1 := (zsI_no (h := g7) (a := c + 19 + cH A) (k := 3) (x := x7) (by omega)).trans v1
                have v2 := (zsI_no (h := g7) (a := c + 19 + cH A) (k := 3) (x := x7) (by omega)).trans v2
                have v3 : (zsI g7 (c + 19 + cH A) 3 (x7)).2.1 (c + 19 + cH A) 3 = x7 := zsI_eq
                refine pa_aload_n (pc' := 130) dX5_readWhale_129 rfl rfl ?_
                refine pa_getR (pc' := 133) (n := 13) (r := c) dX5_readWhale_130 fl_5_51 (K.1.sh sh_82) (by decide) K.1.2.2.1 rfl ?_
                refine pa_dup (pc' := 134) dX5_readWhale_133 rfl rfl ?_
                refine pa_getI (pc' := 137) (n := 15) dX5_readWhale_134 fl_5_104 (K.1.sh (pc_sh hc).1) (by decide) K.2.2.2.1.2.2.2.1 rfl ?_
                refine pa_iconst (v := nI 1) (pc' := 138) dX5_readWhale_137 (by decide) rfl ?_
                refine pa_iadd (pc' := 139) (v := nI ((cH A) + 1)) dX5_readWhale_138 (nI_add _ _) rfl ?_
                refine pa_putI (pc' := 142) (n := 15) dX5_readWhale_139 fl_5_104 (K.1.sh (pc_sh hc).1) (Or.inl rfl) (Or.inl rfl) rfl ?_
                refine pa_iconst (v := 1) (pc' := 143) dX5_readWhale_142 (by decide) rfl ?_
                refine pa_iret dX5_readWhale_143 rfl rfl (lnr (A := (A.1, upA A.2.1 (7 + cH A) (tW y n p), xS (xS (xS (xS A.2.2.1 (107 + 4 * cH A) (kdV y n q1)) (108 + 4 * cH A) (nI x3)) (109 + 4 * cH A) (x5)) (110 + 4 * cH A) (x7), A.2.2.2.1, A.2.2.2.2.1, cI A, cW A, cH A + 1, cB A, cS A)) (by simp only [sWhale, sWN, Ex1, ek3, eq_self, if_true, Ew2, Eo3, Ew4, En5, Ew6, En7]) ((K.whaled hc hI hH v0 v1 v2 v3).mm (by show cI A + cH A + cB A + 1 = cI A + (cH A + 1) + cB A; omega)) (hI.whaled (fun i hi => xS4 hi) h1 hH hn (sNew_w hp Ex1)))
theorem C_way {y : Nat → Int32} {n c d p : Nat} {h : zH} {A : pA} (hc : cc2 c) (hI : pI A) (h1 : A.1 ≠ 0) (hW : cW A < 12) (K : rs y n c A A.2.1 (cI A + cH A + cB A) p h) : zPa d mX5_readWay [.inr (.inr (some 82)), .inr (.inr (some (c + 7 + cW A)))] h (lnR y n c (sWay y n A p)) := by
  intro N
  show zPn N none d mX5_readWay (0, [(0, .inr (.inr (some 82))), (1, .inr (.inr (some (c + 7 + cW A))))], [], h) _
  have hn := hI.2.2.2.2.1
  obtain ⟨b1, b2, b3, b4, b5⟩ := hI.2.2.1
  have so := pc_way hc hW
  have hp := K.2.2.1
  refine pa_aload_n (pc' := 1) dX5_readWay_0 rfl rfl ?_
  refine pa_iconst (v := 1) (pc' := 2) dX5_readWay_1 (by decide) rfl ?_
  refine pa_callv (pc' := 5) (vs := [.inl 1]) (rest := []) dX5_readWay_2 ml_5_173 (by decide) rfl rfl rfl (fun d' _ => C_old (.inl ⟨rfl, rfl, rfl⟩) hc hI hn K) (fun r g1 hq => ?_)
  cases Eo1 : sOld y n A.2.1 0 6 p with
  | inl e =>
    rw [Eo1] at hq
    obtain ⟨er, hf⟩ := hq
    subst er
    refine pa_if_f (x := 0) (pc' := 8) dX5_readWay_5 (by decide) (by decide) rfl ?_
    refine pa_iconst (v := 0) (pc' := 9) dX5_readWay_8 (by decide) rfl ?_
    exact pa_iret dX5_readWay_9 rfl rfl (lnl (by simp only [sWay, sWN, Eo1]) hf)
  | inr q1 =>
    rw [Eo1] at hq
    obtain ⟨x1, q1⟩ := q1
    obtain ⟨er, K, hv, h84, hfr⟩ := hq
    subst er
    refine pa_if_t (x := 1) (pc' := 10) dX5_readWay_5 (by decide) (by decide) ?_
    refine pa_aload_n (pc' := 11) dX5_readWay_10 rfl rfl ?_
    refine pa_aload_n (pc' := 12) dX5_readWay_11 rfl rfl ?_
    refine pa_getI (pc' := 15) (n := 13) dX5_readWay_12 fl_5_24 (K.1.sh sh_82) (by decide) hv rfl ?_
    refine pa_putI (pc' := 18) (n := 4) dX5_readWay_15 fl_5_176 (K.1.sh so.1) (Or.inl rfl) (Or.inl rfl) rfl ?_
    have K := K.wr (a := c + 7 + cW A) (j := 0) (v := nI x1) (wr_w hc hW hI)
    have va : (zsI g1 (c + 7 + cW A) 0 (nI x1)).2.1 (c + 7 + cW A) 0 = nI x1 := zsI_eq
    have la := sOld_6 Eo1
    refine pa_aload_n (pc' := 19) dX5_readWay_18 rfl rfl ?_
    refine pa_iconst (v := 1) (pc' := 20) dX5_readWay_19 (by decide) rfl ?_
    refine pa_callv (pc' := 23) (vs := [.inl 1]) (rest := []) dX5_readWay_20 ml_5_173 (by decide) rfl rfl rfl (fun d' _ => C_old (.inl ⟨rfl, rfl, rfl⟩) hc hI hn K) (fun r g2 hq => ?_)
    cases Eo2 : sOld y n A.2.1 0 6 q1 with
    | inl e =>
      rw [Eo2] at hq
      obtain ⟨er, hf⟩ := hq
      subst er
      refine pa_if_f (x := 0) (pc' := 26) dX5_readWay_23 (by decide) (by decide) rfl ?_
      refine pa_iconst (v := 0) (pc' := 27) dX5_readWay_26 (by decide) rfl ?_
      exact pa_iret dX5_readWay_27 rfl rfl (lnl (by simp only [sWay, sWN, Eo1, Eo2]) hf)
    | inr q2 =>
      rw [Eo2] at hq
      obtain ⟨x2, q2⟩ := q2
      obtain ⟨er, K, hv, h84, hfr⟩ := hq
      subst er
      have va := (hfr _ _ (by rcases hc with z | z <;> omega)).trans va
      refine pa_if_t (x := 1) (pc' := 28) dX5_readWay_23 (by decide) (by decide) ?_
      have lb := sOld_6 Eo2
      refine pa_aload_n (pc' := 29) dX5_readWay_28 rfl rfl ?_
      refine pa_aload_n (pc' := 30) dX5_readWay_29 rfl rfl ?_
      refine pa_getI (pc' := 33) (n := 13) dX5_readWay_30 fl_5_24 (K.1.sh sh_82) (by decide) hv rfl ?_
      refine pa_putI (pc' := 36) (n := 4) dX5_readWay_33 fl_5_181 (K.1.sh so.1) (Or.inl rfl) (Or.inl rfl) rfl ?_
      have K := K.wr (a := c + 7 + cW A) (j := 1) (v := nI x2) (wr_w hc hW hI)
      have va : (zsI g2 (c + 7 + cW A) 1 (nI x2)).2.1 (c + 7 + cW A) 0 = nI x1 := by rw [zsI_no (by omega)]; exact va
      have vb : (zsI g2 (c + 7 + cW A) 1 (nI x2)).2.1 (c + 7 + cW A) 1 = nI x2 := zsI_eq
      have h84 : (zsI g2 (c + 7 + cW A) 1 (nI x2)).2.1 82 4 = nI (tS y n q1) := by rw [zsI_no (by rcases hc with z | z <;> omega)]; exact h84
      have bad : (x1 = x2 ∨ (List.range (cW A)).any (joinsB A.2.2.2.1 x1 x2) = true) → zPn N none d mX5_readWay (67, [(0, .inr (.inr (some 82))), (1, .inr (.inr (some (c + 7 + cW A))))], [], zsI g2 (c + 7 + cW A) 1 (nI x2)) (lnR y n c (sWay y n A p)) := by
        intro z
        refine pa_aload_n (pc' := 68) dX5_readWay_67 rfl rfl ?_
        refine pa_iconst (v := 3) (pc' := 69) dX5_readWay_68 (by decide) rfl ?_
        refine pa_callv (pc' := 72) (vs := [.inl 3]) (rest := []) dX5_readWay_69 ml_5_76 (by decide) rfl rfl rfl (fun d' _ => c_flt K.1 h84) (fun r h3 hq3 => ?_)
        obtain ⟨er, hq3⟩ := hq3
        subst er
        exact pa_iret (x := 0) dX5_readWay_72 rfl rfl (lnl (by simp only [sWay, Eo1, Eo2]; rw [if_pos z]) hq3.fl)
      refine pa_aload_n (pc' := 37) dX5_readWay_36 rfl rfl ?_
      refine pa_getI (pc' := 40) (n := 4) dX5_readWay_37 fl_5_176 (K.1.sh so.1) (by decide) va rfl ?_
      refine pa_aload_n (pc' := 41) dX5_readWay_40 rfl rfl ?_
      refine pa_getI (pc' := 44) (n := 4) dX5_readWay_41 fl_5_181 (K.1.sh so.1) (by decide) vb rfl ?_
      refine pa_icmp (pc' := 67) (pc2 := 47) dX5_readWay_44 (by decide) rfl (fun cd => bad (.inl ((nI_ne (by omega) (by omega)).mp (by simpa [zcond] using cd)))) (fun cd => ?_)
      have cd : ¬ nI x1 = nI x2 := by simpa [zcond] using cd
      rw [nI_ne (by omega) (by omega)] at cd
      refine pa_aload_n (pc' := 48) dX5_readWay_47 rfl rfl ?_
      refine pa_getR (pc' := 51) (n := 13) (r := c) dX5_readWay_48 fl_5_51 (K.1.sh sh_82) (by decide) K.1.2.2.1 rfl ?_
      refine pa_aload_n (pc' := 52) dX5_readWay_51 rfl rfl ?_
      refine pa_getI (pc' := 55) (n := 4) dX5_readWay_52 fl_5_176 (K.1.sh so.1) (by decide) va rfl ?_
      refine pa_aload_n (pc' := 56) dX5_readWay_55 rfl rfl ?_
      refine pa_getI (pc' := 59) (n := 4) dX5_readWay_56 fl_5_181 (K.1.sh so.1) (by decide) vb rfl ?_
      refine pa_callv (pc' := 62) (vs := [.inl (nI x1), .inl (nI x2)]) (rest := []) dX5_readWay_59 ml_5_184 (by decide) rfl rfl rfl (fun d' _ => C_btw la lb hc hI K.1 K.2.2.2.1) (fun r g3 hq => ?_)
      obtain ⟨eh, x, er, hq⟩ := hq
      subst eh
      subst er
      refine pa_bipush (v := (-2)) (pc' := 64) dX5_readWay_62 (by decide) rfl ?_
      rcases hq with ⟨ex, eA⟩ | ⟨ex, eA⟩
      rotate_left
      · exact pa_icmp_f (pc' := 67) dX5_readWay_64 (decide_eq_false ex) (by decide) rfl (bad (.inr eA))
      refine pa_icmp_t (pc' := 73) dX5_readWay_64 (decide_eq_true ex) (by decide) ?_
      have Eq : ¬ (x1 = x2 ∨ (List.range A.2.2.2.2.2.2.1).any (joinsB A.2.2.2.1 x1 x2) = true) := by rw [not_or, eA]; exact ⟨cd, by decide⟩
      refine pa_aload_n (pc' := 74) dX5_readWay_73 rfl rfl ?_
      refine pa_ldc (pc' := 76) dX5_readWay_74 cl_5_187 rfl rfl ?_
      refine pa_callv (pc' := 79) (vs := [.inr (.inr (some 1000020))]) (rest := []) dX5_readWay_76 ml_5_138 (by decide) rfl rfl rfl (fun d' _ => C_word hc hI K (bs := wDays) rfl) (fun r g4 hq => ?_)
      cases Ew4 : sWord y n wDays q2 with
      | inl e =>
        rw [Ew4] at hq
        obtain ⟨er, hf⟩ := hq
        subst er
        refine pa_if_t (x := 0) (pc' := 92) dX5_readWay_79 (by decide) (by decide) ?_
        refine pa_iconst (v := 0) (pc' := 93) dX5_readWay_92 (by decide) rfl ?_
        exact pa_iret dX5_readWay_93 rfl rfl (lnl (by simp only [sWay, sWN, Eo1, Eo2, if_neg Eq, Ew4]) hf)
      | inr q4 =>
        rw [Ew4] at hq
        obtain ⟨er, K, hfr⟩ := hq
        subst er
        have va := (hfr _ _ (by rcases hc with z | z <;> omega)).trans va
        have vb := (hfr _ _ (by rcases hc with z | z <;> omega)).trans vb
        refine pa_if_f (x := 1) (pc' := 82) dX5_readWay_79 (by decide) (by decide) rfl ?_
        refine pa_aload_n (pc' := 83) dX5_readWay_82 rfl rfl ?_
        refine pa_iconst (v := 1) (pc' := 84) dX5_readWay_83 (by decide) rfl ?_
        refine pa_bipush (v := 99) (pc' := 86) dX5_readWay_84 (by decide) rfl ?_
        refine pa_callv (pc' := 89) (vs := [.inl 1, .inl 99]) (rest := []) dX5_readWay_86 ml_5_142 (by decide) rfl rfl rfl (fun d' _ => C_whole hc hI K) (fun r g5 hq => ?_)
        cases En5 : sNum y n 1 99 q4 with
        | inl e =>
          rw [En5] at hq
          obtain ⟨er, hf⟩ := hq
          subst er
          refine pa_if_f (x := 0) (pc' := 92) dX5_readWay_89 (by decide) (by decide) rfl ?_
          refine pa_iconst (v := 0) (pc' := 93) dX5_readWay_92 (by decide) rfl ?_
          exact pa_iret dX5_readWay_93 rfl rfl (lnl (by simp only [sWay, sWN, Eo1, Eo2, if_neg Eq, Ew4, En5]) hf)
        | inr q5 =>
          rw [En5] at hq
          obtain ⟨x5, q5⟩ := q5
          obtain ⟨er, K, hv, hfr⟩ := hq
          subst er
          have va := (hfr _ _ (by rcases hc with z | z <;> omega)).trans va
          have vb := (hfr _ _ (by rcases hc with z | z <;> omega)).trans vb
          refine pa_if_t (x := 1) (pc' := 94) dX5_readWay_89 (by decide) (by decide) ?_
          refine pa_aload_n (pc' := 95) dX5_readWay_94 rfl rfl ?_
          refine pa_aload_n (pc' := 96) dX5_readWay_95 rfl rfl ?_
          refine pa_getI (pc' := 99) (n := 13) dX5_readWay_96 fl_5_24 (K.1.sh sh_82) (by decide) hv rfl ?_
          refine pa_putI (pc' := 102) (n := 4) dX5_readWay_99 fl_5_189 (K.1.sh so.1) (Or.inl rfl) (Or.inl rfl) rfl ?_
          have K := K.wr (a := c + 7 + cW A) (j := 2) (v := x5) (wr_w hc hW hI)
          have va := (zsI_no (h := g5) (a := c + 7 + cW A) (k := 2) (x := x5) (by omega)).trans va
          have vb := (zsI_no (h := g5) (a := c + 7 + cW A) (k := 2) (x := x5) (by omega)).trans vb
          have v2 : (zsI g5 (c + 7 + cW A) 2 (x5)).2.1 (c + 7 + cW A) 2 = x5 := zsI_eq
          refine pa_aload_n (pc' := 103) dX5_readWay_102 rfl rfl ?_
          refine pa_ldc (pc' := 105) dX5_readWay_103 cl_5_191 rfl rfl ?_
          refine pa_callv (pc' := 108) (vs := [.inr (.inr (some 1000021))]) (rest := []) dX5_readWay_105 ml_5_138 (by decide) rfl rfl rfl (fun d' _ => C_word hc hI K (bs := wOpen) rfl) (fun r g6 hq => ?_)
          cases Ew6 : sWord y n wOpen q5 with
          | inl e =>
            rw [Ew6] at hq
            obtain ⟨er, hf⟩ := hq
            subst er
            refine pa_if_t (x := 0) (pc' := 121) dX5_readWay_108 (by decide) (by decide) ?_
            refine pa_iconst (v := 0) (pc' := 122) dX5_readWay_121 (by decide) rfl ?_
            exact pa_iret dX5_readWay_122 rfl rfl (lnl (by simp only [sWay, sWN, Eo1, Eo2, if_neg Eq, Ew4, En5, Ew6]) hf)
          | inr q6 =>
            rw [Ew6] at hq
            obtain ⟨er, K, hfr⟩ := hq
            subst er
            have va := (hfr _ _ (by rcases hc with z | z <;> omega)).trans va
            have vb := (hfr _ _ (by rcases hc with z | z <;> omega)).trans vb
            have v2 := (hfr _ _ (by rcases hc with z | z <;> omega)).trans v2
            refine pa_if_f (x := 1) (pc' := 111) dX5_readWay_108 (by decide) (by decide) rfl ?_
            refine pa_aload_n (pc' := 112) dX5_readWay_111 rfl rfl ?_
            refine pa_iconst (v := 1) (pc' := 113) dX5_readWay_112 (by decide) rfl ?_
            refine pa_bipush (v := 15) (pc' := 115) dX5_readWay_113 (by decide) rfl ?_
            refine pa_callv (pc' := 118) (vs := [.inl 1, .inl 15]) (rest := []) dX5_readWay_115 ml_5_142 (by decide) rfl rfl rfl (fun d' _ => C_whole hc hI K) (fun r g7 hq => ?_)
            cases En7 : sNum y n 1 15 q6 with
            | inl e =>
              rw [En7] at hq
              obtain ⟨er, hf⟩ := hq
              subst er
              refine pa_if_f (x := 0) (pc' := 121) dX5_readWay_118 (by decide) (by decide) rfl ?_
              refine pa_iconst (v := 0) (pc' := 122) dX5_readWay_121 (by decide) rfl ?_
              exact pa_iret dX5_readWay_122 rfl rfl (lnl (by simp only [sWay, sWN, Eo1, Eo2, if_neg Eq, Ew4, En5, Ew6, En7]) hf)
            | inr q7 =>
              rw [En7] at hq
              obtain ⟨x7, q7⟩ := q7
              obtain ⟨er, K, hv, hfr⟩ := hq
              subst er
              have va := (hfr _ _ (by rcases hc with z | z <;> omega)).trans va
              have vb := (hfr _ _ (by rcases hc with z | z <;> omega)).trans vb
              have v2 := (hfr _ _ (by rcases hc with z | z <;> omega)).trans v2
              refine pa_if_t (x := 1) (pc' := 123) dX5_readWay_118 (by decide) (by decide) ?_
              refine pa_aload_n (pc' := 124) dX5_readWay_123 rfl rfl ?_
              refine pa_aload_n (pc' := 125) dX5_readWay_124 rfl rfl ?_
              refine pa_getI (pc' := 128) (n := 13) dX5_readWay_125 fl_5_24 (K.1.sh sh_82) (by decide) hv rfl ?_
              refine pa_putI (pc' := 131) (n := 4) dX5_readWay_128 fl_5_193 (K.1.sh so.1) (Or.inl rfl) (Or.inl rfl) rfl ?_
              have K := K.wr (a := c + 7 + cW A) (j := 3) (v := x7) (wr_w hc hW hI)
              have va := (zsI_no (h := g7) (a := c + 7 + cW A) (k := 3) (x := x7) (by omega)).trans va
              have vb := (zsI_no (h := g7) (a := c + 7 + cW A) (k := 3) (x := x7) (by omega)).trans vb
              have v2 := (zsI_no (h := g7) (a := c + 7 + cW A) (k := 3) (x := x7) (by omega)).trans v2
              have v3 : (zsI g7 (c + 7 + cW A) 3 (x7)).2.1 (c + 7 + cW A) 3 = x7 := zsI_eq
              refine pa_aload_n (pc' := 132) dX5_readWay_131 rfl rfl ?_
              refine pa_getR (pc' := 135) (n := 13) (r := c) dX5_readWay_132 fl_5_51 (K.1.sh sh_82) (by decide) K.1.2.2.1 rfl ?_
              refine pa_dup (pc' := 136) dX5_readWay_135 rfl rfl ?_
              refine pa_getI (pc' := 139) (n := 15) dX5_readWay_136 fl_5_93 (K.1.sh (pc_sh hc).1) (by decide) K.2.2.2.1.2.2.1 rfl ?_
              refine pa_iconst (v := nI 1) (pc' := 140) dX5_readWay_139 (by decide) rfl ?_
              refine pa_iadd (pc' := 141) (v := nI ((cW A) + 1)) dX5_readWay_140 (nI_add _ _) rfl ?_
              refine pa_putI (pc' := 144) (n := 15) dX5_readWay_141 fl_5_93 (K.1.sh (pc_sh hc).1) (Or.inl rfl) (Or.inl rfl) rfl ?_
              refine pa_iconst (v := 1) (pc' := 145) dX5_readWay_144 (by decide) rfl ?_
              refine pa_iret dX5_readWay_145 rfl rfl (lnr (A := (A.1, A.2.1, xS (xS A.2.2.1 (61 + 4 * cW A) x5) (62 + 4 * cW A) x7, upA A.2.2.2.1 (cW A) (x1, x2), A.2.2.2.2.1, cI A, cW A + 1, cH A, cB A, cS A)) (by simp only [sWay, sWN, Eo1, Eo2, if_neg Eq, Ew4, En5, Ew6, En7]) (K.wayed hc hI hW va vb v2 v3) (hI.wayed (fun i hi => xS2 hi) h1 hW la lb))
theorem C_island {y : Nat → Int32} {n c d p : Nat} {h : zH} {A : pA} (hc : cc2 c) (hI : pI A) (h1 : A.1 ≠ 0) (hi7 : cI A < 7) (K : rs y n c A A.2.1 (cI A + cH A + cB A) p h) : zPa d mX5_readIsland [.inr (.inr (some 82))] h (lnR y n c (sIsland y n A p)) := by
  intro N
  show zPn N none d mX5_readIsland (0, [(0, .inr (.inr (some 82)))], [], h) _
  have hn := hI.2.2.2.2.1
  obtain ⟨b1, b2, b3, b4, b5⟩ := hI.2.2.1
  have hp := K.2.2.1
  refine pa_aload_n (pc' := 1) dX5_readIsland_0 rfl rfl ?_
  refine pa_iconst (v := 1) (pc' := 2) dX5_readIsland_1 (by decide) rfl ?_
  refine pa_aload_n (pc' := 3) dX5_readIsland_2 rfl rfl ?_
  refine pa_getR (pc' := 6) (n := 13) (r := c) dX5_readIsland_3 fl_5_51 (K.1.sh sh_82) (by decide) K.1.2.2.1 rfl ?_
  refine pa_getI (pc' := 9) (n := 15) dX5_readIsland_6 fl_5_73 (K.1.sh (pc_sh hc).1) (by decide) K.2.2.2.1.2.1 rfl ?_
  refine pa_callv (pc' := 12) (vs := [.inl 1, .inl (nI (cI A))]) (rest := []) dX5_readIsland_9 ml_5_158 (by decide) rfl rfl rfl (fun d' _ => C_new (i := cI A) (.inl ⟨by omega, rfl, rfl⟩) (by omega) (hI.free (by omega) (fun z => by unfold occ at z; omega)) (by omega) hc hI hn K) (fun r g1 hq => ?_)
  cases Ex1 : sNew y n A.2.1 p with
  | inl e =>
    rw [Ex1] at hq
    obtain ⟨er, hf⟩ := hq
    subst er
    refine pa_if_f (x := 0) (pc' := 15) dX5_readIsland_12 (by decide) (by decide) rfl ?_
    refine pa_iconst (v := 0) (pc' := 16) dX5_readIsland_15 (by decide) rfl ?_
    exact pa_iret dX5_readIsland_16 rfl rfl (lnl (by simp only [sIsland, Ex1]) hf)
  | inr q1 =>
    rw [Ex1] at hq
    obtain ⟨er, K, hn, hfr⟩ := hq
    subst er
    refine pa_if_t (x := 1) (pc' := 17) dX5_readIsland_12 (by decide) (by decide) ?_
    refine pa_aload_n (pc' := 18) dX5_readIsland_17 rfl rfl ?_
    refine pa_callv (pc' := 21) (vs := []) (rest := []) dX5_readIsland_18 ml_5_70 (by decide) rfl rfl rfl (fun d' _ => c_next K.1 K.2.1 K.2.2.1) (fun r gk hq => ?_)
    obtain ⟨er, hq⟩ := hq
    subst er
    have kt := hq.ct K.1 K.2.2.1
    obtain ⟨hx1, -, hs, ht, he⟩ := kt
    have kt := hq.ct K.1 K.2.2.1
    show zPn N none d mX5_readIsland (21, [(0, .inr (.inr (some 82)))], [], gk) _
    refine pa_aload_n (pc' := 22) dX5_readIsland_21 rfl rfl ?_
    refine pa_getI (pc' := 25) (n := 13) dX5_readIsland_22 fl_5_18 (hx1.sh sh_82) (by decide) ht rfl ?_
    refine pa_iconst (v := 1) (pc' := 26) dX5_readIsland_25 (by decide) rfl ?_
    refine pa_icmp (pc' := 35) (pc2 := 29) dX5_readIsland_26 (by decide) rfl (fun cd => ?_) (fun cd => ?_)
    · have cd : cT (tT y n q1) = 1 := by simpa [zcond] using cd
      have e2 : tT y n q1 = 2 := (kt.tt (t := 2) (by decide)).mp cd
      have K2 := K.nx hc hI hq (by rw [e2]; decide)
      have he := he (by rw [e2]; decide)
      obtain ⟨w1, w2, w3⟩ := tW_ok K.2.2.1 e2
      have el : (tW y n q1).length = tE y n q1 - tS y n q1 := seg_len
      have u1 := (tE_sp (y := y) K.2.2.1).1
      refine pa_aload_n (pc' := 36) dX5_readIsland_35 rfl rfl ?_
      refine pa_getI (pc' := 39) (n := 13) dX5_readIsland_36 fl_5_15 (hx1.sh sh_82) (by decide) he rfl ?_
      refine pa_aload_n (pc' := 40) dX5_readIsland_39 rfl rfl ?_
      refine pa_getI (pc' := 43) (n := 13) dX5_readIsland_40 fl_5_21 (hx1.sh sh_82) (by decide) hs rfl ?_
      refine pa_isub (pc' := 44) (v := nI (tW y n q1).length) dX5_readIsland_43 (by rw [el]; exact nI_sub u1) rfl ?_
      refine pa_istore_n (pc' := 45) dX5_readIsland_44 (by decide) rfl rfl ?_
      refine pa_aload_n (pc' := 46) dX5_readIsland_45 rfl rfl ?_
      refine pa_callv (pc' := 49) (vs := []) (rest := []) dX5_readIsland_46 ml_5_161 (by decide) rfl rfl rfl (fun d' _ => C_song hc kt e2 K2.2.2.2.1.1) (fun r g3 hq3 => ?_)
      obtain ⟨eh, hq3⟩ := hq3
      subst eh
      rcases hq3 with ⟨ok, er⟩ | ⟨ok, er⟩
      · subst er
        obtain ⟨o1, o2⟩ := ok_nt (hI.1.resolve_left h1) ok w1
        have cpos : ¬ codeS (tW y n q1) = -2 := fun z => by
          have a1 := codeS_n (tW y n q1) 0 0 o1 (by decide) (by omega)
          have b1 := cnS_lt (tW y n q1) 0 0 o1 (by decide)
          have c1 : 4 ^ (0 + (tW y n q1).length) ≤ 4 ^ 6 := Nat.pow_le_pow_right (by decide) (by omega)
          have := congrArg Int32.toInt (a1.symm.trans z)
          rw [nI_toInt (by omega)] at this
          have e : (-2 : Int32).toInt = -2 := by decide
          omega
        refine pa_istore_n (pc' := 50) (v := codeS (tW y n q1)) dX5_readIsland_49 (by decide) rfl rfl ?_
        refine pa_iload_n (pc' := 51) dX5_readIsland_50 rfl rfl ?_
        refine pa_bipush (v := (-2)) (pc' := 53) dX5_readIsland_51 (by decide) rfl ?_
        refine pa_icmp_t (pc' := 63) dX5_readIsland_53 (decide_eq_true cpos) (by decide) ?_
        refine pa_aload_n (pc' := 64) dX5_readIsland_63 rfl rfl ?_
        refine pa_getR (pc' := 67) (n := 13) (r := c) dX5_readIsland_64 fl_5_51 (hx1.sh sh_82) (by decide) hx1.2.2.1 rfl ?_
        refine pa_iload_n (pc' := 68) dX5_readIsland_67 rfl rfl ?_
        refine pa_iload_n (pc' := 69) dX5_readIsland_68 rfl rfl ?_
        refine pa_callv (pc' := 72) (vs := [.inl (codeS (tW y n q1)), .inl (nI (tW y n q1).length)]) (rest := []) dX5_readIsland_69 ml_5_164 (by decide) rfl rfl rfl (fun d' _ => C_has hc hI hx1 K2.2.2.2.1 h1 ok w1) (fun r g4 hq4 => ?_)
        obtain ⟨eh, er⟩ := hq4
        subst eh; subst er
        by_cases any : (List.range (cI A)).any (fun i => decide (A.2.2.1 i = tW y n q1)) = true
        · rw [if_pos any]
          refine pa_if_f (x := 1) (pc' := 75) dX5_readIsland_72 (by decide) (by decide) rfl ?_
          refine pa_aload_n (pc' := 76) dX5_readIsland_75 rfl rfl ?_
          refine pa_iconst (v := 3) (pc' := 77) dX5_readIsland_76 (by decide) rfl ?_
          refine pa_callv (pc' := 80) (vs := [.inl 3]) (rest := []) dX5_readIsland_77 ml_5_76 (by decide) rfl rfl rfl (fun d' _ => c_flt hx1 hs) (fun r h3 hq5 => ?_)
          obtain ⟨er, hq5⟩ := hq5
          subst er
          exact pa_iret (x := 0) dX5_readIsland_80 rfl rfl (lnl (by simp only [sIsland, Ex1]; rw [if_pos e2, if_pos ok, if_pos any]) hq5.fl)
        · rw [if_neg any]
          refine pa_if_t (x := 0) (pc' := 81) dX5_readIsland_72 (by decide) (by decide) ?_
          have sc := hx1.sh (pc_sh hc).1
          have sc1 := hx1.sh (pc_sh hc).2.1
          have sc2 := hx1.sh (pc_sh hc).2.2.1
          have k4 := K2.2.2.2.1.2.1
          have r9 := hx1.2.1 _ _ _ (pc_rf hc).1
          have r10 := hx1.2.1 _ _ _ (pc_rf hc).2.1
          refine pa_aload_n (pc' := 82) dX5_readIsland_81 rfl rfl ?_
          refine pa_getR (pc' := 85) (n := 13) (r := c) dX5_readIsland_82 fl_5_51 (hx1.sh sh_82) (by decide) hx1.2.2.1 rfl ?_
          refine pa_getR (pc' := 88) (n := 15) (r := c + 1) dX5_readIsland_85 fl_5_167 sc (by decide) r9 rfl ?_
          refine pa_aload_n (pc' := 89) dX5_readIsland_88 rfl rfl ?_
          refine pa_getR (pc' := 92) (n := 13) (r := c) dX5_readIsland_89 fl_5_51 (hx1.sh sh_82) (by decide) hx1.2.2.1 rfl ?_
          refine pa_getI (pc' := 95) (n := 15) dX5_readIsland_92 fl_5_73 sc (by decide) k4 rfl ?_
          refine pa_iload_n (pc' := 96) dX5_readIsland_95 rfl rfl ?_
          refine pa_iast (pc' := 97) (n := 7) dX5_readIsland_96 sc1 rfl (fun _ => ?_)
          rw [nI_clamp (by omega)]
          have k4b : (zsI g4 (c + 1) (cI A) (codeS (tW y n q1))).2.1 c 4 = nI (cI A) := by rw [zsI_no (by omega)]; exact k4
          refine pa_aload_n (pc' := 98) dX5_readIsland_97 rfl rfl ?_
          refine pa_getR (pc' := 101) (n := 13) (r := c) dX5_readIsland_98 fl_5_51 (hx1.sh sh_82) (by decide) hx1.2.2.1 rfl ?_
          refine pa_getR (pc' := 104) (n := 15) (r := c + 2) dX5_readIsland_101 fl_5_170 sc (by decide) r10 rfl ?_
          refine pa_aload_n (pc' := 105) dX5_readIsland_104 rfl rfl ?_
          refine pa_getR (pc' := 108) (n := 13) (r := c) dX5_readIsland_105 fl_5_51 (hx1.sh sh_82) (by decide) hx1.2.2.1 rfl ?_
          refine pa_getI (pc' := 111) (n := 15) dX5_readIsland_108 fl_5_73 sc (by decide) k4b rfl ?_
          refine pa_iload_n (pc' := 112) dX5_readIsland_111 rfl rfl ?_
          refine pa_iast (pc' := 113) (n := 7) dX5_readIsland_112 sc2 rfl (fun _ => ?_)
          rw [nI_clamp (by omega)]
          have k4c : (zsI (zsI g4 (c + 1) (cI A) (codeS (tW y n q1))) (c + 2) (cI A) (nI (tW y n q1).length)).2.1 c 4 = nI (cI A) := by rw [zsI_no (by omega)]; exact k4b
          refine pa_aload_n (pc' := 114) dX5_readIsland_113 rfl rfl ?_
          refine pa_getR (pc' := 117) (n := 13) (r := c) dX5_readIsland_114 fl_5_51 (hx1.sh sh_82) (by decide) hx1.2.2.1 rfl ?_
          refine pa_dup (pc' := 118) dX5_readIsland_117 rfl rfl ?_
          refine pa_getI (pc' := 121) (n := 15) dX5_readIsland_118 fl_5_73 sc (by decide) k4c rfl ?_
          refine pa_iconst (v := nI 1) (pc' := 122) dX5_readIsland_121 (by decide) rfl ?_
          refine pa_iadd (pc' := 123) (v := nI (cI A + 1)) dX5_readIsland_122 (nI_add _ _) rfl ?_
          refine pa_putI (pc' := 126) (n := 15) dX5_readIsland_123 fl_5_73 sc (Or.inl rfl) (Or.inl rfl) rfl ?_
          refine pa_iconst (v := 1) (pc' := 127) dX5_readIsland_126 (by decide) rfl ?_
          refine pa_iret dX5_readIsland_127 rfl rfl (lnr (A := (A.1, upA A.2.1 (cI A) (tW y n p), upA A.2.2.1 (cI A) (tW y n q1), A.2.2.2.1, A.2.2.2.2.1, cI A + 1, cW A, cH A, cB A, cS A)) (by simp only [sIsland, Ex1]; rw [if_pos e2, if_pos ok, if_neg any]) ((K2.landed hc hI hi7).mm (by show cI A + cH A + cB A + 1 = cI A + 1 + cH A + cB A; omega)) (hI.landed h1 hi7 hn (sNew_w hp Ex1) ⟨ok, w1⟩))
      · subst er
        refine pa_istore_n (pc' := 50) (v := -2) dX5_readIsland_49 (by decide) rfl rfl ?_
        refine pa_iload_n (pc' := 51) dX5_readIsland_50 rfl rfl ?_
        refine pa_bipush (v := (-2)) (pc' := 53) dX5_readIsland_51 (by decide) rfl ?_
        refine pa_icmp_f (pc' := 56) dX5_readIsland_53 (by decide) (by decide) rfl ?_
        refine pa_aload_n (pc' := 57) dX5_readIsland_56 rfl rfl ?_
        refine pa_bipush (v := 7) (pc' := 59) dX5_readIsland_57 (by decide) rfl ?_
        refine pa_callv (pc' := 62) (vs := [.inl 7]) (rest := []) dX5_readIsland_59 ml_5_76 (by decide) rfl rfl rfl (fun d' _ => c_flt hx1 hs) (fun r h3 hq5 => ?_)
        obtain ⟨er, hq5⟩ := hq5
        subst er
        exact pa_iret (x := 0) dX5_readIsland_62 rfl rfl (lnl (by simp only [sIsland, Ex1]; rw [if_pos e2, if_neg (by rw [ok]; decide)]) hq5.fl)
    · have cd : ¬ cT (tT y n q1) = 1 := by simpa [zcond] using cd
      refine pa_aload_n (pc' := 30) dX5_readIsland_29 rfl rfl ?_
      refine pa_iconst (v := 1) (pc' := 31) dX5_readIsland_30 (by decide) rfl ?_
      refine pa_callv (pc' := 34) (vs := [.inl 1]) (rest := []) dX5_readIsland_31 ml_5_76 (by decide) rfl rfl rfl (fun d' _ => c_flt hx1 hs) (fun r h3 hq5 => ?_)
      obtain ⟨er, hq5⟩ := hq5
      subst er
      exact pa_iret (x := 0) dX5_readIsland_34 rfl rfl (lnl (by simp only [sIsland, Ex1]; rw [if_neg (fun z => cd ((kt.tt (t := 2) (by decide)).mpr z))]) hq5.fl)
theorem C_spout {y : Nat → Int32} {n c d p : Nat} {h : zH} {A : pA} (hc : cc2 c) (hI : pI A) (h1 : A.1 ≠ 0) (hS : cS A < 8) (K : rs y n c A A.2.1 (cI A + cH A + cB A) p h) : zPa d mX5_readSpout [.inr (.inr (some 82)), .inr (.inr (some (c + 32 + cS A)))] h (lnR y n c (sSpout y n A p)) := by
  intro N
  show zPn N none d mX5_readSpout (0, [(0, .inr (.inr (some 82))), (1, .inr (.inr (some (c + 32 + cS A))))], [], h) _
  have hn := hI.2.2.2.2.1
  obtain ⟨b1, b2, b3, b4, b5⟩ := hI.2.2.1
  have so := pc_spt hc hS
  have hp := K.2.2.1
  refine pa_aload_n (pc' := 1) dX5_readSpout_0 rfl rfl ?_
  refine pa_iconst (v := 3) (pc' := 2) dX5_readSpout_1 (by decide) rfl ?_
  refine pa_callv (pc' := 5) (vs := [.inl 3]) (rest := []) dX5_readSpout_2 ml_5_173 (by decide) rfl rfl rfl (fun d' _ => C_old (.inr ⟨rfl, rfl, rfl⟩) hc hI hn K) (fun r g1 hq => ?_)
  cases Eo1 : sOld y n A.2.1 7 11 p with
  | inl e =>
    rw [Eo1] at hq
    obtain ⟨er, hf⟩ := hq
    subst er
    refine pa_if_f (x := 0) (pc' := 8) dX5_readSpout_5 (by decide) (by decide) rfl ?_
    refine pa_iconst (v := 0) (pc' := 9) dX5_readSpout_8 (by decide) rfl ?_
    exact pa_iret dX5_readSpout_9 rfl rfl (lnl (by simp only [sSpout, sWN, Eo1]) hf)
  | inr q1 =>
    rw [Eo1] at hq
    obtain ⟨x1, q1⟩ := q1
    obtain ⟨er, K, hv, h84, hfr⟩ := hq
    subst er
    refine pa_if_t (x := 1) (pc' := 10) dX5_readSpout_5 (by decide) (by decide) ?_
    refine pa_aload_n (pc' := 11) dX5_readSpout_10 rfl rfl ?_
    refine pa_aload_n (pc' := 12) dX5_readSpout_11 rfl rfl ?_
    refine pa_getI (pc' := 15) (n := 13) dX5_readSpout_12 fl_5_24 (K.1.sh sh_82) (by decide) hv rfl ?_
    refine pa_putI (pc' := 18) (n := 3) dX5_readSpout_15 fl_5_233 (K.1.sh so.1) (Or.inl rfl) (Or.inl rfl) rfl ?_
    have K := K.wr (a := c + 32 + cS A) (j := 0) (v := nI x1) (wr_s hc hS hI)
    have va : (zsI g1 (c + 32 + cS A) 0 (nI x1)).2.1 (c + 32 + cS A) 0 = nI x1 := zsI_eq
    have la := sOld_11 Eo1
    refine pa_aload_n (pc' := 19) dX5_readSpout_18 rfl rfl ?_
    refine pa_iconst (v := 1) (pc' := 20) dX5_readSpout_19 (by decide) rfl ?_
    refine pa_callv (pc' := 23) (vs := [.inl 1]) (rest := []) dX5_readSpout_20 ml_5_173 (by decide) rfl rfl rfl (fun d' _ => C_old (.inl ⟨rfl, rfl, rfl⟩) hc hI hn K) (fun r g2 hq => ?_)
    cases Eo2 : sOld y n A.2.1 0 6 q1 with
    | inl e =>
      rw [Eo2] at hq
      obtain ⟨er, hf⟩ := hq
      subst er
      refine pa_if_f (x := 0) (pc' := 26) dX5_readSpout_23 (by decide) (by decide) rfl ?_
      refine pa_iconst (v := 0) (pc' := 27) dX5_readSpout_26 (by decide) rfl ?_
      exact pa_iret dX5_readSpout_27 rfl rfl (lnl (by simp only [sSpout, sWN, Eo1, Eo2]) hf)
    | inr q2 =>
      rw [Eo2] at hq
      obtain ⟨x2, q2⟩ := q2
      obtain ⟨er, K, hv, h84, hfr⟩ := hq
      subst er
      have va := (hfr _ _ (by rcases hc with z | z <;> omega)).trans va
      refine pa_if_t (x := 1) (pc' := 28) dX5_readSpout_23 (by decide) (by decide) ?_
      refine pa_aload_n (pc' := 29) dX5_readSpout_28 rfl rfl ?_
      refine pa_aload_n (pc' := 30) dX5_readSpout_29 rfl rfl ?_
      refine pa_getI (pc' := 33) (n := 13) dX5_readSpout_30 fl_5_24 (K.1.sh sh_82) (by decide) hv rfl ?_
      refine pa_putI (pc' := 36) (n := 3) dX5_readSpout_33 fl_5_237 (K.1.sh so.1) (Or.inl rfl) (Or.inl rfl) rfl ?_
      have K := K.wr (a := c + 32 + cS A) (j := 1) (v := nI x2) (wr_s hc hS hI)
      have va := (zsI_no (h := g2) (a := c + 32 + cS A) (k := 1) (x := nI x2) (by omega)).trans va
      have v1 : (zsI g2 (c + 32 + cS A) 1 (nI x2)).2.1 (c + 32 + cS A) 1 = nI x2 := zsI_eq
      refine pa_aload_n (pc' := 37) dX5_readSpout_36 rfl rfl ?_
      refine pa_getR (pc' := 40) (n := 13) (r := c) dX5_readSpout_37 fl_5_51 (K.1.sh sh_82) (by decide) K.1.2.2.1 rfl ?_
      refine pa_aload_n (pc' := 41) dX5_readSpout_40 rfl rfl ?_
      refine pa_getI (pc' := 44) (n := 3) dX5_readSpout_41 fl_5_233 (K.1.sh so.1) (by decide) va rfl ?_
      refine pa_callv (pc' := 47) (vs := [.inl (nI x1)]) (rest := []) dX5_readSpout_44 ml_5_240 (by decide) rfl rfl rfl (fun d' _ => C_last la hc hI K.1 K.2.2.2.1) (fun r g3 hq => ?_)
      obtain ⟨eh, x, er, hq⟩ := hq
      subst eh
      subst er
      refine pa_istore_n (pc' := 48) (v := x) dX5_readSpout_47 (by decide) rfl rfl ?_
      refine pa_iload_n (pc' := 49) dX5_readSpout_48 rfl rfl ?_
      refine pa_bipush (v := (-2)) (pc' := 51) dX5_readSpout_49 (by decide) rfl ?_
      have kk : ∀ ls : zL, zget ls 0 = some (.inr (.inr (some 82))) → zget ls 1 = some (.inr (.inr (some (c + 32 + cS A)))) → zget ls 3 = some (.inl (least A.2.2.2.2.1 x1 (cS A))) → zPn N none d mX5_readSpout (73, ls, [], zsI g2 (c + 32 + cS A) 1 (nI x2)) (lnR y n c (sSpout y n A p)) := by
        intro ls hl0 hl1 hl3
        refine pa_aload_n (pc' := 74) dX5_readSpout_73 hl0 rfl ?_
        refine pa_ldc (pc' := 76) dX5_readSpout_74 cl_5_229 rfl rfl ?_
        refine pa_callv (pc' := 79) (vs := [.inr (.inr (some 1000032))]) (rest := []) dX5_readSpout_76 ml_5_138 (by decide) rfl rfl rfl (fun d' _ => C_word hc hI K (bs := wDay) rfl) (fun r g4 hq => ?_)
        cases Ew4 : sWord y n wDay q2 with
        | inl e =>
          rw [Ew4] at hq
          obtain ⟨er, hf⟩ := hq
          subst er
          refine pa_if_t (x := 0) (pc' := 93) dX5_readSpout_79 (by decide) (by decide) ?_
          refine pa_iconst (v := 0) (pc' := 94) dX5_readSpout_93 (by decide) rfl ?_
          exact pa_iret dX5_readSpout_94 rfl rfl (lnl (by simp only [sSpout, sWN, Eo1, Eo2, Ew4]) hf)
        | inr q4 =>
          rw [Ew4] at hq
          obtain ⟨er, K, hfr⟩ := hq
          subst er
          have va := (hfr _ _ (by rcases hc with z | z <;> omega)).trans va
          have v1 := (hfr _ _ (by rcases hc with z | z <;> omega)).trans v1
          refine pa_if_f (x := 1) (pc' := 82) dX5_readSpout_79 (by decide) (by decide) rfl ?_
          refine pa_aload_n (pc' := 83) dX5_readSpout_82 hl0 rfl ?_
          refine pa_iload_n (pc' := 84) dX5_readSpout_83 hl3 rfl ?_
          refine pa_sipush (v := 9999) (pc' := 87) dX5_readSpout_84 (by decide) rfl ?_
          refine pa_callv (pc' := 90) (vs := [.inl (least A.2.2.2.2.1 x1 (cS A)), .inl 9999]) (rest := []) dX5_readSpout_87 ml_5_142 (by decide) rfl rfl rfl (fun d' _ => C_whole hc hI K) (fun r g5 hq => ?_)
          cases En5 : sNum y n (least A.2.2.2.2.1 x1 (cS A)) 9999 q4 with
          | inl e =>
            rw [En5] at hq
            obtain ⟨er, hf⟩ := hq
            subst er
            refine pa_if_f (x := 0) (pc' := 93) dX5_readSpout_90 (by decide) (by decide) rfl ?_
            refine pa_iconst (v := 0) (pc' := 94) dX5_readSpout_93 (by decide) rfl ?_
            exact pa_iret dX5_readSpout_94 rfl rfl (lnl (by simp only [sSpout, sWN, Eo1, Eo2, Ew4, En5]) hf)
          | inr q5 =>
            rw [En5] at hq
            obtain ⟨x5, q5⟩ := q5
            obtain ⟨er, K, hv, hfr⟩ := hq
            subst er
            have va := (hfr _ _ (by rcases hc with z | z <;> omega)).trans va
            have v1 := (hfr _ _ (by rcases hc with z | z <;> omega)).trans v1
            refine pa_if_t (x := 1) (pc' := 95) dX5_readSpout_90 (by decide) (by decide) ?_
            refine pa_aload_n (pc' := 96) dX5_readSpout_95 hl1 rfl ?_
            refine pa_aload_n (pc' := 97) dX5_readSpout_96 hl0 rfl ?_
            refine pa_getI (pc' := 100) (n := 13) dX5_readSpout_97 fl_5_24 (K.1.sh sh_82) (by decide) hv rfl ?_
            refine pa_putI (pc' := 103) (n := 3) dX5_readSpout_100 fl_5_244 (K.1.sh so.1) (Or.inl rfl) (Or.inl rfl) rfl ?_
            have K := K.wr (a := c + 32 + cS A) (j := 2) (v := x5) (wr_s hc hS hI)
            have va := (zsI_no (h := g5) (a := c + 32 + cS A) (k := 2) (x := x5) (by omega)).trans va
            have v1 := (zsI_no (h := g5) (a := c + 32 + cS A) (k := 2) (x := x5) (by omega)).trans v1
            have vb : (zsI g5 (c + 32 + cS A) 2 x5).2.1 (c + 32 + cS A) 2 = x5 := zsI_eq
            refine pa_aload_n (pc' := 104) dX5_readSpout_103 hl0 rfl ?_
            refine pa_getR (pc' := 107) (n := 13) (r := c) dX5_readSpout_104 fl_5_51 (K.1.sh sh_82) (by decide) K.1.2.2.1 rfl ?_
            refine pa_dup (pc' := 108) dX5_readSpout_107 rfl rfl ?_
            refine pa_getI (pc' := 111) (n := 15) dX5_readSpout_108 fl_5_126 (K.1.sh (pc_sh hc).1) (by decide) K.2.2.2.1.2.2.2.2.2.1 rfl ?_
            refine pa_iconst (v := nI 1) (pc' := 112) dX5_readSpout_111 (by decide) rfl ?_
            refine pa_iadd (pc' := 113) (v := nI ((cS A) + 1)) dX5_readSpout_112 (nI_add _ _) rfl ?_
            refine pa_putI (pc' := 116) (n := 15) dX5_readSpout_113 fl_5_126 (K.1.sh (pc_sh hc).1) (Or.inl rfl) (Or.inl rfl) rfl ?_
            refine pa_iconst (v := 1) (pc' := 117) dX5_readSpout_116 (by decide) rfl ?_
            refine pa_iret dX5_readSpout_117 rfl rfl (lnr (A := (A.1, A.2.1, xS A.2.2.1 (160 + 3 * cS A) (nI x2), A.2.2.2.1, upA A.2.2.2.2.1 (cS A) (x1, x5), cI A, cW A, cH A, cB A, cS A + 1)) (by simp only [sSpout, sWN, Eo1, Eo2, Ew4, En5]) (K.spouted hc hI va v1 vb) (hI.spouted (fun i hi => xS1 hi) h1 hS la))
      rcases hq with ⟨ex, hno⟩ | ⟨i, hi, ex, hw, hno⟩
      · refine pa_icmp_f (pc' := 54) dX5_readSpout_51 (by rw [ex]; decide) (by decide) rfl ?_
        refine pa_iconst (v := 0) (pc' := 55) dX5_readSpout_54 (by decide) rfl ?_
        refine pa_goto (pc' := 72) dX5_readSpout_55 (by decide) ?_
        refine pa_istore_n (pc' := 73) dX5_readSpout_72 (by decide) rfl rfl ?_
        exact kk _ rfl rfl (by rw [least_no hno]; rfl)
      · subst ex
        refine pa_icmp_t (pc' := 58) dX5_readSpout_51 (decide_eq_true (fun z => by
          have := congrArg Int32.toInt z
          rw [nI_toInt (by omega)] at this
          have e : (-2 : Int32).toInt = -2 := by decide
          omega)) (by decide) ?_
        have si := pc_spt hc (show i < 8 by omega)
        have v2 := (K.2.2.2.1.2.2.2.2.2.2.2.2.1 i hi).2
        refine pa_aload_n (pc' := 59) dX5_readSpout_58 rfl rfl ?_
        refine pa_getR (pc' := 62) (n := 13) (r := c) dX5_readSpout_59 fl_5_51 (K.1.sh sh_82) (by decide) K.1.2.2.1 rfl ?_
        refine pa_getR (pc' := 65) (n := 15) (r := c + 6) dX5_readSpout_62 fl_5_129 (K.1.sh (pc_sh hc).1) (by decide) (K.1.2.1 _ _ _ (pc_rf hc).2.2.2.2.2) rfl ?_
        refine pa_iload_n (pc' := 66) dX5_readSpout_65 rfl rfl ?_
        refine pa_aald (pc' := 67) dX5_readSpout_66 (K.1.sh (pc_sh hc).2.2.2.2.2.2) ⟨by decide, by decide⟩ (zn_in (by omega) (by omega)) (by rw [nI_clamp (by omega)]; exact K.1.2.1 _ _ _ si.2) rfl ?_
        refine pa_getI (pc' := 70) (n := 3) dX5_readSpout_67 fl_5_244 (K.1.sh si.1) (by decide) v2 rfl ?_
        refine pa_iconst (v := 1) (pc' := 71) dX5_readSpout_70 (by decide) rfl ?_
        refine pa_iadd (pc' := 72) dX5_readSpout_71 rfl rfl ?_
        refine pa_istore_n (pc' := 73) dX5_readSpout_72 (by decide) rfl rfl ?_
        exact kk _ rfl rfl (by rw [least_at hi hw hno]; rfl)
