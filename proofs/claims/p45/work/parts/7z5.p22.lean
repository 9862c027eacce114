/-! the reference: a line -/
section MDE
variable {R0 : Nat → Nat → Int32} {y : Nat → Int32} {n d N p q k s : Nat} {h h' g : zH} {A : pA} {nm : Nat → List Int32} {e : sF} {r : sF ⊕ Nat}
def bgS (y : Nat → Int32) (n : Nat) (A : pA) (c : Bool) (p : Nat) : sF ⊕ Nat := if A.1 = 0 then .inl (6, tS y n p) else if c then .inr (tE y n p) else .inl (5, tS y n p)
theorem M_begins {a : Nat} {bs : List Int32} {c : Bool} (K : mS R0 y n A A.2.1 p h) (hc : A.1 = 0 → c = true) (hz : zsc a = some bs) : zPa d mX12_begins [.inr (.inr (some 196)), .inr (.inr (some a)), .inl (if c then 1 else 0)] h (fun v h' => (v = some (.inl 0) ∧ ¬ wIs y n p bs ∧ h' = h) ∨ (v = some (.inl 1) ∧ wIs y n p bs ∧ mE R0 y n A A.2.1 (bgS y n A c p) h')) := by
  intro N
  have hx := K.1.1
  have s196 := hx.sh sh_196
  have s200 := hx.sh sh_200
  have r196_16 := hx.2.1 _ _ _ rf_196_16
  have hf := K.2.1
  have k4 := K.1.2.2.1
  have k9 := K.2.2.1.1
  have hp := K.1.2.1
  show zPn N none d mX12_begins (0, [(0, .inr (.inr (some 196))), (1, .inr (.inr (some a))), (2, .inl (if c then 1 else 0))], [], h) _
  refine pa_aload_n (pc' := 1) dX12_begins_0 rfl rfl ?_
  refine pa_aload_n (pc' := 2) dX12_begins_1 rfl rfl ?_
  refine pa_callv (pc' := 5) (vs := [.inr (.inr (some a))]) (rest := []) dX12_begins_2 ml_12_117 (by decide) rfl rfl rfl (fun d' _ => m_isW K.1 hf hz) (fun v g hq => ?_)
  obtain ⟨eg, hq⟩ := hq
  subst eg
  rcases hq with ⟨er, w⟩ | ⟨er, w⟩ <;> subst er
  · refine pa_if_t (x := 1) (pc' := 10) dX12_begins_5 (by decide) (by decide) ?_
    refine pa_iload_n (pc' := 11) dX12_begins_10 rfl rfl ?_
    have endF : ∀ {e : sF} {g' : zH}, mF R0 y n e g' → bgS y n A c p = .inl e → zPn N none d mX12_begins (43, [(0, .inr (.inr (some 196))), (1, .inr (.inr (some a))), (2, .inl (if c then 1 else 0))], [], g') (fun v h' => (v = some (.inl 0) ∧ ¬ wIs y n p bs ∧ h' = g) ∨ (v = some (.inl 1) ∧ wIs y n p bs ∧ mE R0 y n A A.2.1 (bgS y n A c p) h')) := by
      intro e g' hF he
      have s196 := hF.1.sh sh_196
      have hf := hF.2.1
      refine pa_aload_n (pc' := 44) dX12_begins_43 rfl rfl ?_
      refine pa_getI (pc' := 47) (n := 39) dX12_begins_44 fl_12_100 s196 (by decide) hf rfl ?_
      refine pa_if_t (pc' := 54) dX12_begins_47 (by decide) (by decide) ?_
      refine pa_iconst (v := 1) (pc' := 55) dX12_begins_54 (by decide) rfl ?_
      refine pa_iret dX12_begins_55 rfl rfl (.inr ⟨rfl, w, ?_⟩)
      rw [he]
      exact hF
    cases c with
    | true =>
      refine pa_if_t (pc' := 23) dX12_begins_11 (by decide) (by decide) ?_
      refine pa_aload_n (pc' := 24) dX12_begins_23 rfl rfl ?_
      refine pa_getR (pc' := 27) (n := 39) (r := 200) dX12_begins_24 fl_12_23 s196 (by decide) r196_16 rfl ?_
      refine pa_bipush (v := nI 9) (pc' := 29) dX12_begins_27 (by decide) rfl ?_
      refine pa_iald (pc' := 30) (n := 363) dX12_begins_29 s200 rfl (fun _ => ?_)
      rw [nI_clamp (by omega), k9]
      by_cases h0 : A.1 = 0
      · rw [if_pos h0]
        refine pa_if_f (pc' := 33) dX12_begins_30 (by decide) (by decide) rfl ?_
        refine pa_aload_n (pc' := 34) dX12_begins_33 rfl rfl ?_
        refine pa_bipush (v := 6) (pc' := 36) dX12_begins_34 (by decide) rfl ?_
        refine pa_aload_n (pc' := 37) dX12_begins_36 rfl rfl ?_
        refine pa_getI (pc' := 40) (n := 39) dX12_begins_37 fl_12_81 s196 (by decide) k4 rfl ?_
        refine pa_callv (pc' := 43) (vs := [.inl 6, .inl (nI (tS y n p))]) (rest := []) dX12_begins_40 ml_12_127 (by decide) rfl rfl rfl (fun d' _ => m_wrong hx hf rfl) (fun v g2 hq => ?_)
        obtain ⟨er, hq⟩ := hq
        subst er; subst hq
        exact endF (wrg_mF hx) (by unfold bgS; rw [if_pos h0])
      · rw [if_neg h0]
        refine pa_if_t (pc' := 43) dX12_begins_30 (by decide) (by decide) ?_
        refine pa_aload_n (pc' := 44) dX12_begins_43 rfl rfl ?_
        refine pa_getI (pc' := 47) (n := 39) dX12_begins_44 fl_12_100 s196 (by decide) hf rfl ?_
        refine pa_if_f (pc' := 50) dX12_begins_47 (by decide) (by decide) rfl ?_
        refine pa_aload_n (pc' := 51) dX12_begins_50 rfl rfl ?_
        refine pa_callv (pc' := 54) (vs := []) (rest := []) dX12_begins_51 ml_12_121 (by decide) rfl rfl rfl (fun d' _ => m_next hx K.1.2.2.2.1 (tE_sp hp).2.1) (fun v g2 hq => ?_)
        obtain ⟨er, hq⟩ := hq
        subst er
        refine pa_iconst (v := 1) (pc' := 55) dX12_begins_54 (by decide) rfl ?_
        refine pa_iret dX12_begins_55 rfl rfl (.inr ⟨rfl, w, ?_⟩)
        unfold bgS
        rw [if_neg h0, if_pos rfl]
        exact K.nx hq (tE_sp hp).2.1
    | false =>
      have h0 : ¬ A.1 = 0 := fun z => absurd (hc z) (by decide)
      refine pa_if_f (pc' := 14) dX12_begins_11 (by decide) (by decide) rfl ?_
      refine pa_aload_n (pc' := 15) dX12_begins_14 rfl rfl ?_
      refine pa_iconst (v := 5) (pc' := 16) dX12_begins_15 (by decide) rfl ?_
      refine pa_aload_n (pc' := 17) dX12_begins_16 rfl rfl ?_
      refine pa_getI (pc' := 20) (n := 39) dX12_begins_17 fl_12_81 s196 (by decide) k4 rfl ?_
      refine pa_callv (pc' := 23) (vs := [.inl 5, .inl (nI (tS y n p))]) (rest := []) dX12_begins_20 ml_12_127 (by decide) rfl rfl rfl (fun d' _ => m_wrong hx hf rfl) (fun v g2 hq => ?_)
      obtain ⟨er, hq⟩ := hq
      subst er; subst hq
      have hF : mF R0 y n (5, tS y n p) (wrg g 5 (tS y n p)) := wrg_mF hx
      have k9 : (wrg g 5 (tS y n p)).2.1 200 9 = 1 := by rw [wrg_fr 200 9 (by omega) (by omega), k9, if_neg h0]
      refine pa_aload_n (pc' := 24) dX12_begins_23 rfl rfl ?_
      refine pa_getR (pc' := 27) (n := 39) (r := 200) dX12_begins_24 fl_12_23 (hF.1.sh sh_196) (by decide) (hF.1.2.1 _ _ _ rf_196_16) rfl ?_
      refine pa_bipush (v := nI 9) (pc' := 29) dX12_begins_27 (by decide) rfl ?_
      refine pa_iald (pc' := 30) (n := 363) dX12_begins_29 (hF.1.sh sh_200) rfl (fun _ => ?_)
      rw [nI_clamp (by omega), k9]
      refine pa_if_t (pc' := 43) dX12_begins_30 (by decide) (by decide) ?_
      exact endF hF (by unfold bgS; rw [if_neg h0, if_neg (by decide)])
  · refine pa_if_f (x := 0) (pc' := 8) dX12_begins_5 (by decide) (by decide) rfl ?_
    refine pa_iconst (v := 0) (pc' := 9) dX12_begins_8 (by decide) rfl ?_
    exact pa_iret dX12_begins_9 rfl rfl (.inl ⟨rfl, w, rfl⟩)
theorem M_islandF (hF : mF R0 y n e h) : zPa d mX12_islandLine [.inr (.inr (some 196))] h (fun v h' => v = none ∧ h' = h) := by
  intro N
  have s196 := hF.1.sh sh_196
  have hf := hF.2.1
  show zPn N none d mX12_islandLine (0, [(0, .inr (.inr (some 196)))], [], h) _
  refine pa_aload_n (pc' := 1) dX12_islandLine_0 rfl rfl ?_
  refine pa_getI (pc' := 4) (n := 39) dX12_islandLine_1 fl_12_100 s196 (by decide) hf rfl ?_
  refine pa_if_f (pc' := 7) dX12_islandLine_4 (by decide) (by decide) rfl ?_
  exact pa_vret dX12_islandLine_7 rfl ⟨rfl, rfl⟩
theorem M_wayF (hF : mF R0 y n e h) : zPa d mX12_wayLine [.inr (.inr (some 196))] h (fun v h' => v = none ∧ h' = h) := by
  intro N
  have s196 := hF.1.sh sh_196
  have hf := hF.2.1
  show zPn N none d mX12_wayLine (0, [(0, .inr (.inr (some 196)))], [], h) _
  refine pa_aload_n (pc' := 1) dX12_wayLine_0 rfl rfl ?_
  refine pa_getI (pc' := 4) (n := 39) dX12_wayLine_1 fl_12_100 s196 (by decide) hf rfl ?_
  refine pa_if_f (pc' := 7) dX12_wayLine_4 (by decide) (by decide) rfl ?_
  exact pa_vret dX12_wayLine_7 rfl ⟨rfl, rfl⟩
theorem M_whaleF (hF : mF R0 y n e h) : zPa d mX12_whaleLine [.inr (.inr (some 196))] h (fun v h' => v = none ∧ h' = h) := by
  intro N
  have s196 := hF.1.sh sh_196
  have hf := hF.2.1
  show zPn N none d mX12_whaleLine (0, [(0, .inr (.inr (some 196)))], [], h) _
  refine pa_aload_n (pc' := 1) dX12_whaleLine_0 rfl rfl ?_
  refine pa_getI (pc' := 4) (n := 39) dX12_whaleLine_1 fl_12_100 s196 (by decide) hf rfl ?_
  refine pa_if_f (pc' := 7) dX12_whaleLine_4 (by decide) (by decide) rfl ?_
  exact pa_vret dX12_whaleLine_7 rfl ⟨rfl, rfl⟩
theorem M_boxF (hF : mF R0 y n e h) : zPa d mX12_boxLine [.inr (.inr (some 196))] h (fun v h' => v = none ∧ h' = h) := by
  intro N
  have s196 := hF.1.sh sh_196
  have hf := hF.2.1
  show zPn N none d mX12_boxLine (0, [(0, .inr (.inr (some 196)))], [], h) _
  refine pa_aload_n (pc' := 1) dX12_boxLine_0 rfl rfl ?_
  refine pa_getI (pc' := 4) (n := 39) dX12_boxLine_1 fl_12_100 s196 (by decide) hf rfl ?_
  refine pa_if_f (pc' := 7) dX12_boxLine_4 (by decide) (by decide) rfl ?_
  exact pa_vret dX12_boxLine_7 rfl ⟨rfl, rfl⟩
theorem M_spoutF (hF : mF R0 y n e h) : zPa d mX12_spoutLine [.inr (.inr (some 196))] h (fun v h' => v = none ∧ h' = h) := by
  intro N
  have s196 := hF.1.sh sh_196
  have hf := hF.2.1
  show zPn N none d mX12_spoutLine (0, [(0, .inr (.inr (some 196)))], [], h) _
  refine pa_aload_n (pc' := 1) dX12_spoutLine_0 rfl rfl ?_
  refine pa_getI (pc' := 4) (n := 39) dX12_spoutLine_1 fl_12_100 s196 (by decide) hf rfl ?_
  refine pa_if_f (pc' := 7) dX12_spoutLine_4 (by decide) (by decide) rfl ?_
  exact pa_vret dX12_spoutLine_7 rfl ⟨rfl, rfl⟩
set_option maxRecDepth 8000 in
theorem M_line (hI : pI A) (K : mS R0 y n A A.2.1 p h) : zPa d mX12_readLine [.inr (.inr (some 196))] h (lnM R0 y n (sLine y n A p)) := by
  intro N
  have hx := K.1.1
  have s196 := hx.sh sh_196
  have s200 := hx.sh sh_200
  have r196_16 := hx.2.1 _ _ _ rf_196_16
  have hf := K.2.1
  have k4 := K.1.2.2.1
  have hz := hI.2.1
  obtain ⟨b1, b2, b3, b4, b5⟩ := hI.2.2.1
  show zPn N none d mX12_readLine (0, [(0, .inr (.inr (some 196)))], [], h) _
  refine pa_aload_n (pc' := 1) dX12_readLine_0 rfl rfl ?_
  refine pa_ldc (pc' := 3) dX12_readLine_1 cl_12_131 rfl rfl ?_
  refine pa_callv (pc' := 6) (vs := [.inr (.inr (some 1000034))]) (rest := []) dX12_readLine_3 ml_12_117 (by decide) rfl rfl rfl (fun d' _ => m_isW K.1 hf (bs := wPost) rfl) (fun v g hq => ?_)
  obtain ⟨eg, hq⟩ := hq
  subst eg
  rcases hq with ⟨er, w1⟩ | ⟨er, w1⟩ <;> subst er
  · refine pa_if_f (x := 1) (pc' := 9) dX12_readLine_6 (by decide) (by decide) rfl ?_
    refine pa_aload_n (pc' := 10) dX12_readLine_9 rfl rfl ?_
    refine pa_callv (pc' := 13) (vs := []) (rest := []) dX12_readLine_10 ml_12_189 (by decide) rfl rfl rfl (fun d' _ => M_head hI K) (fun v g2 hq => ?_)
    rw [← ln_post (wIs_w.mp w1)] at hq
    obtain ⟨er, hq⟩ := hq
    subst er
    refine pa_goto (pc' := 187) dX12_readLine_13 (by decide) ?_
    exact pa_vret dX12_readLine_187 rfl ⟨rfl, hq⟩
  refine pa_if_t (x := 0) (pc' := 16) dX12_readLine_6 (by decide) (by decide) ?_
  refine pa_aload_n (pc' := 17) dX12_readLine_16 rfl rfl ?_
  refine pa_ldc (pc' := 19) dX12_readLine_17 cl_12_133 rfl rfl ?_
  refine pa_aload_n (pc' := 20) dX12_readLine_19 rfl rfl ?_
  refine pa_getR (pc' := 23) (n := 39) (r := 200) dX12_readLine_20 fl_12_23 s196 (by decide) r196_16 rfl ?_
  refine pa_iconst (v := nI 4) (pc' := 24) dX12_readLine_23 (by decide) rfl ?_
  refine pa_iald (pc' := 25) (n := 363) dX12_readLine_24 s200 rfl (fun _ => ?_)
  rw [nI_clamp (by omega), K.2.2.1.2.2.1]
  refine pa_bipush (v := nI 7) (pc' := 27) dX12_readLine_25 (by decide) rfl ?_
  have kk : zPn N none d mX12_readLine (35, [(0, .inr (.inr (some 196)))], [.inl (if decide (cI A < 7) then 1 else 0), .inr (.inr (some 1000039)), .inr (.inr (some 196))], g) (lnM R0 y n (sLine y n A p)) := by
    refine pa_callv (pc' := 38) (vs := [.inr (.inr (some 1000039)), .inl (if decide (cI A < 7) then 1 else 0)]) (rest := []) dX12_readLine_35 ml_12_192 (by decide) rfl rfl rfl (fun d' _ => M_begins K (fun z => decide_eq_true (by have := hz z; omega)) (bs := wIsland) rfl) (fun v ga hq => ?_)
    rcases hq with ⟨er, w2, eg⟩ | ⟨er, w2, K2⟩
    rotate_left
    · subst er
      refine pa_if_f (x := 1) (pc' := 41) dX12_readLine_38 (by decide) (by decide) rfl ?_
      refine pa_aload_n (pc' := 42) dX12_readLine_41 rfl rfl ?_
      have eL := ln_island (A := A) (wIs_w.mp w2)
      unfold bgS at K2
      by_cases h0 : A.1 = 0
      · rw [if_pos h0] at K2 eL
        refine pa_callv (pc' := 45) (vs := []) (rest := []) dX12_readLine_42 ml_12_196 (by decide) rfl rfl rfl (fun d' _ => M_islandF K2) (fun v g3 hq => ?_)
        obtain ⟨er, hq⟩ := hq
        subst er; subst hq
        refine pa_goto (pc' := 187) dX12_readLine_45 (by decide) ?_
        exact pa_vret dX12_readLine_187 rfl ⟨rfl, by rw [eL]; exact K2⟩
      · rw [if_neg h0] at K2 eL
        by_cases hr : cI A < 7
        · rw [if_pos hr] at eL
          rw [if_pos (decide_eq_true hr)] at K2
          refine pa_callv (pc' := 45) (vs := []) (rest := []) dX12_readLine_42 ml_12_196 (by decide) rfl rfl rfl (fun d' _ => M_island hI h0 hr K2) (fun v g3 hq => ?_)
          obtain ⟨er, hq⟩ := hq
          subst er
          refine pa_goto (pc' := 187) dX12_readLine_45 (by decide) ?_
          exact pa_vret dX12_readLine_187 rfl ⟨rfl, by rw [eL]; exact hq⟩
        · rw [if_neg hr] at eL
          rw [if_neg (by rw [decide_eq_false hr]; decide)] at K2
          refine pa_callv (pc' := 45) (vs := []) (rest := []) dX12_readLine_42 ml_12_196 (by decide) rfl rfl rfl (fun d' _ => M_islandF K2) (fun v g3 hq => ?_)
          obtain ⟨er, hq⟩ := hq
          subst er; subst hq
          refine pa_goto (pc' := 187) dX12_readLine_45 (by decide) ?_
          exact pa_vret dX12_readLine_187 rfl ⟨rfl, by rw [eL]; exact K2⟩
    subst er; subst eg
    refine pa_if_t (x := 0) (pc' := 48) dX12_readLine_38 (by decide) (by decide) ?_
    refine pa_aload_n (pc' := 49) dX12_readLine_48 rfl rfl ?_
    refine pa_ldc (pc' := 51) dX12_readLine_49 cl_12_135 rfl rfl ?_
    refine pa_aload_n (pc' := 52) dX12_readLine_51 rfl rfl ?_
    refine pa_getR (pc' := 55) (n := 39) (r := 200) dX12_readLine_52 fl_12_23 s196 (by decide) r196_16 rfl ?_
    refine pa_iconst (v := nI 5) (pc' := 56) dX12_readLine_55 (by decide) rfl ?_
    refine pa_iald (pc' := 57) (n := 363) dX12_readLine_56 s200 rfl (fun _ => ?_)
    rw [nI_clamp (by omega), K.2.2.1.2.2.2.1]
    refine pa_bipush (v := nI 12) (pc' := 59) dX12_readLine_57 (by decide) rfl ?_
    have kk : zPn N none d mX12_readLine (67, [(0, .inr (.inr (some 196)))], [.inl (if decide (cW A < 12) then 1 else 0), .inr (.inr (some 1000040)), .inr (.inr (some 196))], ga) (lnM R0 y n (sLine y n A p)) := by
      refine pa_callv (pc' := 70) (vs := [.inr (.inr (some 1000040)), .inl (if decide (cW A < 12) then 1 else 0)]) (rest := []) dX12_readLine_67 ml_12_192 (by decide) rfl rfl rfl (fun d' _ => M_begins K (fun z => decide_eq_true (by have := hz z; omega)) (bs := wWay) rfl) (fun v gb hq => ?_)
      rcases hq with ⟨er, w3, eg⟩ | ⟨er, w3, K2⟩
      rotate_left
      · subst er
        refine pa_if_f (x := 1) (pc' := 73) dX12_readLine_70 (by decide) (by decide) rfl ?_
        refine pa_aload_n (pc' := 74) dX12_readLine_73 rfl rfl ?_
        have eL := ln_way (A := A) (wIs_w.mp w3)
        unfold bgS at K2
        by_cases h0 : A.1 = 0
        · rw [if_pos h0] at K2 eL
          refine pa_callv (pc' := 77) (vs := []) (rest := []) dX12_readLine_74 ml_12_199 (by decide) rfl rfl rfl (fun d' _ => M_wayF K2) (fun v g3 hq => ?_)
          obtain ⟨er, hq⟩ := hq
          subst er; subst hq
          refine pa_goto (pc' := 187) dX12_readLine_77 (by decide) ?_
          exact pa_vret dX12_readLine_187 rfl ⟨rfl, by rw [eL]; exact K2⟩
        · rw [if_neg h0] at K2 eL
          by_cases hr : cW A < 12
          · rw [if_pos hr] at eL
            rw [if_pos (decide_eq_true hr)] at K2
            refine pa_callv (pc' := 77) (vs := []) (rest := []) dX12_readLine_74 ml_12_199 (by decide) rfl rfl rfl (fun d' _ => M_way hI hr K2) (fun v g3 hq => ?_)
            obtain ⟨er, hq⟩ := hq
            subst er
            refine pa_goto (pc' := 187) dX12_readLine_77 (by decide) ?_
            exact pa_vret dX12_readLine_187 rfl ⟨rfl, by rw [eL]; exact hq⟩
          · rw [if_neg hr] at eL
            rw [if_neg (by rw [decide_eq_false hr]; decide)] at K2
            refine pa_callv (pc' := 77) (vs := []) (rest := []) dX12_readLine_74 ml_12_199 (by decide) rfl rfl rfl (fun d' _ => M_wayF K2) (fun v g3 hq => ?_)
            obtain ⟨er, hq⟩ := hq
            subst er; subst hq
            refine pa_goto (pc' := 187) dX12_readLine_77 (by decide) ?_
            exact pa_vret dX12_readLine_187 rfl ⟨rfl, by rw [eL]; exact K2⟩
      subst er; subst eg
      refine pa_if_t (x := 0) (pc' := 80) dX12_readLine_70 (by decide) (by decide) ?_
      refine pa_aload_n (pc' := 81) dX12_readLine_80 rfl rfl ?_
      refine pa_ldc (pc' := 83) dX12_readLine_81 cl_12_137 rfl rfl ?_
      refine pa_aload_n (pc' := 84) dX12_readLine_83 rfl rfl ?_
      refine pa_getR (pc' := 87) (n := 39) (r := 200) dX12_readLine_84 fl_12_23 s196 (by decide) r196_16 rfl ?_
      refine pa_bipush (v := nI 6) (pc' := 89) dX12_readLine_87 (by decide) rfl ?_
      refine pa_iald (pc' := 90) (n := 363) dX12_readLine_89 s200 rfl (fun _ => ?_)
      rw [nI_clamp (by omega), K.2.2.1.2.2.2.2.1]
      refine pa_iconst (v := nI 5) (pc' := 91) dX12_readLine_90 (by decide) rfl ?_
      have kk : zPn N none d mX12_readLine (99, [(0, .inr (.inr (some 196)))], [.inl (if decide (cH A < 5) then 1 else 0), .inr (.inr (some 1000041)), .inr (.inr (some 196))], gb) (lnM R0 y n (sLine y n A p)) := by
        refine pa_callv (pc' := 102) (vs := [.inr (.inr (some 1000041)), .inl (if decide (cH A < 5) then 1 else 0)]) (rest := []) dX12_readLine_99 ml_12_192 (by decide) rfl rfl rfl (fun d' _ => M_begins K (fun z => decide_eq_true (by have := hz z; omega)) (bs := wWhale) rfl) (fun v gc hq => ?_)
        rcases hq with ⟨er, w4, eg⟩ | ⟨er, w4, K2⟩
        rotate_left
        · subst er
          refine pa_if_f (x := 1) (pc' := 105) dX12_readLine_102 (by decide) (by decide) rfl ?_
          refine pa_aload_n (pc' := 106) dX12_readLine_105 rfl rfl ?_
          have eL := ln_whale (A := A) (wIs_w.mp w4)
          unfold bgS at K2
          by_cases h0 : A.1 = 0
          · rw [if_pos h0] at K2 eL
            refine pa_callv (pc' := 109) (vs := []) (rest := []) dX12_readLine_106 ml_12_202 (by decide) rfl rfl rfl (fun d' _ => M_whaleF K2) (fun v g3 hq => ?_)
            obtain ⟨er, hq⟩ := hq
            subst er; subst hq
            refine pa_goto (pc' := 187) dX12_readLine_109 (by decide) ?_
            exact pa_vret dX12_readLine_187 rfl ⟨rfl, by rw [eL]; exact K2⟩
          · rw [if_neg h0] at K2 eL
            by_cases hr : cH A < 5
            · rw [if_pos hr] at eL
              rw [if_pos (decide_eq_true hr)] at K2
              refine pa_callv (pc' := 109) (vs := []) (rest := []) dX12_readLine_106 ml_12_202 (by decide) rfl rfl rfl (fun d' _ => M_whale hI hr K2) (fun v g3 hq => ?_)
              obtain ⟨er, hq⟩ := hq
              subst er
              refine pa_goto (pc' := 187) dX12_readLine_109 (by decide) ?_
              exact pa_vret dX12_readLine_187 rfl ⟨rfl, by rw [eL]; exact hq⟩
            · rw [if_neg hr] at eL
              rw [if_neg (by rw [decide_eq_false hr]; decide)] at K2
              refine pa_callv (pc' := 109) (vs := []) (rest := []) dX12_readLine_106 ml_12_202 (by decide) rfl rfl rfl (fun d' _ => M_whaleF K2) (fun v g3 hq => ?_)
              obtain ⟨er, hq⟩ := hq
              subst er; subst hq
              refine pa_goto (pc' := 187) dX12_readLine_109 (by decide) ?_
              exact pa_vret dX12_readLine_187 rfl ⟨rfl, by rw [eL]; exact K2⟩
        subst er; subst eg
        refine pa_if_t (x := 0) (pc' := 112) dX12_readLine_102 (by decide) (by decide) ?_
        refine pa_aload_n (pc' := 113) dX12_readLine_112 rfl rfl ?_
        refine pa_ldc (pc' := 115) dX12_readLine_113 cl_12_139 rfl rfl ?_
        refine pa_aload_n (pc' := 116) dX12_readLine_115 rfl rfl ?_
        refine pa_getR (pc' := 119) (n := 39) (r := 200) dX12_readLine_116 fl_12_23 s196 (by decide) r196_16 rfl ?_
        refine pa_bipush (v := nI 7) (pc' := 121) dX12_readLine_119 (by decide) rfl ?_
        refine pa_iald (pc' := 122) (n := 363) dX12_readLine_121 s200 rfl (fun _ => ?_)
        rw [nI_clamp (by omega), K.2.2.1.2.2.2.2.2.1]
        refine pa_bipush (v := nI 8) (pc' := 124) dX12_readLine_122 (by decide) rfl ?_
        have kk : zPn N none d mX12_readLine (132, [(0, .inr (.inr (some 196)))], [.inl (if decide (cB A < 8) then 1 else 0), .inr (.inr (some 1000042)), .inr (.inr (some 196))], gc) (lnM R0 y n (sLine y n A p)) := by
          refine pa_callv (pc' := 135) (vs := [.inr (.inr (some 1000042)), .inl (if decide (cB A < 8) then 1 else 0)]) (rest := []) dX12_readLine_132 ml_12_192 (by decide) rfl rfl rfl (fun d' _ => M_begins K (fun z => decide_eq_true (by have := hz z; omega)) (bs := wBox) rfl) (fun v gd hq => ?_)
          rcases hq with ⟨er, w5, eg⟩ | ⟨er, w5, K2⟩
          rotate_left
          · subst er
            refine pa_if_f (x := 1) (pc' := 138) dX12_readLine_135 (by decide) (by decide) rfl ?_
            refine pa_aload_n (pc' := 139) dX12_readLine_138 rfl rfl ?_
            have eL := ln_box (A := A) (wIs_w.mp w5)
            unfold bgS at K2
            by_cases h0 : A.1 = 0
            · rw [if_pos h0] at K2 eL
              refine pa_callv (pc' := 142) (vs := []) (rest := []) dX12_readLine_139 ml_12_205 (by decide) rfl rfl rfl (fun d' _ => M_boxF K2) (fun v g3 hq => ?_)
              obtain ⟨er, hq⟩ := hq
              subst er; subst hq
              refine pa_goto (pc' := 187) dX12_readLine_142 (by decide) ?_
              exact pa_vret dX12_readLine_187 rfl ⟨rfl, by rw [eL]; exact K2⟩
            · rw [if_neg h0] at K2 eL
              by_cases hr : cB A < 8
              · rw [if_pos hr] at eL
                rw [if_pos (decide_eq_true hr)] at K2
                refine pa_callv (pc' := 142) (vs := []) (rest := []) dX12_readLine_139 ml_12_205 (by decide) rfl rfl rfl (fun d' _ => M_box hI hr K2) (fun v g3 hq => ?_)
                obtain ⟨er, hq⟩ := hq
                subst er
                refine pa_goto (pc' := 187) dX12_readLine_142 (by decide) ?_
                exact pa_vret dX12_readLine_187 rfl ⟨rfl, by rw [eL]; exact hq⟩
              · rw [if_neg hr] at eL
                rw [if_neg (by rw [decide_eq_false hr]; decide)] at K2
                refine pa_callv (pc' := 142) (vs := []) (rest := []) dX12_readLine_139 ml_12_205 (by decide) rfl rfl rfl (fun d' _ => M_boxF K2) (fun v g3 hq => ?_)
                obtain ⟨er, hq⟩ := hq
                subst er; subst hq
                refine pa_goto (pc' := 187) dX12_readLine_142 (by decide) ?_
                exact pa_vret dX12_readLine_187 rfl ⟨rfl, by rw [eL]; exact K2⟩
          subst er; subst eg
          refine pa_if_t (x := 0) (pc' := 145) dX12_readLine_135 (by decide) (by decide) ?_
          refine pa_aload_n (pc' := 146) dX12_readLine_145 rfl rfl ?_
          refine pa_ldc (pc' := 148) dX12_readLine_146 cl_12_141 rfl rfl ?_
          refine pa_aload_n (pc' := 149) dX12_readLine_148 rfl rfl ?_
          refine pa_getR (pc' := 152) (n := 39) (r := 200) dX12_readLine_149 fl_12_23 s196 (by decide) r196_16 rfl ?_
          refine pa_bipush (v := nI 8) (pc' := 154) dX12_readLine_152 (by decide) rfl ?_
          refine pa_iald (pc' := 155) (n := 363) dX12_readLine_154 s200 rfl (fun _ => ?_)
          rw [nI_clamp (by omega), K.2.2.1.2.2.2.2.2.2.1]
          refine pa_bipush (v := nI 8) (pc' := 157) dX12_readLine_155 (by decide) rfl ?_
          have kk : zPn N none d mX12_readLine (165, [(0, .inr (.inr (some 196)))], [.inl (if decide (cS A < 8) then 1 else 0), .inr (.inr (some 1000043)), .inr (.inr (some 196))], gd) (lnM R0 y n (sLine y n A p)) := by
            refine pa_callv (pc' := 168) (vs := [.inr (.inr (some 1000043)), .inl (if decide (cS A < 8) then 1 else 0)]) (rest := []) dX12_readLine_165 ml_12_192 (by decide) rfl rfl rfl (fun d' _ => M_begins K (fun z => decide_eq_true (by have := hz z; omega)) (bs := wSpout) rfl) (fun v ge hq => ?_)
            rcases hq with ⟨er, w6, eg⟩ | ⟨er, w6, K2⟩
            rotate_left
            · subst er
              refine pa_if_f (x := 1) (pc' := 171) dX12_readLine_168 (by decide) (by decide) rfl ?_
              refine pa_aload_n (pc' := 172) dX12_readLine_171 rfl rfl ?_
              have eL := ln_spout (A := A) (wIs_w.mp w6)
              unfold bgS at K2
              by_cases h0 : A.1 = 0
              · rw [if_pos h0] at K2 eL
                refine pa_callv (pc' := 175) (vs := []) (rest := []) dX12_readLine_172 ml_12_208 (by decide) rfl rfl rfl (fun d' _ => M_spoutF K2) (fun v g3 hq => ?_)
                obtain ⟨er, hq⟩ := hq
                subst er; subst hq
                refine pa_goto (pc' := 187) dX12_readLine_175 (by decide) ?_
                exact pa_vret dX12_readLine_187 rfl ⟨rfl, by rw [eL]; exact K2⟩
              · rw [if_neg h0] at K2 eL
                by_cases hr : cS A < 8
                · rw [if_pos hr] at eL
                  rw [if_pos (decide_eq_true hr)] at K2
                  refine pa_callv (pc' := 175) (vs := []) (rest := []) dX12_readLine_172 ml_12_208 (by decide) rfl rfl rfl (fun d' _ => M_spout hI hr K2) (fun v g3 hq => ?_)
                  obtain ⟨er, hq⟩ := hq
                  subst er
                  refine pa_goto (pc' := 187) dX12_readLine_175 (by decide) ?_
                  exact pa_vret dX12_readLine_187 rfl ⟨rfl, by rw [eL]; exact hq⟩
                · rw [if_neg hr] at eL
                  rw [if_neg (by rw [decide_eq_false hr]; decide)] at K2
                  refine pa_callv (pc' := 175) (vs := []) (rest := []) dX12_readLine_172 ml_12_208 (by decide) rfl rfl rfl (fun d' _ => M_spoutF K2) (fun v g3 hq => ?_)
                  obtain ⟨er, hq⟩ := hq
                  subst er; subst hq
                  refine pa_goto (pc' := 187) dX12_readLine_175 (by decide) ?_
                  exact pa_vret dX12_readLine_187 rfl ⟨rfl, by rw [eL]; exact K2⟩
            subst er; subst eg
            refine pa_if_t (x := 0) (pc' := 178) dX12_readLine_168 (by decide) (by decide) ?_
            refine pa_aload_n (pc' := 179) dX12_readLine_178 rfl rfl ?_
            refine pa_iconst (v := 1) (pc' := 180) dX12_readLine_179 (by decide) rfl ?_
            refine pa_aload_n (pc' := 181) dX12_readLine_180 rfl rfl ?_
            refine pa_getI (pc' := 184) (n := 39) dX12_readLine_181 fl_12_81 s196 (by decide) k4 rfl ?_
            refine pa_callv (pc' := 187) (vs := [.inl 1, .inl (nI (tS y n p))]) (rest := []) dX12_readLine_184 ml_12_127 (by decide) rfl rfl rfl (fun d' _ => m_wrong hx hf rfl) (fun v g9 hq => ?_)
            obtain ⟨er, hq⟩ := hq
            subst er; subst hq
            refine pa_vret dX12_readLine_187 rfl ⟨rfl, ?_⟩
            rw [ln_no (.inr (.inr (.inr (.inr (.inr (.inr ⟨rfl, w1, w2, w3, w4, w5, w6⟩))))))]
            exact wrg_mF hx
          refine pa_icmp (pc' := 164) (pc2 := 160) dX12_readLine_157 (by decide) rfl (fun cd => ?_) (fun cd => ?_)
          · have cd := zi_nlt (zk_ge_lt cd)
            rw [nI_toInt (by omega), nI_toInt (by omega)] at cd
            rw [if_neg (by rw [decide_eq_false (show ¬ cS A < 8 by omega)]; decide)] at kk
            exact pa_iconst (v := 0) (pc' := 165) dX12_readLine_164 (by decide) rfl kk
          · have cd := zi_lt (zk_ge_lt cd)
            rw [nI_toInt (by omega), nI_toInt (by omega)] at cd
            rw [if_pos (decide_eq_true (show cS A < 8 by omega))] at kk
            refine pa_iconst (v := 1) (pc' := 161) dX12_readLine_160 (by decide) rfl ?_
            exact pa_goto (pc' := 165) dX12_readLine_161 (by decide) kk
        refine pa_icmp (pc' := 131) (pc2 := 127) dX12_readLine_124 (by decide) rfl (fun cd => ?_) (fun cd => ?_)
        · have cd := zi_nlt (zk_ge_lt cd)
          rw [nI_toInt (by omega), nI_toInt (by omega)] at cd
          rw [if_neg (by rw [decide_eq_false (show ¬ cB A < 8 by omega)]; decide)] at kk
          exact pa_iconst (v := 0) (pc' := 132) dX12_readLine_131 (by decide) rfl kk
        · have cd := zi_lt (zk_ge_lt cd)
          rw [nI_toInt (by omega), nI_toInt (by omega)] at cd
          rw [if_pos (decide_eq_true (show cB A < 8 by omega))] at kk
          refine pa_iconst (v := 1) (pc' := 128) dX12_readLine_127 (by decide) rfl ?_
          exact pa_goto (pc' := 132) dX12_readLine_128 (by decide) kk
      refine pa_icmp (pc' := 98) (pc2 := 94) dX12_readLine_91 (by decide) rfl (fun cd => ?_) (fun cd => ?_)
      · have cd := zi_nlt (zk_ge_lt cd)
        rw [nI_toInt (by omega), nI_toInt (by omega)] at cd
        rw [if_neg (by rw [decide_eq_false (show ¬ cH A < 5 by omega)]; decide)] at kk
        exact pa_iconst (v := 0) (pc' := 99) dX12_readLine_98 (by decide) rfl kk
      · have cd := zi_lt (zk_ge_lt cd)
        rw [nI_toInt (by omega), nI_toInt (by omega)] at cd
        rw [if_pos (decide_eq_true (show cH A < 5 by omega))] at kk
        refine pa_iconst (v := 1) (pc' := 95) dX12_readLine_94 (by decide) rfl ?_
        exact pa_goto (pc' := 99) dX12_readLine_95 (by decide) kk
    refine pa_icmp (pc' := 66) (pc2 := 62) dX12_readLine_59 (by decide) rfl (fun cd => ?_) (fun cd => ?_)
    · have cd := zi_nlt (zk_ge_lt cd)
      rw [nI_toInt (by omega), nI_toInt (by omega)] at cd
      rw [if_neg (by rw [decide_eq_false (show ¬ cW A < 12 by omega)]; decide)] at kk
      exact pa_iconst (v := 0) (pc' := 67) dX12_readLine_66 (by decide) rfl kk
    · have cd := zi_lt (zk_ge_lt cd)
      rw [nI_toInt (by omega), nI_toInt (by omega)] at cd
      rw [if_pos (decide_eq_true (show cW A < 12 by omega))] at kk
      refine pa_iconst (v := 1) (pc' := 63) dX12_readLine_62 (by decide) rfl ?_
      exact pa_goto (pc' := 67) dX12_readLine_63 (by decide) kk
  refine pa_icmp (pc' := 34) (pc2 := 30) dX12_readLine_27 (by decide) rfl (fun cd => ?_) (fun cd => ?_)
  · have cd := zi_nlt (zk_ge_lt cd)
    rw [nI_toInt (by omega), nI_toInt (by omega)] at cd
    rw [if_neg (by rw [decide_eq_false (show ¬ cI A < 7 by omega)]; decide)] at kk
    exact pa_iconst (v := 0) (pc' := 35) dX12_readLine_34 (by decide) rfl kk
  · have cd := zi_lt (zk_ge_lt cd)
    rw [nI_toInt (by omega), nI_toInt (by omega)] at cd
    rw [if_pos (decide_eq_true (show cI A < 7 by omega))] at kk
    refine pa_iconst (v := 1) (pc' := 31) dX12_readLine_30 (by decide) rfl ?_
    exact pa_goto (pc' := 35) dX12_readLine_31 (by decide) kk
end MDE
