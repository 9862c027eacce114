/-! the reader of the class: numbers, names, words that begin a line -/
def wPost : List Int32 := [112, 111, 115, 116]
def wIsland : List Int32 := [105, 115, 108, 97, 110, 100]
def wWay : List Int32 := [119, 97, 121]
def wWhale : List Int32 := [119, 104, 97, 108, 101]
def wBox : List Int32 := [98, 111, 120]
def wSpout : List Int32 := [115, 112, 111, 117, 116]
def srt (y : Nat → Int32) (n p : Nat) (x : Int32) : Prop := (x = 0 ∧ wIs y n p wPost) ∨ (x = 1 ∧ wIs y n p wIsland) ∨ (x = 2 ∧ wIs y n p wWay) ∨ (x = 3 ∧ wIs y n p wWhale) ∨ (x = 4 ∧ wIs y n p wBox) ∨ (x = 5 ∧ wIs y n p wSpout) ∨ (x = -2 ∧ ¬ wIs y n p wPost ∧ ¬ wIs y n p wIsland ∧ ¬ wIs y n p wWay ∧ ¬ wIs y n p wWhale ∧ ¬ wIs y n p wBox ∧ ¬ wIs y n p wSpout)
def knd (y : Nat → Int32) (n p : Nat) (x : Int32) : Prop := (x = 0 ∧ wIs y n p [99, 97, 108, 102]) ∨ (x = 1 ∧ ¬ wIs y n p [99, 97, 108, 102] ∧ wIs y n p [99, 111, 119]) ∨ (x = 2 ∧ ¬ wIs y n p [99, 97, 108, 102] ∧ ¬ wIs y n p [99, 111, 119] ∧ wIs y n p [98, 117, 108, 108]) ∨ (x = 3 ∧ ¬ wIs y n p [99, 97, 108, 102] ∧ ¬ wIs y n p [99, 111, 119] ∧ ¬ wIs y n p [98, 117, 108, 108] ∧ wIs y n p [111, 108, 100]) ∨ (x = -2 ∧ ¬ wIs y n p [99, 97, 108, 102] ∧ ¬ wIs y n p [99, 111, 119] ∧ ¬ wIs y n p [98, 117, 108, 108] ∧ ¬ wIs y n p [111, 108, 100])
section RDW
variable {y : Nat → Int32} {n c d N p : Nat} {h h' : zH} {Q : Option zV → zH → Prop}
theorem c_sort (k : ct y n c p h) : zPa d mX5_sortOfLine [.inr (.inr (some 82))] h (fun v h' => h' = h ∧ ∃ x, v = some (.inl x) ∧ srt y n p x) := by
  intro N
  show zPn N none d mX5_sortOfLine (0, [(0, .inr (.inr (some 82)))], [], h) _
  refine pa_aload_n (pc' := 1) dX5_sortOfLine_0 rfl rfl ?_
  refine pa_ldcw (pc' := 4) dX5_sortOfLine_1 cl_5_263 rfl rfl ?_
  refine pa_callv (pc' := 7) (vs := [.inr (.inr (some 1000010))]) (rest := []) dX5_sortOfLine_4 ml_5_245 (by decide) rfl rfl rfl (fun d' _ => c_isT k (bs := wPost) rfl) (fun r h2 hq => ?_)
  obtain ⟨eh, hq⟩ := hq
  subst eh
  rcases hq with ⟨e, w1⟩ | ⟨e, w1⟩ <;> subst e
  · refine pa_if_f (pc' := 10) (x := 1) dX5_sortOfLine_7 (by decide) (by decide) rfl ?_
    refine pa_iconst (v := 0) (pc' := 11) dX5_sortOfLine_10 (by decide) rfl ?_
    exact pa_iret dX5_sortOfLine_11 rfl rfl ⟨rfl, 0, rfl, .inl ⟨rfl, w1⟩⟩
  refine pa_if_t (pc' := 12) (x := 0) dX5_sortOfLine_7 (by decide) (by decide) ?_
  refine pa_aload_n (pc' := 13) dX5_sortOfLine_12 rfl rfl ?_
  refine pa_ldcw (pc' := 16) dX5_sortOfLine_13 cl_5_264 rfl rfl ?_
  refine pa_callv (pc' := 19) (vs := [.inr (.inr (some 1000011))]) (rest := []) dX5_sortOfLine_16 ml_5_245 (by decide) rfl rfl rfl (fun d' _ => c_isT k (bs := wIsland) rfl) (fun r h2 hq => ?_)
  obtain ⟨eh, hq⟩ := hq
  subst eh
  rcases hq with ⟨e, w2⟩ | ⟨e, w2⟩ <;> subst e
  · refine pa_if_f (pc' := 22) (x := 1) dX5_sortOfLine_19 (by decide) (by decide) rfl ?_
    refine pa_iconst (v := 1) (pc' := 23) dX5_sortOfLine_22 (by decide) rfl ?_
    exact pa_iret dX5_sortOfLine_23 rfl rfl ⟨rfl, 1, rfl, .inr (.inl ⟨rfl, w2⟩)⟩
  refine pa_if_t (pc' := 24) (x := 0) dX5_sortOfLine_19 (by decide) (by decide) ?_
  refine pa_aload_n (pc' := 25) dX5_sortOfLine_24 rfl rfl ?_
  refine pa_ldcw (pc' := 28) dX5_sortOfLine_25 cl_5_265 rfl rfl ?_
  refine pa_callv (pc' := 31) (vs := [.inr (.inr (some 1000012))]) (rest := []) dX5_sortOfLine_28 ml_5_245 (by decide) rfl rfl rfl (fun d' _ => c_isT k (bs := wWay) rfl) (fun r h2 hq => ?_)
  obtain ⟨eh, hq⟩ := hq
  subst eh
  rcases hq with ⟨e, w3⟩ | ⟨e, w3⟩ <;> subst e
  · refine pa_if_f (pc' := 34) (x := 1) dX5_sortOfLine_31 (by decide) (by decide) rfl ?_
    refine pa_iconst (v := 2) (pc' := 35) dX5_sortOfLine_34 (by decide) rfl ?_
    exact pa_iret dX5_sortOfLine_35 rfl rfl ⟨rfl, 2, rfl, .inr (.inr (.inl ⟨rfl, w3⟩))⟩
  refine pa_if_t (pc' := 36) (x := 0) dX5_sortOfLine_31 (by decide) (by decide) ?_
  refine pa_aload_n (pc' := 37) dX5_sortOfLine_36 rfl rfl ?_
  refine pa_ldcw (pc' := 40) dX5_sortOfLine_37 cl_5_266 rfl rfl ?_
  refine pa_callv (pc' := 43) (vs := [.inr (.inr (some 1000013))]) (rest := []) dX5_sortOfLine_40 ml_5_245 (by decide) rfl rfl rfl (fun d' _ => c_isT k (bs := wWhale) rfl) (fun r h2 hq => ?_)
  obtain ⟨eh, hq⟩ := hq
  subst eh
  rcases hq with ⟨e, w4⟩ | ⟨e, w4⟩ <;> subst e
  · refine pa_if_f (pc' := 46) (x := 1) dX5_sortOfLine_43 (by decide) (by decide) rfl ?_
    refine pa_iconst (v := 3) (pc' := 47) dX5_sortOfLine_46 (by decide) rfl ?_
    exact pa_iret dX5_sortOfLine_47 rfl rfl ⟨rfl, 3, rfl, .inr (.inr (.inr (.inl ⟨rfl, w4⟩)))⟩
  refine pa_if_t (pc' := 48) (x := 0) dX5_sortOfLine_43 (by decide) (by decide) ?_
  refine pa_aload_n (pc' := 49) dX5_sortOfLine_48 rfl rfl ?_
  refine pa_ldcw (pc' := 52) dX5_sortOfLine_49 cl_5_267 rfl rfl ?_
  refine pa_callv (pc' := 55) (vs := [.inr (.inr (some 1000014))]) (rest := []) dX5_sortOfLine_52 ml_5_245 (by decide) rfl rfl rfl (fun d' _ => c_isT k (bs := wBox) rfl) (fun r h2 hq => ?_)
  obtain ⟨eh, hq⟩ := hq
  subst eh
  rcases hq with ⟨e, w5⟩ | ⟨e, w5⟩ <;> subst e
  · refine pa_if_f (pc' := 58) (x := 1) dX5_sortOfLine_55 (by decide) (by decide) rfl ?_
    refine pa_iconst (v := 4) (pc' := 59) dX5_sortOfLine_58 (by decide) rfl ?_
    exact pa_iret dX5_sortOfLine_59 rfl rfl ⟨rfl, 4, rfl, .inr (.inr (.inr (.inr (.inl ⟨rfl, w5⟩))))⟩
  refine pa_if_t (pc' := 60) (x := 0) dX5_sortOfLine_55 (by decide) (by decide) ?_
  refine pa_aload_n (pc' := 61) dX5_sortOfLine_60 rfl rfl ?_
  refine pa_ldcw (pc' := 64) dX5_sortOfLine_61 cl_5_268 rfl rfl ?_
  refine pa_callv (pc' := 67) (vs := [.inr (.inr (some 1000015))]) (rest := []) dX5_sortOfLine_64 ml_5_245 (by decide) rfl rfl rfl (fun d' _ => c_isT k (bs := wSpout) rfl) (fun r h2 hq => ?_)
  obtain ⟨eh, hq⟩ := hq
  subst eh
  rcases hq with ⟨e, w6⟩ | ⟨e, w6⟩ <;> subst e
  · refine pa_if_f (pc' := 70) (x := 1) dX5_sortOfLine_67 (by decide) (by decide) rfl ?_
    refine pa_iconst (v := 5) (pc' := 71) dX5_sortOfLine_70 (by decide) rfl ?_
    refine pa_goto (pc' := 76) dX5_sortOfLine_71 (by decide) ?_
    exact pa_iret dX5_sortOfLine_76 rfl rfl ⟨rfl, 5, rfl, .inr (.inr (.inr (.inr (.inr (.inl ⟨rfl, w6⟩)))))⟩
  refine pa_if_t (pc' := 74) (x := 0) dX5_sortOfLine_67 (by decide) (by decide) ?_
  refine pa_bipush (v := (-2)) (pc' := 76) dX5_sortOfLine_74 (by decide) rfl ?_
  exact pa_iret dX5_sortOfLine_76 rfl rfl ⟨rfl, -2, rfl, .inr (.inr (.inr (.inr (.inr (.inr ⟨rfl, w1, w2, w3, w4, w5, w6⟩)))))⟩
theorem c_kind (k : ct y n c p h) : zPa d mX5_kindOfToken [.inr (.inr (some 82))] h (fun v h' => h' = h ∧ ∃ x, v = some (.inl x) ∧ knd y n p x) := by
  intro N
  show zPn N none d mX5_kindOfToken (0, [(0, .inr (.inr (some 82)))], [], h) _
  refine pa_aload_n (pc' := 1) dX5_kindOfToken_0 rfl rfl ?_
  refine pa_ldc (pc' := 3) dX5_kindOfToken_1 cl_5_255 rfl rfl ?_
  refine pa_callv (pc' := 6) (vs := [.inr (.inr (some 1000022))]) (rest := []) dX5_kindOfToken_3 ml_5_245 (by decide) rfl rfl rfl (fun d' _ => c_isT k (bs := [99, 97, 108, 102]) rfl) (fun r h2 hq => ?_)
  obtain ⟨eh, hq⟩ := hq
  subst eh
  rcases hq with ⟨e, w1⟩ | ⟨e, w1⟩ <;> subst e
  · refine pa_if_f (pc' := 9) (x := 1) dX5_kindOfToken_6 (by decide) (by decide) rfl ?_
    refine pa_iconst (v := 0) (pc' := 10) dX5_kindOfToken_9 (by decide) rfl ?_
    exact pa_iret dX5_kindOfToken_10 rfl rfl ⟨rfl, 0, rfl, .inl ⟨rfl, w1⟩⟩
  refine pa_if_t (pc' := 11) (x := 0) dX5_kindOfToken_6 (by decide) (by decide) ?_
  refine pa_aload_n (pc' := 12) dX5_kindOfToken_11 rfl rfl ?_
  refine pa_ldcw (pc' := 15) dX5_kindOfToken_12 cl_5_257 rfl rfl ?_
  refine pa_callv (pc' := 18) (vs := [.inr (.inr (some 1000023))]) (rest := []) dX5_kindOfToken_15 ml_5_245 (by decide) rfl rfl rfl (fun d' _ => c_isT k (bs := [99, 111, 119]) rfl) (fun r h2 hq => ?_)
  obtain ⟨eh, hq⟩ := hq
  subst eh
  rcases hq with ⟨e, w2⟩ | ⟨e, w2⟩ <;> subst e
  · refine pa_if_f (pc' := 21) (x := 1) dX5_kindOfToken_18 (by decide) (by decide) rfl ?_
    refine pa_iconst (v := 1) (pc' := 22) dX5_kindOfToken_21 (by decide) rfl ?_
    exact pa_iret dX5_kindOfToken_22 rfl rfl ⟨rfl, 1, rfl, .inr (.inl ⟨rfl, w1, w2⟩)⟩
  refine pa_if_t (pc' := 23) (x := 0) dX5_kindOfToken_18 (by decide) (by decide) ?_
  refine pa_aload_n (pc' := 24) dX5_kindOfToken_23 rfl rfl ?_
  refine pa_ldcw (pc' := 27) dX5_kindOfToken_24 cl_5_259 rfl rfl ?_
  refine pa_callv (pc' := 30) (vs := [.inr (.inr (some 1000024))]) (rest := []) dX5_kindOfToken_27 ml_5_245 (by decide) rfl rfl rfl (fun d' _ => c_isT k (bs := [98, 117, 108, 108]) rfl) (fun r h2 hq => ?_)
  obtain ⟨eh, hq⟩ := hq
  subst eh
  rcases hq with ⟨e, w3⟩ | ⟨e, w3⟩ <;> subst e
  · refine pa_if_f (pc' := 33) (x := 1) dX5_kindOfToken_30 (by decide) (by decide) rfl ?_
    refine pa_iconst (v := 2) (pc' := 34) dX5_kindOfToken_33 (by decide) rfl ?_
    exact pa_iret dX5_kindOfToken_34 rfl rfl ⟨rfl, 2, rfl, .inr (.inr (.inl ⟨rfl, w1, w2, w3⟩))⟩
  refine pa_if_t (pc' := 35) (x := 0) dX5_kindOfToken_30 (by decide) (by decide) ?_
  refine pa_aload_n (pc' := 36) dX5_kindOfToken_35 rfl rfl ?_
  refine pa_ldcw (pc' := 39) dX5_kindOfToken_36 cl_5_261 rfl rfl ?_
  refine pa_callv (pc' := 42) (vs := [.inr (.inr (some 1000025))]) (rest := []) dX5_kindOfToken_39 ml_5_245 (by decide) rfl rfl rfl (fun d' _ => c_isT k (bs := [111, 108, 100]) rfl) (fun r h2 hq => ?_)
  obtain ⟨eh, hq⟩ := hq
  subst eh
  rcases hq with ⟨e, w4⟩ | ⟨e, w4⟩ <;> subst e
  · refine pa_if_f (pc' := 45) (x := 1) dX5_kindOfToken_42 (by decide) (by decide) rfl ?_
    refine pa_iconst (v := 3) (pc' := 46) dX5_kindOfToken_45 (by decide) rfl ?_
    refine pa_goto (pc' := 51) dX5_kindOfToken_46 (by decide) ?_
    exact pa_iret dX5_kindOfToken_51 rfl rfl ⟨rfl, 3, rfl, .inr (.inr (.inr (.inl ⟨rfl, w1, w2, w3, w4⟩)))⟩
  refine pa_if_t (pc' := 49) (x := 0) dX5_kindOfToken_42 (by decide) (by decide) ?_
  refine pa_bipush (v := (-2)) (pc' := 51) dX5_kindOfToken_49 (by decide) rfl ?_
  exact pa_iret dX5_kindOfToken_51 rfl rfl ⟨rfl, -2, rfl, .inr (.inr (.inr (.inr ⟨rfl, w1, w2, w3, w4⟩)))⟩
def nmQ (y : Nat → Int32) (n p : Nat) (lo hi : Int32) (h : zH) (v : Option zV) (h' : zH) : Prop := ∃ h1, nx y n p h h1 ∧ ((v = some (.inl 0) ∧ tT y n p ≠ 3 ∧ flt 1 (tS y n p) h1 h') ∨ (tT y n p = 3 ∧ v = some (.inl 1) ∧ lo ≤ tNum y n p ∧ tNum y n p ≤ hi ∧ h' = zsI h1 82 5 (tNum y n p)) ∨ (tT y n p = 3 ∧ v = some (.inl 0) ∧ ¬ (lo ≤ tNum y n p ∧ tNum y n p ≤ hi) ∧ flt 4 (tS y n p) (zsI h1 82 5 (tNum y n p)) h'))
theorem c_whole {lo hi : Int32} (hx : rx y n c h) (hat : h.2.1 82 2 = nI p) (hp : p ≤ n) : zPa d mX5_whole [.inr (.inr (some 82)), .inl lo, .inl hi] h (nmQ y n p lo hi h) := by
  intro N
  show zPn N none d mX5_whole (0, [(0, .inr (.inr (some 82))), (1, .inl lo), (2, .inl hi)], [], h) _
  refine pa_aload_n (pc' := 1) dX5_whole_0 rfl rfl ?_
  refine pa_callv (pc' := 4) (vs := []) (rest := []) dX5_whole_1 ml_5_70 (by decide) rfl rfl rfl (fun d' _ => c_next hx hat hp) (fun r h1 hq => ?_)
  obtain ⟨er, hq⟩ := hq
  subst er
  have k := hq.ct hx hp
  obtain ⟨hx1, -, hs, ht, he⟩ := k
  have k := hq.ct hx hp
  have s82 := hx1.sh sh_82
  have s1 := hx1.sh sh_1
  have r82_0 := hx1.2.1 _ _ _ rf_82_0
  have hn := hx1.2.2.2.2.2
  obtain ⟨t1, t2, t3⟩ := tS_sp (y := y) hp
  obtain ⟨u1, u2, u3⟩ := tE_sp (y := y) hp
  show zPn N none d mX5_whole (4, [(0, .inr (.inr (some 82))), (1, .inl lo), (2, .inl hi)], [], h1) _
  refine pa_aload_n (pc' := 5) dX5_whole_4 rfl rfl ?_
  refine pa_getI (pc' := 8) (n := 13) dX5_whole_5 fl_5_18 s82 (by decide) ht rfl ?_
  refine pa_iconst (v := 2) (pc' := 9) dX5_whole_8 (by decide) rfl ?_
  refine pa_icmp (pc' := 18) (pc2 := 12) dX5_whole_9 (by decide) rfl (fun cd => ?_) (fun cd => ?_)
  · have cd : cT (tT y n p) = 2 := by simpa [zcond] using cd
    have e3 : tT y n p = 3 := (k.tt (t := 3) (by decide)).mp cd
    have he := he (by rw [e3]; decide)
    refine pa_aload_n (pc' := 19) dX5_whole_18 rfl rfl ?_
    refine pa_iconst (v := 0) (pc' := 20) dX5_whole_19 (by decide) rfl ?_
    refine pa_putI (pc' := 23) (n := 13) dX5_whole_20 fl_5_24 s82 (Or.inl rfl) (Or.inl rfl) rfl ?_
    have hs2 : (zsI h1 82 5 0).2.1 82 4 = nI (tS y n p) := by rw [zsI_no (by omega)]; exact hs
    refine pa_aload_n (pc' := 24) dX5_whole_23 rfl rfl ?_
    refine pa_getI (pc' := 27) (n := 13) dX5_whole_24 fl_5_21 s82 (by decide) hs2 rfl ?_
    refine pa_istore_n (pc' := 28) dX5_whole_27 (by decide) rfl rfl ?_
    have loop : ∀ (N j : Nat) (ls : zL) (v : Int32), zget ls 0 = some (.inr (.inr (some 82))) → zget ls 1 = some (.inl lo) → zget ls 2 = some (.inl hi) → zget ls 3 = some (.inl (nI j)) → tS y n p ≤ j → j ≤ tE y n p → numF y (tE y n p - j) j v = tNum y n p → zPn N none d mX5_whole (28, ls, [], zsI h1 82 5 v) (nmQ y n p lo hi h) := by
      intro N
      induction N with
      | zero => intro j ls v _ _ _ _ _ _ _; exact zPn.zero
      | succ N ih =>
        intro j ls v hl0 hl1 hl2 hl3 h1j hj hv
        have he2 : (zsI h1 82 5 v).2.1 82 2 = nI (tE y n p) := by rw [zsI_no (by omega)]; exact he
        have hs2 : (zsI h1 82 5 v).2.1 82 4 = nI (tS y n p) := by rw [zsI_no (by omega)]; exact hs
        have v2 : (zsI h1 82 5 v).2.1 82 5 = v := zsI_eq
        have hx2 : rx y n c (zsI h1 82 5 v) := hx1.zs (by decide)
        refine pa_iload_n (pc' := 29) dX5_whole_28 hl3 rfl ?_
        refine pa_aload_n (pc' := 30) dX5_whole_29 hl0 rfl ?_
        refine pa_getI (pc' := 33) (n := 13) dX5_whole_30 fl_5_15 s82 (by decide) he2 rfl ?_
        refine pa_icmp (pc' := 63) (pc2 := 36) dX5_whole_33 (by decide) rfl (fun cd3 => ?_) (fun cd3 => ?_)
        · have cd3 := zi_nlt (zk_ge_lt cd3)
          rw [nI_toInt (by omega), nI_toInt (by omega)] at cd3
          have ej : tE y n p - j = 0 := by omega
          rw [ej] at hv
          have hv : v = tNum y n p := hv
          have bad : ¬ (lo ≤ tNum y n p ∧ tNum y n p ≤ hi) → zPn (N + 1) none d mX5_whole (79, ls, [], zsI h1 82 5 v) (nmQ y n p lo hi h) := by
            intro z
            refine pa_aload_n (pc' := 80) dX5_whole_79 hl0 rfl ?_
            refine pa_iconst (v := 4) (pc' := 81) dX5_whole_80 (by decide) rfl ?_
            refine pa_callv (pc' := 84) (vs := [.inl 4]) (rest := []) dX5_whole_81 ml_5_76 (by decide) rfl rfl rfl (fun d' _ => c_flt hx2 hs2) (fun r h3 hq3 => ?_)
            obtain ⟨er, hq3⟩ := hq3
            subst er
            refine pa_if_t (pc' := 91) (x := 0) dX5_whole_84 (by decide) (by decide) ?_
            refine pa_iconst (v := 0) (pc' := 92) dX5_whole_91 (by decide) rfl ?_
            exact pa_iret dX5_whole_92 rfl rfl ⟨h1, hq, .inr (.inr ⟨e3, rfl, z, by rw [← hv]; exact hq3⟩)⟩
          refine pa_aload_n (pc' := 64) dX5_whole_63 hl0 rfl ?_
          refine pa_getI (pc' := 67) (n := 13) dX5_whole_64 fl_5_24 s82 (by decide) v2 rfl ?_
          refine pa_iload_n (pc' := 68) dX5_whole_67 hl1 rfl ?_
          refine pa_icmp (pc' := 79) (pc2 := 71) dX5_whole_68 (by decide) rfl (fun cd4 => ?_) (fun cd4 => ?_)
          · have cd4 := zi_lt cd4
            exact bad (fun z => by have := Int32.le_iff_toInt_le.mp z.1; rw [hv] at cd4; omega)
          · have cd4 := zi_nlt cd4
            refine pa_aload_n (pc' := 72) dX5_whole_71 hl0 rfl ?_
            refine pa_getI (pc' := 75) (n := 13) dX5_whole_72 fl_5_24 s82 (by decide) v2 rfl ?_
            refine pa_iload_n (pc' := 76) dX5_whole_75 hl2 rfl ?_
            refine pa_icmp (pc' := 87) (pc2 := 79) dX5_whole_76 (by decide) rfl (fun cd5 => ?_) (fun cd5 => ?_)
            · have cd5 := zi_ngt (zk_le_gt cd5)
              rw [hv] at cd4 cd5
              refine pa_iconst (v := 1) (pc' := 88) dX5_whole_87 (by decide) rfl ?_
              refine pa_goto (pc' := 92) dX5_whole_88 (by decide) ?_
              exact pa_iret dX5_whole_92 rfl rfl ⟨h1, hq, .inr (.inl ⟨e3, rfl, Int32.le_iff_toInt_le.mpr cd4, Int32.le_iff_toInt_le.mpr cd5, by rw [hv]⟩)⟩
            · have cd5 := zi_gt (zk_le_gt cd5)
              exact bad (fun z => by have := Int32.le_iff_toInt_le.mp z.2; rw [hv] at cd5; omega)
        · have cd3 := zi_lt (zk_ge_lt cd3)
          rw [nI_toInt (by omega), nI_toInt (by omega)] at cd3
          refine pa_aload_n (pc' := 37) dX5_whole_36 hl0 rfl ?_
          refine pa_aload_n (pc' := 38) dX5_whole_37 hl0 rfl ?_
          refine pa_getI (pc' := 41) (n := 13) dX5_whole_38 fl_5_24 s82 (by decide) v2 rfl ?_
          refine pa_bipush (v := 10) (pc' := 43) dX5_whole_41 (by decide) rfl ?_
          refine pa_imul (pc' := 44) dX5_whole_43 rfl rfl ?_
          refine pa_aload_n (pc' := 45) dX5_whole_44 hl0 rfl ?_
          refine pa_getR (pc' := 48) (n := 13) (r := 1) dX5_whole_45 fl_5_47 s82 (by decide) r82_0 rfl ?_
          refine pa_iload_n (pc' := 49) dX5_whole_48 hl3 rfl ?_
          refine pa_bald (pc' := 50) (n := 1000) dX5_whole_49 s1 rfl (fun _ => ?_)
          rw [byte_at rfl (by omega) hx2.2.2.2.1]
          refine pa_bipush (v := 48) (pc' := 52) dX5_whole_50 (by decide) rfl ?_
          refine pa_isub (pc' := 53) dX5_whole_52 rfl rfl ?_
          refine pa_iadd (pc' := 54) dX5_whole_53 rfl rfl ?_
          refine pa_putI (pc' := 57) (n := 13) dX5_whole_54 fl_5_24 s82 (Or.inl rfl) (Or.inl rfl) rfl ?_
          refine pa_iinc (pc' := 60) (v := nI (j + 1)) dX5_whole_57 hl3 (by decide) (nI_add j 1) rfl rfl ?_
          refine pa_gotos (pc' := 28) dX5_whole_60 (by decide) ?_
          rw [zsI_two]
          refine ih (j + 1) _ _ (zget_s1 hl0 (by decide) (by simp [zcat])) (zget_s1 hl1 (by decide) (by simp [zcat])) (zget_s1 hl2 (by decide) (by simp [zcat])) zget_s1e (by omega) (by omega) ?_
          obtain ⟨q, eq⟩ : ∃ q, tE y n p - j = q + 1 := ⟨tE y n p - j - 1, by omega⟩
          rw [eq] at hv
          rw [show tE y n p - (j + 1) = q by omega]
          exact hv
    exact loop N (tS y n p) _ 0 rfl rfl rfl rfl (Nat.le_refl _) u1 rfl
  · have cd : ¬ cT (tT y n p) = 2 := by simpa [zcond] using cd
    refine pa_aload_n (pc' := 13) dX5_whole_12 rfl rfl ?_
    refine pa_iconst (v := 1) (pc' := 14) dX5_whole_13 (by decide) rfl ?_
    refine pa_callv (pc' := 17) (vs := [.inl 1]) (rest := []) dX5_whole_14 ml_5_76 (by decide) rfl rfl rfl (fun d' _ => c_flt hx1 hs) (fun r h3 hq3 => ?_)
    obtain ⟨er, hq3⟩ := hq3
    subst er
    exact pa_iret (x := 0) dX5_whole_17 rfl rfl ⟨h1, hq, .inl ⟨rfl, fun z => cd ((k.tt (t := 3) (by decide)).mpr z), hq3⟩⟩
theorem c_let (k : ct y n c p h) (h2 : tT y n p = 2) : zPa d mX5_letters [.inr (.inr (some 82))] h (fun v h' => h' = h ∧ v = some (.inr (.inl (tLet y n p)))) := by
  intro N
  obtain ⟨hx, hp, hs, ht, he⟩ := k
  have he := he (by rw [h2]; decide)
  have s82 := hx.sh sh_82
  have s1 := hx.sh sh_1
  have r82_0 := hx.2.1 _ _ _ rf_82_0
  have hn := hx.2.2.2.2.2
  obtain ⟨t1, t2, t3⟩ := tS_sp (y := y) hp
  obtain ⟨u1, u2, u3⟩ := tE_sp (y := y) hp
  show zPn N none d mX5_letters (0, [(0, .inr (.inr (some 82)))], [], h) _
  have loop : ∀ (N j : Nat) (ls : zL) (v : Int64), zget ls 0 = some (.inr (.inr (some 82))) → zget ls 1 = some (.inr (.inl v)) → zget ls 3 = some (.inl (nI j)) → tS y n p ≤ j → j ≤ tE y n p → letF y (tE y n p - j) j v = tLet y n p → zPn N none d mX5_letters (7, ls, [], h) (fun v h' => h' = h ∧ v = some (.inr (.inl (tLet y n p)))) := by
    intro N
    induction N with
    | zero => intro j ls v _ _ _ _ _ _; exact zPn.zero
    | succ N ih =>
      intro j ls v hl0 hl1 hl3 h1j hj hv
      refine pa_iload_n (pc' := 8) dX5_letters_7 hl3 rfl ?_
      refine pa_aload_n (pc' := 9) dX5_letters_8 hl0 rfl ?_
      refine pa_getI (pc' := 12) (n := 13) dX5_letters_9 fl_5_15 s82 (by decide) he rfl ?_
      refine pa_icmp (pc' := 38) (pc2 := 15) dX5_letters_12 (by decide) rfl (fun cd3 => ?_) (fun cd3 => ?_)
      · have cd3 := zi_nlt (zk_ge_lt cd3)
        rw [nI_toInt (by omega), nI_toInt (by omega)] at cd3
        have ej : tE y n p - j = 0 := by omega
        rw [ej] at hv
        have hv : v = tLet y n p := hv
        refine pa_lload_n (pc' := 39) dX5_letters_38 hl1 rfl ?_
        exact pa_lret dX5_letters_39 rfl ⟨rfl, by rw [hv]⟩
      · have cd3 := zi_lt (zk_ge_lt cd3)
        rw [nI_toInt (by omega), nI_toInt (by omega)] at cd3
        refine pa_lload_n (pc' := 16) dX5_letters_15 hl1 rfl ?_
        refine pa_iconst (v := 5) (pc' := 17) dX5_letters_16 (by decide) rfl ?_
        refine pa_lshl (pc' := 18) dX5_letters_17 rfl rfl ?_
        refine pa_aload_n (pc' := 19) dX5_letters_18 hl0 rfl ?_
        refine pa_getR (pc' := 22) (n := 13) (r := 1) dX5_letters_19 fl_5_47 s82 (by decide) r82_0 rfl ?_
        refine pa_iload_n (pc' := 23) dX5_letters_22 hl3 rfl ?_
        refine pa_bald (pc' := 24) (n := 1000) dX5_letters_23 s1 rfl (fun _ => ?_)
        rw [byte_at rfl (by omega) hx.2.2.2.1]
        refine pa_bipush (v := 97) (pc' := 26) dX5_letters_24 (by decide) rfl ?_
        refine pa_isub (pc' := 27) dX5_letters_26 rfl rfl ?_
        refine pa_iconst (v := 1) (pc' := 28) dX5_letters_27 (by decide) rfl ?_
        refine pa_iadd (pc' := 29) dX5_letters_28 rfl rfl ?_
        refine pa_i2l (pc' := 30) dX5_letters_29 rfl rfl ?_
        refine pa_lor (pc' := 31) dX5_letters_30 rfl rfl ?_
        refine pa_lstore_n (pc' := 32) dX5_letters_31 (by decide) rfl rfl ?_
        refine pa_iinc (pc' := 35) (v := nI (j + 1)) dX5_letters_32 (zget_s2 hl3 (by decide) (by decide) (by simp [zcat])) (by decide) (nI_add j 1) rfl rfl ?_
        refine pa_gotos (pc' := 7) dX5_letters_35 (by decide) ?_
        refine ih (j + 1) _ _ (zget_s1 (zget_s2 hl0 (by decide) (by decide) (by simp [zcat])) (by decide) (by simp [zcat])) (zget_s1 zget_s2e (by decide) (by simp [zcat])) zget_s1e (by omega) (by omega) ?_
        obtain ⟨q, eq⟩ : ∃ q, tE y n p - j = q + 1 := ⟨tE y n p - j - 1, by omega⟩
        rw [eq] at hv
        rw [show tE y n p - (j + 1) = q by omega]
        exact hv
  refine pa_lconst (pc' := 1) dX5_letters_0 rfl rfl ?_
  refine pa_lstore_n (pc' := 2) dX5_letters_1 (by decide) rfl rfl ?_
  refine pa_aload_n (pc' := 3) dX5_letters_2 rfl rfl ?_
  refine pa_getI (pc' := 6) (n := 13) dX5_letters_3 fl_5_21 s82 (by decide) hs rfl ?_
  refine pa_istore_n (pc' := 7) dX5_letters_6 (by decide) rfl rfl ?_
  exact loop N (tS y n p) _ 0 rfl rfl rfl (Nat.le_refl _) u1 rfl
end RDW
