/-! the reader of the class: names -/
theorem cmp0 (a b : Int64) : lg_cmp a b = 0 ↔ a = b := by
  unfold lg_cmp
  split
  · next q => exact ⟨fun z => absurd z (by decide), fun z => by subst z; exact absurd q (Int64.lt_irrefl)⟩
  · split
    · next q => exact ⟨fun _ => q, fun _ => rfl⟩
    · next q => exact ⟨fun z => absurd z (by decide), fun z => absurd z q⟩
def fnd (h : zH) (m : Nat) (w : Int64) (x : Int32) : Prop := (∃ j, j < m ∧ x = nI j ∧ h.2.2.1 83 j = w ∧ ∀ i, i < j → h.2.2.1 83 i ≠ w) ∨ (x = -2 ∧ ∀ i, i < m → h.2.2.1 83 i ≠ w)
def newN (h : zH) (m : Nat) (w : Int64) (s k : Int32) : zH := zsI (zsI (zsI (zsL h 83 m w) 84 m s) 85 m k) 82 10 (nI (m + 1))
section RDX
variable {y : Nat → Int32} {n c d N p m : Nat} {h h' : zH} {Q : Option zV → zH → Prop}
theorem c_nam (k : ct y n c p h) (h2 : tT y n p = 2) (hm : h.2.1 82 10 = nI m) (hm2 : m ≤ 20) : zPa d mX5_nameOfToken [.inr (.inr (some 82))] h (fun v h' => h' = h ∧ ∃ x, v = some (.inl x) ∧ fnd h m (tLet y n p) x) := by
  intro N
  have hx := k.1
  have s82 := hx.sh sh_82
  have s83 := hx.sh sh_83
  have r82_7 := hx.2.1 _ _ _ rf_82_7
  show zPn N none d mX5_nameOfToken (0, [(0, .inr (.inr (some 82)))], [], h) _
  refine pa_aload_n (pc' := 1) dX5_nameOfToken_0 rfl rfl ?_
  refine pa_callv (pc' := 4) (vs := []) (rest := []) dX5_nameOfToken_1 ml_5_251 (by decide) rfl rfl rfl (fun d' _ => c_let k h2) (fun r h1 hq => ?_)
  obtain ⟨eh, er⟩ := hq
  subst eh; subst er
  have loop : ∀ (N j : Nat) (ls : zL), zget ls 0 = some (.inr (.inr (some 82))) → zget ls 1 = some (.inr (.inl (tLet y n p))) → zget ls 3 = some (.inl (nI j)) → j ≤ m → (∀ i, i < j → h1.2.2.1 83 i ≠ tLet y n p) → zPn N none d mX5_nameOfToken (7, ls, [], h1) (fun v h' => h' = h1 ∧ ∃ x, v = some (.inl x) ∧ fnd h1 m (tLet y n p) x) := by
    intro N
    induction N with
    | zero => intro j ls _ _ _ _ _; exact zPn.zero
    | succ N ih =>
      intro j ls hl0 hl1 hl3 hj hall
      refine pa_iload_n (pc' := 8) dX5_nameOfToken_7 hl3 rfl ?_
      refine pa_aload_n (pc' := 9) dX5_nameOfToken_8 hl0 rfl ?_
      refine pa_getI (pc' := 12) (n := 13) dX5_nameOfToken_9 fl_5_38 s82 (by decide) hm rfl ?_
      refine pa_icmp (pc' := 34) (pc2 := 15) dX5_nameOfToken_12 (by decide) rfl (fun cd3 => ?_) (fun cd3 => ?_)
      · have cd3 := zi_nlt (zk_ge_lt cd3)
        rw [nI_toInt (by omega), nI_toInt (by omega)] at cd3
        refine pa_bipush (v := (-2)) (pc' := 36) dX5_nameOfToken_34 (by decide) rfl ?_
        exact pa_iret dX5_nameOfToken_36 rfl rfl ⟨rfl, -2, rfl, .inr ⟨rfl, fun i hi => hall i (by omega)⟩⟩
      · have cd3 := zi_lt (zk_ge_lt cd3)
        rw [nI_toInt (by omega), nI_toInt (by omega)] at cd3
        refine pa_aload_n (pc' := 16) dX5_nameOfToken_15 hl0 rfl ?_
        refine pa_getR (pc' := 19) (n := 13) (r := 83) dX5_nameOfToken_16 fl_5_27 s82 (by decide) r82_7 rfl ?_
        refine pa_iload_n (pc' := 20) dX5_nameOfToken_19 hl3 rfl ?_
        refine pa_lald (pc' := 21) (n := 20) (v := h1.2.2.1 83 j) dX5_nameOfToken_20 s83 (zn_in (by omega) (by omega)) (by rw [nI_clamp (by omega)]) rfl ?_
        refine pa_lload_n (pc' := 22) dX5_nameOfToken_21 hl1 rfl ?_
        refine pa_lcmp (pc' := 23) dX5_nameOfToken_22 rfl rfl ?_
        refine pa_if (pc' := 28) (pc2 := 26) dX5_nameOfToken_23 (by decide) rfl (fun cd4 => ?_) (fun cd4 => ?_)
        · have cd4 : ¬ lg_cmp (h1.2.2.1 83 j) (tLet y n p) = 0 := by simpa [zcond] using cd4
          rw [cmp0] at cd4
          refine pa_iinc (pc' := 31) (v := nI (j + 1)) dX5_nameOfToken_28 hl3 (by decide) (nI_add j 1) rfl rfl ?_
          refine pa_gotos (pc' := 7) dX5_nameOfToken_31 (by decide) ?_
          refine ih (j + 1) _ (zget_s1 hl0 (by decide) (by simp [zcat])) (zget_s1 hl1 (by decide) (by simp)) zget_s1e (by omega) (fun i hi => ?_)
          rcases Nat.lt_or_ge i j with w | w
          · exact hall i w
          · have : i = j := by omega
            subst this
            exact cd4
        · have cd4 : lg_cmp (h1.2.2.1 83 j) (tLet y n p) = 0 := by simpa [zcond] using cd4
          rw [cmp0] at cd4
          refine pa_iload_n (pc' := 27) dX5_nameOfToken_26 hl3 rfl ?_
          exact pa_iret dX5_nameOfToken_27 rfl rfl ⟨rfl, nI j, rfl, .inl ⟨j, by omega, rfl, cd4, hall⟩⟩
  refine pa_lstore_n (pc' := 5) (v := tLet y n p) dX5_nameOfToken_4 (by decide) rfl rfl ?_
  refine pa_iconst (v := nI 0) (pc' := 6) dX5_nameOfToken_5 (by decide) rfl ?_
  refine pa_istore_n (pc' := 7) dX5_nameOfToken_6 (by decide) rfl rfl ?_
  exact loop N 0 _ rfl rfl rfl (Nat.zero_le _) (fun i hi => absurd hi (Nat.not_lt_zero i))
theorem srt_m2 {x : Int32} (h : srt y n p x) : (x = -2 ↔ srt y n p (-2)) := by
  refine ⟨fun e => by rw [← e]; exact h, fun e => ?_⟩
  have e : ¬ wIs y n p wPost ∧ ¬ wIs y n p wIsland ∧ ¬ wIs y n p wWay ∧ ¬ wIs y n p wWhale ∧ ¬ wIs y n p wBox ∧ ¬ wIs y n p wSpout := by
    rcases e with e | e | e | e | e | e | e
    · exact absurd e.1 (by decide)
    · exact absurd e.1 (by decide)
    · exact absurd e.1 (by decide)
    · exact absurd e.1 (by decide)
    · exact absurd e.1 (by decide)
    · exact absurd e.1 (by decide)
    · exact e.2
  rcases h with h | h | h | h | h | h | h
  · exact absurd h.2 e.1
  · exact absurd h.2 e.2.1
  · exact absurd h.2 e.2.2.1
  · exact absurd h.2 e.2.2.2.1
  · exact absurd h.2 e.2.2.2.2.1
  · exact absurd h.2 e.2.2.2.2.2
  · exact h.1
/-- is a name that may be told or new -/
def isN (y : Nat → Int32) (n p : Nat) : Prop := tT y n p = 2 ∧ srt y n p (-2)
def nwQ (y : Nat → Int32) (n p m : Nat) (s k : Int32) (h : zH) (v : Option zV) (h' : zH) : Prop := ∃ h1, nx y n p h h1 ∧ ((v = some (.inl 0) ∧ ¬ isN y n p ∧ flt 1 (tS y n p) h1 h') ∨ (isN y n p ∧ (∃ i, i < m ∧ h.2.2.1 83 i = tLet y n p) ∧ v = some (.inl 0) ∧ flt 3 (tS y n p) h1 h') ∨ (isN y n p ∧ (∀ i, i < m → h.2.2.1 83 i ≠ tLet y n p) ∧ v = some (.inl 1) ∧ h' = newN h1 m (tLet y n p) s k))
theorem c_new {s k : Int32} (hx : rx y n c h) (hat : h.2.1 82 2 = nI p) (hp : p ≤ n) (hm : h.2.1 82 10 = nI m) (hm2 : m < 20) : zPa d mX5_newName [.inr (.inr (some 82)), .inl s, .inl k] h (nwQ y n p m s k h) := by
  intro N
  show zPn N none d mX5_newName (0, [(0, .inr (.inr (some 82))), (1, .inl s), (2, .inl k)], [], h) _
  refine pa_aload_n (pc' := 1) dX5_newName_0 rfl rfl ?_
  refine pa_callv (pc' := 4) (vs := []) (rest := []) dX5_newName_1 ml_5_70 (by decide) rfl rfl rfl (fun d' _ => c_next hx hat hp) (fun r h1 hq => ?_)
  obtain ⟨er, hq⟩ := hq
  subst er
  have q := hq.ct hx hp
  obtain ⟨hx1, -, hs, ht, he⟩ := q
  have q := hq.ct hx hp
  have s82 := hx1.sh sh_82
  have s83 := hx1.sh sh_83
  have s84 := hx1.sh sh_84
  have s85 := hx1.sh sh_85
  have r82_7 := hx1.2.1 _ _ _ rf_82_7
  have r82_8 := hx1.2.1 _ _ _ rf_82_8
  have r82_9 := hx1.2.1 _ _ _ rf_82_9
  have eL : h1.2.2.1 = h.2.2.1 := congrArg Prod.fst hq.rest.2
  have hm1 : h1.2.1 82 10 = nI m := (hq.at (by omega)).trans hm
  have bad : ¬ isN y n p → zPn N none d mX5_newName (21, [(0, .inr (.inr (some 82))), (1, .inl s), (2, .inl k)], [], h1) (nwQ y n p m s k h) := by
    intro z
    refine pa_aload_n (pc' := 22) dX5_newName_21 rfl rfl ?_
    refine pa_iconst (v := 1) (pc' := 23) dX5_newName_22 (by decide) rfl ?_
    refine pa_callv (pc' := 26) (vs := [.inl 1]) (rest := []) dX5_newName_23 ml_5_76 (by decide) rfl rfl rfl (fun d' _ => c_flt hx1 hs) (fun r h3 hq3 => ?_)
    obtain ⟨er, hq3⟩ := hq3
    subst er
    exact pa_iret (x := 0) dX5_newName_26 rfl rfl ⟨h1, hq, .inl ⟨rfl, z, hq3⟩⟩
  show zPn N none d mX5_newName (4, [(0, .inr (.inr (some 82))), (1, .inl s), (2, .inl k)], [], h1) _
  refine pa_aload_n (pc' := 5) dX5_newName_4 rfl rfl ?_
  refine pa_getI (pc' := 8) (n := 13) dX5_newName_5 fl_5_18 s82 (by decide) ht rfl ?_
  refine pa_iconst (v := 1) (pc' := 9) dX5_newName_8 (by decide) rfl ?_
  refine pa_icmp (pc' := 21) (pc2 := 12) dX5_newName_9 (by decide) rfl (fun cd => ?_) (fun cd => ?_)
  · have cd : ¬ cT (tT y n p) = 1 := by simpa [zcond] using cd
    exact bad (fun z => cd ((q.tt (t := 2) (by decide)).mpr z.1))
  · have cd : cT (tT y n p) = 1 := by simpa [zcond] using cd
    have e2 : tT y n p = 2 := (q.tt (t := 2) (by decide)).mp cd
    refine pa_aload_n (pc' := 13) dX5_newName_12 rfl rfl ?_
    refine pa_callv (pc' := 16) (vs := []) (rest := []) dX5_newName_13 ml_5_80 (by decide) rfl rfl rfl (fun d' _ => c_sort q) (fun r h2 hq2 => ?_)
    obtain ⟨eh, x, er, hsr⟩ := hq2
    subst eh; subst er
    refine pa_bipush (v := -2) (pc' := 18) dX5_newName_16 (by decide) rfl ?_
    refine pa_icmp (pc' := 27) (pc2 := 21) dX5_newName_18 (by decide) rfl (fun cd2 => ?_) (fun cd2 => ?_)
    · have cd2 : x = -2 := by simpa [zcond] using cd2
      have hN : isN y n p := ⟨e2, (srt_m2 hsr).mp cd2⟩
      refine pa_aload_n (pc' := 28) dX5_newName_27 rfl rfl ?_
      refine pa_callv (pc' := 31) (vs := []) (rest := []) dX5_newName_28 ml_5_248 (by decide) rfl rfl rfl (fun d' _ => c_nam q e2 hm1 (by omega)) (fun r h3 hq3 => ?_)
      obtain ⟨eh, x, er, hfn⟩ := hq3
      subst eh; subst er
      refine pa_bipush (v := -2) (pc' := 33) dX5_newName_31 (by decide) rfl ?_
      refine pa_icmp (pc' := 45) (pc2 := 36) dX5_newName_33 (by decide) rfl (fun cd3 => ?_) (fun cd3 => ?_)
      · have cd3 : ¬ x = -2 := by simpa [zcond] using cd3
        rcases hfn with ⟨j, h1j, -, h3j, -⟩ | ⟨z, -⟩
        · refine pa_aload_n (pc' := 46) dX5_newName_45 rfl rfl ?_
          refine pa_iconst (v := 3) (pc' := 47) dX5_newName_46 (by decide) rfl ?_
          refine pa_callv (pc' := 50) (vs := [.inl 3]) (rest := []) dX5_newName_47 ml_5_76 (by decide) rfl rfl rfl (fun d' _ => c_flt hx1 hs) (fun r h4 hq4 => ?_)
          obtain ⟨er, hq4⟩ := hq4
          subst er
          exact pa_iret (x := 0) dX5_newName_50 rfl rfl ⟨_, hq, .inr (.inl ⟨hN, ⟨j, h1j, by rw [← eL]; exact h3j⟩, rfl, hq4⟩)⟩
        · exact absurd z cd3
      · have cd3 : x = -2 := by simpa [zcond] using cd3
        rcases hfn with ⟨j, h1j, z, -, -⟩ | ⟨-, hno⟩
        · rw [cd3] at z
          have := congrArg Int32.toInt z
          rw [nI_toInt (by omega)] at this
          have e : (-2 : Int32).toInt = -2 := by decide
          omega
        · refine pa_aload_n (pc' := 37) dX5_newName_36 rfl rfl ?_
          refine pa_getI (pc' := 40) (n := 13) dX5_newName_37 fl_5_38 s82 (by decide) hm1 rfl ?_
          refine pa_bipush (v := nI 20) (pc' := 42) dX5_newName_40 (by decide) rfl ?_
          refine pa_icmp_t (pc' := 51) dX5_newName_42 (zj_lt (by rw [nI_toInt (by omega), nI_toInt (by omega)]; omega)) (by decide) ?_
          refine pa_aload_n (pc' := 52) dX5_newName_51 rfl rfl ?_
          refine pa_getR (pc' := 55) (n := 13) (r := 83) dX5_newName_52 fl_5_27 s82 (by decide) r82_7 rfl ?_
          refine pa_aload_n (pc' := 56) dX5_newName_55 rfl rfl ?_
          refine pa_getI (pc' := 59) (n := 13) dX5_newName_56 fl_5_38 s82 (by decide) hm1 rfl ?_
          refine pa_aload_n (pc' := 60) dX5_newName_59 rfl rfl ?_
          refine pa_callv (pc' := 63) (vs := []) (rest := [.inl (nI m), .inr (.inr (some 83))]) dX5_newName_60 ml_5_251 (by decide) rfl rfl rfl (fun d' _ => c_let q e2) (fun r h4 hq4 => ?_)
          obtain ⟨eh, er⟩ := hq4
          subst eh; subst er
          refine pa_last (pc' := 64) (n := 20) (v := tLet y n p) dX5_newName_63 s83 (zn_in (by omega) (by omega)) rfl ?_
          rw [nI_clamp (by omega)]
          have hm3 : (zsL h4 83 m (tLet y n p)).2.1 82 10 = nI m := hm1
          refine pa_aload_n (pc' := 65) dX5_newName_64 rfl rfl ?_
          refine pa_getR (pc' := 68) (n := 13) (r := 84) dX5_newName_65 fl_5_31 s82 (by decide) r82_8 rfl ?_
          refine pa_aload_n (pc' := 69) dX5_newName_68 rfl rfl ?_
          refine pa_getI (pc' := 72) (n := 13) dX5_newName_69 fl_5_38 s82 (by decide) hm3 rfl ?_
          refine pa_iload_n (pc' := 73) dX5_newName_72 rfl rfl ?_
          refine pa_iast (pc' := 74) (n := 20) dX5_newName_73 s84 rfl (fun _ => ?_)
          rw [nI_clamp (by omega)]
          have hm4 : (zsI (zsL h4 83 m (tLet y n p)) 84 m s).2.1 82 10 = nI m := by rw [zsI_no (by omega)]; exact hm3
          refine pa_aload_n (pc' := 75) dX5_newName_74 rfl rfl ?_
          refine pa_getR (pc' := 78) (n := 13) (r := 85) dX5_newName_75 fl_5_35 s82 (by decide) r82_9 rfl ?_
          refine pa_aload_n (pc' := 79) dX5_newName_78 rfl rfl ?_
          refine pa_getI (pc' := 82) (n := 13) dX5_newName_79 fl_5_38 s82 (by decide) hm4 rfl ?_
          refine pa_iload_n (pc' := 83) dX5_newName_82 rfl rfl ?_
          refine pa_iast (pc' := 84) (n := 20) dX5_newName_83 s85 rfl (fun _ => ?_)
          rw [nI_clamp (by omega)]
          have hm5 : (zsI (zsI (zsL h4 83 m (tLet y n p)) 84 m s) 85 m k).2.1 82 10 = nI m := by rw [zsI_no (by omega)]; exact hm4
          refine pa_aload_n (pc' := 85) dX5_newName_84 rfl rfl ?_
          refine pa_dup (pc' := 86) dX5_newName_85 rfl rfl ?_
          refine pa_getI (pc' := 89) (n := 13) dX5_newName_86 fl_5_38 s82 (by decide) hm5 rfl ?_
          refine pa_iconst (v := nI 1) (pc' := 90) dX5_newName_89 (by decide) rfl ?_
          refine pa_iadd (pc' := 91) (v := nI (m + 1)) dX5_newName_90 (nI_add _ _) rfl ?_
          refine pa_putI (pc' := 94) (n := 13) dX5_newName_91 fl_5_38 s82 (Or.inl rfl) (Or.inl rfl) rfl ?_
          refine pa_iconst (v := 1) (pc' := 95) dX5_newName_94 (by decide) rfl ?_
          exact pa_iret dX5_newName_95 rfl rfl ⟨_, hq, .inr (.inr ⟨hN, fun i hi => by rw [← eL]; exact hno i hi, rfl, rfl⟩)⟩
    · have cd2 : ¬ x = -2 := by simpa [zcond] using cd2
      exact bad (fun z => cd2 ((srt_m2 hsr).mpr z.2))
def tdQ (y : Nat → Int32) (n p m : Nat) (s : Int32) (h : zH) (v : Option zV) (h' : zH) : Prop := ∃ h1, nx y n p h h1 ∧ ((v = some (.inl 0) ∧ ¬ isN y n p ∧ flt 1 (tS y n p) h1 h') ∨ (isN y n p ∧ ((∀ i, i < m → h.2.2.1 83 i ≠ tLet y n p) ∨ ∃ j, j < m ∧ h.2.2.1 83 j = tLet y n p ∧ (∀ i, i < j → h.2.2.1 83 i ≠ tLet y n p) ∧ h.2.1 84 j ≠ s) ∧ v = some (.inl 0) ∧ flt 2 (tS y n p) h1 h') ∨ (isN y n p ∧ v = some (.inl 1) ∧ ∃ j, j < m ∧ h.2.2.1 83 j = tLet y n p ∧ (∀ i, i < j → h.2.2.1 83 i ≠ tLet y n p) ∧ h.2.1 84 j = s ∧ h' = zsI h1 82 5 (h.2.1 85 j)))
theorem c_told {s : Int32} (hx : rx y n c h) (hat : h.2.1 82 2 = nI p) (hp : p ≤ n) (hm : h.2.1 82 10 = nI m) (hm2 : m ≤ 20) : zPa d mX5_toldName [.inr (.inr (some 82)), .inl s] h (tdQ y n p m s h) := by
  intro N
  show zPn N none d mX5_toldName (0, [(0, .inr (.inr (some 82))), (1, .inl s)], [], h) _
  refine pa_aload_n (pc' := 1) dX5_toldName_0 rfl rfl ?_
  refine pa_callv (pc' := 4) (vs := []) (rest := []) dX5_toldName_1 ml_5_70 (by decide) rfl rfl rfl (fun d' _ => c_next hx hat hp) (fun r h1 hq => ?_)
  obtain ⟨er, hq⟩ := hq
  subst er
  have q := hq.ct hx hp
  obtain ⟨hx1, -, hs, ht, he⟩ := q
  have q := hq.ct hx hp
  have s82 := hx1.sh sh_82
  have s84 := hx1.sh sh_84
  have s85 := hx1.sh sh_85
  have r82_8 := hx1.2.1 _ _ _ rf_82_8
  have r82_9 := hx1.2.1 _ _ _ rf_82_9
  have eL : h1.2.2.1 = h.2.2.1 := congrArg Prod.fst hq.rest.2
  have hm1 : h1.2.1 82 10 = nI m := (hq.at (by omega)).trans hm
  have bad : ¬ isN y n p → zPn N none d mX5_toldName (21, [(0, .inr (.inr (some 82))), (1, .inl s)], [], h1) (tdQ y n p m s h) := by
    intro z
    refine pa_aload_n (pc' := 22) dX5_toldName_21 rfl rfl ?_
    refine pa_iconst (v := 1) (pc' := 23) dX5_toldName_22 (by decide) rfl ?_
    refine pa_callv (pc' := 26) (vs := [.inl 1]) (rest := []) dX5_toldName_23 ml_5_76 (by decide) rfl rfl rfl (fun d' _ => c_flt hx1 hs) (fun r h3 hq3 => ?_)
    obtain ⟨er, hq3⟩ := hq3
    subst er
    exact pa_iret (x := 0) dX5_toldName_26 rfl rfl ⟨h1, hq, .inl ⟨rfl, z, hq3⟩⟩
  have un : ∀ (ls : zL), zget ls 0 = some (.inr (.inr (some 82))) → isN y n p → ((∀ i, i < m → h.2.2.1 83 i ≠ tLet y n p) ∨ ∃ j, j < m ∧ h.2.2.1 83 j = tLet y n p ∧ (∀ i, i < j → h.2.2.1 83 i ≠ tLet y n p) ∧ h.2.1 84 j ≠ s) → zPn N none d mX5_toldName (48, ls, [], h1) (tdQ y n p m s h) := by
    intro ls hl0 hN z
    refine pa_aload_n (pc' := 49) dX5_toldName_48 hl0 rfl ?_
    refine pa_iconst (v := 2) (pc' := 50) dX5_toldName_49 (by decide) rfl ?_
    refine pa_callv (pc' := 53) (vs := [.inl 2]) (rest := []) dX5_toldName_50 ml_5_76 (by decide) rfl rfl rfl (fun d' _ => c_flt hx1 hs) (fun r h3 hq3 => ?_)
    obtain ⟨er, hq3⟩ := hq3
    subst er
    exact pa_iret (x := 0) dX5_toldName_53 rfl rfl ⟨h1, hq, .inr (.inl ⟨hN, z, rfl, hq3⟩)⟩
  show zPn N none d mX5_toldName (4, [(0, .inr (.inr (some 82))), (1, .inl s)], [], h1) _
  refine pa_aload_n (pc' := 5) dX5_toldName_4 rfl rfl ?_
  refine pa_getI (pc' := 8) (n := 13) dX5_toldName_5 fl_5_18 s82 (by decide) ht rfl ?_
  refine pa_iconst (v := 1) (pc' := 9) dX5_toldName_8 (by decide) rfl ?_
  refine pa_icmp (pc' := 21) (pc2 := 12) dX5_toldName_9 (by decide) rfl (fun cd => ?_) (fun cd => ?_)
  · have cd : ¬ cT (tT y n p) = 1 := by simpa [zcond] using cd
    exact bad (fun z => cd ((q.tt (t := 2) (by decide)).mpr z.1))
  · have cd : cT (tT y n p) = 1 := by simpa [zcond] using cd
    have e2 : tT y n p = 2 := (q.tt (t := 2) (by decide)).mp cd
    refine pa_aload_n (pc' := 13) dX5_toldName_12 rfl rfl ?_
    refine pa_callv (pc' := 16) (vs := []) (rest := []) dX5_toldName_13 ml_5_80 (by decide) rfl rfl rfl (fun d' _ => c_sort q) (fun r h2 hq2 => ?_)
    obtain ⟨eh, x, er, hsr⟩ := hq2
    subst eh; subst er
    refine pa_bipush (v := -2) (pc' := 18) dX5_toldName_16 (by decide) rfl ?_
    refine pa_icmp (pc' := 27) (pc2 := 21) dX5_toldName_18 (by decide) rfl (fun cd2 => ?_) (fun cd2 => ?_)
    · have cd2 : x = -2 := by simpa [zcond] using cd2
      have hN : isN y n p := ⟨e2, (srt_m2 hsr).mp cd2⟩
      refine pa_aload_n (pc' := 28) dX5_toldName_27 rfl rfl ?_
      refine pa_callv (pc' := 31) (vs := []) (rest := []) dX5_toldName_28 ml_5_248 (by decide) rfl rfl rfl (fun d' _ => c_nam q e2 hm1 (by omega)) (fun r h3 hq3 => ?_)
      obtain ⟨eh, x, er, hfn⟩ := hq3
      subst eh; subst er
      refine pa_istore_n (pc' := 32) (v := x) dX5_toldName_31 (by decide) rfl rfl ?_
      refine pa_iload_n (pc' := 33) dX5_toldName_32 rfl rfl ?_
      refine pa_bipush (v := -2) (pc' := 35) dX5_toldName_33 (by decide) rfl ?_
      rcases hfn with ⟨j, h1j, z, hj, hno⟩ | ⟨z, hno⟩
      · subst z
        refine pa_icmp_f (pc' := 38) dX5_toldName_35 (decide_eq_false (fun z => by
          have := congrArg Int32.toInt z
          rw [nI_toInt (by omega)] at this
          have e : (-2 : Int32).toInt = -2 := by decide
          omega)) (by decide) rfl ?_
        refine pa_aload_n (pc' := 39) dX5_toldName_38 rfl rfl ?_
        refine pa_getR (pc' := 42) (n := 13) (r := 84) dX5_toldName_39 fl_5_31 s82 (by decide) r82_8 rfl ?_
        refine pa_iload_n (pc' := 43) dX5_toldName_42 rfl rfl ?_
        refine pa_iald (pc' := 44) (n := 20) dX5_toldName_43 s84 rfl (fun _ => ?_)
        rw [nI_clamp (by omega)]
        have e84 : h3.2.1 84 j = h.2.1 84 j := hq.at (by omega)
        have e85 : h3.2.1 85 j = h.2.1 85 j := hq.at (by omega)
        refine pa_iload_n (pc' := 45) dX5_toldName_44 rfl rfl ?_
        rw [eL] at hj hno
        refine pa_icmp (pc' := 54) (pc2 := 48) dX5_toldName_45 (by decide) rfl (fun cd3 => ?_) (fun cd3 => ?_)
        · have cd3 : h3.2.1 84 j = s := by simpa [zcond] using cd3
          refine pa_aload_n (pc' := 55) dX5_toldName_54 rfl rfl ?_
          refine pa_aload_n (pc' := 56) dX5_toldName_55 rfl rfl ?_
          refine pa_getR (pc' := 59) (n := 13) (r := 85) dX5_toldName_56 fl_5_35 s82 (by decide) r82_9 rfl ?_
          refine pa_iload_n (pc' := 60) dX5_toldName_59 rfl rfl ?_
          refine pa_iald (pc' := 61) (n := 20) dX5_toldName_60 s85 rfl (fun _ => ?_)
          rw [nI_clamp (by omega), e85]
          refine pa_putI (pc' := 64) (n := 13) dX5_toldName_61 fl_5_24 s82 (Or.inl rfl) (Or.inl rfl) rfl ?_
          refine pa_iconst (v := 1) (pc' := 65) dX5_toldName_64 (by decide) rfl ?_
          exact pa_iret dX5_toldName_65 rfl rfl ⟨_, hq, .inr (.inr ⟨hN, rfl, j, h1j, hj, hno, by rw [← e84]; exact cd3, rfl⟩)⟩
        · have cd3 : ¬ h3.2.1 84 j = s := by simpa [zcond] using cd3
          exact un _ rfl hN (.inr ⟨j, h1j, hj, hno, by rw [← e84]; exact cd3⟩)
      · subst z
        refine pa_icmp_t (pc' := 48) dX5_toldName_35 (by decide) (by decide) ?_
        rw [eL] at hno
        exact un _ rfl hN (.inl hno)
    · have cd2 : ¬ x = -2 := by simpa [zcond] using cd2
      exact bad (fun z => cd2 ((srt_m2 hsr).mpr z.2))
end RDX
