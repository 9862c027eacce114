/-! lines go on in the text -/
section RD4
variable {y : Nat → Int32} {n p q : Nat} {A A' : pA} {nm : Nat → List Int32}
theorem tE_ge (hp : p ≤ n) : p ≤ tE y n p ∧ tE y n p ≤ n := by
  have a := tS_sp (y := y) hp
  have b := tE_sp (y := y) hp
  omega
theorem sWord_ge {bs : List Int32} (hp : p ≤ n) (e : sWord y n bs p = .inr q) : p ≤ q ∧ q ≤ n := by
  unfold sWord at e
  split at e
  · have e := Sum.inr.inj e
    rw [← e]
    exact tE_ge hp
  · cases e
theorem sNum_ge {lo hi x : Int32} (hp : p ≤ n) (e : sNum y n lo hi p = .inr (x, q)) : p ≤ q ∧ q ≤ n := by
  unfold sNum at e
  split at e
  · split at e
    · have e := congrArg Prod.snd (Sum.inr.inj e)
      dsimp only at e
      rw [← e]
      exact tE_ge hp
    · cases e
  · cases e
theorem sWN_ge {bs : List Int32} {lo hi x : Int32} (hp : p ≤ n) (e : sWN y n bs lo hi p = .inr (x, q)) : p ≤ q ∧ q ≤ n := by
  unfold sWN at e
  split at e
  · cases e
  · next r e1 =>
    have a := sWord_ge hp e1
    have b := sNum_ge a.2 e
    omega
theorem sNew_ge (hp : p ≤ n) (e : sNew y n nm p = .inr q) : p ≤ q ∧ q ≤ n := by
  unfold sNew at e
  split at e
  · split at e
    · cases e
    · have e := Sum.inr.inj e
      rw [← e]
      exact tE_ge hp
  · cases e
theorem sOld_ge {lo hi x : Nat} (hp : p ≤ n) (e : sOld y n nm lo hi p = .inr (x, q)) : p ≤ q ∧ q ≤ n := by
  unfold sOld at e
  split at e
  · split at e
    · split at e
      · have e := congrArg Prod.snd (Sum.inr.inj e)
        dsimp only at e
        rw [← e]
        exact tE_ge hp
      · cases e
    · cases e
  · cases e
theorem sHead_ge (hp : p ≤ n) (e : sHead y n A p = .inr (A', q)) : p ≤ q ∧ q ≤ n := by
  unfold sHead at e
  split at e
  · cases e
  next t p1 e1 =>
  have a1 := sWN_ge hp e1
  split at e
  · cases e
  next x2 p2 e2 =>
  have a2 := sWN_ge a1.2 e2
  split at e
  · cases e
  next x3 p3 e3 =>
  have a3 := sWN_ge a2.2 e3
  split at e
  · cases e
  next x4 p4 e4 =>
  have a4 := sWN_ge a3.2 e4
  have e := congrArg Prod.snd (Sum.inr.inj e)
  dsimp only at e
  omega
theorem sIsland_ge (hp : p ≤ n) (e : sIsland y n A p = .inr (A', q)) : p ≤ q ∧ q ≤ n := by
  unfold sIsland at e
  split at e
  · cases e
  next p1 e1 =>
  have a1 := sNew_ge hp e1
  split at e
  · split at e
    · split at e
      · cases e
      · have e := congrArg Prod.snd (Sum.inr.inj e)
        dsimp only at e
        have := tE_ge (y := y) a1.2
        omega
    · cases e
  · cases e
theorem sWay_ge (hp : p ≤ n) (e : sWay y n A p = .inr (A', q)) : p ≤ q ∧ q ≤ n := by
  unfold sWay at e
  split at e
  · cases e
  next x1 p1 e1 =>
  have a1 := sOld_ge hp e1
  split at e
  · cases e
  next x2 p2 e2 =>
  have a2 := sOld_ge a1.2 e2
  split at e
  · cases e
  split at e
  · cases e
  next x3 p3 e3 =>
  have a3 := sWN_ge a2.2 e3
  split at e
  · cases e
  next x4 p4 e4 =>
  have a4 := sWN_ge a3.2 e4
  have e := congrArg Prod.snd (Sum.inr.inj e)
  dsimp only at e
  omega
theorem sWhale_ge (hp : p ≤ n) (e : sWhale y n A p = .inr (A', q)) : p ≤ q ∧ q ≤ n := by
  unfold sWhale at e
  split at e
  · cases e
  next p1 e1 =>
  have a1 := sNew_ge hp e1
  have a0 := tE_ge (y := y) a1.2
  split at e
  · split at e
    · cases e
    next p2 e2 =>
    have a2 := sWord_ge a0.2 e2
    split at e
    · cases e
    next x3 p3 e3 =>
    have a3 := sOld_ge a2.2 e3
    split at e
    · cases e
    next x4 p4 e4 =>
    have a4 := sWN_ge a3.2 e4
    split at e
    · cases e
    next x5 p5 e5 =>
    have a5 := sWN_ge a4.2 e5
    have e := congrArg Prod.snd (Sum.inr.inj e)
    dsimp only at e
    omega
  · cases e
theorem sBox_ge (hp : p ≤ n) (e : sBox y n A p = .inr (A', q)) : p ≤ q ∧ q ≤ n := by
  unfold sBox at e
  split at e
  · cases e
  next p1 e1 =>
  have a1 := sNew_ge hp e1
  split at e
  · cases e
  next p2 e2 =>
  have a2 := sWord_ge a1.2 e2
  split at e
  · cases e
  next x3 p3 e3 =>
  have a3 := sOld_ge a2.2 e3
  split at e
  · cases e
  next p4 e4 =>
  have a4 := sWord_ge a3.2 e4
  split at e
  · cases e
  next x5 p5 e5 =>
  have a5 := sOld_ge a4.2 e5
  split at e
  · cases e
  next x6 p6 e6 =>
  have a6 := sWN_ge a5.2 e6
  split at e
  · cases e
  next x7 p7 e7 =>
  have a7 := sWN_ge a6.2 e7
  have e := congrArg Prod.snd (Sum.inr.inj e)
  dsimp only at e
  omega
theorem sSpout_ge (hp : p ≤ n) (e : sSpout y n A p = .inr (A', q)) : p ≤ q ∧ q ≤ n := by
  unfold sSpout at e
  split at e
  · cases e
  next x1 p1 e1 =>
  have a1 := sOld_ge hp e1
  split at e
  · cases e
  next x2 p2 e2 =>
  have a2 := sOld_ge a1.2 e2
  split at e
  · cases e
  next x3 p3 e3 =>
  have a3 := sWN_ge a2.2 e3
  have e := congrArg Prod.snd (Sum.inr.inj e)
  dsimp only at e
  omega
theorem sLine_ge (hp : p ≤ n) (e : sLine y n A p = .inr (A', q)) : p ≤ q ∧ q ≤ n := by
  have a := tE_ge (y := y) hp
  unfold sLine at e
  split at e
  · split at e
    · have := sHead_ge a.2 e; omega
    · cases e
  split at e
  · split at e
    · cases e
    split at e
    · have := sIsland_ge a.2 e; omega
    · cases e
  split at e
  · split at e
    · cases e
    split at e
    · have := sWay_ge a.2 e; omega
    · cases e
  split at e
  · split at e
    · cases e
    split at e
    · have := sWhale_ge a.2 e; omega
    · cases e
  split at e
  · split at e
    · cases e
    split at e
    · have := sBox_ge a.2 e; omega
    · cases e
  split at e
  · split at e
    · cases e
    split at e
    · have := sSpout_ge a.2 e; omega
    · cases e
  · cases e
theorem t59_gt (hp : p ≤ n) (e : tT y n p = 59) : p < tE y n p ∧ tE y n p ≤ n := by
  have a := tS_sp (y := y) hp
  have b := tE_sp (y := y) hp
  have := b.2.2 (by rw [e]; decide)
  omega
/-- enough fuel is enough -/
theorem sText_f : ∀ (f f' : Nat) (A : pA) (p : Nat), p ≤ n → n < p + f → n < p + f' → sText y n f A p = sText y n f' A p := by
  intro f
  induction f with
  | zero => intro f' A p h1 h2 _; omega
  | succ f ih =>
    intro f' A p hp h1 h2
    cases f' with
    | zero => omega
    | succ f' =>
      unfold sText
      cases e : sLine y n A p with
      | inl e => rfl
      | inr r =>
        obtain ⟨A', q⟩ := r
        have a := sLine_ge hp e
        dsimp only
        split
        · rfl
        · split
          · next e59 =>
            have b := t59_gt (y := y) a.2 e59
            exact ih f' A' _ b.2 (by omega) (by omega)
          · rfl
end RD4
def pA0 : pA := (0, fun _ => [], fun _ => [], fun _ => (0, 0), fun _ => (0, 0), 0, 0, 0, 0, 0)
theorem pI_0 : pI pA0 := by
  refine ⟨.inl rfl, fun _ => ⟨rfl, rfl, rfl, rfl, rfl⟩, ⟨by decide, by decide, by decide, by decide, by decide⟩, fun i hi => ⟨fun z => absurd rfl z, fun z => ?_⟩, ⟨fun i _ z => absurd rfl z, fun i j _ _ z => absurd rfl z⟩, fun i hi => absurd hi (Nat.not_lt_zero i), fun i hi => absurd hi (Nat.not_lt_zero i), fun i hi => absurd hi (Nat.not_lt_zero i)⟩
  have z : i < 0 ∨ (7 ≤ i ∧ i < 7 + 0) ∨ (12 ≤ i ∧ i < 12 + 0) := z
  omega
section RD5
variable {y : Nat → Int32} {n c d N p : Nat} {h h' : zH} {A : pA}
def clr (h : zH) (c : Nat) : zH := zsI (zsI (zsI (zsI (zsI (zsI (zsI (zsI (zsI h c 0 0) c 1 0) c 2 0) c 3 0) c 4 0) c 5 0) c 6 0) c 7 0) c 8 0
theorem clr_1 : (clr h c).1 = h.1 := rfl
theorem clr_r : (clr h c).2.2.2.1 = h.2.2.2.1 := rfl
theorem clr_no {a k : Nat} (hn : a ≠ c) : (clr h c).2.1 a k = h.2.1 a k := by
  unfold clr
  rw [zsI_no (by omega), zsI_no (by omega), zsI_no (by omega), zsI_no (by omega), zsI_no (by omega), zsI_no (by omega), zsI_no (by omega), zsI_no (by omega), zsI_no (by omega)]
theorem clr_0 : (clr h c).2.1 c 0 = 0 ∧ (clr h c).2.1 c 4 = 0 ∧ (clr h c).2.1 c 5 = 0 ∧ (clr h c).2.1 c 6 = 0 ∧ (clr h c).2.1 c 7 = 0 ∧ (clr h c).2.1 c 8 = 0 := by
  unfold clr
  refine ⟨?_, ?_, ?_, ?_, ?_, zsI_eq⟩
  · rw [zsI_no (by omega), zsI_no (by omega), zsI_no (by omega), zsI_no (by omega), zsI_no (by omega), zsI_no (by omega), zsI_no (by omega), zsI_no (by omega), zsI_eq]
  · rw [zsI_no (by omega), zsI_no (by omega), zsI_no (by omega), zsI_no (by omega), zsI_eq]
  · rw [zsI_no (by omega), zsI_no (by omega), zsI_no (by omega), zsI_eq]
  · rw [zsI_no (by omega), zsI_no (by omega), zsI_eq]
  · rw [zsI_no (by omega), zsI_eq]
theorem C_clear (sc : zsh h c = some (4, 15)) : zPa d mX4_clear [.inr (.inr (some c))] h (fun v h' => v = none ∧ h' = clr h c) := by
  intro N
  show zPn N none d mX4_clear (0, [(0, .inr (.inr (some c)))], [], h) _
  refine pa_aload_n (pc' := 1) dX4_clear_0 rfl rfl ?_
  refine pa_iconst (v := 0) (pc' := 2) dX4_clear_1 (by decide) rfl ?_
  refine pa_putI (pc' := 5) (n := 15) dX4_clear_2 fl_4_46 sc (Or.inl rfl) (Or.inl rfl) rfl ?_
  refine pa_aload_n (pc' := 6) dX4_clear_5 rfl rfl ?_
  refine pa_iconst (v := 0) (pc' := 7) dX4_clear_6 (by decide) rfl ?_
  refine pa_putI (pc' := 10) (n := 15) dX4_clear_7 fl_4_50 sc (Or.inl rfl) (Or.inl rfl) rfl ?_
  refine pa_aload_n (pc' := 11) dX4_clear_10 rfl rfl ?_
  refine pa_iconst (v := 0) (pc' := 12) dX4_clear_11 (by decide) rfl ?_
  refine pa_putI (pc' := 15) (n := 15) dX4_clear_12 fl_4_53 sc (Or.inl rfl) (Or.inl rfl) rfl ?_
  refine pa_aload_n (pc' := 16) dX4_clear_15 rfl rfl ?_
  refine pa_iconst (v := 0) (pc' := 17) dX4_clear_16 (by decide) rfl ?_
  refine pa_putI (pc' := 20) (n := 15) dX4_clear_17 fl_4_56 sc (Or.inl rfl) (Or.inl rfl) rfl ?_
  refine pa_aload_n (pc' := 21) dX4_clear_20 rfl rfl ?_
  refine pa_iconst (v := 0) (pc' := 22) dX4_clear_21 (by decide) rfl ?_
  refine pa_putI (pc' := 25) (n := 15) dX4_clear_22 fl_4_59 sc (Or.inl rfl) (Or.inl rfl) rfl ?_
  refine pa_aload_n (pc' := 26) dX4_clear_25 rfl rfl ?_
  refine pa_iconst (v := 0) (pc' := 27) dX4_clear_26 (by decide) rfl ?_
  refine pa_putI (pc' := 30) (n := 15) dX4_clear_27 fl_4_62 sc (Or.inl rfl) (Or.inl rfl) rfl ?_
  refine pa_aload_n (pc' := 31) dX4_clear_30 rfl rfl ?_
  refine pa_iconst (v := 0) (pc' := 32) dX4_clear_31 (by decide) rfl ?_
  refine pa_putI (pc' := 35) (n := 15) dX4_clear_32 fl_4_65 sc (Or.inl rfl) (Or.inl rfl) rfl ?_
  refine pa_aload_n (pc' := 36) dX4_clear_35 rfl rfl ?_
  refine pa_iconst (v := 0) (pc' := 37) dX4_clear_36 (by decide) rfl ?_
  refine pa_putI (pc' := 40) (n := 15) dX4_clear_37 fl_4_68 sc (Or.inl rfl) (Or.inl rfl) rfl ?_
  refine pa_aload_n (pc' := 41) dX4_clear_40 rfl rfl ?_
  refine pa_iconst (v := 0) (pc' := 42) dX4_clear_41 (by decide) rfl ?_
  refine pa_putI (pc' := 45) (n := 15) dX4_clear_42 fl_4_71 sc (Or.inl rfl) (Or.inl rfl) rfl ?_
  exact pa_vret dX4_clear_45 rfl ⟨rfl, rfl⟩
def txR (c : Nat) (r : sF ⊕ pA) (v : Option zV) (h' : zH) : Prop := match r with
  | .inl e => v = some (.inl 0) ∧ fl e h'
  | .inr A => v = some (.inl 1) ∧ rcC A c h' ∧ pI A
theorem C_loop (hc : cc2 c) : ∀ (N j p : Nat) (A : pA) (h : zH) (ls : zL), rs y n c A A.2.1 (cI A + cH A + cB A) p h → pI A → j ≤ p → zget ls 0 = some (.inr (.inr (some 82))) → zget ls 3 = some (.inl (nI j)) → zPn N none d mX5_readPost (47, ls, [], h) (txR c (sText y n (n + 1 - j) A p)) := by
  intro N
  induction N with
  | zero => intro j p A h ls _ _ _ _ _; exact zPn.zero
  | succ N ih =>
    intro j p A h ls K hI hj hl0 hl3
    have hp := K.2.2.1
    have hn := K.1.2.2.2.2.2
    have s82 := K.1.sh sh_82
    have e1 := K.1.2.2.2.2.1
    have ef : n + 1 - j = (n - j) + 1 := by omega
    refine pa_iload_n (pc' := 48) dX5_readPost_47 hl3 rfl ?_
    refine pa_aload_n (pc' := 49) dX5_readPost_48 hl0 rfl ?_
    refine pa_getI (pc' := 52) (n := 13) dX5_readPost_49 fl_5_9 s82 (by decide) e1 rfl ?_
    refine pa_icmp_f (pc' := 55) dX5_readPost_52 (zj_ngt (by rw [nI_toInt (by omega), nI_toInt (by omega)]; omega)) (by decide) rfl ?_
    refine pa_aload_n (pc' := 56) dX5_readPost_55 hl0 rfl ?_
    refine pa_callv (pc' := 59) (vs := []) (rest := []) dX5_readPost_56 ml_5_66 (by decide) rfl rfl rfl (fun d' _ => C_line hc hI K) (fun r g1 hq => ?_)
    cases eL : sLine y n A p with
    | inl e =>
      rw [eL] at hq
      obtain ⟨er, hf⟩ := hq
      subst er
      refine pa_if_f (x := 0) (pc' := 62) dX5_readPost_59 (by decide) (by decide) rfl ?_
      refine pa_iconst (v := 0) (pc' := 63) dX5_readPost_62 (by decide) rfl ?_
      refine pa_iret dX5_readPost_63 rfl rfl ?_
      rw [ef]
      unfold sText
      rw [eL]
      exact ⟨rfl, hf⟩
    | inr r =>
      obtain ⟨A1, q⟩ := r
      rw [eL] at hq
      obtain ⟨er, K1, hI1⟩ := hq
      subst er
      dsimp only at K1 hI1
      have hge := sLine_ge hp eL
      have eT : sText y n (n + 1 - j) A p = if tT y n q = 0 then (if cI A1 = 0 then .inl (6, tS y n q) else .inr A1) else if tT y n q = 59 then sText y n (n - j) A1 (tE y n q) else .inl (1, tS y n q) := by
        rw [ef]
        show (match sLine y n A p with | .inl e => _ | .inr (A, p) => _) = _
        rw [eL]
      rw [eT]
      refine pa_if_t (x := 1) (pc' := 64) dX5_readPost_59 (by decide) (by decide) ?_
      refine pa_aload_n (pc' := 65) dX5_readPost_64 hl0 rfl ?_
      refine pa_callv (pc' := 68) (vs := []) (rest := []) dX5_readPost_65 ml_5_70 (by decide) rfl rfl rfl (fun d' _ => c_next K1.1 K1.2.1 K1.2.2.1) (fun r gk hq => ?_)
      obtain ⟨er, hq⟩ := hq
      subst er
      have kt := hq.ct K1.1 K1.2.2.1
      obtain ⟨hx1, -, hs, ht, he⟩ := kt
      have kt := hq.ct K1.1 K1.2.2.1
      have s82 := hx1.sh sh_82
      have sc := hx1.sh (pc_sh hc).1
      have bI := hI1.2.2.1.1
      show zPn (N + 1) none d mX5_readPost (68, ls, [], gk) _
      refine pa_aload_n (pc' := 69) dX5_readPost_68 hl0 rfl ?_
      refine pa_getI (pc' := 72) (n := 13) dX5_readPost_69 fl_5_18 s82 (by decide) ht rfl ?_
      by_cases t0 : tT y n q = 0
      · have K2 := K1.nx hc hI1 hq (by rw [t0]; decide)
        have k4 := K2.2.2.2.1.2.1
        rw [if_pos t0]
        refine pa_if_f (pc' := 75) dX5_readPost_72 (by rw [t0]; decide) (by decide) rfl ?_
        refine pa_aload_n (pc' := 76) dX5_readPost_75 hl0 rfl ?_
        refine pa_getR (pc' := 79) (n := 13) (r := c) dX5_readPost_76 fl_5_51 s82 (by decide) hx1.2.2.1 rfl ?_
        refine pa_getI (pc' := 82) (n := 15) dX5_readPost_79 fl_5_73 sc (by decide) k4 rfl ?_
        by_cases i0 : cI A1 = 0
        · rw [if_pos i0]
          refine pa_if_f (pc' := 85) dX5_readPost_82 (zj_ngt (by rw [nI_toInt (by omega), show (0 : Int32).toInt = 0 by decide]; omega)) (by decide) rfl ?_
          refine pa_aload_n (pc' := 86) dX5_readPost_85 hl0 rfl ?_
          refine pa_bipush (v := 6) (pc' := 88) dX5_readPost_86 (by decide) rfl ?_
          refine pa_callv (pc' := 91) (vs := [.inl 6]) (rest := []) dX5_readPost_88 ml_5_76 (by decide) rfl rfl rfl (fun d' _ => c_flt hx1 hs) (fun r h3 hq5 => ?_)
          obtain ⟨er, hq5⟩ := hq5
          subst er
          refine pa_if_t (x := 0) (pc' := 98) dX5_readPost_91 (by decide) (by decide) ?_
          refine pa_iconst (v := 0) (pc' := 99) dX5_readPost_98 (by decide) rfl ?_
          exact pa_iret dX5_readPost_99 rfl rfl ⟨rfl, hq5.fl⟩
        · rw [if_neg i0]
          refine pa_if_t (pc' := 94) dX5_readPost_82 (zj_gt (by rw [nI_toInt (by omega), show (0 : Int32).toInt = 0 by decide]; omega)) (by decide) ?_
          refine pa_iconst (v := 1) (pc' := 95) dX5_readPost_94 (by decide) rfl ?_
          refine pa_goto (pc' := 99) dX5_readPost_95 (by decide) ?_
          exact pa_iret dX5_readPost_99 rfl rfl ⟨rfl, K2.2.2.2.1, hI1⟩
      · rw [if_neg t0]
        refine pa_if_t (pc' := 100) dX5_readPost_72 (decide_eq_true (fun z => t0 ((kt.tt (t := 0) (by decide)).mp z))) (by decide) ?_
        refine pa_aload_n (pc' := 101) dX5_readPost_100 hl0 rfl ?_
        refine pa_getI (pc' := 104) (n := 13) dX5_readPost_101 fl_5_18 s82 (by decide) ht rfl ?_
        refine pa_iconst (v := 3) (pc' := 105) dX5_readPost_104 (by decide) rfl ?_
        by_cases t59 : tT y n q = 59
        · have K2 := K1.nx hc hI1 hq (by rw [t59]; decide)
          have hb := t59_gt (y := y) hge.2 t59
          rw [if_pos t59]
          refine pa_icmp_t (pc' := 114) dX5_readPost_105 (by rw [t59]; decide) (by decide) ?_
          refine pa_iinc (pc' := 117) (v := nI (j + 1)) dX5_readPost_114 hl3 (by decide) (nI_add j 1) rfl rfl ?_
          refine pa_gotos (pc' := 47) dX5_readPost_117 (by decide) ?_
          have := ih (j + 1) (tE y n q) A1 gk (zset1 ls 3 (.inl (nI (j + 1)))) K2 hI1 (by omega) (zget_s1 hl0 (by decide) (by simp [zcat])) zget_s1e
          rw [show n + 1 - (j + 1) = n - j by omega] at this
          exact this
        · rw [if_neg t59]
          refine pa_icmp_f (pc' := 108) dX5_readPost_105 (decide_eq_false (fun z => t59 ((kt.tt (t := 59) (by decide)).mp z))) (by decide) rfl ?_
          refine pa_aload_n (pc' := 109) dX5_readPost_108 hl0 rfl ?_
          refine pa_iconst (v := 1) (pc' := 110) dX5_readPost_109 (by decide) rfl ?_
          refine pa_callv (pc' := 113) (vs := [.inl 1]) (rest := []) dX5_readPost_110 ml_5_76 (by decide) rfl rfl rfl (fun d' _ => c_flt hx1 hs) (fun r h3 hq5 => ?_)
          obtain ⟨er, hq5⟩ := hq5
          subst er
          exact pa_iret (x := 0) dX5_readPost_113 rfl rfl ⟨rfl, hq5.fl⟩
theorem C_text (hc : cc2 c) (h1 : h.1 = hh_487.1) (h2 : ∀ a k b, wd.2.2.1 a k = some b → h.2.2.2.1 a k = some b) (hy : h.2.1 1 = y) (hn : n ≤ 1000) : zPa (d + 1) mX5_readPost [.inr (.inr (some 82)), .inl (nI n), .inr (.inr (some c))] h (txR c (sText y n (n + 1) pA0 0)) := by
  intro N
  have zs : ∀ {g : zH} {a : Nat} {q : Option (Nat × Nat)}, g.1 = hh_487.1 → zsh hh_487 a = q → zsh g a = q := fun e1 e2 => by unfold zsh; rw [e1]; exact e2
  have s82 := zs h1 sh_82
  have s1 := zs h1 sh_1
  have sc := zs h1 (pc_sh hc).1
  have hcc : c = 2 ∨ c = 42 := hc
  have r82_0 : (zsR h 82 6 (some c)).2.2.2.1 82 0 = some 1 := by
    show zup h.2.2.2.1 82 6 (some c) 82 0 = some 1
    unfold zup
    rw [if_pos rfl, if_neg (by decide)]
    exact h2 _ _ _ rf_82_0
  have r82_6 : (zsR h 82 6 (some c)).2.2.2.1 82 6 = some c := by
    show zup h.2.2.2.1 82 6 (some c) 82 6 = some c
    unfold zup
    rw [if_pos rfl, if_pos rfl]
  show zPn N none (d + 1) mX5_readPost (0, [(0, .inr (.inr (some 82))), (1, .inl (nI n)), (2, .inr (.inr (some c)))], [], h) _
  refine pa_aload_n (pc' := 1) dX5_readPost_0 rfl rfl ?_
  refine pa_aload_n (pc' := 2) dX5_readPost_1 rfl rfl ?_
  refine pa_putR (pc' := 5) (n := 13) (v := some c) dX5_readPost_2 fl_5_51 s82 (Or.inl rfl) rfl rfl ?_
  refine pa_aload_n (pc' := 6) dX5_readPost_5 rfl rfl ?_
  refine pa_getR (pc' := 9) (n := 13) (r := c) dX5_readPost_6 fl_5_51 s82 (by decide) r82_6 rfl ?_
  refine pa_callv (pc' := 12) (vs := []) (rest := []) dX5_readPost_9 ml_5_55 (by decide) rfl rfl rfl (fun d' _ => C_clear (h := zsR h 82 6 (some c)) sc) (fun r g1 hq => ?_)
  obtain ⟨er, eg⟩ := hq
  subst er; subst eg
  show zPn N none (d + 1) mX5_readPost (12, [(0, .inr (.inr (some 82))), (1, .inl (nI n)), (2, .inr (.inr (some c)))], [], clr (zsR h 82 6 (some c)) c) _
  have gh1 : (clr (zsR h 82 6 (some c)) c).1 = hh_487.1 := clr_1.trans h1
  have gr0 : (clr (zsR h 82 6 (some c)) c).2.2.2.1 82 0 = some 1 := by rw [clr_r]; exact r82_0
  have gr6 : (clr (zsR h 82 6 (some c)) c).2.2.2.1 82 6 = some c := by rw [clr_r]; exact r82_6
  have grf : ∀ a k b, wd.2.2.1 a k = some b → (clr (zsR h 82 6 (some c)) c).2.2.2.1 a k = some b := by
    intro a k b hb
    rw [clr_r]
    show zup h.2.2.2.1 82 6 (some c) a k = some b
    have hno : wd.2.2.1 82 6 = none := by decide +kernel
    unfold zup
    split
    · next e =>
      split
      · next e2 => rw [e, e2, hno] at hb; cases hb
      · exact h2 _ _ _ hb
    · exact h2 _ _ _ hb
  have gy : (clr (zsR h 82 6 (some c)) c).2.1 1 = y := by
    funext i
    rw [clr_no (by omega)]
    exact congrFun hy i
  have gc := clr_0 (h := zsR h 82 6 (some c)) (c := c)
  generalize clr (zsR h 82 6 (some c)) c = g at gh1 gr0 gr6 grf gy gc ⊢
  have s82 := zs gh1 sh_82
  have s1 := zs gh1 sh_1
  have r82_0 := gr0
  have r82_6 := gr6
  refine pa_aload_n (pc' := 13) dX5_readPost_12 rfl rfl ?_
  refine pa_iload_n (pc' := 14) dX5_readPost_13 rfl rfl ?_
  refine pa_aload_n (pc' := 15) dX5_readPost_14 rfl rfl ?_
  refine pa_getR (pc' := 18) (n := 13) (r := 1) dX5_readPost_15 fl_5_47 s82 (by decide) r82_0 rfl ?_
  refine pa_alen (pc' := 19) (kd := 13) (n := 1000) (v := nI 1000) dX5_readPost_18 s1 (by decide) rfl rfl ?_
  refine pa_min (pc' := 22) (v := nI n) dX5_readPost_19 ml_5_60 (zble rfl) (if_neg (fun z => by
    rw [Int32.lt_iff_toInt_lt, nI_toInt (by omega), nI_toInt (by omega)] at z
    omega)) rfl ?_
  refine pa_putI (pc' := 25) (n := 13) dX5_readPost_22 fl_5_9 s82 (Or.inl rfl) (Or.inl rfl) rfl ?_
  refine pa_aload_n (pc' := 26) dX5_readPost_25 rfl rfl ?_
  refine pa_iconst (v := 0) (pc' := 27) dX5_readPost_26 (by decide) rfl ?_
  refine pa_putI (pc' := 30) (n := 13) dX5_readPost_27 fl_5_15 s82 (Or.inl rfl) (Or.inl rfl) rfl ?_
  refine pa_aload_n (pc' := 31) dX5_readPost_30 rfl rfl ?_
  refine pa_iconst (v := 0) (pc' := 32) dX5_readPost_31 (by decide) rfl ?_
  refine pa_putI (pc' := 35) (n := 13) dX5_readPost_32 fl_5_38 s82 (Or.inl rfl) (Or.inl rfl) rfl ?_
  refine pa_aload_n (pc' := 36) dX5_readPost_35 rfl rfl ?_
  refine pa_iconst (v := 0) (pc' := 37) dX5_readPost_36 (by decide) rfl ?_
  refine pa_putI (pc' := 40) (n := 13) dX5_readPost_37 fl_5_41 s82 (Or.inl rfl) (Or.inl rfl) rfl ?_
  refine pa_aload_n (pc' := 41) dX5_readPost_40 rfl rfl ?_
  refine pa_iconst (v := (-1)) (pc' := 42) dX5_readPost_41 (by decide) rfl ?_
  refine pa_putI (pc' := 45) (n := 13) dX5_readPost_42 fl_5_44 s82 (Or.inl rfl) (Or.inl rfl) rfl ?_
  refine pa_iconst (v := nI 0) (pc' := 46) dX5_readPost_45 (by decide) rfl ?_
  refine pa_istore_n (pc' := 47) dX5_readPost_46 (by decide) rfl rfl ?_
  refine C_loop hc N 0 0 pA0 _ _ ⟨⟨gh1, ?_, r82_6, ?_, ?_, hn⟩, ?_, Nat.zero_le _, ⟨?_, ?_, ?_, ?_, ?_, ?_, fun i hi => absurd hi (Nat.not_lt_zero i), fun i hi => absurd hi (Nat.not_lt_zero i), fun i hi => absurd hi (Nat.not_lt_zero i), fun j hj => absurd rfl hj⟩, ?_, by decide, fun _ => 0, fun j hj => absurd hj (Nat.not_lt_zero j), fun i _ z => absurd rfl z⟩ pI_0 (Nat.le_refl _) rfl rfl
  · intro a k b hb
    exact grf a k b hb
  · funext i
    rw [zsI_no (by omega), zsI_no (by omega), zsI_no (by omega), zsI_no (by omega), zsI_no (by omega)]
    exact congrFun gy i
  · rw [zsI_no (by omega), zsI_no (by omega), zsI_no (by omega), zsI_no (by omega), zsI_eq]
  · rw [zsI_no (by omega), zsI_no (by omega), zsI_no (by omega), zsI_eq]
    rfl
  · rw [zsI_no (by omega), zsI_no (by omega), zsI_no (by omega), zsI_no (by omega), zsI_no (by omega)]; exact gc.1
  · rw [zsI_no (by omega), zsI_no (by omega), zsI_no (by omega), zsI_no (by omega), zsI_no (by omega)]; exact gc.2.1
  · rw [zsI_no (by omega), zsI_no (by omega), zsI_no (by omega), zsI_no (by omega), zsI_no (by omega)]; exact gc.2.2.1
  · rw [zsI_no (by omega), zsI_no (by omega), zsI_no (by omega), zsI_no (by omega), zsI_no (by omega)]; exact gc.2.2.2.1
  · rw [zsI_no (by omega), zsI_no (by omega), zsI_no (by omega), zsI_no (by omega), zsI_no (by omega)]; exact gc.2.2.2.2.1
  · rw [zsI_no (by omega), zsI_no (by omega), zsI_no (by omega), zsI_no (by omega), zsI_no (by omega)]; exact gc.2.2.2.2.2
  · rw [zsI_no (by omega), zsI_no (by omega), zsI_eq]
    rfl
end RD5
