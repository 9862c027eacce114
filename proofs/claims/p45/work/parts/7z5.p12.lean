/-! the reference: one token -/
def TB (a b : Int32) : Prop := (0 ≤ a.toInt ∧ b = a) ∨ (a.toInt < 0 ∧ 128 ≤ b.toInt)
/-- what the reading of a text leaves alone -/
def mKp (a k : Nat) : Prop := (a ≠ 196 ∧ a ≠ 198 ∧ a ≠ 200) ∨ (a = 196 ∧ 14 ≤ k)
def mx (R0 : Nat → Nat → Int32) (y : Nat → Int32) (n : Nat) (h : zH) : Prop := h.1 = hh_487.1 ∧ (∀ a k b, wd.2.2.1 a k = some b → h.2.2.2.1 a k = some b) ∧ h.2.1 196 3 = nI n ∧ n ≤ 1000 ∧ (∀ k, k < n → TB (y k) (h.2.1 197 k)) ∧ (∀ a k, mKp a k → h.2.1 a k = R0 a k)
theorem sh_196 : zsh hh_487 196 = some (12, 39) := by decide +kernel
theorem sh_197 : zsh hh_487 197 = some (14, 1000) := by decide +kernel
theorem sh_198 : zsh hh_487 198 = some (14, 8) := by decide +kernel
theorem sh_199 : zsh hh_487 199 = some (14, 363) := by decide +kernel
theorem sh_200 : zsh hh_487 200 = some (14, 363) := by decide +kernel
theorem rf_196_1 : wd.2.2.1 196 1 = some 197 := by decide +kernel
theorem rf_196_12 : wd.2.2.1 196 12 = some 198 := by decide +kernel
theorem rf_196_16 : wd.2.2.1 196 16 = some 200 := by decide +kernel
def lkb (h : zH) (n k : Nat) : Int32 := if k < n then h.2.1 197 k else -1
section MDT
variable {R0 : Nat → Nat → Int32} {y : Nat → Int32} {n d N p k s : Nat} {h h' g : zH}
theorem mx.sh (hx : mx R0 y n h) {a : Nat} {q : Option (Nat × Nat)} (e : zsh hh_487 a = q) : zsh h a = q := by
  unfold zsh
  rw [hx.1]
  exact e
theorem mx.fr (hx : mx R0 y n h) (e1 : h'.1 = h.1) (e2 : h'.2.2.2.1 = h.2.2.2.1) (e3 : h'.2.1 196 3 = h.2.1 196 3) (e4 : ∀ a k, mKp a k → h'.2.1 a k = h.2.1 a k) : mx R0 y n h' :=
  ⟨e1.trans hx.1, fun a k b hb => by rw [e2]; exact hx.2.1 a k b hb, e3.trans hx.2.2.1, hx.2.2.2.1, fun k hk => by rw [e4 197 k (.inl (by decide))]; exact hx.2.2.2.2.1 k hk, fun a k hk => (e4 a k hk).trans (hx.2.2.2.2.2 a k hk)⟩
theorem mx.zs {a j : Nat} {v : Int32} (hx : mx R0 y n h) (h1 : ¬ (a = 196 ∧ (j = 3 ∨ 14 ≤ j))) (h2 : a = 196 ∨ a = 198 ∨ a = 200) : mx R0 y n (zsI h a j v) :=
  hx.fr rfl rfl (zsI_no (by omega)) (fun b k hk => zsI_no (by unfold mKp at hk; omega))
theorem m_look (hx : mx R0 y n h) (hk : k ≤ 1000) : zPa d mX12_look [.inr (.inr (some 196)), .inl (nI k)] h (fun v h' => h' = h ∧ v = some (.inl (lkb h n k))) := by
  refine zPa.mono (zPa.of (k_look (d := d) (h := h) (sz := nI n) (tp := h.2.1 197) (i := nI k) (hx.sh sh_196) (hx.sh sh_197) (hx.2.1 _ _ _ rf_196_1) hx.2.2.1 rfl (by rw [nI_toInt (by omega)]; omega) (by have := hx.2.2.2.1; rw [nI_toInt (by omega)]; omega))) (fun v h' hq => ?_)
  obtain ⟨x, e, e1, e2⟩ := hq
  refine ⟨e2, ?_⟩
  rw [e, e1]
  unfold lkF lkb
  have hn := hx.2.2.2.1
  have : nI k < nI n ↔ k < n := by
    rw [Int32.lt_iff_toInt_lt, nI_toInt (by omega), nI_toInt (by omega)]
    omega
  by_cases c : k < n
  · rw [if_pos (this.mpr c), if_pos c, nI_clamp (by omega)]
  · rw [if_neg (fun z => c (this.mp z)), if_neg c]
theorem lk_tb (hx : mx R0 y n h) (hk : k < n) : TB (y k) (lkb h n k) := by
  unfold lkb
  rw [if_pos hk]
  exact hx.2.2.2.2.1 k hk
theorem lk_eq (hx : mx R0 y n h) {c : Int32} (hc : 0 ≤ c.toInt ∧ c.toInt < 128) : lkb h n k = c ↔ (k < n ∧ y k = c) := by
  by_cases hk : k < n
  · rcases lk_tb hx hk with ⟨a, b⟩ | ⟨a, b⟩
    · rw [b]
      exact ⟨fun e => ⟨hk, e⟩, fun e => e.2⟩
    · refine ⟨fun e => ?_, fun e => ?_⟩
      · rw [e] at b; omega
      · rw [e.2] at a; omega
  · refine ⟨fun e => ?_, fun e => absurd e.1 hk⟩
    unfold lkb at e
    rw [if_neg hk] at e
    rw [← e] at hc
    exact absurd hc.1 (by decide)
theorem lk_sp (hx : mx R0 y n h) : lkb h n k = 32 ↔ cSp y n k = true := by
  rw [lk_eq hx (by decide)]
  unfold cSp
  rw [Bool.and_eq_true, decide_eq_true_eq, decide_eq_true_eq]
theorem lk_m1 (hx : mx R0 y n h) : lkb h n k = -1 ↔ n ≤ k := by
  by_cases hk : k < n
  · refine ⟨fun e => ?_, fun e => by omega⟩
    rcases lk_tb hx hk with ⟨a, b⟩ | ⟨a, b⟩
    · rw [← b, e] at a
      exact absurd a (by decide)
    · rw [e] at b
      exact absurd b (by decide)
  · exact ⟨fun _ => by omega, fun _ => by unfold lkb; rw [if_neg hk]⟩
theorem lk_in (hx : mx R0 y n h) {lo hi : Int32} (h0 : 0 ≤ lo.toInt ∧ lo.toInt < 128) (h1 : hi.toInt < 128) : btw lo hi (lkb h n k) = (if cIn lo hi y n k = true then 1 else 0) := by
  unfold btw cIn
  by_cases hk : k < n
  · rw [decide_eq_true hk]
    rcases lk_tb hx hk with ⟨a, b⟩ | ⟨a, b⟩
    · rw [b]
      by_cases c1 : y k < lo
      · rw [if_pos c1, if_neg]
        intro z
        simp only [Bool.and_eq_true, decide_eq_true_eq] at z
        rw [Int32.lt_iff_toInt_lt] at c1
        have := Int32.le_iff_toInt_le.mp z.2.1
        omega
      · rw [if_neg c1]
        by_cases c2 : hi < y k
        · rw [if_pos c2, if_neg]
          intro z
          simp only [Bool.and_eq_true, decide_eq_true_eq] at z
          rw [Int32.lt_iff_toInt_lt] at c2
          have := Int32.le_iff_toInt_le.mp z.2.2
          omega
        · rw [if_neg c2, if_pos]
          rw [Int32.lt_iff_toInt_lt] at c1 c2
          rw [decide_eq_true (Int32.le_iff_toInt_le.mpr (by omega)), decide_eq_true (Int32.le_iff_toInt_le.mpr (by omega))]
          rfl
    · rw [if_neg (fun z => by rw [Int32.lt_iff_toInt_lt] at z; omega)]
      rw [if_pos (Int32.lt_iff_toInt_lt.mpr (by omega)), if_neg]
      intro z
      simp only [Bool.and_eq_true, decide_eq_true_eq] at z
      have := Int32.le_iff_toInt_le.mp z.2.1
      omega
  · have e : lkb h n k = -1 := (lk_m1 hx).mpr (by omega)
    rw [e, decide_eq_false hk, if_pos]
    · rfl
    · rw [Int32.lt_iff_toInt_lt]
      have : (-1 : Int32).toInt = -1 := by decide
      omega
theorem lk_val (hx : mx R0 y n h) {lo hi : Int32} (h0 : 0 ≤ lo.toInt) (c : cIn lo hi y n k = true) : lkb h n k = y k := by
  have hk := cIn_lt c
  unfold cIn at c
  simp only [Bool.and_eq_true, decide_eq_true_eq] at c
  have := Int32.le_iff_toInt_le.mp c.2.1
  rcases lk_tb hx hk with ⟨a, b⟩ | ⟨a, b⟩
  · exact b
  · omega
theorem m_small (hx : mx R0 y n h) : zPa d mX12_isSmall [.inl (lkb h n k)] g (fun v h' => h' = g ∧ v = some (.inl (if cIn 97 122 y n k = true then 1 else 0))) := by
  refine zPa.mono (zPa.of k_small) (fun v h' hq => ?_)
  obtain ⟨x, e, e1, e2⟩ := hq
  exact ⟨e2, by rw [e, e1, lk_in hx (by decide) (by decide)]⟩
theorem m_digit (hx : mx R0 y n h) : zPa d mX12_isDigit [.inl (lkb h n k)] g (fun v h' => h' = g ∧ v = some (.inl (if cIn 48 57 y n k = true then 1 else 0))) := by
  refine zPa.mono (zPa.of k_digit) (fun v h' hq => ?_)
  obtain ⟨x, e, e1, e2⟩ := hq
  exact ⟨e2, by rw [e, e1, lk_in hx (by decide) (by decide)]⟩
theorem nI_mul (a b : Nat) : nI a * nI b = nI (a * b) := (Int32.ofNat_mul a b).symm
theorem numF_sn {y : Nat → Int32} : ∀ {j s : Nat} {v : Int32}, numF y (j + 1) s v = numF y j s v * 10 + (y (s + j) - 48)
  | 0, s, v => rfl
  | j + 1, s, v => by
    show numF y (j + 1) (s + 1) (v * 10 + (y s - 48)) = numF y j (s + 1) (v * 10 + (y s - 48)) * 10 + (y (s + (j + 1)) - 48)
    rw [numF_sn, show s + 1 + j = s + (j + 1) by omega]
theorem dg_eq (w c : Int32) : 10 * w + c - 48 = w * 10 + (c - 48) := by rw [Int32.mul_comm, Int32.sub_eq_add_neg, Int32.sub_eq_add_neg, Int32.add_assoc]
/-- next token in the reference -/
def nM (y : Nat → Int32) (n p : Nat) (h h' : zH) : Prop := h'.1 = h.1 ∧ h'.2.2 = h.2.2 ∧ (∀ a k, ¬ (a = 196 ∧ 4 ≤ k ∧ k ≤ 8) → a ≠ 198 → h'.2.1 a k = h.2.1 a k) ∧ h'.2.1 196 4 = nI (tS y n p) ∧ h'.2.1 196 5 = nI (tE y n p) ∧ h'.2.1 196 6 = tT y n p ∧ (tT y n p = 2 → h'.2.1 196 8 = nI (tE y n p - tS y n p) ∧ ∀ k, k < tE y n p - tS y n p → h'.2.1 198 k = y (tS y n p + k)) ∧ (tT y n p = 3 → h'.2.1 196 7 = tNum y n p)
/-- what the loops keep -/
def mK (h g : zH) : Prop := g.1 = h.1 ∧ g.2.2 = h.2.2 ∧ (∀ a k, ¬ (a = 196 ∧ 4 ≤ k ∧ k ≤ 8) → a ≠ 198 → g.2.1 a k = h.2.1 a k)
theorem mK.rf : mK h h := ⟨rfl, rfl, fun _ _ _ _ => rfl⟩
theorem mK.zs {j : Nat} {v : Int32} (k : mK h g) (hj : 4 ≤ j ∧ j ≤ 8) : mK h (zsI g 196 j v) := ⟨k.1, k.2.1, fun a i h1 h2 => by rw [zsI_no (by omega)]; exact k.2.2 a i h1 h2⟩
theorem mK.zl {j : Nat} {v : Int32} (k : mK h g) : mK h (zsI g 198 j v) := ⟨k.1, k.2.1, fun a i h1 h2 => by rw [zsI_no (by omega)]; exact k.2.2 a i h1 h2⟩
theorem mK.mx (k : mK h g) (hx : mx R0 y n h) : mx R0 y n g := hx.fr k.1 (congrArg (fun z => z.2.1) k.2.1) (k.2.2 196 3 (by omega) (by omega)) (fun a i hk => k.2.2 a i (by unfold mKp at hk; omega) (by unfold mKp at hk; omega))
theorem m_skip : ∀ (N k : Nat) (ls : zL) (Q : Option zV → zH → Prop), mx R0 y n h → k ≤ n → zget ls 0 = some (.inr (.inr (some 196))) → zget ls 1 = some (.inl (nI k)) → (∀ N' ls', N' ≤ N → zget ls' 0 = some (.inr (.inr (some 196))) → zget ls' 1 = some (.inl (nI (tS y n k))) → zPn N' none d mX12_next (21, ls', [], h) Q) → zPn N none d mX12_next (5, ls, [], h) Q := by
  intro N
  induction N with
  | zero => intro k ls Q _ _ _ _ _; exact zPn.zero
  | succ N ih =>
    intro k ls Q hx hk hl0 hl1 K
    have hn := hx.2.2.2.1
    refine pa_aload_n (pc' := 6) dX12_next_5 hl0 rfl ?_
    refine pa_iload_n (pc' := 7) dX12_next_6 hl1 rfl ?_
    refine pa_callv (pc' := 10) (vs := [.inl (nI k)]) (rest := []) dX12_next_7 ml_12_77 (by decide) rfl rfl rfl (fun d' _ => m_look hx (by omega)) (fun r g hq => ?_)
    obtain ⟨eg, er⟩ := hq
    subst eg; subst er
    refine pa_bipush (v := 32) (pc' := 12) dX12_next_10 (by decide) rfl ?_
    refine pa_icmp (pc' := 21) (pc2 := 15) dX12_next_12 (by decide) rfl (fun cd => ?_) (fun cd => ?_)
    · have cd : ¬ lkb g n k = 32 := by simpa [zcond] using cd
      rw [lk_sp hx] at cd
      have e : tS y n k = k := scan_no (by simpa using cd)
      exact K (N + 1) ls (Nat.le_refl _) hl0 (by rw [e]; exact hl1)
    · have cd : lkb g n k = 32 := by simpa [zcond] using cd
      rw [lk_sp hx] at cd
      have hlt := cSp_lt cd
      refine pa_iinc (pc' := 18) (v := nI (k + 1)) dX12_next_15 hl1 (by decide) (nI_add k 1) rfl rfl ?_
      refine pa_gotos (pc' := 5) dX12_next_18 (by decide) ?_
      have e : tS y n k = tS y n (k + 1) := scan_st (c := cSp y n) cd hlt
      exact ih (k + 1) _ Q hx (by omega) (zget_s1 hl0 (by decide) (by simp [zcat])) zget_s1e (fun N' ls' hN z0 z1 => K N' ls' (by omega) z0 (by rw [e]; exact z1))
theorem m_lets (hx : mx R0 y n h) (hs : s ≤ n) : ∀ (N k : Nat) (g : zH) (ls : zL) (Q : Option zV → zH → Prop), mK h g → g.2.1 196 8 = nI (k - s) → (∀ j, j < k - s → j < 8 → g.2.1 198 j = y (s + j)) → s ≤ k → k ≤ n → (∀ j, s ≤ j → j < k → cIn 97 122 y n j = true) → zget ls 0 = some (.inr (.inr (some 196))) → zget ls 1 = some (.inl (nI k)) → (∀ N' ls' g', N' ≤ N → mK h g' → (∀ a, a = 4 ∨ a = 7 → g'.2.1 196 a = g.2.1 196 a) → g'.2.1 196 8 = nI (scan (cIn 97 122 y n) (n - k) k - s) → (∀ j, j < scan (cIn 97 122 y n) (n - k) k - s → j < 8 → g'.2.1 198 j = y (s + j)) → zget ls' 0 = some (.inr (.inr (some 196))) → zget ls' 1 = some (.inl (nI (scan (cIn 97 122 y n) (n - k) k))) → zPn N' none d mX12_next (117, ls', [], g') Q) → zPn N none d mX12_next (67, ls, [], g) Q := by
  intro N
  induction N with
  | zero => intro k g ls Q _ _ _ _ _ _ _ _ _; exact zPn.zero
  | succ N ih =>
    intro k g ls Q hK h8 hlt hsk hk hall hl0 hl1 K
    have hn := hx.2.2.2.1
    have hxg := hK.mx hx
    have s196 := hxg.sh sh_196
    have s198 := hxg.sh sh_198
    have r196_12 := hxg.2.1 _ _ _ rf_196_12
    refine pa_aload_n (pc' := 68) dX12_next_67 hl0 rfl ?_
    refine pa_iload_n (pc' := 69) dX12_next_68 hl1 rfl ?_
    refine pa_callv (pc' := 72) (vs := [.inl (nI k)]) (rest := []) dX12_next_69 ml_12_77 (by decide) rfl rfl rfl (fun d' _ => m_look hxg (by omega)) (fun r g1 hq => ?_)
    obtain ⟨eg, er⟩ := hq
    subst eg; subst er
    refine pa_calls (pc' := 75) (kd := 1) (vs := [.inl (lkb g1 n k)]) (rest := []) dX12_next_72 ml_12_93 (.inl rfl) rfl rfl rfl (fun d' _ => m_small hxg) (fun r g2 hq => ?_)
    obtain ⟨eg, er⟩ := hq
    subst eg; subst er
    by_cases ci : cIn 97 122 y n k = true
    · have hlk := cIn_lt ci
      rw [if_pos ci]
      refine pa_if_f (x := 1) (pc' := 78) dX12_next_75 (by decide) (by decide) rfl ?_
      refine pa_aload_n (pc' := 79) dX12_next_78 hl0 rfl ?_
      refine pa_getI (pc' := 82) (n := 39) dX12_next_79 fl_12_84 s196 (by decide) h8 rfl ?_
      refine pa_bipush (v := nI 8) (pc' := 84) dX12_next_82 (by decide) rfl ?_
      have e : scan (cIn 97 122 y n) (n - k) k = scan (cIn 97 122 y n) (n - (k + 1)) (k + 1) := scan_st ci hlk
      have go : ∀ (g3 : zH), mK h g3 → (∀ a, a = 4 ∨ a = 7 → g3.2.1 196 a = g2.2.1 196 a) → g3.2.1 196 8 = nI (k - s) → (∀ j, j < k + 1 - s → j < 8 → g3.2.1 198 j = y (s + j)) → zPn (N + 1) none d mX12_next (101, ls, [], g3) Q := by
        intro g3 hK3 h47 h83 hl3
        have s196 := (hK3.mx hx).sh sh_196
        refine pa_aload_n (pc' := 102) dX12_next_101 hl0 rfl ?_
        refine pa_dup (pc' := 103) dX12_next_102 rfl rfl ?_
        refine pa_getI (pc' := 106) (n := 39) dX12_next_103 fl_12_84 s196 (by decide) h83 rfl ?_
        refine pa_iconst (v := nI 1) (pc' := 107) dX12_next_106 (by decide) rfl ?_
        refine pa_iadd (pc' := 108) (v := nI (k + 1 - s)) dX12_next_107 (by rw [nI_add]; congr 1; omega) rfl ?_
        refine pa_putI (pc' := 111) (n := 39) dX12_next_108 fl_12_84 s196 (Or.inl rfl) (Or.inl rfl) rfl ?_
        refine pa_iinc (pc' := 114) (v := nI (k + 1)) dX12_next_111 hl1 (by decide) (nI_add k 1) rfl rfl ?_
        refine pa_gotos (pc' := 67) dX12_next_114 (by decide) ?_
        refine ih (k + 1) _ _ Q (hK3.zs (by decide)) zsI_eq (fun j h1 h2 => by rw [zsI_no (by omega)]; exact hl3 j h1 h2) (by omega) (by omega) (fun j h1 h2 => ?_) (zget_s1 hl0 (by decide) (by simp [zcat])) zget_s1e (fun N' ls' g' hN a1 a2 a3 a4 a5 a6 => K N' ls' g' (by omega) a1 (fun a ha => ?_) (by rw [e]; exact a3) (by rw [e]; exact a4) a5 (by rw [e]; exact a6))
        · rcases Nat.lt_or_ge j k with z | z
          · exact hall j h1 z
          · have : j = k := by omega
            subst this
            exact ci
        · rw [a2 a ha, zsI_no (by omega)]
          exact h47 a ha
      refine pa_icmp (pc' := 101) (pc2 := 87) dX12_next_84 (by decide) rfl (fun cd => ?_) (fun cd => ?_)
      · have cd := zi_nlt (zk_ge_lt cd)
        rw [nI_toInt (by omega), nI_toInt (by omega)] at cd
        exact go g2 hK (fun _ _ => rfl) h8 (fun j h1 h2 => hlt j (by omega) h2)
      · have cd := zi_lt (zk_ge_lt cd)
        rw [nI_toInt (by omega), nI_toInt (by omega)] at cd
        refine pa_aload_n (pc' := 88) dX12_next_87 hl0 rfl ?_
        refine pa_getR (pc' := 91) (n := 39) (r := 198) dX12_next_88 fl_12_17 s196 (by decide) r196_12 rfl ?_
        refine pa_aload_n (pc' := 92) dX12_next_91 hl0 rfl ?_
        refine pa_getI (pc' := 95) (n := 39) dX12_next_92 fl_12_84 s196 (by decide) h8 rfl ?_
        refine pa_aload_n (pc' := 96) dX12_next_95 hl0 rfl ?_
        refine pa_iload_n (pc' := 97) dX12_next_96 hl1 rfl ?_
        refine pa_callv (pc' := 100) (vs := [.inl (nI k)]) (rest := [.inl (nI (k - s)), .inr (.inr (some 198))]) dX12_next_97 ml_12_77 (by decide) rfl rfl rfl (fun d' _ => m_look hxg (by omega)) (fun r g3 hq => ?_)
        obtain ⟨eg, er⟩ := hq
        subst eg; subst er
        refine pa_iast (pc' := 101) (n := 8) (v := lkb g3 n k) dX12_next_100 s198 rfl (fun _ => ?_)
        rw [nI_clamp (by omega), lk_val hxg (by decide) ci]
        refine go _ hK.zl (fun a ha => zsI_no (by omega)) (by rw [zsI_no (by omega)]; exact h8) (fun j h1 h2 => ?_)
        by_cases z : j = k - s
        · subst z
          rw [zsI_eq]
          congr 1
          omega
        · rw [zsI_no (by omega)]
          exact hlt j (by omega) h2
    · rw [if_neg ci]
      refine pa_if_t (x := 0) (pc' := 117) dX12_next_75 (by decide) (by decide) ?_
      have e : scan (cIn 97 122 y n) (n - k) k = k := scan_no (by simpa using ci)
      exact K (N + 1) ls g2 (Nat.le_refl _) hK (fun _ _ => rfl) (by rw [e]; exact h8) (by rw [e]; exact hlt) hl0 (by rw [e]; exact hl1)
theorem m_digs (hx : mx R0 y n h) (hs : s ≤ n) : ∀ (N k : Nat) (g : zH) (ls : zL) (Q : Option zV → zH → Prop), mK h g → (k - s ≤ 4 → g.2.1 196 7 = numF y (k - s) s 0) → s ≤ k → k ≤ n → zget ls 0 = some (.inr (.inr (some 196))) → zget ls 1 = some (.inl (nI k)) → zget ls 3 = some (.inl (nI (k - s))) → (∀ N' ls' g', N' ≤ N → mK h g' → g'.2.1 196 4 = g.2.1 196 4 → (scan (cIn 48 57 y n) (n - k) k - s ≤ 4 → g'.2.1 196 7 = numF y (scan (cIn 48 57 y n) (n - k) k - s) s 0) → zget ls' 0 = some (.inr (.inr (some 196))) → zget ls' 1 = some (.inl (nI (scan (cIn 48 57 y n) (n - k) k))) → zget ls' 3 = some (.inl (nI (scan (cIn 48 57 y n) (n - k) k - s))) → zPn N' none d mX12_next (197, ls', [], g') Q) → zPn N none d mX12_next (152, ls, [], g) Q := by
  intro N
  induction N with
  | zero => intro k g ls Q _ _ _ _ _ _ _ _; exact zPn.zero
  | succ N ih =>
    intro k g ls Q hK h7 hsk hk hl0 hl1 hl3 K
    have hn := hx.2.2.2.1
    have hxg := hK.mx hx
    have s196 := hxg.sh sh_196
    refine pa_aload_n (pc' := 153) dX12_next_152 hl0 rfl ?_
    refine pa_iload_n (pc' := 154) dX12_next_153 hl1 rfl ?_
    refine pa_callv (pc' := 157) (vs := [.inl (nI k)]) (rest := []) dX12_next_154 ml_12_77 (by decide) rfl rfl rfl (fun d' _ => m_look hxg (by omega)) (fun r g1 hq => ?_)
    obtain ⟨eg, er⟩ := hq
    subst eg; subst er
    refine pa_calls (pc' := 160) (kd := 1) (vs := [.inl (lkb g1 n k)]) (rest := []) dX12_next_157 ml_12_97 (.inl rfl) rfl rfl rfl (fun d' _ => m_digit hxg) (fun r g2 hq => ?_)
    obtain ⟨eg, er⟩ := hq
    subst eg; subst er
    by_cases ci : cIn 48 57 y n k = true
    · have hlk := cIn_lt ci
      rw [if_pos ci]
      refine pa_if_f (x := 1) (pc' := 163) dX12_next_160 (by decide) (by decide) rfl ?_
      refine pa_iload_n (pc' := 164) dX12_next_163 hl3 rfl ?_
      refine pa_iconst (v := nI 4) (pc' := 165) dX12_next_164 (by decide) rfl ?_
      have e : scan (cIn 48 57 y n) (n - k) k = scan (cIn 48 57 y n) (n - (k + 1)) (k + 1) := scan_st ci hlk
      have go : ∀ (g3 : zH), mK h g3 → g3.2.1 196 4 = g2.2.1 196 4 → (k + 1 - s ≤ 4 → g3.2.1 196 7 = numF y (k + 1 - s) s 0) → zPn (N + 1) none d mX12_next (188, ls, [], g3) Q := by
        intro g3 hK3 h4 h73
        refine pa_iinc (pc' := 191) (v := nI (k + 1 - s)) dX12_next_188 hl3 (by decide) (by
          have := nI_add (k - s) 1
          rw [show k - s + 1 = k + 1 - s by omega] at this
          exact this) rfl rfl ?_
        refine pa_iinc (pc' := 194) (v := nI (k + 1)) dX12_next_191 (zget_s1 hl1 (by decide) (by simp [zcat])) (by decide) (nI_add k 1) rfl rfl ?_
        refine pa_gotos (pc' := 152) dX12_next_194 (by decide) ?_
        refine ih (k + 1) _ _ Q hK3 h73 (by omega) (by omega) (zget_s1 (zget_s1 hl0 (by decide) (by simp [zcat])) (by decide) (by simp [zcat])) zget_s1e (zget_s1 zget_s1e (by decide) (by simp [zcat])) (fun N' ls' g' hN a1 a2 a3 a4 a5 a6 => K N' ls' g' (by omega) a1 (a2.trans h4) (by rw [e]; exact a3) a4 (by rw [e]; exact a5) (by rw [e]; exact a6))
      refine pa_icmp (pc' := 188) (pc2 := 168) dX12_next_165 (by decide) rfl (fun cd => ?_) (fun cd => ?_)
      · have cd := zi_nlt (zk_ge_lt cd)
        rw [nI_toInt (by omega), nI_toInt (by omega)] at cd
        exact go g2 hK rfl (fun z => by omega)
      · have cd := zi_lt (zk_ge_lt cd)
        rw [nI_toInt (by omega), nI_toInt (by omega)] at cd
        have h7 := h7 (by omega)
        refine pa_aload_n (pc' := 169) dX12_next_168 hl0 rfl ?_
        refine pa_bipush (v := 10) (pc' := 171) dX12_next_169 (by decide) rfl ?_
        refine pa_aload_n (pc' := 172) dX12_next_171 hl0 rfl ?_
        refine pa_getI (pc' := 175) (n := 39) dX12_next_172 fl_12_87 s196 (by decide) h7 rfl ?_
        refine pa_imul (pc' := 176) dX12_next_175 rfl rfl ?_
        refine pa_aload_n (pc' := 177) dX12_next_176 hl0 rfl ?_
        refine pa_iload_n (pc' := 178) dX12_next_177 hl1 rfl ?_
        refine pa_callv (pc' := 181) (vs := [.inl (nI k)]) (rest := [.inl (10 * numF y (k - s) s 0), .inr (.inr (some 196))]) dX12_next_178 ml_12_77 (by decide) rfl rfl rfl (fun d' _ => m_look hxg (by omega)) (fun r g3 hq => ?_)
        obtain ⟨eg, er⟩ := hq
        subst eg; subst er
        refine pa_iadd (pc' := 182) (y := lkb g3 n k) (x := 10 * numF y (k - s) s 0) dX12_next_181 rfl rfl ?_
        refine pa_bipush (v := 48) (pc' := 184) dX12_next_182 (by decide) rfl ?_
        refine pa_isub (pc' := 185) dX12_next_184 rfl rfl ?_
        rw [lk_val hxg (by decide) ci, dg_eq]
        refine pa_putI (pc' := 188) (n := 39) dX12_next_185 fl_12_87 s196 (Or.inl rfl) (Or.inl rfl) rfl ?_
        refine go _ (hK.zs (by decide)) (zsI_no (by omega)) (fun _ => ?_)
        rw [zsI_eq, show k + 1 - s = (k - s) + 1 by omega, numF_sn, show s + (k - s) = k by omega]
    · rw [if_neg ci]
      refine pa_if_t (x := 0) (pc' := 197) dX12_next_160 (by decide) (by decide) ?_
      have e : scan (cIn 48 57 y n) (n - k) k = k := scan_no (by simpa using ci)
      exact K (N + 1) ls g2 (Nat.le_refl _) hK rfl (by rw [e]; exact h7) hl0 (by rw [e]; exact hl1) (by rw [e]; exact hl3)
end MDT
section MDU
variable {R0 : Nat → Nat → Int32} {y : Nat → Int32} {n d N p k s : Nat} {h h' g : zH}
theorem m_next (hx : mx R0 y n h) (he : h.2.1 196 5 = nI p) (hp : p ≤ n) : zPa d mX12_next [.inr (.inr (some 196))] h (fun v h' => v = none ∧ nM y n p h h') := by
  intro N
  have s196 := hx.sh sh_196
  have hn := hx.2.2.2.1
  obtain ⟨t1, t2, t3⟩ := tS_sp (y := y) hp
  show zPn N none d mX12_next (0, [(0, .inr (.inr (some 196)))], [], h) _
  refine pa_aload_n (pc' := 1) dX12_next_0 rfl rfl ?_
  refine pa_getI (pc' := 4) (n := 39) dX12_next_1 fl_12_74 s196 (by decide) he rfl ?_
  refine pa_istore_n (pc' := 5) dX12_next_4 (by decide) rfl rfl ?_
  refine m_skip N p _ _ hx hp rfl rfl (fun N ls _ hl0 hl1 => ?_)
  obtain ⟨s, es⟩ : ∃ s, s = tS y n p := ⟨_, rfl⟩
  have eT : tT y n p = tT0 y n s := by rw [es]; rfl
  have eE : tE y n p = tE0 y n s := by rw [es]; rfl
  rw [← es] at t1 t2 t3 hl1
  have fin : ∀ (g : zH), mK h g → g.2.1 196 4 = nI s → g.2.1 196 5 = nI (tE0 y n s) → g.2.1 196 6 = tT0 y n s → (tT0 y n s = 2 → g.2.1 196 8 = nI (tE0 y n s - s) ∧ ∀ k, k < tE0 y n s - s → g.2.1 198 k = y (s + k)) → (tT0 y n s = 3 → g.2.1 196 7 = numF y (tE0 y n s - s) s 0) → nM y n p h g := by
    intro g hK a4 a5 a6 a8 a7
    refine ⟨hK.1, hK.2.1, hK.2.2, by rw [← es]; exact a4, by rw [eE]; exact a5, by rw [eT]; exact a6, fun z => ?_, fun z => ?_⟩
    · rw [eT] at z
      rw [eE, ← es]
      exact a8 z
    · rw [eT] at z
      unfold tNum
      rw [eE, ← es]
      exact a7 z
  refine pa_aload_n (pc' := 22) dX12_next_21 hl0 rfl ?_
  refine pa_iload_n (pc' := 23) dX12_next_22 hl1 rfl ?_
  refine pa_putI (pc' := 26) (n := 39) dX12_next_23 fl_12_81 s196 (Or.inl rfl) (Or.inl rfl) rfl ?_
  have K1 : mK h (zsI h 196 4 (nI s)) := mK.rf.zs (by decide)
  have x1 := K1.mx hx
  refine pa_aload_n (pc' := 27) dX12_next_26 hl0 rfl ?_
  refine pa_iload_n (pc' := 28) dX12_next_27 hl1 rfl ?_
  refine pa_callv (pc' := 31) (vs := [.inl (nI s)]) (rest := []) dX12_next_28 ml_12_77 (by decide) rfl rfl rfl (fun d' _ => m_look x1 (by omega)) (fun r g1 hq => ?_)
  obtain ⟨eg, er⟩ := hq
  subst er
  have g14 : g1.2.1 196 4 = nI s := by rw [eg]; exact zsI_eq
  have K1 : mK h g1 := by rw [eg]; exact K1
  have x1 : mx R0 y n g1 := K1.mx hx
  rw [← eg]
  clear eg
  refine pa_istore_n (pc' := 32) (v := lkb g1 n s) (ls' := zset1 ls 2 (.inl (lkb g1 n s))) (st := []) dX12_next_31 (by decide) rfl rfl ?_
  have hl0 := zget_s1 (v := .inl (lkb g1 n s)) (k := 2) hl0 (by decide) (by simp [zcat])
  have hl1 := zget_s1 (v := .inl (lkb g1 n s)) (k := 2) hl1 (by decide) (by simp [zcat])
  have hl2 : zget (zset1 ls 2 (.inl (lkb g1 n s))) 2 = some (.inl (lkb g1 n s)) := zget_s1e
  generalize zset1 ls 2 (.inl (lkb g1 n s)) = ls at hl0 hl1 hl2 ⊢
  have s196 := x1.sh sh_196
  refine pa_aload_n (pc' := 33) dX12_next_32 hl0 rfl ?_
  refine pa_iconst (v := 0) (pc' := 34) dX12_next_33 (by decide) rfl ?_
  refine pa_putI (pc' := 37) (n := 39) dX12_next_34 fl_12_84 s196 (Or.inl rfl) (Or.inl rfl) rfl ?_
  refine pa_aload_n (pc' := 38) dX12_next_37 hl0 rfl ?_
  refine pa_iconst (v := 0) (pc' := 39) dX12_next_38 (by decide) rfl ?_
  refine pa_putI (pc' := 42) (n := 39) dX12_next_39 fl_12_87 s196 (Or.inl rfl) (Or.inl rfl) rfl ?_
  have K2 : mK h (zsI (zsI g1 196 8 0) 196 7 0) := (K1.zs (by decide)).zs (by decide)
  have a4 : (zsI (zsI g1 196 8 0) 196 7 0).2.1 196 4 = nI s := by rw [zsI_no (by omega), zsI_no (by omega)]; exact g14
  have a8 : (zsI (zsI g1 196 8 0) 196 7 0).2.1 196 8 = 0 := by rw [zsI_no (by omega)]; exact zsI_eq
  have a7 : (zsI (zsI g1 196 8 0) 196 7 0).2.1 196 7 = 0 := zsI_eq
  generalize zsI (zsI g1 196 8 0) 196 7 0 = g2 at K2 a4 a8 a7 ⊢
  have x2 := K2.mx hx
  have s196 := x2.sh sh_196
  refine pa_iload_n (pc' := 43) dX12_next_42 hl2 rfl ?_
  refine pa_iconst (v := (-1)) (pc' := 44) dX12_next_43 (by decide) rfl ?_
  refine pa_icmp (pc' := 60) (pc2 := 47) dX12_next_44 (by decide) rfl (fun cd => ?_) (fun cd => ?_)
  · have cd : ¬ lkb g1 n s = -1 := by simpa [zcond] using cd
    rw [lk_m1 x1] at cd
    refine pa_iload_n (pc' := 61) dX12_next_60 hl2 rfl ?_
    refine pa_calls (pc' := 64) (kd := 1) (vs := [.inl (lkb g1 n s)]) (rest := []) dX12_next_61 ml_12_93 (.inl rfl) rfl rfl rfl (fun d' _ => m_small x1) (fun r g3 hq => ?_)
    obtain ⟨eg, er⟩ := hq
    subst eg; subst er
    by_cases ci : cIn 97 122 y n s = true
    · rw [if_pos ci]
      have n59 : ¬ y s = 59 := fun z => by
        unfold cIn at ci
        simp only [Bool.and_eq_true, decide_eq_true_eq] at ci
        rw [z] at ci
        exact absurd ci.2.1 (by decide)
      refine pa_if_f (x := 1) (pc' := 67) dX12_next_64 (by decide) (by decide) rfl ?_
      have e0 : s - s = 0 := by omega
      refine m_lets hx t2 N s g3 ls _ K2 (by rw [e0]; exact a8) (fun j h1 _ => by omega) (Nat.le_refl _) t2 (fun j h1 h2 => by omega) hl0 hl1 (fun N ls g4 _ K4 b47 b8 bl hl0 hl1 => ?_)
      obtain ⟨u1, u2, u3, u4⟩ := run_sp (lo := 97) (hi := 122) (y := y) t2
      have hgt := run_gt ci
      have eE0 : tE0 y n s = scan (cIn 97 122 y n) (n - s) s := by unfold tE0; rw [if_neg cd, if_neg n59, if_pos ci]
      have eT0 : tT0 y n s = if scan (cIn 97 122 y n) (n - s) s - s ≤ 8 then 2 else 1 := by unfold tT0; rw [if_neg cd, if_neg n59, if_pos ci]
      generalize scan (cIn 97 122 y n) (n - s) s = e at *
      have s196 := (K4.mx hx).sh sh_196
      refine pa_aload_n (pc' := 118) dX12_next_117 hl0 rfl ?_
      refine pa_iload_n (pc' := 119) dX12_next_118 hl1 rfl ?_
      refine pa_putI (pc' := 122) (n := 39) dX12_next_119 fl_12_74 s196 (Or.inl rfl) (Or.inl rfl) rfl ?_
      have b8' : (zsI g4 196 5 (nI e)).2.1 196 8 = nI (e - s) := by rw [zsI_no (by omega)]; exact b8
      refine pa_aload_n (pc' := 123) dX12_next_122 hl0 rfl ?_
      refine pa_aload_n (pc' := 124) dX12_next_123 hl0 rfl ?_
      refine pa_getI (pc' := 127) (n := 39) dX12_next_124 fl_12_84 s196 (by decide) b8' rfl ?_
      refine pa_bipush (v := nI 8) (pc' := 129) dX12_next_127 (by decide) rfl ?_
      refine pa_icmp (pc' := 136) (pc2 := 132) dX12_next_129 (by decide) rfl (fun cd2 => ?_) (fun cd2 => ?_)
      · have cd2 := zi_ngt (zk_le_gt cd2)
        rw [nI_toInt (by omega), nI_toInt (by omega)] at cd2
        rw [if_pos (by omega)] at eT0
        refine pa_iconst (v := 2) (pc' := 137) dX12_next_136 (by decide) rfl ?_
        refine pa_putI (pc' := 140) (n := 39) dX12_next_137 fl_12_90 s196 (Or.inl rfl) (Or.inl rfl) rfl ?_
        refine pa_goto (pc' := 241) dX12_next_140 (by decide) ?_
        refine pa_vret dX12_next_241 rfl ⟨rfl, fin _ ((K4.zs (by decide)).zs (by decide)) ?_ ?_ ?_ (fun _ => ⟨?_, fun k hk => ?_⟩) (fun z => by rw [eT0] at z; exact absurd z (by decide))⟩
        · rw [zsI_no (by omega), zsI_no (by omega), b47 4 (.inl rfl)]; exact a4
        · rw [zsI_no (by omega), zsI_eq, eE0]
        · rw [zsI_eq, eT0]
        · rw [zsI_no (by omega), eE0]; exact b8'
        · rw [eE0] at hk
          rw [zsI_no (by omega), zsI_no (by omega)]
          exact bl k hk (by omega)
      · have cd2 := zi_gt (zk_le_gt cd2)
        rw [nI_toInt (by omega), nI_toInt (by omega)] at cd2
        rw [if_neg (by omega)] at eT0
        refine pa_iconst (v := 1) (pc' := 133) dX12_next_132 (by decide) rfl ?_
        refine pa_goto (pc' := 137) dX12_next_133 (by decide) ?_
        refine pa_putI (pc' := 140) (n := 39) dX12_next_137 fl_12_90 s196 (Or.inl rfl) (Or.inl rfl) rfl ?_
        refine pa_goto (pc' := 241) dX12_next_140 (by decide) ?_
        refine pa_vret dX12_next_241 rfl ⟨rfl, fin _ ((K4.zs (by decide)).zs (by decide)) ?_ ?_ ?_ (fun z => by rw [eT0] at z; exact absurd z (by decide)) (fun z => by rw [eT0] at z; exact absurd z (by decide))⟩
        · rw [zsI_no (by omega), zsI_no (by omega), b47 4 (.inl rfl)]; exact a4
        · rw [zsI_no (by omega), zsI_eq, eE0]
        · rw [zsI_eq, eT0]
    · rw [if_neg ci]
      refine pa_if_t (x := 0) (pc' := 143) dX12_next_64 (by decide) (by decide) ?_
      refine pa_iload_n (pc' := 144) dX12_next_143 hl2 rfl ?_
      refine pa_calls (pc' := 147) (kd := 1) (vs := [.inl (lkb g1 n s)]) (rest := []) dX12_next_144 ml_12_97 (.inl rfl) rfl rfl rfl (fun d' _ => m_digit x1) (fun r g4 hq => ?_)
      obtain ⟨eg, er⟩ := hq
      subst eg; subst er
      by_cases cq : cIn 48 57 y n s = true
      · rw [if_pos cq]
        have n59 : ¬ y s = 59 := fun z => by
          unfold cIn at cq
          simp only [Bool.and_eq_true, decide_eq_true_eq] at cq
          rw [z] at cq
          exact absurd cq.2.2 (by decide)
        refine pa_if_f (x := 1) (pc' := 150) dX12_next_147 (by decide) (by decide) rfl ?_
        have e0 : s - s = 0 := by omega
        refine pa_iconst (v := nI (s - s)) (pc' := 151) dX12_next_150 (by rw [e0]; decide) rfl ?_
        refine pa_istore_n (pc' := 152) dX12_next_151 (by decide) rfl rfl ?_
        refine m_digs hx t2 N s g4 _ _ K2 (fun _ => by rw [e0]; exact a7) (Nat.le_refl _) t2 (zget_s1 hl0 (by decide) (by simp [zcat])) (zget_s1 hl1 (by decide) (by simp [zcat])) zget_s1e (fun N ls g5 _ K4 b4 b7 hl0 hl1 hl3 => ?_)
        obtain ⟨u1, u2, u3, u4⟩ := run_sp (lo := 48) (hi := 57) (y := y) t2
        have hgt := run_gt cq
        have eE0 : tE0 y n s = scan (cIn 48 57 y n) (n - s) s := by unfold tE0; rw [if_neg cd, if_neg n59, if_neg ci, if_pos cq]
        have eT0 : tT0 y n s = if scan (cIn 48 57 y n) (n - s) s - s ≤ 4 then 3 else 1 := by unfold tT0; rw [if_neg cd, if_neg n59, if_neg ci, if_pos cq]
        generalize scan (cIn 48 57 y n) (n - s) s = e at *
        have s196 := (K4.mx hx).sh sh_196
        refine pa_aload_n (pc' := 198) dX12_next_197 hl0 rfl ?_
        refine pa_iload_n (pc' := 199) dX12_next_198 hl1 rfl ?_
        refine pa_putI (pc' := 202) (n := 39) dX12_next_199 fl_12_74 s196 (Or.inl rfl) (Or.inl rfl) rfl ?_
        refine pa_aload_n (pc' := 203) dX12_next_202 hl0 rfl ?_
        refine pa_iload_n (pc' := 204) dX12_next_203 hl3 rfl ?_
        refine pa_iconst (v := nI 4) (pc' := 205) dX12_next_204 (by decide) rfl ?_
        refine pa_icmp (pc' := 212) (pc2 := 208) dX12_next_205 (by decide) rfl (fun cd2 => ?_) (fun cd2 => ?_)
        · have cd2 := zi_ngt (zk_le_gt cd2)
          rw [nI_toInt (by omega), nI_toInt (by omega)] at cd2
          rw [if_pos (by omega)] at eT0
          refine pa_iconst (v := 3) (pc' := 213) dX12_next_212 (by decide) rfl ?_
          refine pa_putI (pc' := 216) (n := 39) dX12_next_213 fl_12_90 s196 (Or.inl rfl) (Or.inl rfl) rfl ?_
          refine pa_goto (pc' := 241) dX12_next_216 (by decide) ?_
          refine pa_vret dX12_next_241 rfl ⟨rfl, fin _ ((K4.zs (by decide)).zs (by decide)) ?_ ?_ ?_ (fun z => by rw [eT0] at z; exact absurd z (by decide)) (fun _ => ?_)⟩
          · rw [zsI_no (by omega), zsI_no (by omega), b4]; exact a4
          · rw [zsI_no (by omega), zsI_eq, eE0]
          · rw [zsI_eq, eT0]
          · rw [zsI_no (by omega), zsI_no (by omega), eE0]
            exact b7 (by omega)
        · have cd2 := zi_gt (zk_le_gt cd2)
          rw [nI_toInt (by omega), nI_toInt (by omega)] at cd2
          rw [if_neg (by omega)] at eT0
          refine pa_iconst (v := 1) (pc' := 209) dX12_next_208 (by decide) rfl ?_
          refine pa_goto (pc' := 213) dX12_next_209 (by decide) ?_
          refine pa_putI (pc' := 216) (n := 39) dX12_next_213 fl_12_90 s196 (Or.inl rfl) (Or.inl rfl) rfl ?_
          refine pa_goto (pc' := 241) dX12_next_216 (by decide) ?_
          refine pa_vret dX12_next_241 rfl ⟨rfl, fin _ ((K4.zs (by decide)).zs (by decide)) ?_ ?_ ?_ (fun z => by rw [eT0] at z; exact absurd z (by decide)) (fun z => by rw [eT0] at z; exact absurd z (by decide))⟩
          · rw [zsI_no (by omega), zsI_no (by omega), b4]; exact a4
          · rw [zsI_no (by omega), zsI_eq, eE0]
          · rw [zsI_eq, eT0]
      · rw [if_neg cq]
        refine pa_if_t (x := 0) (pc' := 219) dX12_next_147 (by decide) (by decide) ?_
        have s196 := (K2.mx hx).sh sh_196
        refine pa_aload_n (pc' := 220) dX12_next_219 hl0 rfl ?_
        refine pa_iload_n (pc' := 221) dX12_next_220 hl1 rfl ?_
        refine pa_iconst (v := nI 1) (pc' := 222) dX12_next_221 (by decide) rfl ?_
        refine pa_iadd (pc' := 223) (v := nI (s + 1)) dX12_next_222 (nI_add _ _) rfl ?_
        refine pa_putI (pc' := 226) (n := 39) dX12_next_223 fl_12_74 s196 (Or.inl rfl) (Or.inl rfl) rfl ?_
        refine pa_aload_n (pc' := 227) dX12_next_226 hl0 rfl ?_
        refine pa_iload_n (pc' := 228) dX12_next_227 hl2 rfl ?_
        refine pa_bipush (v := 59) (pc' := 230) dX12_next_228 (by decide) rfl ?_
        have q59 : lkb g1 n s = 59 ↔ y s = 59 := by
          rw [lk_eq x1 (by decide)]
          exact ⟨fun z => z.2, fun z => ⟨by omega, z⟩⟩
        have eE0 : tE0 y n s = s + 1 := by
          unfold tE0
          rw [if_neg cd]
          by_cases z : y s = 59
          · rw [if_pos z]
          · rw [if_neg z, if_neg ci, if_neg cq]
        by_cases z : y s = 59
        · have eT0 : tT0 y n s = 59 := by unfold tT0; rw [if_neg cd, if_pos z]
          refine pa_icmp_f (pc' := 233) dX12_next_230 (by rw [q59.mpr z]; decide) (by decide) rfl ?_
          refine pa_iload_n (pc' := 234) dX12_next_233 hl2 rfl ?_
          rw [q59.mpr z]
          refine pa_goto (pc' := 238) dX12_next_234 (by decide) ?_
          refine pa_putI (pc' := 241) (n := 39) dX12_next_238 fl_12_90 s196 (Or.inl rfl) (Or.inl rfl) rfl ?_
          refine pa_vret dX12_next_241 rfl ⟨rfl, fin _ ((K2.zs (by decide)).zs (by decide)) ?_ ?_ ?_ (fun z => by rw [eT0] at z; exact absurd z (by decide)) (fun z => by rw [eT0] at z; exact absurd z (by decide))⟩
          · rw [zsI_no (by omega), zsI_no (by omega)]; exact a4
          · rw [zsI_no (by omega), zsI_eq, eE0]
          · rw [zsI_eq, eT0]
        · have eT0 : tT0 y n s = 1 := by unfold tT0; rw [if_neg cd, if_neg z, if_neg ci, if_neg cq]
          refine pa_icmp_t (pc' := 237) dX12_next_230 (decide_eq_true (fun w => z (q59.mp w))) (by decide) ?_
          refine pa_iconst (v := 1) (pc' := 238) dX12_next_237 (by decide) rfl ?_
          refine pa_putI (pc' := 241) (n := 39) dX12_next_238 fl_12_90 s196 (Or.inl rfl) (Or.inl rfl) rfl ?_
          refine pa_vret dX12_next_241 rfl ⟨rfl, fin _ ((K2.zs (by decide)).zs (by decide)) ?_ ?_ ?_ (fun z => by rw [eT0] at z; exact absurd z (by decide)) (fun z => by rw [eT0] at z; exact absurd z (by decide))⟩
          · rw [zsI_no (by omega), zsI_no (by omega)]; exact a4
          · rw [zsI_no (by omega), zsI_eq, eE0]
          · rw [zsI_eq, eT0]
  · have cd : lkb g1 n s = -1 := by simpa [zcond] using cd
    rw [lk_m1 x1] at cd
    have eT0 : tT0 y n s = 0 := by unfold tT0; rw [if_pos cd]
    have eE0 : tE0 y n s = s := by unfold tE0; rw [if_pos cd]
    refine pa_aload_n (pc' := 48) dX12_next_47 hl0 rfl ?_
    refine pa_iconst (v := 0) (pc' := 49) dX12_next_48 (by decide) rfl ?_
    refine pa_putI (pc' := 52) (n := 39) dX12_next_49 fl_12_90 s196 (Or.inl rfl) (Or.inl rfl) rfl ?_
    refine pa_aload_n (pc' := 53) dX12_next_52 hl0 rfl ?_
    refine pa_iload_n (pc' := 54) dX12_next_53 hl1 rfl ?_
    refine pa_putI (pc' := 57) (n := 39) dX12_next_54 fl_12_74 s196 (Or.inl rfl) (Or.inl rfl) rfl ?_
    refine pa_goto (pc' := 241) dX12_next_57 (by decide) ?_
    refine pa_vret dX12_next_241 rfl ⟨rfl, fin _ ((K2.zs (by decide)).zs (by decide)) ?_ ?_ ?_ (fun z => by rw [eT0] at z; exact absurd z (by decide)) (fun z => by rw [eT0] at z; exact absurd z (by decide))⟩
    · rw [zsI_no (by omega), zsI_no (by omega)]; exact a4
    · rw [zsI_eq, eE0]
    · rw [zsI_no (by omega), zsI_eq, eT0]
end MDU
