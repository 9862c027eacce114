section Pk0
/-! the reference: one token -/
def TB (a b : Int32) : Prop := (0 ≤ a.toInt ∧ b = a) ∨ (a.toInt < 0 ∧ 128 ≤ b.toInt)
/-- what the reading of a text leaves alone -/
def mKp (a k : Nat) : Prop := (a ≠ 196 ∧ a ≠ 198 ∧ a ≠ 200) ∨ (a = 196 ∧ 14 ≤ k)
def mx (R0 : Nat → Nat → Int32) (y : Nat → Int32) (n : Nat) (h : zH) : Prop := h.1 = hh_487.1 ∧ (∀ a k b, wd.2.2.1 a k = some b → h.2.2.2.1 a k = some b) ∧ h.2.1 196 3 = nI n ∧ n ≤ 1000 ∧ (∀ k, k < n → TB (y k) (h.2.1 197 k)) ∧ (∀ a k, mKp a k → h.2.1 a k = R0 a k)
theorem sh_196 : zsh hh_487 196 = some (12, 39) := by decide +kernel
theorem sh_197 : zsh hh_487 197 = some (14, 1000) := by decide +kernel
theorem sh_198 : zsh hh_487 198 = some (14, 8) := by decide +kernel
theorem sh_199 : zsh hh_487 199 = some (14, 363) := by decide +kernel
theorem sh_200 : zsh hh_487 200 = some (14, 363) := by decide +kernel
theorem rf_196_1 : wd.2.2.1 196 1 = some 197 := by decide +kernel
theorem rf_196_12 : wd.2.2.1 196 12 = some 198 := by decide +kernel
theorem rf_196_16 : wd.2.2.1 196 16 = some 200 := by decide +kernel
def lkb (h : zH) (n k : Nat) : Int32 := if k < n then h.2.1 197 k else -1
section MDT
variable {R0 : Nat → Nat → Int32} {y : Nat → Int32} {n d N p k s : Nat} {h h' g : zH}
theorem mx.sh (hx : mx R0 y n h) {a : Nat} {q : Option (Nat × Nat)} (e : zsh hh_487 a = q) : zsh h a = q := by
  unfold zsh
  rw [hx.1]
  exact e
theorem mx.fr (hx : mx R0 y n h) (e1 : h'.1 = h.1) (e2 : h'.2.2.2.1 = h.2.2.2.1) (e3 : h'.2.1 196 3 = h.2.1 196 3) (e4 : ∀ a k, mKp a k → h'.2.1 a k = h.2.1 a k) : mx R0 y n h' :=
  ⟨e1.trans hx.1, fun a k b hb => by rw [e2]; exact hx.2.1 a k b hb, e3.trans hx.2.2.1, hx.2.2.2.1, fun k hk => by rw [e4 197 k (.inl (by decide))]; exact hx.2.2.2.2.1 k hk, fun a k hk => (e4 a k hk).trans (hx.2.2.2.2.2 a k hk)⟩
theorem mx.zs {a j : Nat} {v : Int32} (hx : mx R0 y n h) (h1 : ¬ (a = 196 ∧ (j = 3 ∨ 14 ≤ j))) (h2 : a = 196 ∨ a = 198 ∨ a = 200) : mx R0 y n (zsI h a j v) :=
  hx.fr rfl rfl (zsI_no (by omega)) (fun b k hk => zsI_no (by unfold mKp at hk; omega))
theorem m_look (hx : mx R0 y n h) (hk : k ≤ 1000) : zPa d mX12_look [.inr (.inr (some 196)), .inl (nI k)] h (fun v h' => h' = h ∧ v = some (.inl (lkb h n k))) := by
  refine zPa.mono (zPa.of (k_look (d := d) (h := h) (sz := nI n) (tp := h.2.1 197) (i := nI k) (hx.sh sh_196) (hx.sh sh_197) (hx.2.1 _ _ _ rf_196_1) hx.2.2.1 rfl (by rw [nI_toInt (by omega)]; omega) (by have := hx.2.2.2.1; rw [nI_toInt (by omega)]; omega))) (fun v h' hq => ?_)
  obtain ⟨x, e, e1, e2⟩ := hq
  refine ⟨e2, ?_⟩
  rw [e, e1]
  unfold lkF lkb
  have hn := hx.2.2.2.1
  have : nI k < nI n ↔ k < n := by
    rw [Int32.lt_iff_toInt_lt, nI_toInt (by omega), nI_toInt (by omega)]
    omega
  by_cases c : k < n
  · rw [if_pos (this.mpr c), if_pos c, nI_clamp (by omega)]
  · rw [if_neg (fun z => c (this.mp z)), if_neg c]
theorem lk_tb (hx : mx R0 y n h) (hk : k < n) : TB (y k) (lkb h n k) := by
  unfold lkb
  rw [if_pos hk]
  exact hx.2.2.2.2.1 k hk
theorem lk_eq (hx : mx R0 y n h) {c : Int32} (hc : 0 ≤ c.toInt ∧ c.toInt < 128) : lkb h n k = c ↔ (k < n ∧ y k = c) := by
  by_cases hk : k < n
  · rcases lk_tb hx hk with ⟨a, b⟩ | ⟨a, b⟩
    · rw [b]
      exact ⟨fun e => ⟨hk, e⟩, fun e => e.2⟩
    · refine ⟨fun e => ?_, fun e => ?_⟩
      · rw [e] at b; omega
      · rw [e.2] at a; omega
  · refine ⟨fun e => ?_, fun e => absurd e.1 hk⟩
    unfold lkb at e
    rw [if_neg hk] at e
    rw [← e] at hc
    exact absurd hc.1 (by decide)
theorem lk_sp (hx : mx R0 y n h) : lkb h n k = 32 ↔ cSp y n k = true := by
  rw [lk_eq hx (by decide)]
  unfold cSp
  rw [Bool.and_eq_true, decide_eq_true_eq, decide_eq_true_eq]
theorem lk_m1 (hx : mx R0 y n h) : lkb h n k = -1 ↔ n ≤ k := by
  by_cases hk : k < n
  · refine ⟨fun e => ?_, fun e => by omega⟩
    rcases lk_tb hx hk with ⟨a, b⟩ | ⟨a, b⟩
    · rw [← b, e] at a
      exact absurd a (by decide)
    · rw [e] at b
      exact absurd b (by decide)
  · exact ⟨fun _ => by omega, fun _ => by unfold lkb; rw [if_neg hk]⟩
theorem lk_in (hx : mx R0 y n h) {lo hi : Int32} (h0 : 0 ≤ lo.toInt ∧ lo.toInt < 128) (h1 : hi.toInt < 128) : btw lo hi (lkb h n k) = (if cIn lo hi y n k = true then 1 else 0) := by
  unfold btw cIn
  by_cases hk : k < n
  · rw [decide_eq_true hk]
    rcases lk_tb hx hk with ⟨a, b⟩ | ⟨a, b⟩
    · rw [b]
      by_cases c1 : y k < lo
      · rw [if_pos c1, if_neg]
        intro z
        simp only [Bool.and_eq_true, decide_eq_true_eq] at z
        rw [Int32.lt_iff_toInt_lt] at c1
        have := Int32.le_iff_toInt_le.mp z.2.1
        omega
      · rw [if_neg c1]
        by_cases c2 : hi < y k
        · rw [if_pos c2, if_neg]
          intro z
          simp only [Bool.and_eq_true, decide_eq_true_eq] at z
          rw [Int32.lt_iff_toInt_lt] at c2
          have := Int32.le_iff_toInt_le.mp z.2.2
          omega
        · rw [if_neg c2, if_pos]
          rw [Int32.lt_iff_toInt_lt] at c1 c2
          rw [decide_eq_true (Int32.le_iff_toInt_le.mpr (by omega)), decide_eq_true (Int32.le_iff_toInt_le.mpr (by omega))]
          rfl
    · rw [if_neg (fun z => by rw [Int32.lt_iff_toInt_lt] at z; omega)]
      rw [if_pos (Int32.lt_iff_toInt_lt.mpr (by omega)), if_neg]
      intro z
      simp only [Bool.and_eq_true, decide_eq_true_eq] at z
      have := Int32.le_iff_toInt_le.mp z.2.1
      omega
  · have e : lkb h n k = -1 := (lk_m1 hx).mpr (by omega)
    rw [e, decide_eq_false hk, if_pos]
    · rfl
    · rw [Int32.lt_iff_toInt_lt]
      have : (-1 : Int32).toInt = -1 := by decide
      omega
theorem lk_val (hx : mx R0 y n h) {lo hi : Int32} (h0 : 0 ≤ lo.toInt) (c : cIn lo hi y n k = true) : lkb h n k = y k := by
  have hk := cIn_lt c
  unfold cIn at c
  simp only [Bool.and_eq_true, decide_eq_true_eq] at c
  have := Int32.le_iff_toInt_le.mp c.2.1
  rcases lk_tb hx hk with ⟨a, b⟩ | ⟨a, b⟩
  · exact b
  · omega
theorem m_small (hx : mx R0 y n h) : zPa d mX12_isSmall [.inl (lkb h n k)] g (fun v h' => h' = g ∧ v = some (.inl (if cIn 97 122 y n k = true then 1 else 0))) := by
  refine zPa.mono (zPa.of k_small) (fun v h' hq => ?_)
  obtain ⟨x, e, e1, e2⟩ := hq
  exact ⟨e2, by rw [e, e1, lk_in hx (by decide) (by decide)]⟩
theorem m_digit (hx : mx R0 y n h) : zPa d mX12_isDigit [.inl (lkb h n k)] g (fun v h' => h' = g ∧ v = some (.inl (if cIn 48 57 y n k = true then 1 else 0))) := by
  refine zPa.mono (zPa.of k_digit) (fun v h' hq => ?_)
  obtain ⟨x, e, e1, e2⟩ := hq
  exact ⟨e2, by rw [e, e1, lk_in hx (by decide) (by decide)]⟩
theorem nI_mul (a b : Nat) : nI a * nI b = nI (a * b) := (Int32.ofNat_mul a b).symm
theorem numF_sn {y : Nat → Int32} : ∀ {j s : Nat} {v : Int32}, numF y (j + 1) s v = numF y j s v * 10 + (y (s + j) - 48)
  | 0, s, v => rfl
  | j + 1, s, v => by
    show numF y (j + 1) (s + 1) (v * 10 + (y s - 48)) = numF y j (s + 1) (v * 10 + (y s - 48)) * 10 + (y (s + (j + 1)) - 48)
    rw [numF_sn, show s + 1 + j = s + (j + 1) by omega]
theorem dg_eq (w c : Int32) : 10 * w + c - 48 = w * 10 + (c - 48) := by rw [Int32.mul_comm, Int32.sub_eq_add_neg, Int32.sub_eq_add_neg, Int32.add_assoc]
/-- next token in the reference -/
def nM (y : Nat → Int32) (n p : Nat) (h h' : zH) : Prop := h'.1 = h.1 ∧ h'.2.2 = h.2.2 ∧ (∀ a k, ¬ (a = 196 ∧ 4 ≤ k ∧ k ≤ 8) → a ≠ 198 → h'.2.1 a k = h.2.1 a k) ∧ h'.2.1 196 4 = nI (tS y n p) ∧ h'.2.1 196 5 = nI (tE y n p) ∧ h'.2.1 196 6 = tT y n p ∧ (tT y n p = 2 → h'.2.1 196 8 = nI (tE y n p - tS y n p) ∧ ∀ k, k < tE y n p - tS y n p → h'.2.1 198 k = y (tS y n p + k)) ∧ (tT y n p = 3 → h'.2.1 196 7 = tNum y n p)
/-- what the loops keep -/
def mK (h g : zH) : Prop := g.1 = h.1 ∧ g.2.2 = h.2.2 ∧ (∀ a k, ¬ (a = 196 ∧ 4 ≤ k ∧ k ≤ 8) → a ≠ 198 → g.2.1 a k = h.2.1 a k)
theorem mK.rf : mK h h := ⟨rfl, rfl, fun _ _ _ _ => rfl⟩
theorem mK.zs {j : Nat} {v : Int32} (k : mK h g) (hj : 4 ≤ j ∧ j ≤ 8) : mK h (zsI g 196 j v) := ⟨k.1, k.2.1, fun a i h1 h2 => by rw [zsI_no (by omega)]; exact k.2.2 a i h1 h2⟩
theorem mK.zl {j : Nat} {v : Int32} (k : mK h g) : mK h (zsI g 198 j v) := ⟨k.1, k.2.1, fun a i h1 h2 => by rw [zsI_no (by omega)]; exact k.2.2 a i h1 h2⟩
theorem mK.mx (k : mK h g) (hx : mx R0 y n h) : mx R0 y n g := hx.fr k.1 (congrArg (fun z => z.2.1) k.2.1) (k.2.2 196 3 (by omega) (by omega)) (fun a i hk => k.2.2 a i (by unfold mKp at hk; omega) (by unfold mKp at hk; omega))
theorem m_skip : ∀ (N k : Nat) (ls : zL) (Q : Option zV → zH → Prop), mx R0 y n h → k ≤ n → zget ls 0 = some (.inr (.inr (some 196))) → zget ls 1 = some (.inl (nI k)) → (∀ N' ls', N' ≤ N → zget ls' 0 = some (.inr (.inr (some 196))) → zget ls' 1 = some (.inl (nI (tS y n k))) → zPn N' none d mX12_next (21, ls', [], h) Q) → zPn N none d mX12_next (5, ls, [], h) Q := by
  intro N
  induction N with
  | zero => intro k ls Q _ _ _ _ _; exact zPn.zero
  | succ N ih =>
    intro k ls Q hx hk hl0 hl1 K
    have hn := hx.2.2.2.1
    refine pa_aload_n (pc' := 6) dX12_next_5 hl0 rfl ?_
    refine pa_iload_n (pc' := 7) dX12_next_6 hl1 rfl ?_
    refine pa_callv (pc' := 10) (vs := [.inl (nI k)]) (rest := []) dX12_next_7 ml_12_77 (by decide) rfl rfl rfl (fun d' _ => m_look hx (by omega)) (fun r g hq => ?_)
    obtain ⟨eg, er⟩ := hq
    subst eg; subst er
    refine pa_bipush (v := 32) (pc' := 12) dX12_next_10 (by decide) rfl ?_
    refine pa_icmp (pc' := 21) (pc2 := 15) dX12_next_12 (by decide) rfl (fun cd => ?_) (fun cd => ?_)
    · have cd : ¬ lkb g n k = 32 := by simpa [zcond] using cd
      rw [lk_sp hx] at cd
      have e : tS y n k = k := scan_no (by simpa using cd)
      exact K (N + 1) ls (Nat.le_refl _) hl0 (by rw [e]; exact hl1)
    · have cd : lkb g n k = 32 := by simpa [zcond] using cd
      rw [lk_sp hx] at cd
      have hlt := cSp_lt cd
      refine pa_iinc (pc' := 18) (v := nI (k + 1)) dX12_next_15 hl1 (by decide) (nI_add k 1) rfl rfl ?_
      refine pa_gotos (pc' := 5) dX12_next_18 (by decide) ?_
      have e : tS y n k = tS y n (k + 1) := scan_st (c := cSp y n) cd hlt
      exact ih (k + 1) _ Q hx (by omega) (zget_s1 hl0 (by decide) (by simp [zcat])) zget_s1e (fun N' ls' hN z0 z1 => K N' ls' (by omega) z0 (by rw [e]; exact z1))
theorem m_lets (hx : mx R0 y n h) (hs : s ≤ n) : ∀ (N k : Nat) (g : zH) (ls : zL) (Q : Option zV → zH → Prop), mK h g → g.2.1 196 8 = nI (k - s) → (∀ j, j < k - s → j < 8 → g.2.1 198 j = y (s + j)) → s ≤ k → k ≤ n → (∀ j, s ≤ j → j < k → cIn 97 122 y n j = true) → zget ls 0 = some (.inr (.inr (some 196))) → zget ls 1 = some (.inl (nI k)) → (∀ N' ls' g', N' ≤ N → mK h g' → (∀ a, a = 4 ∨ a = 7 → g'.2.1 196 a = g.2.1 196 a) → g'.2.1 196 8 = nI (scan (cIn 97 122 y n) (n - k) k - s) → (∀ j, j < scan (cIn 97 122 y n) (n - k) k - s → j < 8 → g'.2.1 198 j = y (s + j)) → zget ls' 0 = some (.inr (.inr (some 196))) → zget ls' 1 = some (.inl (nI (scan (cIn 97 122 y n) (n - k) k))) → zPn N' none d mX12_next (117, ls', [], g') Q) → zPn N none d mX12_next (67, ls, [], g) Q := by
  intro N
  induction N with
  | zero => intro k g ls Q _ _ _ _ _ _ _ _ _; exact zPn.zero
  | succ N ih =>
    intro k g ls Q hK h8 hlt hsk hk hall hl0 hl1 K
    have hn := hx.2.2.2.1
    have hxg := hK.mx hx
    have s196 := hxg.sh sh_196
    have s198 := hxg.sh sh_198
    have r196_12 := hxg.2.1 _ _ _ rf_196_12
    refine pa_aload_n (pc' := 68) dX12_next_67 hl0 rfl ?_
    refine pa_iload_n (pc' := 69) dX12_next_68 hl1 rfl ?_
    refine pa_callv (pc' := 72) (vs := [.inl (nI k)]) (rest := []) dX12_next_69 ml_12_77 (by decide) rfl rfl rfl (fun d' _ => m_look hxg (by omega)) (fun r g1 hq => ?_)
    obtain ⟨eg, er⟩ := hq
    subst eg; subst er
    refine pa_calls (pc' := 75) (kd := 1) (vs := [.inl (lkb g1 n k)]) (rest := []) dX12_next_72 ml_12_93 (.inl rfl) rfl rfl rfl (fun d' _ => m_small hxg) (fun r g2 hq => ?_)
    obtain ⟨eg, er⟩ := hq
    subst eg; subst er
    by_cases ci : cIn 97 122 y n k = true
    · have hlk := cIn_lt ci
      rw [if_pos ci]
      refine pa_if_f (x := 1) (pc' := 78) dX12_next_75 (by decide) (by decide) rfl ?_
      refine pa_aload_n (pc' := 79) dX12_next_78 hl0 rfl ?_
      refine pa_getI (pc' := 82) (n := 39) dX12_next_79 fl_12_84 s196 (by decide) h8 rfl ?_
      refine pa_bipush (v := nI 8) (pc' := 84) dX12_next_82 (by decide) rfl ?_
      have e : scan (cIn 97 122 y n) (n - k) k = scan (cIn 97 122 y n) (n - (k + 1)) (k + 1) := scan_st ci hlk
      have go : ∀ (g3 : zH), mK h g3 → (∀ a, a = 4 ∨ a = 7 → g3.2.1 196 a = g2.2.1 196 a) → g3.2.1 196 8 = nI (k - s) → (∀ j, j < k + 1 - s → j < 8 → g3.2.1 198 j = y (s + j)) → zPn (N + 1) none d mX12_next (101, ls, [], g3) Q := by
        intro g3 hK3 h47 h83 hl3
        have s196 := (hK3.mx hx).sh sh_196
        refine pa_aload_n (pc' := 102) dX12_next_101 hl0 rfl ?_
        refine pa_dup (pc' := 103) dX12_next_102 rfl rfl ?_
        refine pa_getI (pc' := 106) (n := 39) dX12_next_103 fl_12_84 s196 (by decide) h83 rfl ?_
        refine pa_iconst (v := nI 1) (pc' := 107) dX12_next_106 (by decide) rfl ?_
        refine pa_iadd (pc' := 108) (v := nI (k + 1 - s)) dX12_next_107 (by rw [nI_add]; congr 1; omega) rfl ?_
        refine pa_putI (pc' := 111) (n := 39) dX12_next_108 fl_12_84 s196 (Or.inl rfl) (Or.inl rfl) rfl ?_
        refine pa_iinc (pc' := 114) (v := nI (k + 1)) dX12_next_111 hl1 (by decide) (nI_add k 1) rfl rfl ?_
        refine pa_gotos (pc' := 67) dX12_next_114 (by decide) ?_
        refine ih (k + 1) _ _ Q (hK3.zs (by decide)) zsI_eq (fun j h1 h2 => by rw [zsI_no (by omega)]; exact hl3 j h1 h2) (by omega) (by omega) (fun j h1 h2 => ?_) (zget_s1 hl0 (by decide) (by simp [zcat])) zget_s1e (fun N' ls' g' hN a1 a2 a3 a4 a5 a6 => K N' ls' g' (by omega) a1 (fun a ha => ?_) (by rw [e]; exact a3) (by rw [e]; exact a4) a5 (by rw [e]; exact a6))
        · rcases Nat.lt_or_ge j k with z | z
          · exact hall j h1 z
          · have : j = k := by omega
            subst this
            exact ci
        · rw [a2 a ha, zsI_no (by omega)]
          exact h47 a ha
      refine pa_icmp (pc' := 101) (pc2 := 87) dX12_next_84 (by decide) rfl (fun cd => ?_) (fun cd => ?_)
      · have cd := zi_nlt (zk_ge_lt cd)
        rw [nI_toInt (by omega), nI_toInt (by omega)] at cd
        exact go g2 hK (fun _ _ => rfl) h8 (fun j h1 h2 => hlt j (by omega) h2)
      · have cd := zi_lt (zk_ge_lt cd)
        rw [nI_toInt (by omega), nI_toInt (by omega)] at cd
        refine pa_aload_n (pc' := 88) dX12_next_87 hl0 rfl ?_
        refine pa_getR (pc' := 91) (n := 39) (r := 198) dX12_next_88 fl_12_17 s196 (by decide) r196_12 rfl ?_
        refine pa_aload_n (pc' := 92) dX12_next_91 hl0 rfl ?_
        refine pa_getI (pc' := 95) (n := 39) dX12_next_92 fl_12_84 s196 (by decide) h8 rfl ?_
        refine pa_aload_n (pc' := 96) dX12_next_95 hl0 rfl ?_
        refine pa_iload_n (pc' := 97) dX12_next_96 hl1 rfl ?_
        refine pa_callv (pc' := 100) (vs := [.inl (nI k)]) (rest := [.inl (nI (k - s)), .inr (.inr (some 198))]) dX12_next_97 ml_12_77 (by decide) rfl rfl rfl (fun d' _ => m_look hxg (by omega)) (fun r g3 hq => ?_)
        obtain ⟨eg, er⟩ := hq
        subst eg; subst er
        refine pa_iast (pc' := 101) (n := 8) (v := lkb g3 n k) dX12_next_100 s198 rfl (fun _ => ?_)
        rw [nI_clamp (by omega), lk_val hxg (by decide) ci]
        refine go _ hK.zl (fun a ha => zsI_no (by omega)) (by rw [zsI_no (by omega)]; exact h8) (fun j h1 h2 => ?_)
        by_cases z : j = k - s
        · subst z
          rw [zsI_eq]
          congr 1
          omega
        · rw [zsI_no (by omega)]
          exact hlt j (by omega) h2
    · rw [if_neg ci]
      refine pa_if_t (x := 0) (pc' := 117) dX12_next_75 (by decide) (by decide) ?_
      have e : scan (cIn 97 122 y n) (n - k) k = k := scan_no (by simpa using ci)
      exact K (N + 1) ls g2 (Nat.le_refl _) hK (fun _ _ => rfl) (by rw [e]; exact h8) (by rw [e]; exact hlt) hl0 (by rw [e]; exact hl1)
theorem m_digs (hx : mx R0 y n h) (hs : s ≤ n) : ∀ (N k : Nat) (g : zH) (ls : zL) (Q : Option zV → zH → Prop), mK h g → (k - s ≤ 4 → g.2.1 196 7 = numF y (k - s) s 0) → s ≤ k → k ≤ n → zget ls 0 = some (.inr (.inr (some 196))) → zget ls 1 = some (.inl (nI k)) → zget ls 3 = some (.inl (nI (k - s))) → (∀ N' ls' g', N' ≤ N → mK h g' → g'.2.1 196 4 = g.2.1 196 4 → (scan (cIn 48 57 y n) (n - k) k - s ≤ 4 → g'.2.1 196 7 = numF y (scan (cIn 48 57 y n) (n - k) k - s) s 0) → zget ls' 0 = some (.inr (.inr (some 196))) → zget ls' 1 = some (.inl (nI (scan (cIn 48 57 y n) (n - k) k))) → zget ls' 3 = some (.inl (nI (scan (cIn 48 57 y n) (n - k) k - s))) → zPn N' none d mX12_next (197, ls', [], g') Q) → zPn N none d mX12_next (152, ls, [], g) Q := by
  intro N
  induction N with
  | zero => intro k g ls Q _ _ _ _ _ _ _ _; exact zPn.zero
  | succ N ih =>
    intro k g ls Q hK h7 hsk hk hl0 hl1 hl3 K
    have hn := hx.2.2.2.1
    have hxg := hK.mx hx
    have s196 := hxg.sh sh_196
    refine pa_aload_n (pc' := 153) dX12_next_152 hl0 rfl ?_
    refine pa_iload_n (pc' := 154) dX12_next_153 hl1 rfl ?_
    refine pa_callv (pc' := 157) (vs := [.inl (nI k)]) (rest := []) dX12_next_154 ml_12_77 (by decide) rfl rfl rfl (fun d' _ => m_look hxg (by omega)) (fun r g1 hq => ?_)
    obtain ⟨eg, er⟩ := hq
    subst eg; subst er
    refine pa_calls (pc' := 160) (kd := 1) (vs := [.inl (lkb g1 n k)]) (rest := []) dX12_next_157 ml_12_97 (.inl rfl) rfl rfl rfl (fun d' _ => m_digit hxg) (fun r g2 hq => ?_)
    obtain ⟨eg, er⟩ := hq
    subst eg; subst er
    by_cases ci : cIn 48 57 y n k = true
    · have hlk := cIn_lt ci
      rw [if_pos ci]
      refine pa_if_f (x := 1) (pc' := 163) dX12_next_160 (by decide) (by decide) rfl ?_
      refine pa_iload_n (pc' := 164) dX12_next_163 hl3 rfl ?_
      refine pa_iconst (v := nI 4) (pc' := 165) dX12_next_164 (by decide) rfl ?_
      have e : scan (cIn 48 57 y n) (n - k) k = scan (cIn 48 57 y n) (n - (k + 1)) (k + 1) := scan_st ci hlk
      have go : ∀ (g3 : zH), mK h g3 → g3.2.1 196 4 = g2.2.1 196 4 → (k + 1 - s ≤ 4 → g3.2.1 196 7 = numF y (k + 1 - s) s 0) → zPn (N + 1) none d mX12_next (188, ls, [], g3) Q := by
        intro g3 hK3 h4 h73
        refine pa_iinc (pc' := 191) (v := nI (k + 1 - s)) dX12_next_188 hl3 (by decide) (by
          have := nI_add (k - s) 1
          rw [show k - s + 1 = k + 1 - s by omega] at this
          exact this) rfl rfl ?_
        refine pa_iinc (pc' := 194) (v := nI (k + 1)) dX12_next_191 (zget_s1 hl1 (by decide) (by simp [zcat])) (by decide) (nI_add k 1) rfl rfl ?_
        refine pa_gotos (pc' := 152) dX12_next_194 (by decide) ?_
        refine ih (k + 1) _ _ Q hK3 h73 (by omega) (by omega) (zget_s1 (zget_s1 hl0 (by decide) (by simp [zcat])) (by decide) (by simp [zcat])) zget_s1e (zget_s1 zget_s1e (by decide) (by simp [zcat])) (fun N' ls' g' hN a1 a2 a3 a4 a5 a6 => K N' ls' g' (by omega) a1 (a2.trans h4) (by rw [e]; exact a3) a4 (by rw [e]; exact a5) (by rw [e]; exact a6))
      refine pa_icmp (pc' := 188) (pc2 := 168) dX12_next_165 (by decide) rfl (fun cd => ?_) (fun cd => ?_)
      · have cd := zi_nlt (zk_ge_lt cd)
        rw [nI_toInt (by omega), nI_toInt (by omega)] at cd
        exact go g2 hK rfl (fun z => by omega)
      · have cd := zi_lt (zk_ge_lt cd)
        rw [nI_toInt (by omega), nI_toInt (by omega)] at cd
        have h7 := h7 (by omega)
        refine pa_aload_n (pc' := 169) dX12_next_168 hl0 rfl ?_
        refine pa_bipush (v := 10) (pc' := 171) dX12_next_169 (by decide) rfl ?_
        refine pa_aload_n (pc' := 172) dX12_next_171 hl0 rfl ?_
        refine pa_getI (pc' := 175) (n := 39) dX12_next_172 fl_12_87 s196 (by decide) h7 rfl ?_
        refine pa_imul (pc' := 176) dX12_next_175 rfl rfl ?_
        refine pa_aload_n (pc' := 177) dX12_next_176 hl0 rfl ?_
        refine pa_iload_n (pc' := 178) dX12_next_177 hl1 rfl ?_
        refine pa_callv (pc' := 181) (vs := [.inl (nI k)]) (rest := [.inl (10 * numF y (k - s) s 0), .inr (.inr (some 196))]) dX12_next_178 ml_12_77 (by decide) rfl rfl rfl (fun d' _ => m_look hxg (by omega)) (fun r g3 hq => ?_)
        obtain ⟨eg, er⟩ := hq
        subst eg; subst er
        refine pa_iadd (pc' := 182) (y := lkb g3 n k) (x := 10 * numF y (k - s) s 0) dX12_next_181 rfl rfl ?_
        refine pa_bipush (v := 48) (pc' := 184) dX12_next_182 (by decide) rfl ?_
        refine pa_isub (pc' := 185) dX12_next_184 rfl rfl ?_
        rw [lk_val hxg (by decide) ci, dg_eq]
        refine pa_putI (pc' := 188) (n := 39) dX12_next_185 fl_12_87 s196 (Or.inl rfl) (Or.inl rfl) rfl ?_
        refine go _ (hK.zs (by decide)) (zsI_no (by omega)) (fun _ => ?_)
        rw [zsI_eq, show k + 1 - s = (k - s) + 1 by omega, numF_sn, show s + (k - s) = k by omega]
    · rw [if_neg ci]
      refine pa_if_t (x := 0) (pc' := 197) dX12_next_160 (by decide) (by decide) ?_
      have e : scan (cIn 48 57 y n) (n - k) k = k := scan_no (by simpa using ci)
      exact K (N + 1) ls g2 (Nat.le_refl _) hK rfl (by rw [e]; exact h7) hl0 (by rw [e]; exact hl1) (by rw [e]; exact hl3)
end MDT
section MDU
variable {R0 : Nat → Nat → Int32} {y : Nat → Int32} {n d N p k s : Nat} {h h' g : zH}
theorem m_next (hx : mx R0 y n h) (he : h.2.1 196 5 = nI p) (hp : p ≤ n) : zPa d mX12_next [.inr (.inr (some 196))] h (fun v h' => v = none ∧ nM y n p h h') := by
  intro N
  have s196 := hx.sh sh_196
  have hn := hx.2.2.2.1
  obtain ⟨t1, t2, t3⟩ := tS_sp (y := y) hp
  show zPn N none d mX12_next (0, [(0, .inr (.inr (some 196)))], [], h) _
  refine pa_aload_n (pc' := 1) dX12_next_0 rfl rfl ?_
  refine pa_getI (pc' := 4) (n := 39) dX12_next_1 fl_12_74 s196 (by decide) he rfl ?_
  refine pa_istore_n (pc' := 5) dX12_next_4 (by decide) rfl rfl ?_
  refine m_skip N p _ _ hx hp rfl rfl (fun N ls _ hl0 hl1 => ?_)
  obtain ⟨s, es⟩ : ∃ s, s = tS y n p := ⟨_, rfl⟩
  have eT : tT y n p = tT0 y n s := by rw [es]; rfl
  have eE : tE y n p = tE0 y n s := by rw [es]; rfl
  rw [← es] at t1 t2 t3 hl1
  have fin : ∀ (g : zH), mK h g → g.2.1 196 4 = nI s → g.2.1 196 5 = nI (tE0 y n s) → g.2.1 196 6 = tT0 y n s → (tT0 y n s = 2 → g.2.1 196 8 = nI (tE0 y n s - s) ∧ ∀ k, k < tE0 y n s - s → g.2.1 198 k = y (s + k)) → (tT0 y n s = 3 → g.2.1 196 7 = numF y (tE0 y n s - s) s 0) → nM y n p h g := by
    intro g hK a4 a5 a6 a8 a7
    refine ⟨hK.1, hK.2.1, hK.2.2, by rw [← es]; exact a4, by rw [eE]; exact a5, by rw [eT]; exact a6, fun z => ?_, fun z => ?_⟩
    · rw [eT] at z
      rw [eE, ← es]
      exact a8 z
    · rw [eT] at z
      unfold tNum
      rw [eE, ← es]
      exact a7 z
  refine pa_aload_n (pc' := 22) dX12_next_21 hl0 rfl ?_
  refine pa_iload_n (pc' := 23) dX12_next_22 hl1 rfl ?_
  refine pa_putI (pc' := 26) (n := 39) dX12_next_23 fl_12_81 s196 (Or.inl rfl) (Or.inl rfl) rfl ?_
  have K1 : mK h (zsI h 196 4 (nI s)) := mK.rf.zs (by decide)
  have x1 := K1.mx hx
  refine pa_aload_n (pc' := 27) dX12_next_26 hl0 rfl ?_
  refine pa_iload_n (pc' := 28) dX12_next_27 hl1 rfl ?_
  refine pa_callv (pc' := 31) (vs := [.inl (nI s)]) (rest := []) dX12_next_28 ml_12_77 (by decide) rfl rfl rfl (fun d' _ => m_look x1 (by omega)) (fun r g1 hq => ?_)
  obtain ⟨eg, er⟩ := hq
  subst er
  have g14 : g1.2.1 196 4 = nI s := by rw [eg]; exact zsI_eq
  have K1 : mK h g1 := by rw [eg]; exact K1
  have x1 : mx R0 y n g1 := K1.mx hx
  rw [← eg]
  clear eg
  refine pa_istore_n (pc' := 32) (v := lkb g1 n s) (ls' := zset1 ls 2 (.inl (lkb g1 n s))) (st := []) dX12_next_31 (by decide) rfl rfl ?_
  have hl0 := zget_s1 (v := .inl (lkb g1 n s)) (k := 2) hl0 (by decide) (by simp [zcat])
  have hl1 := zget_s1 (v := .inl (lkb g1 n s)) (k := 2) hl1 (by decide) (by simp [zcat])
  have hl2 : zget (zset1 ls 2 (.inl (lkb g1 n s))) 2 = some (.inl (lkb g1 n s)) := zget_s1e
  generalize zset1 ls 2 (.inl (lkb g1 n s)) = ls at hl0 hl1 hl2 ⊢
  have s196 := x1.sh sh_196
  refine pa_aload_n (pc' := 33) dX12_next_32 hl0 rfl ?_
  refine pa_iconst (v := 0) (pc' := 34) dX12_next_33 (by decide) rfl ?_
  refine pa_putI (pc' := 37) (n := 39) dX12_next_34 fl_12_84 s196 (Or.inl rfl) (Or.inl rfl) rfl ?_
  refine pa_aload_n (pc' := 38) dX12_next_37 hl0 rfl ?_
  refine pa_iconst (v := 0) (pc' := 39) dX12_next_38 (by decide) rfl ?_
  refine pa_putI (pc' := 42) (n := 39) dX12_next_39 fl_12_87 s196 (Or.inl rfl) (Or.inl rfl) rfl ?_
  have K2 : mK h (zsI (zsI g1 196 8 0) 196 7 0) := (K1.zs (by decide)).zs (by decide)
  have a4 : (zsI (zsI g1 196 8 0) 196 7 0).2.1 196 4 = nI s := by rw [zsI_no (by omega), zsI_no (by omega)]; exact g14
  have a8 : (zsI (zsI g1 196 8 0) 196 7 0).2.1 196 8 = 0 := by rw [zsI_no (by omega)]; exact zsI_eq
  have a7 : (zsI (zsI g1 196 8 0) 196 7 0).2.1 196 7 = 0 := zsI_eq
  generalize zsI (zsI g1 196 8 0) 196 7 0 = g2 at K2 a4 a8 a7 ⊢
  have x2 := K2.mx hx
  have s196 := x2.sh sh_196
  refine pa_iload_n (pc' := 43) dX12_next_42 hl2 rfl ?_
  refine pa_iconst (v := (-1)) (pc' := 44) dX12_next_43 (by decide) rfl ?_
  refine pa_icmp (pc' := 60) (pc2 := 47) dX12_next_44 (by decide) rfl (fun cd => ?_) (fun cd => ?_)
  · have cd : ¬ lkb g1 n s = -1 := by simpa [zcond] using cd
    rw [lk_m1 x1] at cd
    refine pa_iload_n (pc' := 61) dX12_next_60 hl2 rfl ?_
    refine pa_calls (pc' := 64) (kd := 1) (vs := [.inl (lkb g1 n s)]) (rest := []) dX12_next_61 ml_12_93 (.inl rfl) rfl rfl rfl (fun d' _ => m_small x1) (fun r g3 hq => ?_)
    obtain ⟨eg, er⟩ := hq
    subst eg; subst er
    by_cases ci : cIn 97 122 y n s = true
    · rw [if_pos ci]
      have n59 : ¬ y s = 59 := fun z => by
        unfold cIn at ci
        simp only [Bool.and_eq_true, decide_eq_true_eq] at ci
        rw [z] at ci
        exact absurd ci.2.1 (by decide)
      refine pa_if_f (x := 1) (pc' := 67) dX12_next_64 (by decide) (by decide) rfl ?_
      have e0 : s - s = 0 := by omega
      refine m_lets hx t2 N s g3 ls _ K2 (by rw [e0]; exact a8) (fun j h1 _ => by omega) (Nat.le_refl _) t2 (fun j h1 h2 => by omega) hl0 hl1 (fun N ls g4 _ K4 b47 b8 bl hl0 hl1 => ?_)
      obtain ⟨u1, u2, u3, u4⟩ := run_sp (lo := 97) (hi := 122) (y := y) t2
      have hgt := run_gt ci
      have eE0 : tE0 y n s = scan (cIn 97 122 y n) (n - s) s := by unfold tE0; rw [if_neg cd, if_neg n59, if_pos ci]
      have eT0 : tT0 y n s = if scan (cIn 97 122 y n) (n - s) s - s ≤ 8 then 2 else 1 := by unfold tT0; rw [if_neg cd, if_neg n59, if_pos ci]
      generalize scan (cIn 97 122 y n) (n - s) s = e at *
      have s196 := (K4.mx hx).sh sh_196
      refine pa_aload_n (pc' := 118) dX12_next_117 hl0 rfl ?_
      refine pa_iload_n (pc' := 119) dX12_next_118 hl1 rfl ?_
      refine pa_putI (pc' := 122) (n := 39) dX12_next_119 fl_12_74 s196 (Or.inl rfl) (Or.inl rfl) rfl ?_
      have b8' : (zsI g4 196 5 (nI e)).2.1 196 8 = nI (e - s) := by rw [zsI_no (by omega)]; exact b8
      refine pa_aload_n (pc' := 123) dX12_next_122 hl0 rfl ?_
      refine pa_aload_n (pc' := 124) dX12_next_123 hl0 rfl ?_
      refine pa_getI (pc' := 127) (n := 39) dX12_next_124 fl_12_84 s196 (by decide) b8' rfl ?_
      refine pa_bipush (v := nI 8) (pc' := 129) dX12_next_127 (by decide) rfl ?_
      refine pa_icmp (pc' := 136) (pc2 := 132) dX12_next_129 (by decide) rfl (fun cd2 => ?_) (fun cd2 => ?_)
      · have cd2 := zi_ngt (zk_le_gt cd2)
        rw [nI_toInt (by omega), nI_toInt (by omega)] at cd2
        rw [if_pos (by omega)] at eT0
        refine pa_iconst (v := 2) (pc' := 137) dX12_next_136 (by decide) rfl ?_
        refine pa_putI (pc' := 140) (n := 39) dX12_next_137 fl_12_90 s196 (Or.inl rfl) (Or.inl rfl) rfl ?_
        refine pa_goto (pc' := 241) dX12_next_140 (by decide) ?_
        refine pa_vret dX12_next_241 rfl ⟨rfl, fin _ ((K4.zs (by decide)).zs (by decide)) ?_ ?_ ?_ (fun _ => ⟨?_, fun k hk => ?_⟩) (fun z => by rw [eT0] at z; exact absurd z (by decide))⟩
        · rw [zsI_no (by omega), zsI_no (by omega), b47 4 (.inl rfl)]; exact a4
        · rw [zsI_no (by omega), zsI_eq, eE0]
        · rw [zsI_eq, eT0]
        · rw [zsI_no (by omega), eE0]; exact b8'
        · rw [eE0] at hk
          rw [zsI_no (by omega), zsI_no (by omega)]
          exact bl k hk (by omega)
      · have cd2 := zi_gt (zk_le_gt cd2)
        rw [nI_toInt (by omega), nI_toInt (by omega)] at cd2
        rw [if_neg (by omega)] at eT0
        refine pa_iconst (v := 1) (pc' := 133) dX12_next_132 (by decide) rfl ?_
        refine pa_goto (pc' := 137) dX12_next_133 (by decide) ?_
        refine pa_putI (pc' := 140) (n := 39) dX12_next_137 fl_12_90 s196 (Or.inl rfl) (Or.inl rfl) rfl ?_
        refine pa_goto (pc' := 241) dX12_next_140 (by decide) ?_
        refine pa_vret dX12_next_241 rfl ⟨rfl, fin _ ((K4.zs (by decide)).zs (by decide)) ?_ ?_ ?_ (fun z => by rw [eT0] at z; exact absurd z (by decide)) (fun z => by rw [eT0] at z; exact absurd z (by decide))⟩
        · rw [zsI_no (by omega), zsI_no (by omega), b47 4 (.inl rfl)]; exact a4
        · rw [zsI_no (by omega), zsI_eq, eE0]
        · rw [zsI_eq, eT0]
    · rw [if_neg ci]
      refine pa_if_t (x := 0) (pc' := 143) dX12_next_64 (by decide) (by decide) ?_
      refine pa_iload_n (pc' := 144) dX12_next_143 hl2 rfl ?_
      refine pa_calls (pc' := 147) (kd := 1) (vs := [.inl (lkb g1 n s)]) (rest := []) dX12_next_144 ml_12_97 (.inl rfl) rfl rfl rfl (fun d' _ => m_digit x1) (fun r g4 hq => ?_)
      obtain ⟨eg, er⟩ := hq
      subst eg; subst er
      by_cases cq : cIn 48 57 y n s = true
      · rw [if_pos cq]
        have n59 : ¬ y s = 59 := fun z => by
          unfold cIn at cq
          simp only [Bool.and_eq_true, decide_eq_true_eq] at cq
          rw [z] at cq
          exact absurd cq.2.2 (by decide)
        refine pa_if_f (x := 1) (pc' := 150) dX12_next_147 (by decide) (by decide) rfl ?_
        have e0 : s - s = 0 := by omega
        refine pa_iconst (v := nI (s - s)) (pc' := 151) dX12_next_150 (by rw [e0]; decide) rfl ?_
        refine pa_istore_n (pc' := 152) dX12_next_151 (by decide) rfl rfl ?_
        refine m_digs hx t2 N s g4 _ _ K2 (fun _ => by rw [e0]; exact a7) (Nat.le_refl _) t2 (zget_s1 hl0 (by decide) (by simp [zcat])) (zget_s1 hl1 (by decide) (by simp [zcat])) zget_s1e (fun N ls g5 _ K4 b4 b7 hl0 hl1 hl3 => ?_)
        obtain ⟨u1, u2, u3, u4⟩ := run_sp (lo := 48) (hi := 57) (y := y) t2
        have hgt := run_gt cq
        have eE0 : tE0 y n s = scan (cIn 48 57 y n) (n - s) s := by unfold tE0; rw [if_neg cd, if_neg n59, if_neg ci, if_pos cq]
        have eT0 : tT0 y n s = if scan (cIn 48 57 y n) (n - s) s - s ≤ 4 then 3 else 1 := by unfold tT0; rw [if_neg cd, if_neg n59, if_neg ci, if_pos cq]
        generalize scan (cIn 48 57 y n) (n - s) s = e at *
        have s196 := (K4.mx hx).sh sh_196
        refine pa_aload_n (pc' := 198) dX12_next_197 hl0 rfl ?_
        refine pa_iload_n (pc' := 199) dX12_next_198 hl1 rfl ?_
        refine pa_putI (pc' := 202) (n := 39) dX12_next_199 fl_12_74 s196 (Or.inl rfl) (Or.inl rfl) rfl ?_
        refine pa_aload_n (pc' := 203) dX12_next_202 hl0 rfl ?_
        refine pa_iload_n (pc' := 204) dX12_next_203 hl3 rfl ?_
        refine pa_iconst (v := nI 4) (pc' := 205) dX12_next_204 (by decide) rfl ?_
        refine pa_icmp (pc' := 212) (pc2 := 208) dX12_next_205 (by decide) rfl (fun cd2 => ?_) (fun cd2 => ?_)
        · have cd2 := zi_ngt (zk_le_gt cd2)
          rw [nI_toInt (by omega), nI_toInt (by omega)] at cd2
          rw [if_pos (by omega)] at eT0
          refine pa_iconst (v := 3) (pc' := 213) dX12_next_212 (by decide) rfl ?_
          refine pa_putI (pc' := 216) (n := 39) dX12_next_213 fl_12_90 s196 (Or.inl rfl) (Or.inl rfl) rfl ?_
          refine pa_goto (pc' := 241) dX12_next_216 (by decide) ?_
          refine pa_vret dX12_next_241 rfl ⟨rfl, fin _ ((K4.zs (by decide)).zs (by decide)) ?_ ?_ ?_ (fun z => by rw [eT0] at z; exact absurd z (by decide)) (fun _ => ?_)⟩
          · rw [zsI_no (by omega), zsI_no (by omega), b4]; exact a4
          · rw [zsI_no (by omega), zsI_eq, eE0]
          · rw [zsI_eq, eT0]
          · rw [zsI_no (by omega), zsI_no (by omega), eE0]
            exact b7 (by omega)
        · have cd2 := zi_gt (zk_le_gt cd2)
          rw [nI_toInt (by omega), nI_toInt (by omega)] at cd2
          rw [if_neg (by omega)] at eT0
          refine pa_iconst (v := 1) (pc' := 209) dX12_next_208 (by decide) rfl ?_
          refine pa_goto (pc' := 213) dX12_next_209 (by decide) ?_
          refine pa_putI (pc' := 216) (n := 39) dX12_next_213 fl_12_90 s196 (Or.inl rfl) (Or.inl rfl) rfl ?_
          refine pa_goto (pc' := 241) dX12_next_216 (by decide) ?_
          refine pa_vret dX12_next_241 rfl ⟨rfl, fin _ ((K4.zs (by decide)).zs (by decide)) ?_ ?_ ?_ (fun z => by rw [eT0] at z; exact absurd z (by decide)) (fun z => by rw [eT0] at z; exact absurd z (by decide))⟩
          · rw [zsI_no (by omega), zsI_no (by omega), b4]; exact a4
          · rw [zsI_no (by omega), zsI_eq, eE0]
          · rw [zsI_eq, eT0]
      · rw [if_neg cq]
        refine pa_if_t (x := 0) (pc' := 219) dX12_next_147 (by decide) (by decide) ?_
        have s196 := (K2.mx hx).sh sh_196
        refine pa_aload_n (pc' := 220) dX12_next_219 hl0 rfl ?_
        refine pa_iload_n (pc' := 221) dX12_next_220 hl1 rfl ?_
        refine pa_iconst (v := nI 1) (pc' := 222) dX12_next_221 (by decide) rfl ?_
        refine pa_iadd (pc' := 223) (v := nI (s + 1)) dX12_next_222 (nI_add _ _) rfl ?_
        refine pa_putI (pc' := 226) (n := 39) dX12_next_223 fl_12_74 s196 (Or.inl rfl) (Or.inl rfl) rfl ?_
        refine pa_aload_n (pc' := 227) dX12_next_226 hl0 rfl ?_
        refine pa_iload_n (pc' := 228) dX12_next_227 hl2 rfl ?_
        refine pa_bipush (v := 59) (pc' := 230) dX12_next_228 (by decide) rfl ?_
        have q59 : lkb g1 n s = 59 ↔ y s = 59 := by
          rw [lk_eq x1 (by decide)]
          exact ⟨fun z => z.2, fun z => ⟨by omega, z⟩⟩
        have eE0 : tE0 y n s = s + 1 := by
          unfold tE0
          rw [if_neg cd]
          by_cases z : y s = 59
          · rw [if_pos z]
          · rw [if_neg z, if_neg ci, if_neg cq]
        by_cases z : y s = 59
        · have eT0 : tT0 y n s = 59 := by unfold tT0; rw [if_neg cd, if_pos z]
          refine pa_icmp_f (pc' := 233) dX12_next_230 (by rw [q59.mpr z]; decide) (by decide) rfl ?_
          refine pa_iload_n (pc' := 234) dX12_next_233 hl2 rfl ?_
          rw [q59.mpr z]
          refine pa_goto (pc' := 238) dX12_next_234 (by decide) ?_
          refine pa_putI (pc' := 241) (n := 39) dX12_next_238 fl_12_90 s196 (Or.inl rfl) (Or.inl rfl) rfl ?_
          refine pa_vret dX12_next_241 rfl ⟨rfl, fin _ ((K2.zs (by decide)).zs (by decide)) ?_ ?_ ?_ (fun z => by rw [eT0] at z; exact absurd z (by decide)) (fun z => by rw [eT0] at z; exact absurd z (by decide))⟩
          · rw [zsI_no (by omega), zsI_no (by omega)]; exact a4
          · rw [zsI_no (by omega), zsI_eq, eE0]
          · rw [zsI_eq, eT0]
        · have eT0 : tT0 y n s = 1 := by unfold tT0; rw [if_neg cd, if_neg z, if_neg ci, if_neg cq]
          refine pa_icmp_t (pc' := 237) dX12_next_230 (decide_eq_true (fun w => z (q59.mp w))) (by decide) ?_
          refine pa_iconst (v := 1) (pc' := 238) dX12_next_237 (by decide) rfl ?_
          refine pa_putI (pc' := 241) (n := 39) dX12_next_238 fl_12_90 s196 (Or.inl rfl) (Or.inl rfl) rfl ?_
          refine pa_vret dX12_next_241 rfl ⟨rfl, fin _ ((K2.zs (by decide)).zs (by decide)) ?_ ?_ ?_ (fun z => by rw [eT0] at z; exact absurd z (by decide)) (fun z => by rw [eT0] at z; exact absurd z (by decide))⟩
          · rw [zsI_no (by omega), zsI_no (by omega)]; exact a4
          · rw [zsI_no (by omega), zsI_eq, eE0]
          · rw [zsI_eq, eT0]
  · have cd : lkb g1 n s = -1 := by simpa [zcond] using cd
    rw [lk_m1 x1] at cd
    have eT0 : tT0 y n s = 0 := by unfold tT0; rw [if_pos cd]
    have eE0 : tE0 y n s = s := by unfold tE0; rw [if_pos cd]
    refine pa_aload_n (pc' := 48) dX12_next_47 hl0 rfl ?_
    refine pa_iconst (v := 0) (pc' := 49) dX12_next_48 (by decide) rfl ?_
    refine pa_putI (pc' := 52) (n := 39) dX12_next_49 fl_12_90 s196 (Or.inl rfl) (Or.inl rfl) rfl ?_
    refine pa_aload_n (pc' := 53) dX12_next_52 hl0 rfl ?_
    refine pa_iload_n (pc' := 54) dX12_next_53 hl1 rfl ?_
    refine pa_putI (pc' := 57) (n := 39) dX12_next_54 fl_12_74 s196 (Or.inl rfl) (Or.inl rfl) rfl ?_
    refine pa_goto (pc' := 241) dX12_next_57 (by decide) ?_
    refine pa_vret dX12_next_241 rfl ⟨rfl, fin _ ((K2.zs (by decide)).zs (by decide)) ?_ ?_ ?_ (fun z => by rw [eT0] at z; exact absurd z (by decide)) (fun z => by rw [eT0] at z; exact absurd z (by decide))⟩
    · rw [zsI_no (by omega), zsI_no (by omega)]; exact a4
    · rw [zsI_eq, eE0]
    · rw [zsI_no (by omega), zsI_eq, eT0]
end MDU
end Pk0
section Pk1
/-! the reference: faults, words -/
def mT (R0 : Nat → Nat → Int32) (y : Nat → Int32) (n p : Nat) (h : zH) : Prop := mx R0 y n h ∧ p ≤ n ∧ h.2.1 196 4 = nI (tS y n p) ∧ h.2.1 196 5 = nI (tE y n p) ∧ h.2.1 196 6 = tT y n p ∧ (tT y n p = 2 → h.2.1 196 8 = nI (tE y n p - tS y n p) ∧ ∀ k, k < tE y n p - tS y n p → h.2.1 198 k = y (tS y n p + k)) ∧ (tT y n p = 3 → h.2.1 196 7 = tNum y n p)
/-- the reference's row beside what was told -/
def rmN (nm : Nat → List Int32) (h : zH) : Prop := ∀ i, i < 20 → h.2.1 200 (183 + i) = nI (nm i).length ∧ ∀ k, k < (nm i).length → h.2.1 200 (203 + 8 * i + k) = (nm i).getD k 0
/-- numbers told, place by place -/
def mX (ok : Nat → Prop) (S : Nat → List Int32) (h : zH) : Prop := ∀ j, S (1000 + j) ≠ [] → ok j ∧ h.2.1 200 j = (S (1000 + j)).getD 0 0
theorem mX.add {ok : Nat → Prop} {S : Nat → List Int32} {i : Nat} {h : zH} {x : Int32} (k : mX ok S h) (hj : ok i) (hv : h.2.1 200 i = x) : mX ok (xS S i x) h := by
  intro j hj2
  rw [upX] at hj2 ⊢
  by_cases e : j = i
  · subst e
    rw [if_pos rfl]
    exact ⟨hj, hv⟩
  · rw [if_neg e] at hj2 ⊢
    exact k j hj2
theorem mX.mono {ok ok' : Nat → Prop} {S : Nat → List Int32} {h : zH} (k : mX ok S h) (e : ∀ j, ok j → ok' j) : mX ok' S h := fun j hj => ⟨e j (k j hj).1, (k j hj).2⟩
theorem mX.fr {ok : Nat → Prop} {S : Nat → List Int32} {h h' : zH} (k : mX ok S h) (e : ∀ j, S (1000 + j) ≠ [] → ok j → h'.2.1 200 j = h.2.1 200 j) : mX ok S h' := fun j hj => ⟨(k j hj).1, (e j hj (k j hj).1).trans (k j hj).2⟩
theorem mX.isl {ok : Nat → Prop} {S : Nat → List Int32} {i : Nat} {w : List Int32} {h : zH} (k : mX ok S h) (hi : i < 1000) : mX ok (upA S i w) h := fun j hj => by
  rw [upI_hi hi] at hj ⊢
  exact k j hj
theorem okX_lt {A : pA} {j : Nat} (k : okX A j) (b2 : cW A ≤ 12) (b3 : cH A ≤ 5) (b4 : cB A ≤ 8) (b5 : cS A ≤ 8) : (1 ≤ j ∧ j ≤ 3) ∨ (59 ≤ j ∧ j < 183) := by
  unfold okX at k
  omega
def rmC (A : pA) (h : zH) : Prop := (h.2.1 200 9 = if A.1 = 0 then 0 else 1) ∧ (A.1 ≠ 0 → h.2.1 200 0 = A.1) ∧ h.2.1 200 4 = nI (cI A) ∧ h.2.1 200 5 = nI (cW A) ∧ h.2.1 200 6 = nI (cH A) ∧ h.2.1 200 7 = nI (cB A) ∧ h.2.1 200 8 = nI (cS A)
  ∧ (∀ i, i < cI A → h.2.1 200 (10 + 7 * i) = nI (A.2.2.1 i).length ∧ ∀ k, k < (A.2.2.1 i).length → h.2.1 200 (10 + 7 * i + 1 + k) = (A.2.2.1 i).getD k 0 - 97)
  ∧ (∀ k, k < cW A → h.2.1 200 (59 + 4 * k) = nI (A.2.2.2.1 k).1 ∧ h.2.1 200 (59 + 4 * k + 1) = nI (A.2.2.2.1 k).2)
  ∧ (∀ k, k < cS A → h.2.1 200 (159 + 3 * k) = nI (A.2.2.2.2.1 k).1 ∧ h.2.1 200 (159 + 3 * k + 2) = (A.2.2.2.2.1 k).2)
  ∧ mX (okX A) A.2.2.1 h
def mS (R0 : Nat → Nat → Int32) (y : Nat → Int32) (n : Nat) (A : pA) (nm : Nat → List Int32) (p : Nat) (h : zH) : Prop := mT R0 y n p h ∧ h.2.1 196 13 = 0 ∧ rmC A h ∧ rmN nm h
def mF (R0 : Nat → Nat → Int32) (y : Nat → Int32) (n : Nat) (e : sF) (h : zH) : Prop := mx R0 y n h ∧ h.2.1 196 13 = 1 ∧ h.2.1 196 9 = e.1 ∧ h.2.1 196 10 = nI e.2
def wrg (h : zH) (k : Int32) (s : Nat) : zH := zsI (zsI (zsI h 196 13 1) 196 9 k) 196 10 (nI s)
section MDV
variable {R0 : Nat → Nat → Int32} {y : Nat → Int32} {n d N p k s : Nat} {h h' g : zH} {A : pA} {nm : Nat → List Int32} {e : sF}
theorem nM.mT (hx : mx R0 y n h) (hp : p ≤ n) (q : nM y n p h h') : mT R0 y n p h' :=
  ⟨hx.fr q.1 (congrArg (fun z => z.2.1) q.2.1) (q.2.2.1 196 3 (by omega) (by omega)) (fun a i hk => q.2.2.1 a i (by unfold mKp at hk; omega) (by unfold mKp at hk; omega)), hp, q.2.2.2.1, q.2.2.2.2.1, q.2.2.2.2.2.1, q.2.2.2.2.2.2.1, q.2.2.2.2.2.2.2⟩
theorem rmC.fr (k : rmC A h) (e : ∀ j, h'.2.1 200 j = h.2.1 200 j) : rmC A h' := by
  obtain ⟨k1, k2, k3, k4, k5, k6, k7, k8, k9, k10, k11⟩ := k
  refine ⟨(e _).trans k1, fun z => (e _).trans (k2 z), (e _).trans k3, (e _).trans k4, (e _).trans k5, (e _).trans k6, (e _).trans k7, fun i hi => ⟨(e _).trans (k8 i hi).1, fun j hj => (e _).trans ((k8 i hi).2 j hj)⟩, fun i hi => ⟨(e _).trans (k9 i hi).1, (e _).trans (k9 i hi).2⟩, fun i hi => ⟨(e _).trans (k10 i hi).1, (e _).trans (k10 i hi).2⟩, k11.fr (fun j _ _ => e j)⟩
theorem rmN.fr (k : rmN nm h) (e : ∀ j, h'.2.1 200 j = h.2.1 200 j) : rmN nm h' := fun i hi => ⟨(e _).trans (k i hi).1, fun j hj => (e _).trans ((k i hi).2 j hj)⟩
theorem mS.nx {q : Nat} (K : mS R0 y n A nm p h) (m : nM y n q h h') (hq : q ≤ n) : mS R0 y n A nm q h' :=
  ⟨m.mT K.1.1 hq, (m.2.2.1 196 13 (by omega) (by omega)).trans K.2.1, K.2.2.1.fr (fun j => m.2.2.1 200 j (by omega) (by omega)), K.2.2.2.fr (fun j => m.2.2.1 200 j (by omega) (by omega))⟩
theorem wrg_mF {k : Int32} (hx : mx R0 y n h) : mF R0 y n (k, s) (wrg h k s) := by
  refine ⟨((hx.zs (by decide) (by decide)).zs (by decide) (by decide)).zs (by decide) (by decide), ?_, ?_, zsI_eq⟩
  · show (zsI (zsI (zsI h 196 13 1) 196 9 k) 196 10 (nI s)).2.1 196 13 = 1
    rw [zsI_no (by omega), zsI_no (by omega), zsI_eq]
  · show (zsI (zsI (zsI h 196 13 1) 196 9 k) 196 10 (nI s)).2.1 196 9 = k
    rw [zsI_no (by omega), zsI_eq]
theorem m_wrong {k x : Int32} (hx : mx R0 y n h) (hf : h.2.1 196 13 = 0) (hs : x = nI s) : zPa d mX12_wrong [.inr (.inr (some 196)), .inl k, .inl x] h (fun v h' => v = none ∧ h' = wrg h k s) := by
  intro N
  have s196 := hx.sh sh_196
  subst hs
  show zPn N none d mX12_wrong (0, [(0, .inr (.inr (some 196))), (1, .inl k), (2, .inl (nI s))], [], h) _
  refine pa_aload_n (pc' := 1) dX12_wrong_0 rfl rfl ?_
  refine pa_getI (pc' := 4) (n := 39) dX12_wrong_1 fl_12_100 s196 (by decide) hf rfl ?_
  refine pa_if_t (pc' := 8) dX12_wrong_4 (by decide) (by decide) ?_
  refine pa_aload_n (pc' := 9) dX12_wrong_8 rfl rfl ?_
  refine pa_iconst (v := 1) (pc' := 10) dX12_wrong_9 (by decide) rfl ?_
  refine pa_putI (pc' := 13) (n := 39) dX12_wrong_10 fl_12_100 s196 (Or.inl rfl) (Or.inr ⟨rfl, by decide⟩) rfl ?_
  refine pa_aload_n (pc' := 14) dX12_wrong_13 rfl rfl ?_
  refine pa_iload_n (pc' := 15) dX12_wrong_14 rfl rfl ?_
  refine pa_putI (pc' := 18) (n := 39) dX12_wrong_15 fl_12_104 s196 (Or.inl rfl) (Or.inl rfl) rfl ?_
  refine pa_aload_n (pc' := 19) dX12_wrong_18 rfl rfl ?_
  refine pa_iload_n (pc' := 20) dX12_wrong_19 rfl rfl ?_
  refine pa_putI (pc' := 23) (n := 39) dX12_wrong_20 fl_12_13 s196 (Or.inl rfl) (Or.inl rfl) rfl ?_
  exact pa_vret dX12_wrong_23 rfl ⟨rfl, rfl⟩
theorem m_wrongF {k x : Int32} (hx : mx R0 y n h) (hf : h.2.1 196 13 = 1) : zPa d mX12_wrong [.inr (.inr (some 196)), .inl k, .inl x] h (fun v h' => v = none ∧ h' = h) := by
  intro N
  have s196 := hx.sh sh_196
  show zPn N none d mX12_wrong (0, [(0, .inr (.inr (some 196))), (1, .inl k), (2, .inl x)], [], h) _
  refine pa_aload_n (pc' := 1) dX12_wrong_0 rfl rfl ?_
  refine pa_getI (pc' := 4) (n := 39) dX12_wrong_1 fl_12_100 s196 (by decide) hf rfl ?_
  refine pa_if_f (pc' := 7) dX12_wrong_4 (by decide) (by decide) rfl ?_
  exact pa_vret dX12_wrong_7 rfl ⟨rfl, rfl⟩
theorem m_isWF {a : Nat} (hx : mx R0 y n h) (hf : h.2.1 196 13 = 1) : zPa d mX12_isWord [.inr (.inr (some 196)), .inr (.inr (some a))] h (fun v h' => h' = h ∧ v = some (.inl 0)) := by
  intro N
  have s196 := hx.sh sh_196
  show zPn N none d mX12_isWord (0, [(0, .inr (.inr (some 196))), (1, .inr (.inr (some a)))], [], h) _
  refine pa_aload_n (pc' := 1) dX12_isWord_0 rfl rfl ?_
  refine pa_getI (pc' := 4) (n := 39) dX12_isWord_1 fl_12_100 s196 (by decide) hf rfl ?_
  refine pa_if_t (pc' := 26) dX12_isWord_4 (by decide) (by decide) ?_
  refine pa_iconst (v := 0) (pc' := 27) dX12_isWord_26 (by decide) rfl ?_
  exact pa_iret dX12_isWord_27 rfl rfl ⟨rfl, rfl⟩
theorem m_isW {a : Nat} {bs : List Int32} (K : mT R0 y n p h) (hf : h.2.1 196 13 = 0) (hz : zsc a = some bs) : zPa d mX12_isWord [.inr (.inr (some 196)), .inr (.inr (some a))] h (fun v h' => h' = h ∧ ((v = some (.inl 1) ∧ wIs y n p bs) ∨ (v = some (.inl 0) ∧ ¬ wIs y n p bs))) := by
  intro N
  obtain ⟨hx, hp, k4, k5, k6, k8, k7⟩ := K
  have s196 := hx.sh sh_196
  have s198 := hx.sh sh_198
  have r196_12 := hx.2.1 _ _ _ rf_196_12
  have hn := hx.2.2.2.1
  obtain ⟨u1, u2, u3⟩ := tE_sp (y := y) hp
  obtain ⟨-, hl, -⟩ := zsc_get hz
  show zPn N none d mX12_isWord (0, [(0, .inr (.inr (some 196))), (1, .inr (.inr (some a)))], [], h) _
  have bad : ∀ {N : Nat}, ¬ wIs y n p bs → zPn N none d mX12_isWord (26, [(0, .inr (.inr (some 196))), (1, .inr (.inr (some a)))], [], h) (fun v h' => h' = h ∧ ((v = some (.inl 1) ∧ wIs y n p bs) ∨ (v = some (.inl 0) ∧ ¬ wIs y n p bs))) := by
    intro N z
    refine pa_iconst (v := 0) (pc' := 27) dX12_isWord_26 (by decide) rfl ?_
    exact pa_iret dX12_isWord_27 rfl rfl ⟨rfl, .inr ⟨rfl, z⟩⟩
  refine pa_aload_n (pc' := 1) dX12_isWord_0 rfl rfl ?_
  refine pa_getI (pc' := 4) (n := 39) dX12_isWord_1 fl_12_100 s196 (by decide) hf rfl ?_
  refine pa_if_f (pc' := 7) dX12_isWord_4 (by decide) (by decide) rfl ?_
  refine pa_aload_n (pc' := 8) dX12_isWord_7 rfl rfl ?_
  refine pa_getI (pc' := 11) (n := 39) dX12_isWord_8 fl_12_90 s196 (by decide) k6 rfl ?_
  refine pa_iconst (v := 2) (pc' := 12) dX12_isWord_11 (by decide) rfl ?_
  refine pa_icmp (pc' := 26) (pc2 := 15) dX12_isWord_12 (by decide) rfl (fun cd => bad (fun z => by
    have cd : ¬ tT y n p = 2 := by simpa [zcond] using cd
    exact cd z.1)) (fun cd => ?_)
  have t2 : tT y n p = 2 := by simpa [zcond] using cd
  obtain ⟨k8, kl⟩ := k8 t2
  obtain ⟨w1, w2, w3⟩ := tW_ok hp t2
  have el : (tW y n p).length = tE y n p - tS y n p := seg_len
  refine pa_aload_n (pc' := 16) dX12_isWord_15 rfl rfl ?_
  refine pa_getI (pc' := 19) (n := 39) dX12_isWord_16 fl_12_84 s196 (by decide) k8 rfl ?_
  refine pa_aload_n (pc' := 20) dX12_isWord_19 rfl rfl ?_
  refine pa_strlen (pc' := 23) dX12_isWord_20 ml_12_107 hz (zble rfl) rfl ?_
  refine pa_icmp (pc' := 28) (pc2 := 26) dX12_isWord_23 (by decide) rfl (fun cd2 => ?_) (fun cd2 => bad (fun z => by
    have cd2 : ¬ nI (tE y n p - tS y n p) = nI bs.length := by simpa [zcond] using cd2
    exact cd2 (by rw [z.2.1])))
  have cd2 : nI (tE y n p - tS y n p) = nI bs.length := by simpa [zcond] using cd2
  have cd2 : tE y n p - tS y n p = bs.length := by
    have := congrArg Int32.toInt cd2
    rw [nI_toInt (by omega), nI_toInt (by omega)] at this
    omega
  have loop : ∀ (N j : Nat) (b : Int32) (ls : zL), (b = 0 ∨ b = 1) → (b = 1 ↔ ∀ k, k < j → y (tS y n p + k) = bs.getD k 0) → zget ls 0 = some (.inr (.inr (some 196))) → zget ls 1 = some (.inr (.inr (some a))) → zget ls 2 = some (.inl b) → zget ls 3 = some (.inl (nI j)) → j ≤ bs.length → zPn N none d mX12_isWord (32, ls, [], h) (fun v h' => h' = h ∧ ((v = some (.inl 1) ∧ wIs y n p bs) ∨ (v = some (.inl 0) ∧ ¬ wIs y n p bs))) := by
    intro N
    induction N with
    | zero => intro j b ls _ _ _ _ _ _ _; exact zPn.zero
    | succ N ih =>
      intro j b ls hb hbi hl0 hl1 hl2 hl3 hj
      refine pa_iload_n (pc' := 33) dX12_isWord_32 hl3 rfl ?_
      refine pa_aload_n (pc' := 34) dX12_isWord_33 hl0 rfl ?_
      refine pa_getI (pc' := 37) (n := 39) dX12_isWord_34 fl_12_84 s196 (by decide) k8 rfl ?_
      refine pa_icmp (pc' := 70) (pc2 := 40) dX12_isWord_37 (by decide) rfl (fun cd3 => ?_) (fun cd3 => ?_)
      · have cd3 := zi_nlt (zk_ge_lt cd3)
        rw [nI_toInt (by omega), nI_toInt (by omega)] at cd3
        have ej : j = bs.length := by omega
        refine pa_iload_n (pc' := 71) dX12_isWord_70 hl2 rfl ?_
        rcases hb with rfl | rfl
        · refine pa_iret dX12_isWord_71 rfl rfl ⟨rfl, .inr ⟨rfl, fun z => ?_⟩⟩
          have := hbi.mpr (fun k hk => z.2.2 k (by omega))
          exact absurd this (by decide)
        · refine pa_iret dX12_isWord_71 rfl rfl ⟨rfl, .inl ⟨rfl, t2, cd2, fun k hk => hbi.mp rfl k (by omega)⟩⟩
      · have cd3 := zi_lt (zk_ge_lt cd3)
        rw [nI_toInt (by omega), nI_toInt (by omega)] at cd3
        have nxt : ∀ (b' : Int32) (ls' : zL), (b' = 0 ∨ b' = 1) → (b' = 1 ↔ ∀ k, k < j + 1 → y (tS y n p + k) = bs.getD k 0) → zget ls' 0 = some (.inr (.inr (some 196))) → zget ls' 1 = some (.inr (.inr (some a))) → zget ls' 2 = some (.inl b') → zget ls' 3 = some (.inl (nI j)) → zPn (N + 1) none d mX12_isWord (64, ls', [], h) (fun v h' => h' = h ∧ ((v = some (.inl 1) ∧ wIs y n p bs) ∨ (v = some (.inl 0) ∧ ¬ wIs y n p bs))) := by
          intro b' ls' c1 c2 z0 z1 z2 z3
          refine pa_iinc (pc' := 67) (v := nI (j + 1)) dX12_isWord_64 z3 (by decide) (nI_add j 1) rfl rfl ?_
          refine pa_gotos (pc' := 32) dX12_isWord_67 (by decide) ?_
          exact ih (j + 1) b' _ c1 c2 (zget_s1 z0 (by decide) (by simp [zcat])) (zget_s1 z1 (by decide) (by simp [zcat])) (zget_s1 z2 (by decide) (by simp [zcat])) zget_s1e (by omega)
        have zero : (∃ k, k < j + 1 ∧ ¬ y (tS y n p + k) = bs.getD k 0) → zPn (N + 1) none d mX12_isWord (62, ls, [], h) (fun v h' => h' = h ∧ ((v = some (.inl 1) ∧ wIs y n p bs) ∨ (v = some (.inl 0) ∧ ¬ wIs y n p bs))) := by
          intro ⟨k, hk, z⟩
          refine pa_iconst (v := 0) (pc' := 63) dX12_isWord_62 (by decide) rfl ?_
          refine pa_istore_n (pc' := 64) dX12_isWord_63 (by decide) rfl rfl ?_
          exact nxt 0 _ (.inl rfl) ⟨fun w => absurd w (by decide), fun w => absurd (w k hk) z⟩ (zget_s1 hl0 (by decide) (by simp [zcat])) (zget_s1 hl1 (by decide) (by simp [zcat])) zget_s1e (zget_s1 hl3 (by decide) (by simp [zcat]))
        refine pa_iload_n (pc' := 41) dX12_isWord_40 hl2 rfl ?_
        rcases hb with rfl | rfl
        · refine pa_if_t (pc' := 62) dX12_isWord_41 (by decide) (by decide) ?_
          refine zero ?_
          apply Classical.byContradiction
          intro w
          have : (0 : Int32) = 1 := hbi.mpr (fun k hk => Classical.byContradiction (fun z => w ⟨k, by omega, z⟩))
          exact absurd this (by decide)
        · refine pa_if_f (pc' := 44) dX12_isWord_41 (by decide) (by decide) rfl ?_
          refine pa_aload_n (pc' := 45) dX12_isWord_44 hl0 rfl ?_
          refine pa_getR (pc' := 48) (n := 39) (r := 198) dX12_isWord_45 fl_12_17 s196 (by decide) r196_12 rfl ?_
          refine pa_iload_n (pc' := 49) dX12_isWord_48 hl3 rfl ?_
          refine pa_iald (pc' := 50) (n := 8) dX12_isWord_49 s198 rfl (fun _ => ?_)
          rw [nI_clamp (by omega), kl j (by omega)]
          refine pa_aload_n (pc' := 51) dX12_isWord_50 hl1 rfl ?_
          refine pa_iload_n (pc' := 52) dX12_isWord_51 hl3 rfl ?_
          refine pa_strchar (pc' := 55) dX12_isWord_52 ml_12_113 hz (zble rfl) (zn_in (by omega) (by omega)) rfl ?_
          rw [nI_clamp (by omega)]
          refine pa_icmp (pc' := 62) (pc2 := 58) dX12_isWord_55 (by decide) rfl (fun cd4 => zero ⟨j, by omega, by simpa [zcond] using cd4⟩) (fun cd4 => ?_)
          have cd4 : y (tS y n p + j) = bs.getD j 0 := by simpa [zcond] using cd4
          refine pa_iconst (v := 1) (pc' := 59) dX12_isWord_58 (by decide) rfl ?_
          refine pa_goto (pc' := 63) dX12_isWord_59 (by decide) ?_
          refine pa_istore_n (pc' := 64) dX12_isWord_63 (by decide) rfl rfl ?_
          refine nxt 1 _ (.inr rfl) ⟨fun _ k hk => ?_, fun _ => rfl⟩ (zget_s1 hl0 (by decide) (by simp [zcat])) (zget_s1 hl1 (by decide) (by simp [zcat])) zget_s1e (zget_s1 hl3 (by decide) (by simp [zcat]))
          rcases Nat.lt_or_ge k j with w | w
          · exact hbi.mp rfl k w
          · have : k = j := by omega
            subst this
            exact cd4
  refine pa_iconst (v := 1) (pc' := 29) dX12_isWord_28 (by decide) rfl ?_
  refine pa_istore_n (pc' := 30) dX12_isWord_29 (by decide) rfl rfl ?_
  refine pa_iconst (v := nI 0) (pc' := 31) dX12_isWord_30 (by decide) rfl ?_
  refine pa_istore_n (pc' := 32) dX12_isWord_31 (by decide) rfl rfl ?_
  exact loop N 0 1 _ (.inr rfl) ⟨fun _ k hk => absurd hk (Nat.not_lt_zero k), fun _ => rfl⟩ rfl rfl rfl rfl (Nat.zero_le _)
/-- a word that must come; a fault stays -/
def muR (R0 : Nat → Nat → Int32) (y : Nat → Int32) (n : Nat) (A : pA) (nm : Nat → List Int32) (h : zH) (r : sF ⊕ Nat) (v : Option zV) (h' : zH) : Prop := v = none ∧ (∀ a j, a ≠ 196 → a ≠ 198 → h'.2.1 a j = h.2.1 a j) ∧ (match r with
  | .inl e => mF R0 y n e h'
  | .inr q => mS R0 y n A nm q h')
theorem M_mustF {a : Nat} (hx : mx R0 y n h) (hf : h.2.1 196 13 = 1) : zPa d mX12_must [.inr (.inr (some 196)), .inr (.inr (some a))] h (fun v h' => v = none ∧ h' = h) := by
  intro N
  have s196 := hx.sh sh_196
  show zPn N none d mX12_must (0, [(0, .inr (.inr (some 196))), (1, .inr (.inr (some a)))], [], h) _
  refine pa_aload_n (pc' := 1) dX12_must_0 rfl rfl ?_
  refine pa_getI (pc' := 4) (n := 39) dX12_must_1 fl_12_100 s196 (by decide) hf rfl ?_
  refine pa_if_t (pc' := 24) dX12_must_4 (by decide) (by decide) ?_
  exact pa_vret dX12_must_24 rfl ⟨rfl, rfl⟩
theorem M_must {a : Nat} {bs : List Int32} (K : mS R0 y n A nm p h) (hz : zsc a = some bs) : zPa d mX12_must [.inr (.inr (some 196)), .inr (.inr (some a))] h (muR R0 y n A nm h (sWord y n bs p)) := by
  intro N
  have hx := K.1.1
  have hp := K.1.2.1
  have s196 := hx.sh sh_196
  have hf := K.2.1
  have hT : zPa (d - 1) mX12_takesWord [.inr (.inr (some 196)), .inr (.inr (some a))] h (fun v h' => (v = some (.inl 1) ∧ wIs y n p bs ∧ nM y n (tE y n p) h h') ∨ (v = some (.inl 0) ∧ ¬ wIs y n p bs ∧ h' = h)) := by
    intro N
    show zPn N none (d - 1) mX12_takesWord (0, [(0, .inr (.inr (some 196))), (1, .inr (.inr (some a)))], [], h) _
    refine pa_aload_n (pc' := 1) dX12_takesWord_0 rfl rfl ?_
    refine pa_aload_n (pc' := 2) dX12_takesWord_1 rfl rfl ?_
    refine pa_callv (pc' := 5) (vs := [.inr (.inr (some a))]) (rest := []) dX12_takesWord_2 ml_12_117 (by decide) rfl rfl rfl (fun d' _ => m_isW K.1 hf hz) (fun r g hq => ?_)
    obtain ⟨eg, hq⟩ := hq
    subst eg
    rcases hq with ⟨er, w⟩ | ⟨er, w⟩ <;> subst er
    · refine pa_if_t (x := 1) (pc' := 10) dX12_takesWord_5 (by decide) (by decide) ?_
      refine pa_aload_n (pc' := 11) dX12_takesWord_10 rfl rfl ?_
      refine pa_callv (pc' := 14) (vs := []) (rest := []) dX12_takesWord_11 ml_12_121 (by decide) rfl rfl rfl (fun d' _ => m_next hx K.1.2.2.2.1 (tE_sp hp).2.1) (fun r g2 hq => ?_)
      obtain ⟨er, hq⟩ := hq
      subst er
      refine pa_iconst (v := 1) (pc' := 15) dX12_takesWord_14 (by decide) rfl ?_
      exact pa_iret dX12_takesWord_15 rfl rfl (.inl ⟨rfl, w, hq⟩)
    · refine pa_if_f (x := 0) (pc' := 8) dX12_takesWord_5 (by decide) (by decide) rfl ?_
      refine pa_iconst (v := 0) (pc' := 9) dX12_takesWord_8 (by decide) rfl ?_
      exact pa_iret dX12_takesWord_9 rfl rfl (.inr ⟨rfl, w, rfl⟩)
  show zPn N none d mX12_must (0, [(0, .inr (.inr (some 196))), (1, .inr (.inr (some a)))], [], h) _
  refine pa_aload_n (pc' := 1) dX12_must_0 rfl rfl ?_
  refine pa_getI (pc' := 4) (n := 39) dX12_must_1 fl_12_100 s196 (by decide) hf rfl ?_
  refine pa_if_f (pc' := 7) dX12_must_4 (by decide) (by decide) rfl ?_
  refine pa_aload_n (pc' := 8) dX12_must_7 rfl rfl ?_
  refine pa_aload_n (pc' := 9) dX12_must_8 rfl rfl ?_
  refine pa_callv (pc' := 12) (vs := [.inr (.inr (some a))]) (rest := []) dX12_must_9 ml_12_124 (by decide) rfl rfl rfl (fun d' e => by rw [show d' = d - 1 by omega]; exact hT) (fun r g hq => ?_)
  rcases hq with ⟨er, w, q⟩ | ⟨er, w, q⟩
  · subst er
    refine pa_if_t (x := 1) (pc' := 24) dX12_must_12 (by decide) (by decide) ?_
    refine pa_vret dX12_must_24 rfl ⟨rfl, fun a j h1 h2 => q.2.2.1 a j (by omega) h2, ?_⟩
    unfold sWord
    rw [if_pos (wIs_w.mp w)]
    exact K.nx q (tE_sp hp).2.1
  · subst er; subst q
    refine pa_if_f (x := 0) (pc' := 15) dX12_must_12 (by decide) (by decide) rfl ?_
    have k4 := K.1.2.2.1
    refine pa_aload_n (pc' := 16) dX12_must_15 rfl rfl ?_
    refine pa_iconst (v := 1) (pc' := 17) dX12_must_16 (by decide) rfl ?_
    refine pa_aload_n (pc' := 18) dX12_must_17 rfl rfl ?_
    refine pa_getI (pc' := 21) (n := 39) dX12_must_18 fl_12_81 s196 (by decide) k4 rfl ?_
    refine pa_callv (pc' := 24) (vs := [.inl 1, .inl (nI (tS y n p))]) (rest := []) dX12_must_21 ml_12_127 (by decide) rfl rfl rfl (fun d' _ => m_wrong hx hf rfl) (fun r g2 hq => ?_)
    obtain ⟨er, hq⟩ := hq
    subst er; subst hq
    refine pa_vret dX12_must_24 rfl ⟨rfl, fun a j h1 _ => ?_, ?_⟩
    · show (zsI (zsI (zsI g 196 13 1) 196 9 1) 196 10 _).2.1 a j = _
      rw [zsI_no (by omega), zsI_no (by omega), zsI_no (by omega)]
    · unfold sWord
      rw [if_neg (fun z => w (wIs_w.mpr z))]
      exact wrg_mF hx
end MDV
end Pk1
section Pk2
/-! the reference: numbers, names -/
def bindS {α β : Type} (r : sF ⊕ α) (f : α → sF ⊕ β) : sF ⊕ β := match r with
  | .inl e => .inl e
  | .inr a => f a
def fr6 (h h' : zH) : Prop := ∀ a j, a ≠ 196 → a ≠ 198 → h'.2.1 a j = h.2.1 a j
def mE (R0 : Nat → Nat → Int32) (y : Nat → Int32) (n : Nat) (A : pA) (nm : Nat → List Int32) (r : sF ⊕ Nat) (h : zH) : Prop := match r with
  | .inl e => mF R0 y n e h
  | .inr q => mS R0 y n A nm q h
section MDW
variable {R0 : Nat → Nat → Int32} {y : Nat → Int32} {n d N p k s : Nat} {h h' g : zH} {A : pA} {nm : Nat → List Int32} {e : sF} {r : sF ⊕ Nat}
theorem mE.mx (K : mE R0 y n A nm r h) : mx R0 y n h := by
  unfold mE at K
  split at K
  · exact K.1
  · exact K.1.1
theorem wrg_fr {k : Int32} : fr6 h (wrg h k s) := by
  intro a j h1 _
  show (zsI (zsI (zsI h 196 13 1) 196 9 k) 196 10 _).2.1 a j = _
  rw [zsI_no (by omega), zsI_no (by omega), zsI_no (by omega)]
theorem nM_fr (q : nM y n p h h') : fr6 h h' := fun a j h1 h2 => q.2.2.1 a j (by omega) h2
theorem fr6.tr {h1 h2 : zH} (a : fr6 h h1) (b : fr6 h1 h2) : fr6 h h2 := fun x j q1 q2 => (b x j q1 q2).trans (a x j q1 q2)
theorem fr6.rf : fr6 h h := fun _ _ _ _ => rfl
theorem in_ex2 {x lo hi : Int32} : zPa d mX12_in [.inl x, .inl lo, .inl hi] h (fun v h' => h' = h ∧ ((v = some (.inl 1) ∧ lo ≤ x ∧ x ≤ hi) ∨ (v = some (.inl 0) ∧ ¬ (lo ≤ x ∧ x ≤ hi)))) := by
  intro N
  show zPn N none d mX12_in (0, [(0, .inl x), (1, .inl lo), (2, .inl hi)], [], h) _
  refine pa_iload_n (pc' := 1) dX12_in_0 rfl rfl ?_
  refine pa_iload_n (pc' := 2) dX12_in_1 rfl rfl ?_
  refine pa_icmp (pc' := 14) (pc2 := 5) dX12_in_2 (by decide) rfl (fun c => ?_) (fun c => ?_)
  · refine pa_iconst (v := 0) (pc' := 15) dX12_in_14 (by decide) rfl ?_
    exact pa_iret dX12_in_15 rfl rfl ⟨rfl, .inr ⟨rfl, fun q => by have := zi_lt c; have := Int32.le_iff_toInt_le.mp q.1; omega⟩⟩
  · refine pa_iload_n (pc' := 6) dX12_in_5 rfl rfl ?_
    refine pa_iload_n (pc' := 7) dX12_in_6 rfl rfl ?_
    refine pa_icmp (pc' := 14) (pc2 := 10) dX12_in_7 (by decide) rfl (fun c2 => ?_) (fun c2 => ?_)
    · refine pa_iconst (v := 0) (pc' := 15) dX12_in_14 (by decide) rfl ?_
      exact pa_iret dX12_in_15 rfl rfl ⟨rfl, .inr ⟨rfl, fun q => by have := zi_gt c2; have := Int32.le_iff_toInt_le.mp q.2; omega⟩⟩
    · refine pa_iconst (v := 1) (pc' := 11) dX12_in_10 (by decide) rfl ?_
      refine pa_goto (pc' := 15) dX12_in_11 (by decide) ?_
      exact pa_iret dX12_in_15 rfl rfl ⟨rfl, .inl ⟨rfl, Int32.le_iff_toInt_le.mpr (zi_nlt c), Int32.le_iff_toInt_le.mpr (zi_ngt c2)⟩⟩
def nuM (R0 : Nat → Nat → Int32) (y : Nat → Int32) (n : Nat) (A : pA) (nm : Nat → List Int32) (h : zH) (r : sF ⊕ (Int32 × Nat)) (v : Option zV) (h' : zH) : Prop := fr6 h h' ∧ ∃ x, v = some (.inl x) ∧ (match r with
  | .inl e => mF R0 y n e h'
  | .inr q => x = q.1 ∧ mS R0 y n A nm q.2 h')
theorem M_num {lo hi : Int32} (K : mE R0 y n A nm r h) : zPa d mX12_number [.inr (.inr (some 196)), .inl lo, .inl hi] h (nuM R0 y n A nm h (bindS r (sNum y n lo hi))) := by
  intro N
  have hx := K.mx
  have s196 := hx.sh sh_196
  show zPn N none d mX12_number (0, [(0, .inr (.inr (some 196))), (1, .inl lo), (2, .inl hi)], [], h) _
  cases r with
  | inl e =>
    have hf := (show mF R0 y n e h from K).2.1
    refine pa_aload_n (pc' := 1) dX12_number_0 rfl rfl ?_
    refine pa_getI (pc' := 4) (n := 39) dX12_number_1 fl_12_100 s196 (by decide) hf rfl ?_
    refine pa_if_f (pc' := 7) dX12_number_4 (by decide) (by decide) rfl ?_
    refine pa_iload_n (pc' := 8) dX12_number_7 rfl rfl ?_
    exact pa_iret dX12_number_8 rfl rfl ⟨fr6.rf, lo, rfl, K⟩
  | inr p =>
    have K : mS R0 y n A nm p h := K
    obtain ⟨⟨-, hp, k4, k5, k6, k8, k7⟩, hf, K3, K4⟩ := K
    have K : mS R0 y n A nm p h := ⟨⟨hx, hp, k4, k5, k6, k8, k7⟩, hf, K3, K4⟩
    show zPn N none d mX12_number _ (nuM R0 y n A nm h (sNum y n lo hi p))
    have bad : ∀ (g : zH) (e : sF), fr6 h g → mF R0 y n e g → sNum y n lo hi p = .inl e → zPn N none d mX12_number (50, [(0, .inr (.inr (some 196))), (1, .inl lo), (2, .inl hi)], [], g) (nuM R0 y n A nm h (sNum y n lo hi p)) := by
      intro g e hfr hF he
      have s196 := hF.1.sh sh_196
      have hf := hF.2.1
      refine pa_aload_n (pc' := 51) dX12_number_50 rfl rfl ?_
      refine pa_getI (pc' := 54) (n := 39) dX12_number_51 fl_12_100 s196 (by decide) hf rfl ?_
      refine pa_if_f (pc' := 57) dX12_number_54 (by decide) (by decide) rfl ?_
      refine pa_iload_n (pc' := 58) dX12_number_57 rfl rfl ?_
      refine pa_iret dX12_number_58 rfl rfl ⟨hfr, lo, rfl, ?_⟩
      rw [he]
      exact hF
    refine pa_aload_n (pc' := 1) dX12_number_0 rfl rfl ?_
    refine pa_getI (pc' := 4) (n := 39) dX12_number_1 fl_12_100 s196 (by decide) hf rfl ?_
    refine pa_if_t (pc' := 9) dX12_number_4 (by decide) (by decide) ?_
    refine pa_aload_n (pc' := 10) dX12_number_9 rfl rfl ?_
    refine pa_getI (pc' := 13) (n := 39) dX12_number_10 fl_12_90 s196 (by decide) k6 rfl ?_
    refine pa_iconst (v := 3) (pc' := 14) dX12_number_13 (by decide) rfl ?_
    refine pa_icmp (pc' := 29) (pc2 := 17) dX12_number_14 (by decide) rfl (fun cd => ?_) (fun cd => ?_)
    · have t3 : tT y n p = 3 := by simpa [zcond] using cd
      have k7 := k7 t3
      refine pa_aload_n (pc' := 30) dX12_number_29 rfl rfl ?_
      refine pa_getI (pc' := 33) (n := 39) dX12_number_30 fl_12_87 s196 (by decide) k7 rfl ?_
      refine pa_iload_n (pc' := 34) dX12_number_33 rfl rfl ?_
      refine pa_iload_n (pc' := 35) dX12_number_34 rfl rfl ?_
      refine pa_calls (pc' := 38) (kd := 1) (vs := [.inl (tNum y n p), .inl lo, .inl hi]) (rest := []) dX12_number_35 ml_12_149 (.inl rfl) rfl rfl rfl (fun d' _ => in_ex2) (fun r g hq => ?_)
      obtain ⟨eg, hq⟩ := hq
      subst eg
      rcases hq with ⟨er, c1⟩ | ⟨er, c1⟩ <;> subst er
      · refine pa_if_t (x := 1) (pc' := 50) dX12_number_38 (by decide) (by decide) ?_
        refine pa_aload_n (pc' := 51) dX12_number_50 rfl rfl ?_
        refine pa_getI (pc' := 54) (n := 39) dX12_number_51 fl_12_100 s196 (by decide) hf rfl ?_
        refine pa_if_t (pc' := 59) dX12_number_54 (by decide) (by decide) ?_
        refine pa_aload_n (pc' := 60) dX12_number_59 rfl rfl ?_
        refine pa_getI (pc' := 63) (n := 39) dX12_number_60 fl_12_87 s196 (by decide) k7 rfl ?_
        refine pa_istore_n (pc' := 64) dX12_number_63 (by decide) rfl rfl ?_
        refine pa_aload_n (pc' := 65) dX12_number_64 rfl rfl ?_
        refine pa_callv (pc' := 68) (vs := []) (rest := []) dX12_number_65 ml_12_121 (by decide) rfl rfl rfl (fun d' _ => m_next hx k5 (tE_sp hp).2.1) (fun r g2 hq => ?_)
        obtain ⟨er, hq⟩ := hq
        subst er
        refine pa_iload_n (pc' := 69) dX12_number_68 rfl rfl ?_
        refine pa_iret dX12_number_69 rfl rfl ⟨nM_fr hq, tNum y n p, rfl, ?_⟩
        unfold sNum
        rw [if_pos t3, if_pos c1]
        exact ⟨rfl, K.nx hq (tE_sp hp).2.1⟩
      · refine pa_if_f (x := 0) (pc' := 41) dX12_number_38 (by decide) (by decide) rfl ?_
        refine pa_aload_n (pc' := 42) dX12_number_41 rfl rfl ?_
        refine pa_iconst (v := 4) (pc' := 43) dX12_number_42 (by decide) rfl ?_
        refine pa_aload_n (pc' := 44) dX12_number_43 rfl rfl ?_
        refine pa_getI (pc' := 47) (n := 39) dX12_number_44 fl_12_81 s196 (by decide) k4 rfl ?_
        refine pa_callv (pc' := 50) (vs := [.inl 4, .inl (nI (tS y n p))]) (rest := []) dX12_number_47 ml_12_127 (by decide) rfl rfl rfl (fun d' _ => m_wrong hx hf rfl) (fun r g2 hq => ?_)
        obtain ⟨er, hq⟩ := hq
        subst er; subst hq
        exact bad _ (4, tS y n p) wrg_fr (wrg_mF hx) (by unfold sNum; rw [if_pos t3, if_neg c1])
    · have t3 : ¬ tT y n p = 3 := by simpa [zcond] using cd
      refine pa_aload_n (pc' := 18) dX12_number_17 rfl rfl ?_
      refine pa_iconst (v := 1) (pc' := 19) dX12_number_18 (by decide) rfl ?_
      refine pa_aload_n (pc' := 20) dX12_number_19 rfl rfl ?_
      refine pa_getI (pc' := 23) (n := 39) dX12_number_20 fl_12_81 s196 (by decide) k4 rfl ?_
      refine pa_callv (pc' := 26) (vs := [.inl 1, .inl (nI (tS y n p))]) (rest := []) dX12_number_23 ml_12_127 (by decide) rfl rfl rfl (fun d' _ => m_wrong hx hf rfl) (fun r g2 hq => ?_)
      obtain ⟨er, hq⟩ := hq
      subst er; subst hq
      refine pa_goto (pc' := 50) dX12_number_26 (by decide) ?_
      exact bad _ (1, tS y n p) wrg_fr (wrg_mF hx) (by unfold sNum; rw [if_neg t3])
theorem M_mustE {a : Nat} {bs : List Int32} (K : mE R0 y n A nm r h) (hz : zsc a = some bs) : zPa d mX12_must [.inr (.inr (some 196)), .inr (.inr (some a))] h (fun v h' => v = none ∧ fr6 h h' ∧ mE R0 y n A nm (bindS r (sWord y n bs)) h') := by
  cases r with
  | inl e => exact (M_mustF K.1 K.2.1).mono (fun v h' hq => ⟨hq.1, by rw [hq.2]; exact fr6.rf, by rw [hq.2]; exact K⟩)
  | inr p =>
    refine (M_must K hz).mono (fun v h' hq => ⟨hq.1, fun a j h1 h2 => hq.2.1 a j h1 h2, ?_⟩)
    show mE R0 y n A nm (sWord y n bs p) h'
    have h3 := hq.2.2
    unfold mE
    split
    · next e1 => rw [e1] at h3; exact h3
    · next e1 => rw [e1] at h3; exact h3
theorem M_after {a : Nat} {bs : List Int32} {lo hi : Int32} (K : mE R0 y n A nm r h) (hz : zsc a = some bs) : zPa d mX12_after [.inr (.inr (some 196)), .inr (.inr (some a)), .inl lo, .inl hi] h (nuM R0 y n A nm h (bindS r (sWN y n bs lo hi))) := by
  intro N
  show zPn N none d mX12_after (0, [(0, .inr (.inr (some 196))), (1, .inr (.inr (some a))), (2, .inl lo), (3, .inl hi)], [], h) _
  refine pa_aload_n (pc' := 1) dX12_after_0 rfl rfl ?_
  refine pa_aload_n (pc' := 2) dX12_after_1 rfl rfl ?_
  refine pa_callv (pc' := 5) (vs := [.inr (.inr (some a))]) (rest := []) dX12_after_2 ml_12_157 (by decide) rfl rfl rfl (fun d' _ => M_mustE K hz) (fun v g hq => ?_)
  obtain ⟨er, hfr, K1⟩ := hq
  subst er
  show zPn N none d mX12_after (5, [(0, .inr (.inr (some 196))), (1, .inr (.inr (some a))), (2, .inl lo), (3, .inl hi)], [], g) _
  refine pa_aload_n (pc' := 6) dX12_after_5 rfl rfl ?_
  refine pa_iload_n (pc' := 7) dX12_after_6 rfl rfl ?_
  refine pa_iload_n (pc' := 8) dX12_after_7 rfl rfl ?_
  refine pa_callv (pc' := 11) (vs := [.inl lo, .inl hi]) (rest := []) dX12_after_8 ml_12_164 (by decide) rfl rfl rfl (fun d' _ => M_num K1) (fun v g2 hq => ?_)
  obtain ⟨hfr2, x, er, hq⟩ := hq
  subst er
  refine pa_iret (x := x) dX12_after_11 rfl rfl ⟨hfr.tr hfr2, x, rfl, ?_⟩
  have eb : bindS (bindS r (sWord y n bs)) (sNum y n lo hi) = bindS r (sWN y n bs lo hi) := by
    cases r with
    | inl e => rfl
    | inr p =>
      show bindS (sWord y n bs p) (sNum y n lo hi) = sWN y n bs lo hi p
      unfold sWN bindS
      cases sWord y n bs p <;> rfl
  rw [eb] at hq
  exact hq
/-! names -/
theorem M_mustName (K : mS R0 y n A nm p h) : zPa d mX12_mustName [.inr (.inr (some 196))] h (fun v h' => v = none ∧ ((isNb y n p = true ∧ h' = h) ∨ (isNb y n p = false ∧ h' = wrg h 1 (tS y n p)))) := by
  intro N
  have hx := K.1.1
  have s196 := hx.sh sh_196
  have k4 := K.1.2.2.1
  have k6 := K.1.2.2.2.2.1
  have hf := K.2.1
  show zPn N none d mX12_mustName (0, [(0, .inr (.inr (some 196)))], [], h) _
  have bad : ¬ isN y n p → zPn N none d mX12_mustName (62, [(0, .inr (.inr (some 196)))], [], h) (fun v h' => v = none ∧ ((isNb y n p = true ∧ h' = h) ∨ (isNb y n p = false ∧ h' = wrg h 1 (tS y n p)))) := by
    intro z
    refine pa_aload_n (pc' := 63) dX12_mustName_62 rfl rfl ?_
    refine pa_iconst (v := 1) (pc' := 64) dX12_mustName_63 (by decide) rfl ?_
    refine pa_aload_n (pc' := 65) dX12_mustName_64 rfl rfl ?_
    refine pa_getI (pc' := 68) (n := 39) dX12_mustName_65 fl_12_81 s196 (by decide) k4 rfl ?_
    refine pa_callv (pc' := 71) (vs := [.inl 1, .inl (nI (tS y n p))]) (rest := []) dX12_mustName_68 ml_12_127 (by decide) rfl rfl rfl (fun d' _ => m_wrong hx hf rfl) (fun r g2 hq => ?_)
    obtain ⟨er, hq⟩ := hq
    subst er; subst hq
    refine pa_vret dX12_mustName_71 rfl ⟨rfl, .inr ⟨?_, rfl⟩⟩
    cases e : isNb y n p with
    | false => rfl
    | true => exact absurd (isNb_n.mp e) z
  refine pa_aload_n (pc' := 1) dX12_mustName_0 rfl rfl ?_
  refine pa_getI (pc' := 4) (n := 39) dX12_mustName_1 fl_12_90 s196 (by decide) k6 rfl ?_
  refine pa_iconst (v := 2) (pc' := 5) dX12_mustName_4 (by decide) rfl ?_
  refine pa_icmp (pc' := 62) (pc2 := 8) dX12_mustName_5 (by decide) rfl (fun cd => bad (fun z => by
    have cd : ¬ tT y n p = 2 := by simpa [zcond] using cd
    exact cd z.1)) (fun cd => ?_)
  have t2 : tT y n p = 2 := by simpa [zcond] using cd
  have kwb : ∀ {w : List Int32} {x : Int32}, wIs y n p w → (x = 0 ∧ w = wPost ∨ x = 1 ∧ w = wIsland ∨ x = 2 ∧ w = wWay ∨ x = 3 ∧ w = wWhale ∨ x = 4 ∧ w = wBox ∨ x = 5 ∧ w = wSpout) → ¬ isN y n p := by
    intro w x hw hx z
    have hz := z.2
    have : srt y n p x := by
      rcases hx with ⟨e1, e2⟩ | ⟨e1, e2⟩ | ⟨e1, e2⟩ | ⟨e1, e2⟩ | ⟨e1, e2⟩ | ⟨e1, e2⟩
      · exact .inl ⟨e1, e2 ▸ hw⟩
      · exact .inr (.inl ⟨e1, e2 ▸ hw⟩)
      · exact .inr (.inr (.inl ⟨e1, e2 ▸ hw⟩))
      · exact .inr (.inr (.inr (.inl ⟨e1, e2 ▸ hw⟩)))
      · exact .inr (.inr (.inr (.inr (.inl ⟨e1, e2 ▸ hw⟩))))
      · exact .inr (.inr (.inr (.inr (.inr (.inl ⟨e1, e2 ▸ hw⟩)))))
    have := (srt_m2 this).mpr hz
    rcases hx with ⟨e1, _⟩ | ⟨e1, _⟩ | ⟨e1, _⟩ | ⟨e1, _⟩ | ⟨e1, _⟩ | ⟨e1, _⟩ <;> rw [e1] at this <;> exact absurd this (by decide)
  refine pa_aload_n (pc' := 9) dX12_mustName_8 rfl rfl ?_
  refine pa_ldc (pc' := 11) dX12_mustName_9 cl_12_131 rfl rfl ?_
  refine pa_callv (pc' := 14) (vs := [.inr (.inr (some 1000034))]) (rest := []) dX12_mustName_11 ml_12_117 (by decide) rfl rfl rfl (fun d' _ => m_isW K.1 hf (bs := wPost) rfl) (fun r g hq => ?_)
  obtain ⟨eg, hq⟩ := hq
  subst eg
  rcases hq with ⟨er, w1⟩ | ⟨er, w1⟩ <;> subst er
  · exact pa_if_t (x := 1) (pc' := 62) dX12_mustName_14 (by decide) (by decide) (bad (kwb w1 (x := 0) (.inl ⟨rfl, rfl⟩)))
  refine pa_if_f (x := 0) (pc' := 17) dX12_mustName_14 (by decide) (by decide) rfl ?_
  refine pa_aload_n (pc' := 18) dX12_mustName_17 rfl rfl ?_
  refine pa_ldc (pc' := 20) dX12_mustName_18 cl_12_133 rfl rfl ?_
  refine pa_callv (pc' := 23) (vs := [.inr (.inr (some 1000039))]) (rest := []) dX12_mustName_20 ml_12_117 (by decide) rfl rfl rfl (fun d' _ => m_isW K.1 hf (bs := wIsland) rfl) (fun r g hq => ?_)
  obtain ⟨eg, hq⟩ := hq
  subst eg
  rcases hq with ⟨er, w2⟩ | ⟨er, w2⟩ <;> subst er
  · exact pa_if_t (x := 1) (pc' := 62) dX12_mustName_23 (by decide) (by decide) (bad (kwb w2 (x := 1) (.inr (.inl ⟨rfl, rfl⟩))))
  refine pa_if_f (x := 0) (pc' := 26) dX12_mustName_23 (by decide) (by decide) rfl ?_
  refine pa_aload_n (pc' := 27) dX12_mustName_26 rfl rfl ?_
  refine pa_ldc (pc' := 29) dX12_mustName_27 cl_12_135 rfl rfl ?_
  refine pa_callv (pc' := 32) (vs := [.inr (.inr (some 1000040))]) (rest := []) dX12_mustName_29 ml_12_117 (by decide) rfl rfl rfl (fun d' _ => m_isW K.1 hf (bs := wWay) rfl) (fun r g hq => ?_)
  obtain ⟨eg, hq⟩ := hq
  subst eg
  rcases hq with ⟨er, w3⟩ | ⟨er, w3⟩ <;> subst er
  · exact pa_if_t (x := 1) (pc' := 62) dX12_mustName_32 (by decide) (by decide) (bad (kwb w3 (x := 2) (.inr (.inr (.inl ⟨rfl, rfl⟩)))))
  refine pa_if_f (x := 0) (pc' := 35) dX12_mustName_32 (by decide) (by decide) rfl ?_
  refine pa_aload_n (pc' := 36) dX12_mustName_35 rfl rfl ?_
  refine pa_ldc (pc' := 38) dX12_mustName_36 cl_12_137 rfl rfl ?_
  refine pa_callv (pc' := 41) (vs := [.inr (.inr (some 1000041))]) (rest := []) dX12_mustName_38 ml_12_117 (by decide) rfl rfl rfl (fun d' _ => m_isW K.1 hf (bs := wWhale) rfl) (fun r g hq => ?_)
  obtain ⟨eg, hq⟩ := hq
  subst eg
  rcases hq with ⟨er, w4⟩ | ⟨er, w4⟩ <;> subst er
  · exact pa_if_t (x := 1) (pc' := 62) dX12_mustName_41 (by decide) (by decide) (bad (kwb w4 (x := 3) (.inr (.inr (.inr (.inl ⟨rfl, rfl⟩))))))
  refine pa_if_f (x := 0) (pc' := 44) dX12_mustName_41 (by decide) (by decide) rfl ?_
  refine pa_aload_n (pc' := 45) dX12_mustName_44 rfl rfl ?_
  refine pa_ldc (pc' := 47) dX12_mustName_45 cl_12_139 rfl rfl ?_
  refine pa_callv (pc' := 50) (vs := [.inr (.inr (some 1000042))]) (rest := []) dX12_mustName_47 ml_12_117 (by decide) rfl rfl rfl (fun d' _ => m_isW K.1 hf (bs := wBox) rfl) (fun r g hq => ?_)
  obtain ⟨eg, hq⟩ := hq
  subst eg
  rcases hq with ⟨er, w5⟩ | ⟨er, w5⟩ <;> subst er
  · exact pa_if_t (x := 1) (pc' := 62) dX12_mustName_50 (by decide) (by decide) (bad (kwb w5 (x := 4) (.inr (.inr (.inr (.inr (.inl ⟨rfl, rfl⟩)))))))
  refine pa_if_f (x := 0) (pc' := 53) dX12_mustName_50 (by decide) (by decide) rfl ?_
  refine pa_aload_n (pc' := 54) dX12_mustName_53 rfl rfl ?_
  refine pa_ldc (pc' := 56) dX12_mustName_54 cl_12_141 rfl rfl ?_
  refine pa_callv (pc' := 59) (vs := [.inr (.inr (some 1000043))]) (rest := []) dX12_mustName_56 ml_12_117 (by decide) rfl rfl rfl (fun d' _ => m_isW K.1 hf (bs := wSpout) rfl) (fun r g hq => ?_)
  obtain ⟨eg, hq⟩ := hq
  subst eg
  rcases hq with ⟨er, w6⟩ | ⟨er, w6⟩ <;> subst er
  · exact pa_if_f (x := 1) (pc' := 62) dX12_mustName_59 (by decide) (by decide) rfl (bad (kwb w6 (x := 5) (.inr (.inr (.inr (.inr (.inr ⟨rfl, rfl⟩)))))))
  refine pa_if_t (x := 0) (pc' := 71) dX12_mustName_59 (by decide) (by decide) ?_
  exact pa_vret dX12_mustName_71 rfl ⟨rfl, .inl ⟨isNb_n.mpr ⟨t2, .inr (.inr (.inr (.inr (.inr (.inr ⟨rfl, w1, w2, w3, w4, w5, w6⟩)))))⟩, rfl⟩⟩
def fdV (nm : Nat → List Int32) (w : List Int32) : Int32 := match nFind nm w with
  | some i => nI i
  | none => -1
theorem M_find (K : mS R0 y n A nm p h) (hn : nmI nm) (t2 : tT y n p = 2) : zPa d mX12_find [.inr (.inr (some 196))] h (fun v h' => h' = h ∧ v = some (.inl (fdV nm (tW y n p)))) := by
  intro N
  obtain ⟨⟨hx, hp, k4, k5, k6, k8, k7⟩, hf, K3, K4⟩ := K
  obtain ⟨k8, kl⟩ := k8 t2
  obtain ⟨w1, w2, w3⟩ := tW_ok hp t2
  have el : (tW y n p).length = tE y n p - tS y n p := seg_len
  have kw : ∀ j, j < (tW y n p).length → h.2.1 198 j = (tW y n p).getD j 0 := fun j hj => by
    rw [kl j (by omega)]
    unfold tW
    rw [seg_get (by omega)]
  rw [← el] at k8
  have s196 := hx.sh sh_196
  have s198 := hx.sh sh_198
  have s200 := hx.sh sh_200
  have r196_12 := hx.2.1 _ _ _ rf_196_12
  have r196_16 := hx.2.1 _ _ _ rf_196_16
  generalize tW y n p = w at *
  show zPn N none d mX12_find (0, [(0, .inr (.inr (some 196)))], [], h) _
  have inner : ∀ (i : Nat), i < 20 → ∀ (N k : Nat) (b : Int32) (ls : zL) (Q : Option zV → zH → Prop), (b = 0 ∨ b = 1) → (b = 1 → (nm i).length = w.length ∧ ∀ j, j < k → (nm i).getD j 0 = w.getD j 0) → (b = 0 → nm i ≠ w) → k ≤ w.length → zget ls 0 = some (.inr (.inr (some 196))) → zget ls 1 = some (.inl (nI i)) → zget ls 2 = some (.inl b) → zget ls 3 = some (.inl (nI k)) → (∀ N' ls' b', N' ≤ N → ((b' = 1 ∧ nm i = w) ∨ (b' = 0 ∧ nm i ≠ w)) → zget ls' 0 = some (.inr (.inr (some 196))) → zget ls' 1 = some (.inl (nI i)) → zget ls' 2 = some (.inl b') → zPn N' none d mX12_find (94, ls', [], h) Q) → zPn N none d mX12_find (46, ls, [], h) Q := by
    intro i hi N
    induction N with
    | zero => intro k b ls Q _ _ _ _ _ _ _ _ _; exact zPn.zero
    | succ N ih =>
      intro k b ls Q hb hb1 hb0 hk hl0 hl1 hl2 hl3 Kc
      obtain ⟨f1, f2⟩ := K4 i hi
      refine pa_iload_n (pc' := 47) dX12_find_46 hl3 rfl ?_
      refine pa_aload_n (pc' := 48) dX12_find_47 hl0 rfl ?_
      refine pa_getI (pc' := 51) (n := 39) dX12_find_48 fl_12_84 s196 (by decide) k8 rfl ?_
      refine pa_icmp (pc' := 94) (pc2 := 54) dX12_find_51 (by decide) rfl (fun cd => ?_) (fun cd => ?_)
      · have cd := zi_nlt (zk_ge_lt cd)
        rw [nI_toInt (by omega), nI_toInt (by omega)] at cd
        refine Kc (N + 1) ls b (Nat.le_refl _) ?_ hl0 hl1 hl2
        rcases hb with rfl | rfl
        · exact .inr ⟨rfl, hb0 rfl⟩
        · obtain ⟨c1, c2⟩ := hb1 rfl
          exact .inl ⟨rfl, list_get c1 (fun j hj => c2 j (by omega))⟩
      · have cd := zi_lt (zk_ge_lt cd)
        rw [nI_toInt (by omega), nI_toInt (by omega)] at cd
        refine pa_iload_n (pc' := 55) dX12_find_54 hl2 rfl ?_
        rcases hb with rfl | rfl
        · refine pa_if_t (pc' := 94) dX12_find_55 (by decide) (by decide) ?_
          exact Kc (N + 1) ls 0 (Nat.le_refl _) (.inr ⟨rfl, hb0 rfl⟩) hl0 hl1 hl2
        · refine pa_if_f (pc' := 58) dX12_find_55 (by decide) (by decide) rfl ?_
          obtain ⟨c1, c2⟩ := hb1 rfl
          refine pa_aload_n (pc' := 59) dX12_find_58 hl0 rfl ?_
          refine pa_getR (pc' := 62) (n := 39) (r := 200) dX12_find_59 fl_12_23 s196 (by decide) r196_16 rfl ?_
          refine pa_sipush (v := nI 203) (pc' := 65) dX12_find_62 (by decide) rfl ?_
          refine pa_bipush (v := nI 8) (pc' := 67) dX12_find_65 (by decide) rfl ?_
          refine pa_iload_n (pc' := 68) dX12_find_67 hl1 rfl ?_
          refine pa_imul (pc' := 69) (v := nI (8 * i)) dX12_find_68 (nI_mul _ _) rfl ?_
          refine pa_iadd (pc' := 70) (v := nI (203 + 8 * i)) dX12_find_69 (nI_add _ _) rfl ?_
          refine pa_iload_n (pc' := 71) dX12_find_70 hl3 rfl ?_
          refine pa_iadd (pc' := 72) (v := nI (203 + 8 * i + k)) dX12_find_71 (nI_add _ _) rfl ?_
          refine pa_iald (pc' := 73) (n := 363) dX12_find_72 s200 rfl (fun _ => ?_)
          rw [nI_clamp (by omega), f2 k (by omega)]
          refine pa_aload_n (pc' := 74) dX12_find_73 hl0 rfl ?_
          refine pa_getR (pc' := 77) (n := 39) (r := 198) dX12_find_74 fl_12_17 s196 (by decide) r196_12 rfl ?_
          refine pa_iload_n (pc' := 78) dX12_find_77 hl3 rfl ?_
          refine pa_iald (pc' := 79) (n := 8) dX12_find_78 s198 rfl (fun _ => ?_)
          rw [nI_clamp (by omega), kw k (by omega)]
          have nxt : ∀ (b' : Int32), (b' = 0 ∨ b' = 1) → (b' = 1 → (nm i).length = w.length ∧ ∀ j, j < k + 1 → (nm i).getD j 0 = w.getD j 0) → (b' = 0 → nm i ≠ w) → zPn (N + 1) none d mX12_find (87, ls, [.inl b'], h) Q := by
            intro b' d1 d2 d3
            refine pa_istore_n (pc' := 88) dX12_find_87 (by decide) rfl rfl ?_
            refine pa_iinc (pc' := 91) (v := nI (k + 1)) dX12_find_88 (zget_s1 hl3 (by decide) (by simp [zcat])) (by decide) (nI_add k 1) rfl rfl ?_
            refine pa_gotos (pc' := 46) dX12_find_91 (by decide) ?_
            exact ih (k + 1) b' _ Q d1 d2 d3 (by omega) (zget_s1 (zget_s1 hl0 (by decide) (by simp [zcat])) (by decide) (by simp [zcat])) (zget_s1 (zget_s1 hl1 (by decide) (by simp [zcat])) (by decide) (by simp [zcat])) (zget_s1 zget_s1e (by decide) (by simp [zcat])) zget_s1e (fun N' ls' b'' hN => Kc N' ls' b'' (by omega))
          refine pa_icmp (pc' := 86) (pc2 := 82) dX12_find_79 (by decide) rfl (fun cd4 => ?_) (fun cd4 => ?_)
          · have cd4 : ¬ (nm i).getD k 0 = w.getD k 0 := by simpa [zcond] using cd4
            refine pa_iconst (v := 0) (pc' := 87) dX12_find_86 (by decide) rfl ?_
            exact nxt 0 (.inl rfl) (fun z => absurd z (by decide)) (fun _ z => cd4 (by rw [z]))
          · have cd4 : (nm i).getD k 0 = w.getD k 0 := by simpa [zcond] using cd4
            refine pa_iconst (v := 1) (pc' := 83) dX12_find_82 (by decide) rfl ?_
            refine pa_goto (pc' := 87) dX12_find_83 (by decide) ?_
            refine nxt 1 (.inr rfl) (fun _ => ⟨c1, fun j hj => ?_⟩) (fun z => absurd z (by decide))
            rcases Nat.lt_or_ge j k with z | z
            · exact c2 j z
            · have : j = k := by omega
              subst this
              exact cd4
  have outer : ∀ (N i : Nat) (ls : zL), i ≤ 20 → (∀ j, j < i → nm j ≠ w) → zget ls 0 = some (.inr (.inr (some 196))) → zget ls 1 = some (.inl (nI i)) → zPn N none d mX12_find (2, ls, [], h) (fun v h' => h' = h ∧ v = some (.inl (fdV nm w))) := by
    intro N
    induction N with
    | zero => intro i ls _ _ _ _; exact zPn.zero
    | succ N ih =>
      intro i ls hi hno hl0 hl1
      refine pa_iload_n (pc' := 3) dX12_find_2 hl1 rfl ?_
      refine pa_bipush (v := nI 20) (pc' := 5) dX12_find_3 (by decide) rfl ?_
      refine pa_icmp (pc' := 106) (pc2 := 8) dX12_find_5 (by decide) rfl (fun cd => ?_) (fun cd => ?_)
      · have cd := zi_nlt (zk_ge_lt cd)
        rw [nI_toInt (by omega), nI_toInt (by omega)] at cd
        refine pa_iconst (v := (-1)) (pc' := 107) dX12_find_106 (by decide) rfl ?_
        refine pa_iret dX12_find_107 rfl rfl ⟨rfl, ?_⟩
        unfold fdV
        rw [nFind_none (fun j hj => hno j (by omega))]
      · have cd := zi_lt (zk_ge_lt cd)
        rw [nI_toInt (by omega), nI_toInt (by omega)] at cd
        have hi2 : i < 20 := by omega
        obtain ⟨f1, f2⟩ := K4 i hi2
        have hlen : (nm i).length ≤ 8 := by
          by_cases z : nm i = []
          · rw [z]; decide
          · exact (hn.1 i hi2 z).2
        have go : ∀ (b : Int32), (b = 0 ∨ b = 1) → (b = 1 → (nm i).length = w.length) → (b = 0 → nm i ≠ w) → zPn (N + 1) none d mX12_find (43, ls, [.inl b], h) (fun v h' => h' = h ∧ v = some (.inl (fdV nm w))) := by
          intro b d1 d2 d3
          refine pa_istore_n (pc' := 44) dX12_find_43 (by decide) rfl rfl ?_
          refine pa_iconst (v := nI 0) (pc' := 45) dX12_find_44 (by decide) rfl ?_
          refine pa_istore_n (pc' := 46) dX12_find_45 (by decide) rfl rfl ?_
          refine inner i hi2 (N + 1) 0 b _ _ d1 (fun z => ⟨d2 z, fun j hj => absurd hj (Nat.not_lt_zero j)⟩) d3 (Nat.zero_le _) (zget_s1 (zget_s1 hl0 (by decide) (by simp [zcat])) (by decide) (by simp [zcat])) (zget_s1 (zget_s1 hl1 (by decide) (by simp [zcat])) (by decide) (by simp [zcat])) (zget_s1 zget_s1e (by decide) (by simp [zcat])) zget_s1e (fun N' ls' b' hN hb z0 z1 z2 => ?_)
          refine pa_iload_n (pc' := 95) dX12_find_94 z2 rfl ?_
          rcases hb with ⟨eb, ew⟩ | ⟨eb, ew⟩ <;> subst eb
          · refine pa_if_f (pc' := 98) dX12_find_95 (by decide) (by decide) rfl ?_
            refine pa_iload_n (pc' := 99) dX12_find_98 z1 rfl ?_
            refine pa_iret dX12_find_99 rfl rfl ⟨rfl, ?_⟩
            unfold fdV
            rw [nFind_some hn hi2 w3 ew]
          · refine pa_if_t (pc' := 100) dX12_find_95 (by decide) (by decide) ?_
            cases N' with
            | zero => exact zPn.zero
            | succ N' =>
              refine pa_iinc (pc' := 103) (v := nI (i + 1)) dX12_find_100 z1 (by decide) (nI_add i 1) rfl rfl ?_
              refine pa_gotos (pc' := 2) dX12_find_103 (by decide) ?_
              refine (ih (i + 1) _ (by omega) (fun j hj => ?_) (zget_s1 z0 (by decide) (by simp [zcat])) zget_s1e).dn (by omega)
              rcases Nat.lt_or_ge j i with q | q
              · exact hno j q
              · have : j = i := by omega
                subst this
                exact ew
        refine pa_aload_n (pc' := 9) dX12_find_8 hl0 rfl ?_
        refine pa_getR (pc' := 12) (n := 39) (r := 200) dX12_find_9 fl_12_23 s196 (by decide) r196_16 rfl ?_
        refine pa_sipush (v := nI 183) (pc' := 15) dX12_find_12 (by decide) rfl ?_
        refine pa_iload_n (pc' := 16) dX12_find_15 hl1 rfl ?_
        refine pa_iadd (pc' := 17) (v := nI (183 + i)) dX12_find_16 (nI_add _ _) rfl ?_
        refine pa_iald (pc' := 18) (n := 363) dX12_find_17 s200 rfl (fun _ => ?_)
        rw [nI_clamp (by omega), f1]
        refine pa_if (pc' := 42) (pc2 := 21) dX12_find_18 (by decide) rfl (fun cd2 => ?_) (fun cd2 => ?_)
        · have cd2 := zi_ngt (zk_le_gt cd2)
          rw [nI_toInt (by omega), show (0 : Int32).toInt = 0 by decide] at cd2
          refine pa_iconst (v := 0) (pc' := 43) dX12_find_42 (by decide) rfl ?_
          refine go 0 (.inl rfl) (fun z => absurd z (by decide)) (fun _ z => ?_)
          rw [z] at cd2
          exact w3 (List.length_eq_zero_iff.mp (by omega))
        · refine pa_aload_n (pc' := 22) dX12_find_21 hl0 rfl ?_
          refine pa_getR (pc' := 25) (n := 39) (r := 200) dX12_find_22 fl_12_23 s196 (by decide) r196_16 rfl ?_
          refine pa_sipush (v := nI 183) (pc' := 28) dX12_find_25 (by decide) rfl ?_
          refine pa_iload_n (pc' := 29) dX12_find_28 hl1 rfl ?_
          refine pa_iadd (pc' := 30) (v := nI (183 + i)) dX12_find_29 (nI_add _ _) rfl ?_
          refine pa_iald (pc' := 31) (n := 363) dX12_find_30 s200 rfl (fun _ => ?_)
          rw [nI_clamp (by omega), f1]
          refine pa_aload_n (pc' := 32) dX12_find_31 hl0 rfl ?_
          refine pa_getI (pc' := 35) (n := 39) dX12_find_32 fl_12_84 s196 (by decide) k8 rfl ?_
          refine pa_icmp (pc' := 42) (pc2 := 38) dX12_find_35 (by decide) rfl (fun cd3 => ?_) (fun cd3 => ?_)
          · have cd3 : ¬ nI (nm i).length = nI w.length := by simpa [zcond] using cd3
            refine pa_iconst (v := 0) (pc' := 43) dX12_find_42 (by decide) rfl ?_
            exact go 0 (.inl rfl) (fun z => absurd z (by decide)) (fun _ z => cd3 (by rw [z]))
          · have cd3 : nI (nm i).length = nI w.length := by simpa [zcond] using cd3
            rw [nI_ne (by omega) (by omega)] at cd3
            refine pa_iconst (v := 1) (pc' := 39) dX12_find_38 (by decide) rfl ?_
            refine pa_goto (pc' := 43) dX12_find_39 (by decide) ?_
            exact go 1 (.inr rfl) (fun _ => cd3) (fun z => absurd z (by decide))
  refine pa_iconst (v := nI 0) (pc' := 1) dX12_find_0 (by decide) rfl ?_
  refine pa_istore_n (pc' := 2) dX12_find_1 (by decide) rfl rfl ?_
  exact outer N 0 _ (by decide) (fun j hj => absurd hj (Nat.not_lt_zero j)) rfl rfl
end MDW
end Pk2
section Pk3
/-! the reference: names told and new -/
def fr7 (h h' : zH) : Prop := ∀ a j, a ≠ 196 → a ≠ 198 → (a = 200 → j < 183) → h'.2.1 a j = h.2.1 a j
section MDX
variable {R0 : Nat → Nat → Int32} {y : Nat → Int32} {n d N p k s : Nat} {h h' g : zH} {A : pA} {nm : Nat → List Int32} {e : sF} {r : sF ⊕ Nat}
theorem fr6.fr7 (a : fr6 h h') : fr7 h h' := fun x j h1 h2 _ => a x j h1 h2
theorem fr7.tr {h1 h2 : zH} (a : fr7 h h1) (b : fr7 h1 h2) : fr7 h h2 := fun x j q1 q2 q3 => (b x j q1 q2 q3).trans (a x j q1 q2 q3)
theorem rmC.f7 (hI : pI A) (k : rmC A h) (e : ∀ j, j < 183 → h'.2.1 200 j = h.2.1 200 j) : rmC A h' := by
  obtain ⟨b1, b2, b3, b4, b5⟩ := hI.2.2.1
  obtain ⟨k1, k2, k3, k4, k5, k6, k7, k8, k9, k10, k11⟩ := k
  refine ⟨(e _ (by omega)).trans k1, fun z => (e _ (by omega)).trans (k2 z), (e _ (by omega)).trans k3, (e _ (by omega)).trans k4, (e _ (by omega)).trans k5, (e _ (by omega)).trans k6, (e _ (by omega)).trans k7, fun i hi => ⟨(e _ (by omega)).trans (k8 i hi).1, fun j hj => ?_⟩, fun i hi => ⟨(e _ (by omega)).trans (k9 i hi).1, (e _ (by omega)).trans (k9 i hi).2⟩, fun i hi => ⟨(e _ (by omega)).trans (k10 i hi).1, (e _ (by omega)).trans (k10 i hi).2⟩, k11.fr (fun j _ ok => e j (by have := okX_lt ok b2 b3 b4 b5; omega))⟩
  have := hI.2.2.2.2.2.1 i hi
  have h6 : (A.2.2.1 i).length ≤ 6 := by
    have := this.1
    unfold okSong at this
    simp only [Bool.and_eq_true, decide_eq_true_eq] at this
    exact this.2.1
  exact (e _ (by omega)).trans ((k8 i hi).2 j hj)
def neM (R0 : Nat → Nat → Int32) (y : Nat → Int32) (n : Nat) (A : pA) (nm : Nat → List Int32) (i : Nat) (r : sF ⊕ Nat) (h : zH) (v : Option zV) (h' : zH) : Prop := v = none ∧ fr7 h h' ∧ (match bindS r (sNew y n nm) with
  | .inl e => mF R0 y n e h'
  | .inr q => ∃ p, r = .inr p ∧ mS R0 y n A (upA nm i (tW y n p)) q h' ∧ nmI (upA nm i (tW y n p)) ∧ tW y n p ≠ [])
theorem M_new {i : Nat} (hi : i < 20) (hI : pI A) (hn : nmI nm) (K : mE R0 y n A nm r h) : zPa d mX12_newName [.inr (.inr (some 196)), .inl (nI i)] h (neM R0 y n A nm i r h) := by
  intro N
  have hx := K.mx
  have s196 := hx.sh sh_196
  show zPn N none d mX12_newName (0, [(0, .inr (.inr (some 196))), (1, .inl (nI i))], [], h) _
  cases r with
  | inl e =>
    have hf := (show mF R0 y n e h from K).2.1
    refine pa_aload_n (pc' := 1) dX12_newName_0 rfl rfl ?_
    refine pa_getI (pc' := 4) (n := 39) dX12_newName_1 fl_12_100 s196 (by decide) hf rfl ?_
    refine pa_if_f (pc' := 7) dX12_newName_4 (by decide) (by decide) rfl ?_
    exact pa_vret dX12_newName_7 rfl ⟨rfl, fr6.rf.fr7, K⟩
  | inr p =>
    have K : mS R0 y n A nm p h := K
    have hp := K.1.2.1
    have k4 := K.1.2.2.1
    have hf := K.2.1
    have bad : ∀ (g : zH) (e : sF), fr6 h g → mF R0 y n e g → sNew y n nm p = .inl e → zPn N none d mX12_newName (35, [(0, .inr (.inr (some 196))), (1, .inl (nI i))], [], g) (neM R0 y n A nm i (.inr p) h) := by
      intro g e hfr hF he
      have s196 := hF.1.sh sh_196
      have hf := hF.2.1
      refine pa_aload_n (pc' := 36) dX12_newName_35 rfl rfl ?_
      refine pa_getI (pc' := 39) (n := 39) dX12_newName_36 fl_12_100 s196 (by decide) hf rfl ?_
      refine pa_if_f (pc' := 42) dX12_newName_39 (by decide) (by decide) rfl ?_
      refine pa_vret dX12_newName_42 rfl ⟨rfl, hfr.fr7, ?_⟩
      show match sNew y n nm p with | .inl e => mF R0 y n e g | .inr q => _
      rw [he]
      exact hF
    refine pa_aload_n (pc' := 1) dX12_newName_0 rfl rfl ?_
    refine pa_getI (pc' := 4) (n := 39) dX12_newName_1 fl_12_100 s196 (by decide) hf rfl ?_
    refine pa_if_t (pc' := 8) dX12_newName_4 (by decide) (by decide) ?_
    refine pa_aload_n (pc' := 9) dX12_newName_8 rfl rfl ?_
    refine pa_callv (pc' := 12) (vs := []) (rest := []) dX12_newName_9 ml_12_143 (by decide) rfl rfl rfl (fun d' _ => M_mustName K) (fun v g hq => ?_)
    obtain ⟨er, hq⟩ := hq
    subst er
    show zPn N none d mX12_newName (12, [(0, .inr (.inr (some 196))), (1, .inl (nI i))], [], g) _
    rcases hq with ⟨nb, eg⟩ | ⟨nb, eg⟩ <;> subst eg
    · have t2 := (isNb_n.mp nb).1
      obtain ⟨w1, w2, w3⟩ := tW_ok hp t2
      refine pa_aload_n (pc' := 13) dX12_newName_12 rfl rfl ?_
      refine pa_getI (pc' := 16) (n := 39) dX12_newName_13 fl_12_100 s196 (by decide) hf rfl ?_
      refine pa_if_f (pc' := 19) dX12_newName_16 (by decide) (by decide) rfl ?_
      refine pa_aload_n (pc' := 20) dX12_newName_19 rfl rfl ?_
      refine pa_callv (pc' := 23) (vs := []) (rest := []) dX12_newName_20 ml_12_146 (by decide) rfl rfl rfl (fun d' _ => M_find K hn t2) (fun v g2 hq => ?_)
      obtain ⟨eg, er⟩ := hq
      subst eg; subst er
      cases hfd : nFind nm (tW y n p) with
      | some j =>
        have hj : j < 20 := List.mem_range.mp (List.mem_of_find?_eq_some hfd)
        have efd : fdV nm (tW y n p) = nI j := by unfold fdV; rw [hfd]
        rw [efd]
        refine pa_if_f (x := nI j) (pc' := 26) dX12_newName_23 (zj_nlt (by rw [nI_toInt (by omega), show (0 : Int32).toInt = 0 by decide]; omega)) (by decide) rfl ?_
        refine pa_aload_n (pc' := 27) dX12_newName_26 rfl rfl ?_
        refine pa_iconst (v := 3) (pc' := 28) dX12_newName_27 (by decide) rfl ?_
        refine pa_aload_n (pc' := 29) dX12_newName_28 rfl rfl ?_
        refine pa_getI (pc' := 32) (n := 39) dX12_newName_29 fl_12_81 s196 (by decide) k4 rfl ?_
        refine pa_callv (pc' := 35) (vs := [.inl 3, .inl (nI (tS y n p))]) (rest := []) dX12_newName_32 ml_12_127 (by decide) rfl rfl rfl (fun d' _ => m_wrong hx hf rfl) (fun v g3 hq => ?_)
        obtain ⟨er, hq⟩ := hq
        subst er; subst hq
        exact bad _ (3, tS y n p) wrg_fr (wrg_mF hx) (by unfold sNew; rw [if_pos nb, hfd]; rfl)
      | none =>
        have efd : fdV nm (tW y n p) = -1 := by unfold fdV; rw [hfd]
        rw [efd]
        refine pa_if_t (x := -1) (pc' := 35) dX12_newName_23 (by decide) (by decide) ?_
        refine pa_aload_n (pc' := 36) dX12_newName_35 rfl rfl ?_
        refine pa_getI (pc' := 39) (n := 39) dX12_newName_36 fl_12_100 s196 (by decide) hf rfl ?_
        refine pa_if_t (pc' := 43) dX12_newName_39 (by decide) (by decide) ?_
        obtain ⟨k8, kl⟩ := K.1.2.2.2.2.2.1 t2
        have el : (tW y n p).length = tE y n p - tS y n p := seg_len
        have eN : sNew y n nm p = .inr (tE y n p) := by unfold sNew; rw [if_pos nb, hfd]; rfl
        have kw : ∀ j, j < (tW y n p).length → g2.2.1 198 j = (tW y n p).getD j 0 := fun j hj => by
          rw [kl j (by omega)]
          unfold tW
          rw [seg_get (by omega)]
        rw [← el] at k8
        have loop : ∀ (N k : Nat) (g : zH) (ls : zL), k ≤ (tW y n p).length → g.1 = g2.1 → g.2.2 = g2.2.2 → (∀ a j, ¬ (a = 200 ∧ 203 + 8 * i ≤ j ∧ j < 203 + 8 * i + k) → g.2.1 a j = g2.2.1 a j) → (∀ j, j < k → g.2.1 200 (203 + 8 * i + j) = (tW y n p).getD j 0) → zget ls 0 = some (.inr (.inr (some 196))) → zget ls 1 = some (.inl (nI i)) → zget ls 2 = some (.inl (nI k)) → zPn N none d mX12_newName (45, ls, [], g) (neM R0 y n A nm i (.inr p) g2) := by
          intro N
          induction N with
          | zero => intro k g ls _ _ _ _ _ _ _ _; exact zPn.zero
          | succ N ih =>
            intro k g ls hk e1 e2 eo el2 hl0 hl1 hl2
            have xg : mx R0 y n g := hx.fr e1 (congrArg (fun z => z.2.1) e2) (eo _ _ (by omega)) (fun a j hk => eo _ _ (by unfold mKp at hk; omega))
            have s196 := xg.sh sh_196
            have s198 := xg.sh sh_198
            have s200 := xg.sh sh_200
            have r196_12 := xg.2.1 _ _ _ rf_196_12
            have r196_16 := xg.2.1 _ _ _ rf_196_16
            have k8g : g.2.1 196 8 = nI (tW y n p).length := (eo _ _ (by omega)).trans k8
            refine pa_iload_n (pc' := 46) dX12_newName_45 hl2 rfl ?_
            refine pa_aload_n (pc' := 47) dX12_newName_46 hl0 rfl ?_
            refine pa_getI (pc' := 50) (n := 39) dX12_newName_47 fl_12_84 s196 (by decide) k8g rfl ?_
            refine pa_icmp (pc' := 80) (pc2 := 53) dX12_newName_50 (by decide) rfl (fun cd => ?_) (fun cd => ?_)
            · have cd := zi_nlt (zk_ge_lt cd)
              rw [nI_toInt (by omega), nI_toInt (by omega)] at cd
              have ek : k = (tW y n p).length := by omega
              subst ek
              refine pa_aload_n (pc' := 81) dX12_newName_80 hl0 rfl ?_
              refine pa_getR (pc' := 84) (n := 39) (r := 200) dX12_newName_81 fl_12_23 s196 (by decide) r196_16 rfl ?_
              refine pa_sipush (v := nI 183) (pc' := 87) dX12_newName_84 (by decide) rfl ?_
              refine pa_iload_n (pc' := 88) dX12_newName_87 hl1 rfl ?_
              refine pa_iadd (pc' := 89) (v := nI (183 + i)) dX12_newName_88 (nI_add _ _) rfl ?_
              refine pa_aload_n (pc' := 90) dX12_newName_89 hl0 rfl ?_
              refine pa_getI (pc' := 93) (n := 39) dX12_newName_90 fl_12_84 s196 (by decide) k8g rfl ?_
              refine pa_iast (pc' := 94) (n := 363) dX12_newName_93 s200 rfl (fun _ => ?_)
              rw [nI_clamp (by omega)]
              have x3 : mx R0 y n (zsI g 200 (183 + i) (nI (tW y n p).length)) := xg.zs (by omega) (by omega)
              have k5 : (zsI g 200 (183 + i) (nI (tW y n p).length)).2.1 196 5 = nI (tE y n p) := by rw [zsI_no (by omega)]; exact (eo _ _ (by omega)).trans K.1.2.2.2.1
              refine pa_aload_n (pc' := 95) dX12_newName_94 hl0 rfl ?_
              refine pa_callv (pc' := 98) (vs := []) (rest := []) dX12_newName_95 ml_12_121 (by decide) rfl rfl rfl (fun d' _ => m_next x3 k5 (tE_sp hp).2.1) (fun v g4 hq => ?_)
              obtain ⟨er, hq⟩ := hq
              subst er
              refine pa_vret dX12_newName_98 rfl ⟨rfl, fun a j h1 h2 h3 => ?_, ?_⟩
              · rw [nM_fr hq a j h1 h2, zsI_no (by omega)]
                exact eo a j (by omega)
              · show match sNew y n nm p with | .inl e => mF R0 y n e g4 | .inr q => _
                rw [eN]
                have row : ∀ j, g4.2.1 200 j = (zsI g 200 (183 + i) (nI (tW y n p).length)).2.1 200 j := fun j => nM_fr hq 200 j (by omega) (by omega)
                refine ⟨p, rfl, ⟨hq.mT x3 (tE_sp hp).2.1, ?_, ?_, ?_⟩, hn.new hi hp t2 hfd, w3⟩
                · rw [hq.2.2.1 196 13 (by omega) (by omega), zsI_no (by omega)]
                  exact (eo _ _ (by omega)).trans hf
                · refine K.2.2.1.f7 hI (fun j hj => ?_)
                  rw [row, zsI_no (by omega)]
                  exact eo _ _ (by omega)
                · intro q hq20
                  rw [upA_at]
                  by_cases z : q = i
                  · subst z
                    rw [if_pos rfl, row, zsI_eq]
                    refine ⟨rfl, fun j hj => ?_⟩
                    rw [row, zsI_no (by omega)]
                    exact el2 j hj
                  · rw [if_neg z]
                    obtain ⟨f1, f2⟩ := K.2.2.2 q hq20
                    refine ⟨?_, fun j hj => ?_⟩
                    · rw [row, zsI_no (by omega)]
                      exact (eo _ _ (by omega)).trans f1
                    · have h8 : (nm q).length ≤ 8 := by
                        by_cases z2 : nm q = []
                        · rw [z2]; decide
                        · exact (hn.1 q hq20 z2).2
                      rw [row, zsI_no (by omega)]
                      exact (eo _ _ (by omega)).trans (f2 j hj)
            · have cd := zi_lt (zk_ge_lt cd)
              rw [nI_toInt (by omega), nI_toInt (by omega)] at cd
              refine pa_aload_n (pc' := 54) dX12_newName_53 hl0 rfl ?_
              refine pa_getR (pc' := 57) (n := 39) (r := 200) dX12_newName_54 fl_12_23 s196 (by decide) r196_16 rfl ?_
              refine pa_sipush (v := nI 203) (pc' := 60) dX12_newName_57 (by decide) rfl ?_
              refine pa_bipush (v := nI 8) (pc' := 62) dX12_newName_60 (by decide) rfl ?_
              refine pa_iload_n (pc' := 63) dX12_newName_62 hl1 rfl ?_
              refine pa_imul (pc' := 64) (v := nI (8 * i)) dX12_newName_63 (nI_mul _ _) rfl ?_
              refine pa_iadd (pc' := 65) (v := nI (203 + 8 * i)) dX12_newName_64 (nI_add _ _) rfl ?_
              refine pa_iload_n (pc' := 66) dX12_newName_65 hl2 rfl ?_
              refine pa_iadd (pc' := 67) (v := nI (203 + 8 * i + k)) dX12_newName_66 (nI_add _ _) rfl ?_
              refine pa_aload_n (pc' := 68) dX12_newName_67 hl0 rfl ?_
              refine pa_getR (pc' := 71) (n := 39) (r := 198) dX12_newName_68 fl_12_17 s196 (by decide) r196_12 rfl ?_
              refine pa_iload_n (pc' := 72) dX12_newName_71 hl2 rfl ?_
              refine pa_iald (pc' := 73) (n := 8) dX12_newName_72 s198 rfl (fun _ => ?_)
              rw [nI_clamp (by omega), eo 198 k (by omega), kw k (by omega)]
              refine pa_iast (pc' := 74) (n := 363) dX12_newName_73 s200 rfl (fun _ => ?_)
              rw [nI_clamp (by omega)]
              refine pa_iinc (pc' := 77) (v := nI (k + 1)) dX12_newName_74 hl2 (by decide) (nI_add k 1) rfl rfl ?_
              refine pa_gotos (pc' := 45) dX12_newName_77 (by decide) ?_
              refine ih (k + 1) _ _ (by omega) e1 e2 (fun a j z => ?_) (fun j hj => ?_) (zget_s1 hl0 (by decide) (by simp [zcat])) (zget_s1 hl1 (by decide) (by simp [zcat])) zget_s1e
              · rw [zsI_no (by omega)]
                exact eo a j (by omega)
              · by_cases z : j = k
                · subst z
                  rw [zsI_eq]
                · rw [zsI_no (by omega)]
                  exact el2 j (by omega)
        refine pa_iconst (v := nI 0) (pc' := 44) dX12_newName_43 (by decide) rfl ?_
        refine pa_istore_n (pc' := 45) dX12_newName_44 (by decide) rfl rfl ?_
        exact loop N 0 g2 _ (Nat.zero_le _) rfl rfl (fun _ _ _ => rfl) (fun j hj => absurd hj (Nat.not_lt_zero j)) rfl rfl rfl
    · have hF : mF R0 y n (1, tS y n p) (wrg h 1 (tS y n p)) := wrg_mF hx
      have s196 := hF.1.sh sh_196
      have hf := hF.2.1
      refine pa_aload_n (pc' := 13) dX12_newName_12 rfl rfl ?_
      refine pa_getI (pc' := 16) (n := 39) dX12_newName_13 fl_12_100 s196 (by decide) hf rfl ?_
      refine pa_if_t (pc' := 35) dX12_newName_16 (by decide) (by decide) ?_
      exact bad _ (1, tS y n p) wrg_fr hF (by unfold sNew; rw [if_neg (by rw [nb]; decide)])
/-- a name that was told; the token stays -/
def naM (R0 : Nat → Nat → Int32) (y : Nat → Int32) (n : Nat) (A : pA) (nm : Nat → List Int32) (lo hi : Nat) (r : sF ⊕ Nat) (h : zH) (v : Option zV) (h' : zH) : Prop := fr6 h h' ∧ ∃ x, v = some (.inl x) ∧ (match bindS r (sOld y n nm lo hi) with
  | .inl e => mF R0 y n e h' ∧ x = 0
  | .inr q => x = nI q.1 ∧ ∃ p, r = .inr p ∧ q.2 = tE y n p ∧ mS R0 y n A nm p h')
theorem M_named {lo hi : Nat} (hlo : lo ≤ hi ∧ hi < 20) (hn : nmI nm) (K : mE R0 y n A nm r h) : zPa d mX12_named [.inr (.inr (some 196)), .inl (nI lo), .inl (nI hi)] h (naM R0 y n A nm lo hi r h) := by
  intro N
  have hx := K.mx
  have s196 := hx.sh sh_196
  show zPn N none d mX12_named (0, [(0, .inr (.inr (some 196))), (1, .inl (nI lo)), (2, .inl (nI hi))], [], h) _
  cases r with
  | inl e =>
    have hf := (show mF R0 y n e h from K).2.1
    refine pa_aload_n (pc' := 1) dX12_named_0 rfl rfl ?_
    refine pa_getI (pc' := 4) (n := 39) dX12_named_1 fl_12_100 s196 (by decide) hf rfl ?_
    refine pa_if_f (pc' := 7) dX12_named_4 (by decide) (by decide) rfl ?_
    refine pa_iconst (v := 0) (pc' := 8) dX12_named_7 (by decide) rfl ?_
    exact pa_iret dX12_named_8 rfl rfl ⟨fr6.rf, 0, rfl, K, rfl⟩
  | inr p =>
    have K : mS R0 y n A nm p h := K
    have hp := K.1.2.1
    have k4 := K.1.2.2.1
    have hf := K.2.1
    refine pa_aload_n (pc' := 1) dX12_named_0 rfl rfl ?_
    refine pa_getI (pc' := 4) (n := 39) dX12_named_1 fl_12_100 s196 (by decide) hf rfl ?_
    refine pa_if_t (pc' := 9) dX12_named_4 (by decide) (by decide) ?_
    refine pa_aload_n (pc' := 10) dX12_named_9 rfl rfl ?_
    refine pa_callv (pc' := 13) (vs := []) (rest := []) dX12_named_10 ml_12_143 (by decide) rfl rfl rfl (fun d' _ => M_mustName K) (fun v g hq => ?_)
    obtain ⟨er, hq⟩ := hq
    subst er
    show zPn N none d mX12_named (13, [(0, .inr (.inr (some 196))), (1, .inl (nI lo)), (2, .inl (nI hi))], [], g) _
    rcases hq with ⟨nb, eg⟩ | ⟨nb, eg⟩ <;> subst eg
    · have t2 := (isNb_n.mp nb).1
      refine pa_aload_n (pc' := 14) dX12_named_13 rfl rfl ?_
      refine pa_getI (pc' := 17) (n := 39) dX12_named_14 fl_12_100 s196 (by decide) hf rfl ?_
      refine pa_if_t (pc' := 22) dX12_named_17 (by decide) (by decide) ?_
      refine pa_aload_n (pc' := 23) dX12_named_22 rfl rfl ?_
      refine pa_callv (pc' := 26) (vs := []) (rest := []) dX12_named_23 ml_12_146 (by decide) rfl rfl rfl (fun d' _ => M_find K hn t2) (fun v g2 hq => ?_)
      obtain ⟨eg, er⟩ := hq
      subst eg; subst er
      obtain ⟨x, ex⟩ : ∃ x : Int32, x = fdV nm (tW y n p) := ⟨_, rfl⟩
      rw [← ex]
      have hin : (nI lo ≤ x ∧ x ≤ nI hi) ↔ ∃ i, nFind nm (tW y n p) = some i ∧ lo ≤ i ∧ i ≤ hi ∧ x = nI i := by
        rw [Int32.le_iff_toInt_le, Int32.le_iff_toInt_le, nI_toInt (by omega), nI_toInt (by omega)]
        cases hfd : nFind nm (tW y n p) with
        | some j =>
          have hj : j < 20 := List.mem_range.mp (List.mem_of_find?_eq_some hfd)
          have ex : x = nI j := by rw [ex]; unfold fdV; rw [hfd]
          rw [ex, nI_toInt (by omega)]
          exact ⟨fun z => ⟨j, rfl, by omega, by omega, rfl⟩, fun ⟨i, e1, e2, e3, e4⟩ => by cases e1; omega⟩
        | none =>
          have ex : x = -1 := by rw [ex]; unfold fdV; rw [hfd]
          rw [ex]
          have : (-1 : Int32).toInt = -1 := by decide
          exact ⟨fun z => by omega, fun ⟨i, e1, _⟩ => by cases e1⟩
      refine pa_istore_n (pc' := 27) (v := x) dX12_named_26 (by decide) rfl rfl ?_
      refine pa_iload_n (pc' := 28) dX12_named_27 rfl rfl ?_
      refine pa_iload_n (pc' := 29) dX12_named_28 rfl rfl ?_
      refine pa_iload_n (pc' := 30) dX12_named_29 rfl rfl ?_
      refine pa_calls (pc' := 33) (kd := 1) (vs := [.inl x, .inl (nI lo), .inl (nI hi)]) (rest := []) dX12_named_30 ml_12_149 (.inl rfl) rfl rfl rfl (fun d' _ => in_ex2) (fun r g3 hq => ?_)
      obtain ⟨eg, hq⟩ := hq
      subst eg
      rcases hq with ⟨er, c1⟩ | ⟨er, c1⟩ <;> subst er
      · obtain ⟨i, e1, e2, e3, e4⟩ := hin.mp c1
        refine pa_if_t (x := 1) (pc' := 45) dX12_named_33 (by decide) (by decide) ?_
        refine pa_aload_n (pc' := 46) dX12_named_45 rfl rfl ?_
        refine pa_getI (pc' := 49) (n := 39) dX12_named_46 fl_12_100 s196 (by decide) hf rfl ?_
        refine pa_if_t (pc' := 56) dX12_named_49 (by decide) (by decide) ?_
        refine pa_iload_n (pc' := 57) dX12_named_56 rfl rfl ?_
        refine pa_iload_n (pc' := 58) dX12_named_57 rfl rfl ?_
        refine pa_isub (pc' := 59) (v := nI (i - lo)) dX12_named_58 (by rw [e4]; exact nI_sub e2) rfl ?_
        refine pa_iret dX12_named_59 rfl rfl ⟨fr6.rf, _, rfl, ?_⟩
        show match sOld y n nm lo hi p with | .inl e => _ | .inr q => _
        unfold sOld
        rw [if_pos nb, e1]
        dsimp only
        rw [if_pos ⟨e2, e3⟩]
        exact ⟨rfl, p, rfl, rfl, K⟩
      · refine pa_if_f (x := 0) (pc' := 36) dX12_named_33 (by decide) (by decide) rfl ?_
        refine pa_aload_n (pc' := 37) dX12_named_36 rfl rfl ?_
        refine pa_iconst (v := 2) (pc' := 38) dX12_named_37 (by decide) rfl ?_
        refine pa_aload_n (pc' := 39) dX12_named_38 rfl rfl ?_
        refine pa_getI (pc' := 42) (n := 39) dX12_named_39 fl_12_81 s196 (by decide) k4 rfl ?_
        refine pa_callv (pc' := 45) (vs := [.inl 2, .inl (nI (tS y n p))]) (rest := []) dX12_named_42 ml_12_127 (by decide) rfl rfl rfl (fun d' _ => m_wrong hx hf rfl) (fun v g3 hq => ?_)
        obtain ⟨er, hq⟩ := hq
        subst er; subst hq
        have hF : mF R0 y n (2, tS y n p) (wrg g3 2 (tS y n p)) := wrg_mF hx
        have hf := hF.2.1
        refine pa_aload_n (pc' := 46) dX12_named_45 rfl rfl ?_
        refine pa_getI (pc' := 49) (n := 39) dX12_named_46 fl_12_100 (hF.1.sh sh_196) (by decide) hf rfl ?_
        refine pa_if_f (pc' := 52) dX12_named_49 (by decide) (by decide) rfl ?_
        refine pa_iconst (v := 0) (pc' := 53) dX12_named_52 (by decide) rfl ?_
        refine pa_goto (pc' := 59) dX12_named_53 (by decide) ?_
        refine pa_iret dX12_named_59 rfl rfl ⟨wrg_fr, 0, rfl, ?_⟩
        show match sOld y n nm lo hi p with | .inl e => _ | .inr q => _
        have : sOld y n nm lo hi p = .inl (2, tS y n p) := by
          unfold sOld
          rw [if_pos nb]
          cases hfd : nFind nm (tW y n p) with
          | some j =>
            dsimp only
            rw [if_neg (fun z => c1 (hin.mpr ⟨j, hfd, z.1, z.2, by rw [ex]; unfold fdV; rw [hfd]⟩))]
          | none => rfl
        rw [this]
        exact ⟨hF, rfl⟩
    · have hF : mF R0 y n (1, tS y n p) (wrg h 1 (tS y n p)) := wrg_mF hx
      have s196 := hF.1.sh sh_196
      have hf := hF.2.1
      refine pa_aload_n (pc' := 14) dX12_named_13 rfl rfl ?_
      refine pa_getI (pc' := 17) (n := 39) dX12_named_14 fl_12_100 s196 (by decide) hf rfl ?_
      refine pa_if_f (pc' := 20) dX12_named_17 (by decide) (by decide) rfl ?_
      refine pa_iconst (v := 0) (pc' := 21) dX12_named_20 (by decide) rfl ?_
      refine pa_iret dX12_named_21 rfl rfl ⟨wrg_fr, 0, rfl, ?_⟩
      show match sOld y n nm lo hi p with | .inl e => _ | .inr q => _
      have : sOld y n nm lo hi p = .inl (1, tS y n p) := by unfold sOld; rw [if_neg (by rw [nb]; decide)]
      rw [this]
      exact ⟨hF, rfl⟩
def olM (R0 : Nat → Nat → Int32) (y : Nat → Int32) (n : Nat) (A : pA) (nm : Nat → List Int32) (h : zH) (r : sF ⊕ (Nat × Nat)) (v : Option zV) (h' : zH) : Prop := fr6 h h' ∧ ∃ x, v = some (.inl x) ∧ (match r with
  | .inl e => mF R0 y n e h' ∧ x = 0
  | .inr q => x = nI q.1 ∧ mS R0 y n A nm q.2 h')
theorem M_passed (hn : nmI nm) (K : mE R0 y n A nm r h) : zPa d mX12_islandPassed [.inr (.inr (some 196))] h (olM R0 y n A nm h (bindS r (sOld y n nm 0 6))) := by
  intro N
  show zPn N none d mX12_islandPassed (0, [(0, .inr (.inr (some 196)))], [], h) _
  refine pa_aload_n (pc' := 1) dX12_islandPassed_0 rfl rfl ?_
  refine pa_iconst (v := nI 0) (pc' := 2) dX12_islandPassed_1 (by decide) rfl ?_
  refine pa_bipush (v := nI 6) (pc' := 4) dX12_islandPassed_2 (by decide) rfl ?_
  refine pa_callv (pc' := 7) (vs := [.inl (nI 0), .inl (nI 6)]) (rest := []) dX12_islandPassed_4 ml_12_153 (by decide) rfl rfl rfl (fun d' _ => M_named (by decide) hn K) (fun v g hq => ?_)
  obtain ⟨hfr, x, er, hq⟩ := hq
  subst er
  refine pa_istore_n (pc' := 8) (v := x) dX12_islandPassed_7 (by decide) rfl rfl ?_
  cases eb : bindS r (sOld y n nm 0 6) with
  | inl e =>
    rw [eb] at hq
    have s196 := hq.1.1.sh sh_196
    have hf := hq.1.2.1
    refine pa_aload_n (pc' := 9) dX12_islandPassed_8 rfl rfl ?_
    refine pa_getI (pc' := 12) (n := 39) dX12_islandPassed_9 fl_12_100 s196 (by decide) hf rfl ?_
    refine pa_if_t (pc' := 19) dX12_islandPassed_12 (by decide) (by decide) ?_
    refine pa_iload_n (pc' := 20) dX12_islandPassed_19 rfl rfl ?_
    exact pa_iret dX12_islandPassed_20 rfl rfl ⟨hfr, x, rfl, hq⟩
  | inr q =>
    obtain ⟨i, q⟩ := q
    rw [eb] at hq
    obtain ⟨ex, p, -, eq, K2⟩ := hq
    dsimp only at ex eq
    have s196 := K2.1.1.sh sh_196
    have hf := K2.2.1
    refine pa_aload_n (pc' := 9) dX12_islandPassed_8 rfl rfl ?_
    refine pa_getI (pc' := 12) (n := 39) dX12_islandPassed_9 fl_12_100 s196 (by decide) hf rfl ?_
    refine pa_if_f (pc' := 15) dX12_islandPassed_12 (by decide) (by decide) rfl ?_
    refine pa_aload_n (pc' := 16) dX12_islandPassed_15 rfl rfl ?_
    refine pa_callv (pc' := 19) (vs := []) (rest := []) dX12_islandPassed_16 ml_12_121 (by decide) rfl rfl rfl (fun d' _ => m_next K2.1.1 K2.1.2.2.2.1 (tE_sp K2.1.2.1).2.1) (fun v g2 hq => ?_)
    obtain ⟨er, hq⟩ := hq
    subst er
    refine pa_iload_n (pc' := 20) dX12_islandPassed_19 rfl rfl ?_
    refine pa_iret dX12_islandPassed_20 rfl rfl ⟨hfr.tr (nM_fr hq), x, rfl, ex, ?_⟩
    dsimp only
    rw [eq]
    exact K2.nx hq (tE_sp K2.1.2.1).2.1
theorem M_behind {a : Nat} {bs : List Int32} (hn : nmI nm) (K : mE R0 y n A nm r h) (hz : zsc a = some bs) : zPa d mX12_islandBehind [.inr (.inr (some 196)), .inr (.inr (some a))] h (olM R0 y n A nm h (bindS (bindS r (sWord y n bs)) (sOld y n nm 0 6))) := by
  intro N
  show zPn N none d mX12_islandBehind (0, [(0, .inr (.inr (some 196))), (1, .inr (.inr (some a)))], [], h) _
  refine pa_aload_n (pc' := 1) dX12_islandBehind_0 rfl rfl ?_
  refine pa_aload_n (pc' := 2) dX12_islandBehind_1 rfl rfl ?_
  refine pa_callv (pc' := 5) (vs := [.inr (.inr (some a))]) (rest := []) dX12_islandBehind_2 ml_12_157 (by decide) rfl rfl rfl (fun d' _ => M_mustE K hz) (fun v g hq => ?_)
  obtain ⟨er, hfr, K1⟩ := hq
  subst er
  show zPn N none d mX12_islandBehind (5, [(0, .inr (.inr (some 196))), (1, .inr (.inr (some a)))], [], g) _
  refine pa_aload_n (pc' := 6) dX12_islandBehind_5 rfl rfl ?_
  refine pa_callv (pc' := 9) (vs := []) (rest := []) dX12_islandBehind_6 ml_12_161 (by decide) rfl rfl rfl (fun d' _ => M_passed hn K1) (fun v g2 hq => ?_)
  obtain ⟨hfr2, x, er, hq⟩ := hq
  subst er
  exact pa_iret (x := x) dX12_islandBehind_9 rfl rfl ⟨hfr.tr hfr2, x, rfl, hq⟩
end MDX
end Pk3
section Pk4
/-! the reference: writes into its row; the beginnings of lines -/
def sndS {α : Type} (r : sF ⊕ (α × Nat)) : sF ⊕ Nat := bindS r (fun q => .inr q.2)
def wr2 (A : pA) (j : Nat) : Prop := j < 183 ∧ ¬ (4 ≤ j ∧ j ≤ 9) ∧ (A.1 ≠ 0 → j ≠ 0) ∧ (∀ i, i < cI A → ¬ (10 + 7 * i ≤ j ∧ j < 17 + 7 * i)) ∧ (∀ k, k < cW A → ¬ (59 + 4 * k ≤ j ∧ j < 61 + 4 * k)) ∧ (∀ k, k < cS A → ¬ (159 + 3 * k ≤ j ∧ j < 162 + 3 * k)) ∧ (∀ i, A.2.2.1 (1000 + i) ≠ [] → okX A i → i ≠ j)
section MDY
variable {R0 : Nat → Nat → Int32} {y : Nat → Int32} {n d N p k s : Nat} {h h' g : zH} {A : pA} {nm : Nat → List Int32} {e : sF} {r : sF ⊕ Nat}
theorem song6 (hI : pI A) {i : Nat} (hi : i < cI A) : (A.2.2.1 i).length ≤ 6 := by
  have := (hI.2.2.2.2.2.1 i hi).1
  unfold okSong at this
  simp only [Bool.and_eq_true, decide_eq_true_eq] at this
  exact this.2.1
theorem mF.zs {j : Nat} {v : Int32} (K : mF R0 y n e h) : mF R0 y n e (zsI h 200 j v) := ⟨K.1.zs (by omega) (by omega), by rw [zsI_no (by omega)]; exact K.2.1, by rw [zsI_no (by omega)]; exact K.2.2.1, by rw [zsI_no (by omega)]; exact K.2.2.2⟩
theorem mT.zs {j : Nat} {v : Int32} (K : mT R0 y n p h) : mT R0 y n p (zsI h 200 j v) := by
  obtain ⟨k1, k2, k3, k4, k5, k6, k7⟩ := K
  refine ⟨k1.zs (by omega) (by omega), k2, by rw [zsI_no (by omega)]; exact k3, by rw [zsI_no (by omega)]; exact k4, by rw [zsI_no (by omega)]; exact k5, fun z => ⟨by rw [zsI_no (by omega)]; exact (k6 z).1, fun i hi => by rw [zsI_no (by omega)]; exact (k6 z).2 i hi⟩, fun z => by rw [zsI_no (by omega)]; exact k7 z⟩
theorem rmN.zs {j : Nat} {v : Int32} (K : rmN nm h) (hj : j < 183) : rmN nm (zsI h 200 j v) := fun i hi => ⟨by rw [zsI_no (by omega)]; exact (K i hi).1, fun q hq => by rw [zsI_no (by omega)]; exact (K i hi).2 q hq⟩
theorem rmC.zs {j : Nat} {v : Int32} (hI : pI A) (K : rmC A h) (w : wr2 A j) : rmC A (zsI h 200 j v) := by
  obtain ⟨w1, w2, w3, w4, w5, w6, w7⟩ := w
  obtain ⟨k1, k2, k3, k4, k5, k6, k7, k8, k9, k10, k11⟩ := K
  refine ⟨by rw [zsI_no (by omega)]; exact k1, fun z => by rw [zsI_no (by have := w3 z; omega)]; exact k2 z, by rw [zsI_no (by omega)]; exact k3, by rw [zsI_no (by omega)]; exact k4, by rw [zsI_no (by omega)]; exact k5, by rw [zsI_no (by omega)]; exact k6, by rw [zsI_no (by omega)]; exact k7, fun i hi => ⟨?_, fun q hq => ?_⟩, fun i hi => ?_, fun i hi => ?_, k11.fr (fun i ht ok => zsI_no (fun z => w7 i ht ok z.2))⟩
  · have := w4 i hi
    rw [zsI_no (by omega)]; exact (k8 i hi).1
  · have := w4 i hi
    have := song6 hI hi
    rw [zsI_no (by omega)]; exact (k8 i hi).2 q hq
  · have := w5 i hi
    rw [zsI_no (by omega), zsI_no (by omega)]; exact k9 i hi
  · have := w6 i hi
    rw [zsI_no (by omega), zsI_no (by omega)]; exact k10 i hi
theorem mE.zs {j : Nat} {v : Int32} (hI : pI A) (K : mE R0 y n A nm r h) (w : wr2 A j) : mE R0 y n A nm r (zsI h 200 j v) := by
  cases r with
  | inl e => exact mF.zs K
  | inr p => exact ⟨K.1.zs, by rw [zsI_no (by omega)]; exact K.2.1, K.2.2.1.zs hI w, K.2.2.2.zs w.1⟩
theorem nuM.E {r : sF ⊕ (Int32 × Nat)} {v : Option zV} (q : nuM R0 y n A nm h r v h') : ∃ x, v = some (.inl x) ∧ mE R0 y n A nm (sndS r) h' ∧ fr6 h h' ∧ ∀ z p, r = .inr (z, p) → x = z := by
  obtain ⟨q1, x, q2, q3⟩ := q
  refine ⟨x, q2, ?_, q1, fun z p e => ?_⟩
  · cases r with
    | inl e => exact q3
    | inr z => exact q3.2
  · rw [e] at q3
    exact q3.1
theorem olM.E {r : sF ⊕ (Nat × Nat)} {v : Option zV} (q : olM R0 y n A nm h r v h') : ∃ x, v = some (.inl x) ∧ mE R0 y n A nm (sndS r) h' ∧ fr6 h h' ∧ ∀ z p, r = .inr (z, p) → x = nI z := by
  obtain ⟨q1, x, q2, q3⟩ := q
  refine ⟨x, q2, ?_, q1, fun z p e => ?_⟩
  · cases r with
    | inl e => exact q3.1
    | inr z => exact q3.2
  · rw [e] at q3
    exact q3.1
/-- failed or not -/
def fb (r : sF ⊕ Nat) : Int32 := match r with
  | .inl _ => 1
  | .inr _ => 0
theorem mE.fb (K : mE R0 y n A nm r h) : h.2.1 196 13 = fb r := by
  cases r with
  | inl e => exact K.2.1
  | inr p => exact K.2.1
/-- a line of the reference -/
def lnM (R0 : Nat → Nat → Int32) (y : Nat → Int32) (n : Nat) (r : sR) (v : Option zV) (h' : zH) : Prop := v = none ∧ (match r with
  | .inl e => mF R0 y n e h'
  | .inr q => mS R0 y n q.1 q.1.2.1 q.2 h')
theorem rmC.head {t : Int32} (hI : pI A) (h0 : A.1 = 0) (ht : t ≠ 0) (K : rmC A h) (e0 : h.2.1 200 0 = t) : rmC (t, A.2) (zsI h 200 9 1) := by
  obtain ⟨b1, b2, b3, b4, b5⟩ := hI.2.2.1
  obtain ⟨k1, k2, k3, k4, k5, k6, k7, k8, k9, k10, k11⟩ := K
  have z := hI.2.1 h0
  refine ⟨?_, fun _ => by rw [zsI_no (by omega)]; exact e0, by rw [zsI_no (by omega)]; exact k3, by rw [zsI_no (by omega)]; exact k4, by rw [zsI_no (by omega)]; exact k5, by rw [zsI_no (by omega)]; exact k6, by rw [zsI_no (by omega)]; exact k7, fun i hi => ?_, fun i hi => ?_, fun i hi => ?_, fun j hj => ?_⟩
  · rw [zsI_eq, if_neg ht]
  · have hi : i < cI A := hi
    omega
  · have hi : i < cW A := hi
    omega
  · have hi : i < cS A := hi
    omega
  · rcases (k11 j hj).1 with ⟨_, _, z2⟩ | z2 | z2 | z2 | z2
    · exact absurd h0 z2
    all_goals omega
theorem rmC.headed {u v w : Int32} (hI : pI A) (h0 : A.1 ≠ 0) (K : rmC A h) (v1 : h.2.1 200 1 = u) (v2 : h.2.1 200 2 = v) (v3 : h.2.1 200 3 = w) : rmC (A.1, A.2.1, xS (xS (xS A.2.2.1 1 u) 2 v) 3 w, A.2.2.2) h := by
  obtain ⟨b1, b2, b3, b4, b5⟩ := hI.2.2.1
  obtain ⟨k1, k2, k3, k4, k5, k6, k7, k8, k9, k10, k11⟩ := K
  refine ⟨k1, k2, k3, k4, k5, k6, k7, fun i hi => ?_, k9, k10, ((k11.add (i := 1) (.inl ⟨by omega, by omega, h0⟩) v1).add (i := 2) (.inl ⟨by omega, by omega, h0⟩) v2).add (i := 3) (.inl ⟨by omega, by omega, h0⟩) v3⟩
  have hi : i < cI A := hi
  show h.2.1 200 (10 + 7 * i) = nI (xS (xS (xS A.2.2.1 1 u) 2 v) 3 w i).length ∧ ∀ k, k < (xS (xS (xS A.2.2.1 1 u) 2 v) 3 w i).length → h.2.1 200 (10 + 7 * i + 1 + k) = (xS (xS (xS A.2.2.1 1 u) 2 v) 3 w i).getD k 0 - 97
  rw [xS3 (by omega)]
  exact k8 i hi
theorem wr_00 (hI : pI A) (h0 : A.1 = 0) {j : Nat} (hj : j < 4) : wr2 A j := by
  obtain ⟨b1, b2, b3, b4, b5⟩ := hI.2.2.1
  have z := hI.2.1 h0
  exact ⟨by omega, by omega, fun w => absurd h0 w, fun i hi => by omega, fun i hi => by omega, fun i hi => by omega, fun i _ ok => by
    rcases ok with ⟨_, _, z2⟩ | z2 | z2 | z2 | z2
    · exact absurd h0 z2
    all_goals omega⟩
theorem sWN_24 {bs : List Int32} {x : Int32} {q : Nat} (e : sWN y n bs 2 4 p = .inr (x, q)) : x = 2 ∨ x = 3 ∨ x = 4 := by
  unfold sWN at e
  split at e
  · cases e
  · exact sNum_24 e
theorem M_head (hI : pI A) (K : mS R0 y n A A.2.1 p h) : zPa d mX12_postLine [.inr (.inr (some 196))] h (lnM R0 y n (if A.1 = 0 then sHead y n A (tE y n p) else .inl (3, tS y n p))) := by
  intro N
  have hx := K.1.1
  have hp := K.1.2.1
  have s196 := hx.sh sh_196
  have s200 := hx.sh sh_200
  have r196_16 := hx.2.1 _ _ _ rf_196_16
  have k4 := K.1.2.2.1
  have hf := K.2.1
  have k9 := K.2.2.1.1
  show zPn N none d mX12_postLine (0, [(0, .inr (.inr (some 196)))], [], h) _
  refine pa_aload_n (pc' := 1) dX12_postLine_0 rfl rfl ?_
  refine pa_getR (pc' := 4) (n := 39) (r := 200) dX12_postLine_1 fl_12_23 s196 (by decide) r196_16 rfl ?_
  refine pa_bipush (v := nI 9) (pc' := 6) dX12_postLine_4 (by decide) rfl ?_
  refine pa_iald (pc' := 7) (n := 363) dX12_postLine_6 s200 rfl (fun _ => ?_)
  rw [nI_clamp (by omega), k9]
  refine pa_iconst (v := 1) (pc' := 8) dX12_postLine_7 (by decide) rfl ?_
  by_cases h0 : A.1 = 0
  · rw [if_pos h0, if_pos h0]
    refine pa_icmp_t (pc' := 20) dX12_postLine_8 (by decide) (by decide) ?_
    refine pa_aload_n (pc' := 21) dX12_postLine_20 rfl rfl ?_
    refine pa_getI (pc' := 24) (n := 39) dX12_postLine_21 fl_12_100 s196 (by decide) hf rfl ?_
    refine pa_if_t (pc' := 28) dX12_postLine_24 (by decide) (by decide) ?_
    refine pa_aload_n (pc' := 29) dX12_postLine_28 rfl rfl ?_
    refine pa_callv (pc' := 32) (vs := []) (rest := []) dX12_postLine_29 ml_12_121 (by decide) rfl rfl rfl (fun d' _ => m_next hx K.1.2.2.2.1 (tE_sp hp).2.1) (fun v g hq => ?_)
    obtain ⟨er, hq⟩ := hq
    subst er
    have K1 : mE R0 y n A A.2.1 (.inr (tE y n p)) g := K.nx hq (tE_sp hp).2.1
    clear s196 s200 r196_16
    show zPn N none d mX12_postLine (32, [(0, .inr (.inr (some 196)))], [], g) _
    have s200 := K1.mx.sh sh_200
    refine pa_aload_n (pc' := 33) dX12_postLine_32 rfl rfl ?_
    refine pa_getR (pc' := 36) (n := 39) (r := 200) dX12_postLine_33 fl_12_23 (K1.mx.sh sh_196) (by decide) (K1.mx.2.1 _ _ _ rf_196_16) rfl ?_
    refine pa_iconst (v := nI 0) (pc' := 37) dX12_postLine_36 (by decide) rfl ?_
    refine pa_aload_n (pc' := 38) dX12_postLine_37 rfl rfl ?_
    refine pa_ldc (pc' := 40) dX12_postLine_38 cl_12_211 rfl rfl ?_
    refine pa_iconst (v := 2) (pc' := 41) dX12_postLine_40 (by decide) rfl ?_
    refine pa_iconst (v := 4) (pc' := 42) dX12_postLine_41 (by decide) rfl ?_
    refine pa_callv (pc' := 45) (vs := [.inr (.inr (some 1000035)), .inl 2, .inl 4]) (rest := [.inl (nI 0), .inr (.inr (some 200))]) dX12_postLine_42 ml_12_213 (by decide) rfl rfl rfl (fun d' _ => M_after K1 (bs := wNotes) rfl) (fun v f1 hq => ?_)
    obtain ⟨v1, er, K2, hfr1, c1⟩ := hq.E
    subst er
    refine pa_iast (pc' := 46) (n := 363) (v := v1) dX12_postLine_45 (K2.mx.sh sh_200) rfl (fun _ => ?_)
    rw [nI_clamp (by omega)]
    have w0 : (zsI f1 200 0 v1).2.1 200 0 = v1 := zsI_eq
    have K1 := K2.zs (j := 0) (v := v1) hI (wr_00 hI h0 (by omega))
    clear K2
    have s200 := K1.mx.sh sh_200
    refine pa_aload_n (pc' := 47) dX12_postLine_46 rfl rfl ?_
    refine pa_getR (pc' := 50) (n := 39) (r := 200) dX12_postLine_47 fl_12_23 (K1.mx.sh sh_196) (by decide) (K1.mx.2.1 _ _ _ rf_196_16) rfl ?_
    refine pa_iconst (v := nI 1) (pc' := 51) dX12_postLine_50 (by decide) rfl ?_
    refine pa_aload_n (pc' := 52) dX12_postLine_51 rfl rfl ?_
    refine pa_ldc (pc' := 54) dX12_postLine_52 cl_12_217 rfl rfl ?_
    refine pa_iconst (v := 0) (pc' := 55) dX12_postLine_54 (by decide) rfl ?_
    refine pa_iconst (v := 3) (pc' := 56) dX12_postLine_55 (by decide) rfl ?_
    refine pa_callv (pc' := 59) (vs := [.inr (.inr (some 1000036)), .inl 0, .inl 3]) (rest := [.inl (nI 1), .inr (.inr (some 200))]) dX12_postLine_56 ml_12_213 (by decide) rfl rfl rfl (fun d' _ => M_after K1 (bs := wErrors) rfl) (fun v f2 hq => ?_)
    obtain ⟨v2, er, K2, hfr2, c2⟩ := hq.E
    subst er
    refine pa_iast (pc' := 60) (n := 363) (v := v2) dX12_postLine_59 (K2.mx.sh sh_200) rfl (fun _ => ?_)
    rw [nI_clamp (by omega)]
    have w0 : (zsI f2 200 1 v2).2.1 200 0 = v1 := by rw [zsI_no (by omega)]; exact (hfr2 200 0 (by omega) (by omega)).trans w0
    have w1 : (zsI f2 200 1 v2).2.1 200 1 = v2 := zsI_eq
    have K1 := K2.zs (j := 1) (v := v2) hI (wr_00 hI h0 (by omega))
    clear K2
    have s200 := K1.mx.sh sh_200
    refine pa_aload_n (pc' := 61) dX12_postLine_60 rfl rfl ?_
    refine pa_getR (pc' := 64) (n := 39) (r := 200) dX12_postLine_61 fl_12_23 (K1.mx.sh sh_196) (by decide) (K1.mx.2.1 _ _ _ rf_196_16) rfl ?_
    refine pa_iconst (v := nI 2) (pc' := 65) dX12_postLine_64 (by decide) rfl ?_
    refine pa_aload_n (pc' := 66) dX12_postLine_65 rfl rfl ?_
    refine pa_ldc (pc' := 68) dX12_postLine_66 cl_12_219 rfl rfl ?_
    refine pa_iconst (v := 0) (pc' := 69) dX12_postLine_68 (by decide) rfl ?_
    refine pa_bipush (v := 50) (pc' := 71) dX12_postLine_69 (by decide) rfl ?_
    refine pa_callv (pc' := 74) (vs := [.inr (.inr (some 1000037)), .inl 0, .inl 50]) (rest := [.inl (nI 2), .inr (.inr (some 200))]) dX12_postLine_71 ml_12_213 (by decide) rfl rfl rfl (fun d' _ => M_after K1 (bs := wDrift) rfl) (fun v f3 hq => ?_)
    obtain ⟨v3, er, K2, hfr3, c3⟩ := hq.E
    subst er
    refine pa_iast (pc' := 75) (n := 363) (v := v3) dX12_postLine_74 (K2.mx.sh sh_200) rfl (fun _ => ?_)
    rw [nI_clamp (by omega)]
    have w0 : (zsI f3 200 2 v3).2.1 200 0 = v1 := by rw [zsI_no (by omega)]; exact (hfr3 200 0 (by omega) (by omega)).trans w0
    have w1 : (zsI f3 200 2 v3).2.1 200 1 = v2 := by rw [zsI_no (by omega)]; exact (hfr3 200 1 (by omega) (by omega)).trans w1
    have w2 : (zsI f3 200 2 v3).2.1 200 2 = v3 := zsI_eq
    have K1 := K2.zs (j := 2) (v := v3) hI (wr_00 hI h0 (by omega))
    clear K2
    have s200 := K1.mx.sh sh_200
    refine pa_aload_n (pc' := 76) dX12_postLine_75 rfl rfl ?_
    refine pa_getR (pc' := 79) (n := 39) (r := 200) dX12_postLine_76 fl_12_23 (K1.mx.sh sh_196) (by decide) (K1.mx.2.1 _ _ _ rf_196_16) rfl ?_
    refine pa_iconst (v := nI 3) (pc' := 80) dX12_postLine_79 (by decide) rfl ?_
    refine pa_aload_n (pc' := 81) dX12_postLine_80 rfl rfl ?_
    refine pa_ldc (pc' := 83) dX12_postLine_81 cl_12_221 rfl rfl ?_
    refine pa_iconst (v := 0) (pc' := 84) dX12_postLine_83 (by decide) rfl ?_
    refine pa_bipush (v := 100) (pc' := 86) dX12_postLine_84 (by decide) rfl ?_
    refine pa_callv (pc' := 89) (vs := [.inr (.inr (some 1000038)), .inl 0, .inl 100]) (rest := [.inl (nI 3), .inr (.inr (some 200))]) dX12_postLine_86 ml_12_213 (by decide) rfl rfl rfl (fun d' _ => M_after K1 (bs := wSlip) rfl) (fun v f4 hq => ?_)
    obtain ⟨v4, er, K2, hfr4, c4⟩ := hq.E
    subst er
    refine pa_iast (pc' := 90) (n := 363) (v := v4) dX12_postLine_89 (K2.mx.sh sh_200) rfl (fun _ => ?_)
    rw [nI_clamp (by omega)]
    have w0 : (zsI f4 200 3 v4).2.1 200 0 = v1 := by rw [zsI_no (by omega)]; exact (hfr4 200 0 (by omega) (by omega)).trans w0
    have w1 : (zsI f4 200 3 v4).2.1 200 1 = v2 := by rw [zsI_no (by omega)]; exact (hfr4 200 1 (by omega) (by omega)).trans w1
    have w2 : (zsI f4 200 3 v4).2.1 200 2 = v3 := by rw [zsI_no (by omega)]; exact (hfr4 200 2 (by omega) (by omega)).trans w2
    have w3 : (zsI f4 200 3 v4).2.1 200 3 = v4 := zsI_eq
    have K1 := K2.zs (j := 3) (v := v4) hI (wr_00 hI h0 (by omega))
    clear K2
    have hff := K1.fb
    have s196 := K1.mx.sh sh_196
    have s200 := K1.mx.sh sh_200
    have r196_16 := K1.mx.2.1 _ _ _ rf_196_16
    refine pa_aload_n (pc' := 91) dX12_postLine_90 rfl rfl ?_
    refine pa_getI (pc' := 94) (n := 39) dX12_postLine_91 fl_12_100 s196 (by decide) hff rfl ?_
    cases e1 : sWN y n wNotes 2 4 (tE y n p) with
    | inl e =>
      simp only [e1, bindS, sndS] at K1 ⊢
      refine pa_if_t (pc' := 105) dX12_postLine_94 rfl (by decide) ?_
      refine pa_vret dX12_postLine_105 rfl ⟨rfl, ?_⟩
      simp only [sHead, e1]
      exact K1
    | inr q1 =>
      obtain ⟨t, q1⟩ := q1
      have c1 := c1 t q1 (by simp only [bindS, e1])
      cases e2 : sWN y n wErrors 0 3 q1 with
      | inl e =>
        simp only [e1, e2, bindS, sndS] at K1 ⊢
        refine pa_if_t (pc' := 105) dX12_postLine_94 rfl (by decide) ?_
        refine pa_vret dX12_postLine_105 rfl ⟨rfl, ?_⟩
        simp only [sHead, e1, e2]
        exact K1
      | inr q2 =>
        obtain ⟨t2, q2⟩ := q2
        cases e3 : sWN y n wDrift 0 50 q2 with
        | inl e =>
          simp only [e1, e2, e3, bindS, sndS] at K1 ⊢
          refine pa_if_t (pc' := 105) dX12_postLine_94 rfl (by decide) ?_
          refine pa_vret dX12_postLine_105 rfl ⟨rfl, ?_⟩
          simp only [sHead, e1, e2, e3]
          exact K1
        | inr q3 =>
          obtain ⟨t3, q3⟩ := q3
          cases e4 : sWN y n wSlip 0 100 q3 with
          | inl e =>
            simp only [e1, e2, e3, e4, bindS, sndS] at K1 ⊢
            refine pa_if_t (pc' := 105) dX12_postLine_94 rfl (by decide) ?_
            refine pa_vret dX12_postLine_105 rfl ⟨rfl, ?_⟩
            simp only [sHead, e1, e2, e3, e4]
            exact K1
          | inr q4 =>
            obtain ⟨t4, q4⟩ := q4
            simp only [e1, e2, e3, e4, bindS, sndS] at K1 ⊢
            refine pa_if_f (pc' := 97) dX12_postLine_94 rfl (by decide) rfl ?_
            refine pa_aload_n (pc' := 98) dX12_postLine_97 rfl rfl ?_
            refine pa_getR (pc' := 101) (n := 39) (r := 200) dX12_postLine_98 fl_12_23 s196 (by decide) r196_16 rfl ?_
            refine pa_bipush (v := nI 9) (pc' := 103) dX12_postLine_101 (by decide) rfl ?_
            refine pa_iconst (v := 1) (pc' := 104) dX12_postLine_103 (by decide) rfl ?_
            refine pa_iast (pc' := 105) (n := 363) dX12_postLine_104 s200 rfl (fun _ => ?_)
            rw [nI_clamp (by omega)]
            refine pa_vret dX12_postLine_105 rfl ⟨rfl, ?_⟩
            simp only [sHead, e1, e2, e3, e4]
            have ht : t ≠ 0 := by
              rcases sWN_24 e1 with z | z | z <;> rw [z] <;> decide
            have K1 : mS R0 y n A A.2.1 q4 _ := K1
            have c2 := c2 t2 q2 (by simp only [bindS, sndS, e1, e2])
            have c3 := c3 t3 q3 (by simp only [bindS, sndS, e1, e2, e3])
            have c4 := c4 t4 q4 (by simp only [bindS, sndS, e1, e2, e3, e4])
            have hI2 := hI.head (t := t) (sWN_24 e1) h0
            exact ⟨K1.1.zs, by rw [zsI_no (by omega)]; exact K1.2.1, (K1.2.2.1.head hI h0 ht (w0.trans c1)).headed hI2 ht ((zsI_no (by omega)).trans (w1.trans c2)) ((zsI_no (by omega)).trans (w2.trans c3)) ((zsI_no (by omega)).trans (w3.trans c4)), K1.2.2.2.zs (by omega)⟩
  · rw [if_neg h0, if_neg h0]
    refine pa_icmp_f (pc' := 11) dX12_postLine_8 (by decide) (by decide) rfl ?_
    refine pa_aload_n (pc' := 12) dX12_postLine_11 rfl rfl ?_
    refine pa_iconst (v := 3) (pc' := 13) dX12_postLine_12 (by decide) rfl ?_
    refine pa_aload_n (pc' := 14) dX12_postLine_13 rfl rfl ?_
    refine pa_getI (pc' := 17) (n := 39) dX12_postLine_14 fl_12_81 s196 (by decide) k4 rfl ?_
    refine pa_callv (pc' := 20) (vs := [.inl 3, .inl (nI (tS y n p))]) (rest := []) dX12_postLine_17 ml_12_127 (by decide) rfl rfl rfl (fun d' _ => m_wrong hx hf rfl) (fun v g hq => ?_)
    obtain ⟨er, hq⟩ := hq
    subst er; subst hq
    have hF : mF R0 y n (3, tS y n p) (wrg h 3 (tS y n p)) := wrg_mF hx
    have hf := hF.2.1
    refine pa_aload_n (pc' := 21) dX12_postLine_20 rfl rfl ?_
    refine pa_getI (pc' := 24) (n := 39) dX12_postLine_21 fl_12_100 (hF.1.sh sh_196) (by decide) hf rfl ?_
    refine pa_if_f (pc' := 27) dX12_postLine_24 (by decide) (by decide) rfl ?_
    exact pa_vret dX12_postLine_27 rfl ⟨rfl, hF⟩
end MDY
end Pk4
section Pk5
/-! the reference: boxes and whales -/
def nmX (y : Nat → Int32) (n : Nat) (nm : Nat → List Int32) (i p : Nat) : Nat → List Int32 := match sNew y n nm p with
  | .inl _ => nm
  | .inr _ => upA nm i (tW y n p)
section MDZ
variable {R0 : Nat → Nat → Int32} {y : Nat → Int32} {n d N p k s : Nat} {h h' g : zH} {A : pA} {nm : Nat → List Int32} {e : sF} {r : sF ⊕ Nat}
theorem neM.E {i : Nat} {v : Option zV} (hn : nmI nm) (q : neM R0 y n A nm i (.inr p) h v h') : v = none ∧ fr7 h h' ∧ mE R0 y n A (nmX y n nm i p) (sNew y n nm p) h' ∧ nmI (nmX y n nm i p) := by
  obtain ⟨q1, q2, q3⟩ := q
  have q3 : (match sNew y n nm p with
    | .inl e => mF R0 y n e h'
    | .inr q => ∃ p', (.inr p : sF ⊕ Nat) = .inr p' ∧ mS R0 y n A (upA nm i (tW y n p')) q h' ∧ nmI (upA nm i (tW y n p')) ∧ tW y n p' ≠ []) := q3
  unfold nmX
  cases eN : sNew y n nm p with
  | inl e =>
    rw [eN] at q3
    exact ⟨q1, q2, q3, hn⟩
  | inr q =>
    rw [eN] at q3
    obtain ⟨p', e1, e2, e3, -⟩ := q3
    cases e1
    exact ⟨q1, q2, e2, e3⟩
theorem wr_bx (hI : pI A) {j : Nat} (hj : 127 + 4 * cB A ≤ j ∧ j < 159) : wr2 A j := by
  obtain ⟨b1, b2, b3, b4, b5⟩ := hI.2.2.1
  exact ⟨by omega, by omega, fun _ => by omega, fun i hi => by omega, fun i hi => by omega, fun i hi => by omega, fun i _ ok => by unfold okX at ok; omega⟩
theorem wr_wh (hI : pI A) {j : Nat} (hj : 107 + 4 * cH A ≤ j ∧ j < 127) : wr2 A j := by
  obtain ⟨b1, b2, b3, b4, b5⟩ := hI.2.2.1
  exact ⟨by omega, by omega, fun _ => by omega, fun i hi => by omega, fun i hi => by omega, fun i hi => by omega, fun i _ ok => by unfold okX at ok; omega⟩
/-- a count is written: no told number lies there -/
theorem mX.cnt {k : Nat} {v : Int32} (hk : 4 ≤ k) (hk2 : k < 10) (K : mX (okX A) A.2.2.1 h) (hI : pI A) : mX (okX A) A.2.2.1 (zsI h 200 k v) := by
  obtain ⟨b1, b2, b3, b4, b5⟩ := hI.2.2.1
  exact K.fr (fun i _ ok => zsI_no (by unfold okX at ok; omega))
theorem rmC.boxed {x0 x1 x2 x3 : Int32} (hI : pI A) (hB : cB A < 8) (K : rmC A h) (v0 : h.2.1 200 (127 + 4 * cB A) = x0) (v1 : h.2.1 200 (127 + 4 * cB A + 1) = x1) (v2 : h.2.1 200 (127 + 4 * cB A + 2) = x2) (v3 : h.2.1 200 (127 + 4 * cB A + 3) = x3) : rmC (A.1, nm, xS (xS (xS (xS A.2.2.1 (127 + 4 * cB A) x0) (128 + 4 * cB A) x1) (129 + 4 * cB A) x2) (130 + 4 * cB A) x3, A.2.2.2.1, A.2.2.2.2.1, cI A, cW A, cH A, cB A + 1, cS A) (zsI h 200 7 (nI (cB A + 1))) := by
  obtain ⟨b1, b2, b3, b4, b5⟩ := hI.2.2.1
  obtain ⟨k1, k2, k3, k4, k5, k6, k7, k8, k9, k10, k11⟩ := K
  refine ⟨by rw [zsI_no (by omega)]; exact k1, fun z => by rw [zsI_no (by omega)]; exact k2 z, by rw [zsI_no (by omega)]; exact k3, by rw [zsI_no (by omega)]; exact k4, by rw [zsI_no (by omega)]; exact k5, zsI_eq, by rw [zsI_no (by omega)]; exact k7, fun i hi => ?_, fun i hi => ?_, fun i hi => ?_, ?_⟩
  · have hi : i < cI A := hi
    show (zsI h 200 7 _).2.1 200 (10 + 7 * i) = nI (xS (xS (xS (xS A.2.2.1 (127 + 4 * cB A) x0) (128 + 4 * cB A) x1) (129 + 4 * cB A) x2) (130 + 4 * cB A) x3 i).length ∧ ∀ k, k < (xS (xS (xS (xS A.2.2.1 (127 + 4 * cB A) x0) (128 + 4 * cB A) x1) (129 + 4 * cB A) x2) (130 + 4 * cB A) x3 i).length → (zsI h 200 7 _).2.1 200 (10 + 7 * i + 1 + k) = (xS (xS (xS (xS A.2.2.1 (127 + 4 * cB A) x0) (128 + 4 * cB A) x1) (129 + 4 * cB A) x2) (130 + 4 * cB A) x3 i).getD k 0 - 97
    rw [xS4 (by omega)]
    exact ⟨by rw [zsI_no (by omega)]; exact (k8 i hi).1, fun q hq => by rw [zsI_no (by omega)]; exact (k8 i hi).2 q hq⟩
  · rw [zsI_no (by omega), zsI_no (by omega)]; exact k9 i hi
  · rw [zsI_no (by omega), zsI_no (by omega)]; exact k10 i hi
  · have g : mX (okX (A.1, nm, A.2.2.1, A.2.2.2.1, A.2.2.2.2.1, cI A, cW A, cH A, cB A + 1, cS A)) A.2.2.1 (zsI h 200 7 (nI (cB A + 1))) := (k11.cnt (k := 7) (v := nI (cB A + 1)) (by decide) (by decide) hI).mono (fun j ok => ok.up id (Nat.le_refl _) (Nat.le_refl _) (Nat.le_succ _) (Nat.le_refl _))
    have ok : ∀ s, s < 4 → okX (A.1, nm, A.2.2.1, A.2.2.2.1, A.2.2.2.2.1, cI A, cW A, cH A, cB A + 1, cS A) (127 + 4 * cB A + s) := fun s hs => .inr (.inr (.inr (.inl ⟨by omega, by show 127 + 4 * cB A + s < 127 + 4 * (cB A + 1); omega⟩)))
    have e1 : 128 + 4 * cB A = 127 + 4 * cB A + 1 := by omega
    have e2 : 129 + 4 * cB A = 127 + 4 * cB A + 2 := by omega
    have e3 : 130 + 4 * cB A = 127 + 4 * cB A + 3 := by omega
    rw [e1, e2, e3]
    exact (((g.add (ok 0 (by decide)) ((zsI_no (by omega)).trans v0)).add (ok 1 (by decide)) ((zsI_no (by omega)).trans v1)).add (ok 2 (by decide)) ((zsI_no (by omega)).trans v2)).add (ok 3 (by decide)) ((zsI_no (by omega)).trans v3)
theorem rmC.whaled {x0 x1 x2 x3 : Int32} (hI : pI A) (hH : cH A < 5) (K : rmC A h) (v0 : h.2.1 200 (107 + 4 * cH A) = x0) (v1 : h.2.1 200 (107 + 4 * cH A + 1) = x1) (v2 : h.2.1 200 (107 + 4 * cH A + 2) = x2) (v3 : h.2.1 200 (107 + 4 * cH A + 3) = x3) : rmC (A.1, nm, xS (xS (xS (xS A.2.2.1 (107 + 4 * cH A) x0) (108 + 4 * cH A) x1) (109 + 4 * cH A) x2) (110 + 4 * cH A) x3, A.2.2.2.1, A.2.2.2.2.1, cI A, cW A, cH A + 1, cB A, cS A) (zsI h 200 6 (nI (cH A + 1))) := by
  obtain ⟨b1, b2, b3, b4, b5⟩ := hI.2.2.1
  obtain ⟨k1, k2, k3, k4, k5, k6, k7, k8, k9, k10, k11⟩ := K
  refine ⟨by rw [zsI_no (by omega)]; exact k1, fun z => by rw [zsI_no (by omega)]; exact k2 z, by rw [zsI_no (by omega)]; exact k3, by rw [zsI_no (by omega)]; exact k4, zsI_eq, by rw [zsI_no (by omega)]; exact k6, by rw [zsI_no (by omega)]; exact k7, fun i hi => ?_, fun i hi => ?_, fun i hi => ?_, ?_⟩
  · have hi : i < cI A := hi
    show (zsI h 200 6 _).2.1 200 (10 + 7 * i) = nI (xS (xS (xS (xS A.2.2.1 (107 + 4 * cH A) x0) (108 + 4 * cH A) x1) (109 + 4 * cH A) x2) (110 + 4 * cH A) x3 i).length ∧ ∀ k, k < (xS (xS (xS (xS A.2.2.1 (107 + 4 * cH A) x0) (108 + 4 * cH A) x1) (109 + 4 * cH A) x2) (110 + 4 * cH A) x3 i).length → (zsI h 200 6 _).2.1 200 (10 + 7 * i + 1 + k) = (xS (xS (xS (xS A.2.2.1 (107 + 4 * cH A) x0) (108 + 4 * cH A) x1) (109 + 4 * cH A) x2) (110 + 4 * cH A) x3 i).getD k 0 - 97
    rw [xS4 (by omega)]
    exact ⟨by rw [zsI_no (by omega)]; exact (k8 i hi).1, fun q hq => by rw [zsI_no (by omega)]; exact (k8 i hi).2 q hq⟩
  · rw [zsI_no (by omega), zsI_no (by omega)]; exact k9 i hi
  · rw [zsI_no (by omega), zsI_no (by omega)]; exact k10 i hi
  · have g : mX (okX (A.1, nm, A.2.2.1, A.2.2.2.1, A.2.2.2.2.1, cI A, cW A, cH A + 1, cB A, cS A)) A.2.2.1 (zsI h 200 6 (nI (cH A + 1))) := (k11.cnt (k := 6) (v := nI (cH A + 1)) (by decide) (by decide) hI).mono (fun j ok => ok.up id (Nat.le_refl _) (Nat.le_succ _) (Nat.le_refl _) (Nat.le_refl _))
    have ok : ∀ s, s < 4 → okX (A.1, nm, A.2.2.1, A.2.2.2.1, A.2.2.2.2.1, cI A, cW A, cH A + 1, cB A, cS A) (107 + 4 * cH A + s) := fun s hs => .inr (.inr (.inl ⟨by omega, by show 107 + 4 * cH A + s < 107 + 4 * (cH A + 1); omega⟩))
    have e1 : 108 + 4 * cH A = 107 + 4 * cH A + 1 := by omega
    have e2 : 109 + 4 * cH A = 107 + 4 * cH A + 2 := by omega
    have e3 : 110 + 4 * cH A = 107 + 4 * cH A + 3 := by omega
    rw [e1, e2, e3]
    exact (((g.add (ok 0 (by decide)) ((zsI_no (by omega)).trans v0)).add (ok 1 (by decide)) ((zsI_no (by omega)).trans v1)).add (ok 2 (by decide)) ((zsI_no (by omega)).trans v2)).add (ok 3 (by decide)) ((zsI_no (by omega)).trans v3)
set_option maxRecDepth 8000 in
theorem M_box (hI : pI A) (hB : cB A < 8) (K : mS R0 y n A A.2.1 p h) : zPa d mX12_boxLine [.inr (.inr (some 196))] h (lnM R0 y n (sBox y n A p)) := by
  intro N
  have hx := K.1.1
  have s196 := hx.sh sh_196
  have s200 := hx.sh sh_200
  have r196_16 := hx.2.1 _ _ _ rf_196_16
  have hf := K.2.1
  have k7 := K.2.2.1.2.2.2.2.2.1
  have hn := hI.2.2.2.2.1
  show zPn N none d mX12_boxLine (0, [(0, .inr (.inr (some 196)))], [], h) _
  refine pa_aload_n (pc' := 1) dX12_boxLine_0 rfl rfl ?_
  refine pa_getI (pc' := 4) (n := 39) dX12_boxLine_1 fl_12_100 s196 (by decide) hf rfl ?_
  refine pa_if_t (pc' := 8) dX12_boxLine_4 (by decide) (by decide) ?_
  refine pa_bipush (v := nI 127) (pc' := 10) dX12_boxLine_8 (by decide) rfl ?_
  refine pa_iconst (v := nI 4) (pc' := 11) dX12_boxLine_10 (by decide) rfl ?_
  refine pa_aload_n (pc' := 12) dX12_boxLine_11 rfl rfl ?_
  refine pa_getR (pc' := 15) (n := 39) (r := 200) dX12_boxLine_12 fl_12_23 s196 (by decide) r196_16 rfl ?_
  refine pa_bipush (v := nI 7) (pc' := 17) dX12_boxLine_15 (by decide) rfl ?_
  refine pa_iald (pc' := 18) (n := 363) dX12_boxLine_17 s200 rfl (fun _ => ?_)
  rw [nI_clamp (by omega), k7]
  refine pa_imul (pc' := 19) (v := nI (4 * cB A)) dX12_boxLine_18 (nI_mul _ _) rfl ?_
  refine pa_iadd (pc' := 20) (v := nI (127 + 4 * cB A)) dX12_boxLine_19 (nI_add _ _) rfl ?_
  refine pa_istore_n (pc' := 21) (ls' := [(1, .inl (nI (127 + 4 * cB A))), (0, .inr (.inr (some 196)))]) dX12_boxLine_20 (by decide) rfl rfl ?_
  refine pa_aload_n (pc' := 22) dX12_boxLine_21 rfl rfl ?_
  refine pa_bipush (v := nI 12) (pc' := 24) dX12_boxLine_22 (by decide) rfl ?_
  refine pa_aload_n (pc' := 25) dX12_boxLine_24 rfl rfl ?_
  refine pa_getR (pc' := 28) (n := 39) (r := 200) dX12_boxLine_25 fl_12_23 s196 (by decide) r196_16 rfl ?_
  refine pa_bipush (v := nI 7) (pc' := 30) dX12_boxLine_28 (by decide) rfl ?_
  refine pa_iald (pc' := 31) (n := 363) dX12_boxLine_30 s200 rfl (fun _ => ?_)
  rw [nI_clamp (by omega), k7]
  refine pa_iadd (pc' := 32) (v := nI (12 + cB A)) dX12_boxLine_31 (nI_add _ _) rfl ?_
  refine pa_callv (pc' := 35) (vs := [.inl (nI (12 + cB A))]) (rest := []) dX12_boxLine_32 ml_12_223 (by decide) rfl rfl rfl (fun d' _ => M_new (r := .inr p) (by omega) hI hn K) (fun v g1 hq => ?_)
  obtain ⟨er, hfr0, K1, hn⟩ := hq.E hn
  subst er
  show zPn N none d mX12_boxLine (35, [(1, .inl (nI (127 + 4 * cB A))), (0, .inr (.inr (some 196)))], [], g1) _
  refine pa_aload_n (pc' := 36) dX12_boxLine_35 rfl rfl ?_
  refine pa_getR (pc' := 39) (n := 39) (r := 200) dX12_boxLine_36 fl_12_23 (K1.mx.sh sh_196) (by decide) (K1.mx.2.1 _ _ _ rf_196_16) rfl ?_
  refine pa_iload_n (pc' := 40) dX12_boxLine_39 rfl rfl ?_
  refine pa_aload_n (pc' := 41) dX12_boxLine_40 rfl rfl ?_
  refine pa_ldc (pc' := 43) dX12_boxLine_41 cl_12_254 rfl rfl ?_
  refine pa_callv (pc' := 46) (vs := [.inr (.inr (some 1000053))]) (rest := [.inl (nI (127 + 4 * cB A)), .inr (.inr (some 200))]) dX12_boxLine_43 ml_12_246 (by decide) rfl rfl rfl (fun d' _ => M_behind hn K1 (bs := wFrom) rfl) (fun v f1 hq => ?_)
  obtain ⟨v1, er, K2, hfr1, c1⟩ := hq.E
  subst er
  refine pa_iast (pc' := 47) (n := 363) (v := v1) dX12_boxLine_46 (K2.mx.sh sh_200) rfl (fun _ => ?_)
  rw [nI_clamp (by omega)]
  have K1 := K2.zs (j := 127 + 4 * cB A) (v := v1) hI (wr_bx hI (by omega))
  clear K2
  have w1 : (zsI f1 200 (127 + 4 * cB A) v1).2.1 200 (127 + 4 * cB A) = v1 := zsI_eq
  refine pa_aload_n (pc' := 48) dX12_boxLine_47 rfl rfl ?_
  refine pa_getR (pc' := 51) (n := 39) (r := 200) dX12_boxLine_48 fl_12_23 (K1.mx.sh sh_196) (by decide) (K1.mx.2.1 _ _ _ rf_196_16) rfl ?_
  refine pa_iload_n (pc' := 52) dX12_boxLine_51 rfl rfl ?_
  refine pa_iconst (v := nI 1) (pc' := 53) dX12_boxLine_52 (by decide) rfl ?_
  refine pa_iadd (pc' := 54) (v := nI (127 + 4 * cB A + 1)) dX12_boxLine_53 (nI_add _ _) rfl ?_
  refine pa_aload_n (pc' := 55) dX12_boxLine_54 rfl rfl ?_
  refine pa_ldcw (pc' := 58) dX12_boxLine_55 cl_12_256 rfl rfl ?_
  refine pa_callv (pc' := 61) (vs := [.inr (.inr (some 1000054))]) (rest := [.inl (nI (127 + 4 * cB A + 1)), .inr (.inr (some 200))]) dX12_boxLine_58 ml_12_246 (by decide) rfl rfl rfl (fun d' _ => M_behind hn K1 (bs := wTo) rfl) (fun v f2 hq => ?_)
  obtain ⟨v2, er, K2, hfr2, c2⟩ := hq.E
  subst er
  refine pa_iast (pc' := 62) (n := 363) (v := v2) dX12_boxLine_61 (K2.mx.sh sh_200) rfl (fun _ => ?_)
  rw [nI_clamp (by omega)]
  have K1 := K2.zs (j := 127 + 4 * cB A + 1) (v := v2) hI (wr_bx hI (by omega))
  clear K2
  have w1 := (zsI_no (h := f2) (a := 200) (k := 127 + 4 * cB A + 1) (x := v2) (by omega)).trans ((hfr2 200 _ (by omega) (by omega)).trans w1)
  have w2 : (zsI f2 200 (127 + 4 * cB A + 1) v2).2.1 200 (127 + 4 * cB A + 1) = v2 := zsI_eq
  refine pa_aload_n (pc' := 63) dX12_boxLine_62 rfl rfl ?_
  refine pa_getR (pc' := 66) (n := 39) (r := 200) dX12_boxLine_63 fl_12_23 (K1.mx.sh sh_196) (by decide) (K1.mx.2.1 _ _ _ rf_196_16) rfl ?_
  refine pa_iload_n (pc' := 67) dX12_boxLine_66 rfl rfl ?_
  refine pa_iconst (v := nI 2) (pc' := 68) dX12_boxLine_67 (by decide) rfl ?_
  refine pa_iadd (pc' := 69) (v := nI (127 + 4 * cB A + 2)) dX12_boxLine_68 (nI_add _ _) rfl ?_
  refine pa_aload_n (pc' := 70) dX12_boxLine_69 rfl rfl ?_
  refine pa_ldcw (pc' := 73) dX12_boxLine_70 cl_12_258 rfl rfl ?_
  refine pa_iconst (v := 1) (pc' := 74) dX12_boxLine_73 (by decide) rfl ?_
  refine pa_bipush (v := 99) (pc' := 76) dX12_boxLine_74 (by decide) rfl ?_
  refine pa_callv (pc' := 79) (vs := [.inr (.inr (some 1000055)), .inl 1, .inl 99]) (rest := [.inl (nI (127 + 4 * cB A + 2)), .inr (.inr (some 200))]) dX12_boxLine_76 ml_12_213 (by decide) rfl rfl rfl (fun d' _ => M_after K1 (bs := wWeighs) rfl) (fun v f3 hq => ?_)
  obtain ⟨v3, er, K2, hfr3, c3⟩ := hq.E
  subst er
  refine pa_iast (pc' := 80) (n := 363) (v := v3) dX12_boxLine_79 (K2.mx.sh sh_200) rfl (fun _ => ?_)
  rw [nI_clamp (by omega)]
  have K1 := K2.zs (j := 127 + 4 * cB A + 2) (v := v3) hI (wr_bx hI (by omega))
  clear K2
  have w1 := (zsI_no (h := f3) (a := 200) (k := 127 + 4 * cB A + 2) (x := v3) (by omega)).trans ((hfr3 200 _ (by omega) (by omega)).trans w1)
  have w2 := (zsI_no (h := f3) (a := 200) (k := 127 + 4 * cB A + 2) (x := v3) (by omega)).trans ((hfr3 200 _ (by omega) (by omega)).trans w2)
  have w3 : (zsI f3 200 (127 + 4 * cB A + 2) v3).2.1 200 (127 + 4 * cB A + 2) = v3 := zsI_eq
  refine pa_aload_n (pc' := 81) dX12_boxLine_80 rfl rfl ?_
  refine pa_getR (pc' := 84) (n := 39) (r := 200) dX12_boxLine_81 fl_12_23 (K1.mx.sh sh_196) (by decide) (K1.mx.2.1 _ _ _ rf_196_16) rfl ?_
  refine pa_iload_n (pc' := 85) dX12_boxLine_84 rfl rfl ?_
  refine pa_iconst (v := nI 3) (pc' := 86) dX12_boxLine_85 (by decide) rfl ?_
  refine pa_iadd (pc' := 87) (v := nI (127 + 4 * cB A + 3)) dX12_boxLine_86 (nI_add _ _) rfl ?_
  refine pa_aload_n (pc' := 88) dX12_boxLine_87 rfl rfl ?_
  refine pa_ldcw (pc' := 91) dX12_boxLine_88 cl_12_260 rfl rfl ?_
  refine pa_iconst (v := 0) (pc' := 92) dX12_boxLine_91 (by decide) rfl ?_
  refine pa_sipush (v := 9999) (pc' := 95) dX12_boxLine_92 (by decide) rfl ?_
  refine pa_callv (pc' := 98) (vs := [.inr (.inr (some 1000056)), .inl 0, .inl 9999]) (rest := [.inl (nI (127 + 4 * cB A + 3)), .inr (.inr (some 200))]) dX12_boxLine_95 ml_12_213 (by decide) rfl rfl rfl (fun d' _ => M_after K1 (bs := wDay) rfl) (fun v f4 hq => ?_)
  obtain ⟨v4, er, K2, hfr4, c4⟩ := hq.E
  subst er
  refine pa_iast (pc' := 99) (n := 363) (v := v4) dX12_boxLine_98 (K2.mx.sh sh_200) rfl (fun _ => ?_)
  rw [nI_clamp (by omega)]
  have K1 := K2.zs (j := 127 + 4 * cB A + 3) (v := v4) hI (wr_bx hI (by omega))
  clear K2
  have w1 := (zsI_no (h := f4) (a := 200) (k := 127 + 4 * cB A + 3) (x := v4) (by omega)).trans ((hfr4 200 _ (by omega) (by omega)).trans w1)
  have w2 := (zsI_no (h := f4) (a := 200) (k := 127 + 4 * cB A + 3) (x := v4) (by omega)).trans ((hfr4 200 _ (by omega) (by omega)).trans w2)
  have w3 := (zsI_no (h := f4) (a := 200) (k := 127 + 4 * cB A + 3) (x := v4) (by omega)).trans ((hfr4 200 _ (by omega) (by omega)).trans w3)
  have w4 : (zsI f4 200 (127 + 4 * cB A + 3) v4).2.1 200 (127 + 4 * cB A + 3) = v4 := zsI_eq
  have hff := K1.fb
  have s196 := K1.mx.sh sh_196
  have s200 := K1.mx.sh sh_200
  have r196_16 := K1.mx.2.1 _ _ _ rf_196_16
  refine pa_aload_n (pc' := 100) dX12_boxLine_99 rfl rfl ?_
  refine pa_getI (pc' := 103) (n := 39) dX12_boxLine_100 fl_12_100 s196 (by decide) hff rfl ?_
  have bad : ∀ {e : sF} {g : zH}, mF R0 y n e g → sBox y n A p = .inl e → zPn N none d mX12_boxLine (117, [(1, .inl (nI (127 + 4 * cB A))), (0, .inr (.inr (some 196)))], [], g) (lnM R0 y n (sBox y n A p)) := by
    intro e g hF he
    refine pa_vret dX12_boxLine_117 rfl ⟨rfl, ?_⟩
    rw [he]
    exact hF
  clear hq hfr0 K hff
  cases e0 : sNew y n A.2.1 p with
  | inl e =>
    simp only [e0, bindS, sndS, nmX] at K1 ⊢
    exact pa_if_t (pc' := 117) dX12_boxLine_103 rfl (by decide) (bad K1 (by simp only [sBox, e0]))
  | inr q0 =>
    simp only [e0, nmX] at K1 hn ⊢
    cases e1 : sWord y n wFrom q0 with
    | inl e =>
      simp only [e1, bindS, sndS] at K1 ⊢
      exact pa_if_t (pc' := 117) dX12_boxLine_103 rfl (by decide) (bad K1 (by simp only [sBox, e0, e1]))
    | inr q1 =>
      cases e2 : sOld y n (upA A.2.1 (12 + cB A) (tW y n p)) 0 6 q1 with
      | inl e =>
        simp only [e1, e2, bindS, sndS] at K1 ⊢
        exact pa_if_t (pc' := 117) dX12_boxLine_103 rfl (by decide) (bad K1 (by simp only [sBox, e0, e1, e2]))
      | inr q2 =>
        obtain ⟨x2, q2⟩ := q2
        cases e3 : sWord y n wTo q2 with
        | inl e =>
          simp only [e1, e2, e3, bindS, sndS] at K1 ⊢
          exact pa_if_t (pc' := 117) dX12_boxLine_103 rfl (by decide) (bad K1 (by simp only [sBox, e0, e1, e2, e3]))
        | inr q3 =>
          cases e4 : sOld y n (upA A.2.1 (12 + cB A) (tW y n p)) 0 6 q3 with
          | inl e =>
            simp only [e1, e2, e3, e4, bindS, sndS] at K1 ⊢
            exact pa_if_t (pc' := 117) dX12_boxLine_103 rfl (by decide) (bad K1 (by simp only [sBox, e0, e1, e2, e3, e4]))
          | inr q4 =>
            obtain ⟨x4, q4⟩ := q4
            cases e5 : sWN y n wWeighs 1 99 q4 with
            | inl e =>
              simp only [e1, e2, e3, e4, e5, bindS, sndS] at K1 ⊢
              exact pa_if_t (pc' := 117) dX12_boxLine_103 rfl (by decide) (bad K1 (by simp only [sBox, e0, e1, e2, e3, e4, e5]))
            | inr q5 =>
              obtain ⟨x5, q5⟩ := q5
              cases e6 : sWN y n wDay 0 9999 q5 with
              | inl e =>
                simp only [e1, e2, e3, e4, e5, e6, bindS, sndS] at K1 ⊢
                exact pa_if_t (pc' := 117) dX12_boxLine_103 rfl (by decide) (bad K1 (by simp only [sBox, e0, e1, e2, e3, e4, e5, e6]))
              | inr q6 =>
                obtain ⟨x6, q6⟩ := q6
                simp only [e1, e2, e3, e4, e5, e6, bindS, sndS] at K1 ⊢
                refine pa_if_f (pc' := 106) dX12_boxLine_103 rfl (by decide) rfl ?_
                have k7 := (show mS R0 y n A _ q6 _ from K1).2.2.1.2.2.2.2.2.1
                refine pa_aload_n (pc' := 107) dX12_boxLine_106 rfl rfl ?_
                refine pa_getR (pc' := 110) (n := 39) (r := 200) dX12_boxLine_107 fl_12_23 s196 (by decide) r196_16 rfl ?_
                refine pa_bipush (v := nI 7) (pc' := 112) dX12_boxLine_110 (by decide) rfl ?_
                refine pa_dup2 (pc' := 113) dX12_boxLine_112 ⟨rfl, rfl⟩ rfl ?_
                refine pa_iald (pc' := 114) (n := 363) dX12_boxLine_113 s200 rfl (fun _ => ?_)
                rw [nI_clamp (by omega), k7]
                refine pa_iconst (v := nI 1) (pc' := 115) dX12_boxLine_114 (by decide) rfl ?_
                refine pa_iadd (pc' := 116) (v := nI (cB A + 1)) dX12_boxLine_115 (nI_add _ _) rfl ?_
                refine pa_iast (pc' := 117) (n := 363) dX12_boxLine_116 s200 rfl (fun _ => ?_)
                rw [nI_clamp (by omega)]
                refine pa_vret dX12_boxLine_117 rfl ⟨rfl, ?_⟩
                simp only [sBox, e0, e1, e2, e3, e4, e5, e6]
                have K1 : mS R0 y n A _ q6 _ := K1
                have c1 := c1 x2 q2 (by simp only [e0, e1, e2, bindS, sndS, nmX])
                have c2 := c2 x4 q4 (by simp only [e0, e1, e2, e3, e4, bindS, sndS, nmX])
                have c3 := c3 x5 q5 (by simp only [e0, e1, e2, e3, e4, e5, bindS, sndS, nmX])
                have c4 := c4 x6 q6 (by simp only [e0, e1, e2, e3, e4, e5, e6, bindS, sndS, nmX])
                exact ⟨K1.1.zs, by rw [zsI_no (by omega)]; exact K1.2.1, K1.2.2.1.boxed hI hB (w1.trans c1) (w2.trans c2) (w3.trans c3) (w4.trans c4), K1.2.2.2.zs (by omega)⟩
end MDZ
end Pk5
section Pk6
section MDA
variable {R0 : Nat → Nat → Int32} {y : Nat → Int32} {n d N p k s : Nat} {h h' g : zH} {A : pA} {nm : Nat → List Int32} {e : sF} {r : sF ⊕ Nat}
set_option maxRecDepth 8000 in
theorem M_whale (hI : pI A) (hH : cH A < 5) (K : mS R0 y n A A.2.1 p h) : zPa d mX12_whaleLine [.inr (.inr (some 196))] h (lnM R0 y n (sWhale y n A p)) := by
  intro N
  have hx := K.1.1
  have s196 := hx.sh sh_196
  have s200 := hx.sh sh_200
  have r196_16 := hx.2.1 _ _ _ rf_196_16
  have hf := K.2.1
  have k6 := K.2.2.1.2.2.2.2.1
  have hn := hI.2.2.2.2.1
  show zPn N none d mX12_whaleLine (0, [(0, .inr (.inr (some 196)))], [], h) _
  refine pa_aload_n (pc' := 1) dX12_whaleLine_0 rfl rfl ?_
  refine pa_getI (pc' := 4) (n := 39) dX12_whaleLine_1 fl_12_100 s196 (by decide) hf rfl ?_
  refine pa_if_t (pc' := 8) dX12_whaleLine_4 (by decide) (by decide) ?_
  refine pa_bipush (v := nI 107) (pc' := 10) dX12_whaleLine_8 (by decide) rfl ?_
  refine pa_iconst (v := nI 4) (pc' := 11) dX12_whaleLine_10 (by decide) rfl ?_
  refine pa_aload_n (pc' := 12) dX12_whaleLine_11 rfl rfl ?_
  refine pa_getR (pc' := 15) (n := 39) (r := 200) dX12_whaleLine_12 fl_12_23 s196 (by decide) r196_16 rfl ?_
  refine pa_bipush (v := nI 6) (pc' := 17) dX12_whaleLine_15 (by decide) rfl ?_
  refine pa_iald (pc' := 18) (n := 363) dX12_whaleLine_17 s200 rfl (fun _ => ?_)
  rw [nI_clamp (by omega), k6]
  refine pa_imul (pc' := 19) (v := nI (4 * cH A)) dX12_whaleLine_18 (nI_mul _ _) rfl ?_
  refine pa_iadd (pc' := 20) (v := nI (107 + 4 * cH A)) dX12_whaleLine_19 (nI_add _ _) rfl ?_
  refine pa_istore_n (pc' := 21) (ls' := [(1, .inl (nI (107 + 4 * cH A))), (0, .inr (.inr (some 196)))]) dX12_whaleLine_20 (by decide) rfl rfl ?_
  refine pa_aload_n (pc' := 22) dX12_whaleLine_21 rfl rfl ?_
  refine pa_bipush (v := nI 7) (pc' := 24) dX12_whaleLine_22 (by decide) rfl ?_
  refine pa_aload_n (pc' := 25) dX12_whaleLine_24 rfl rfl ?_
  refine pa_getR (pc' := 28) (n := 39) (r := 200) dX12_whaleLine_25 fl_12_23 s196 (by decide) r196_16 rfl ?_
  refine pa_bipush (v := nI 6) (pc' := 30) dX12_whaleLine_28 (by decide) rfl ?_
  refine pa_iald (pc' := 31) (n := 363) dX12_whaleLine_30 s200 rfl (fun _ => ?_)
  rw [nI_clamp (by omega), k6]
  refine pa_iadd (pc' := 32) (v := nI (7 + cH A)) dX12_whaleLine_31 (nI_add _ _) rfl ?_
  refine pa_callv (pc' := 35) (vs := [.inl (nI (7 + cH A))]) (rest := []) dX12_whaleLine_32 ml_12_223 (by decide) rfl rfl rfl (fun d' _ => M_new (r := .inr p) (by omega) hI hn K) (fun v g1 hq => ?_)
  obtain ⟨er, hfr0, K1, hn⟩ := hq.E hn
  subst er
  show zPn N none d mX12_whaleLine (35, [(1, .inl (nI (107 + 4 * cH A))), (0, .inr (.inr (some 196)))], [], g1) _
  have endF : ∀ {e : sF} {g : zH} {x : Int32}, mF R0 y n e g → sWhale y n A p = .inl e → zPn N none d mX12_whaleLine (102, [(2, .inl x), (1, .inl (nI (107 + 4 * cH A))), (0, .inr (.inr (some 196)))], [], g) (lnM R0 y n (sWhale y n A p)) := by
    intro e g x hF he
    have s196 := hF.1.sh sh_196
    have hf := hF.2.1
    refine pa_aload_n (pc' := 103) dX12_whaleLine_102 rfl rfl ?_
    refine pa_getI (pc' := 106) (n := 39) dX12_whaleLine_103 fl_12_100 s196 (by decide) hf rfl ?_
    refine pa_if_f (pc' := 109) dX12_whaleLine_106 (by decide) (by decide) rfl ?_
    refine pa_vret dX12_whaleLine_109 rfl ⟨rfl, ?_⟩
    rw [he]
    exact hF
  clear hq hfr0 K
  cases e0 : sNew y n A.2.1 p with
  | inl e =>
    have hF : mF R0 y n e g1 := by simp only [e0] at K1; exact K1
    have hxF := hF.1
    have hfF := hF.2.1
    refine pa_aload_n (pc' := 36) dX12_whaleLine_35 rfl rfl ?_
    refine pa_ldc (pc' := 38) dX12_whaleLine_36 cl_12_237 rfl rfl ?_
    refine pa_callv (pc' := 41) (vs := [.inr (.inr (some 1000046))]) (rest := []) dX12_whaleLine_38 ml_12_117 (by decide) rfl rfl rfl (fun d' _ => m_isWF hxF hfF) (fun v g2 hq => ?_)
    obtain ⟨eg, er⟩ := hq
    subst eg
    subst er
    refine pa_if_t (x := 0) (pc' := 48) dX12_whaleLine_41 (by decide) (by decide) ?_
    refine pa_aload_n (pc' := 49) dX12_whaleLine_48 rfl rfl ?_
    refine pa_ldc (pc' := 51) dX12_whaleLine_49 cl_12_239 rfl rfl ?_
    refine pa_callv (pc' := 54) (vs := [.inr (.inr (some 1000047))]) (rest := []) dX12_whaleLine_51 ml_12_117 (by decide) rfl rfl rfl (fun d' _ => m_isWF hxF hfF) (fun v g2 hq => ?_)
    obtain ⟨eg, er⟩ := hq
    subst eg
    subst er
    refine pa_if_t (x := 0) (pc' := 61) dX12_whaleLine_54 (by decide) (by decide) ?_
    refine pa_aload_n (pc' := 62) dX12_whaleLine_61 rfl rfl ?_
    refine pa_ldc (pc' := 64) dX12_whaleLine_62 cl_12_241 rfl rfl ?_
    refine pa_callv (pc' := 67) (vs := [.inr (.inr (some 1000048))]) (rest := []) dX12_whaleLine_64 ml_12_117 (by decide) rfl rfl rfl (fun d' _ => m_isWF hxF hfF) (fun v g2 hq => ?_)
    obtain ⟨eg, er⟩ := hq
    subst eg
    subst er
    refine pa_if_t (x := 0) (pc' := 74) dX12_whaleLine_67 (by decide) (by decide) ?_
    refine pa_aload_n (pc' := 75) dX12_whaleLine_74 rfl rfl ?_
    refine pa_ldc (pc' := 77) dX12_whaleLine_75 cl_12_243 rfl rfl ?_
    refine pa_callv (pc' := 80) (vs := [.inr (.inr (some 1000049))]) (rest := []) dX12_whaleLine_77 ml_12_117 (by decide) rfl rfl rfl (fun d' _ => m_isWF hxF hfF) (fun v g2 hq => ?_)
    obtain ⟨eg, er⟩ := hq
    subst eg
    subst er
    refine pa_if_t (x := 0) (pc' := 87) dX12_whaleLine_80 (by decide) (by decide) ?_
    refine pa_iconst (v := (-1)) (pc' := 88) dX12_whaleLine_87 (by decide) rfl ?_
    refine pa_istore_n (pc' := 89) (ls' := [(2, .inl (-1)), (1, .inl (nI (107 + 4 * cH A))), (0, .inr (.inr (some 196)))]) dX12_whaleLine_88 (by decide) rfl rfl ?_
    refine pa_iload_n (pc' := 90) dX12_whaleLine_89 rfl rfl ?_
    refine pa_if_f (pc' := 93) dX12_whaleLine_90 (by decide) (by decide) rfl ?_
    refine pa_aload_n (pc' := 94) dX12_whaleLine_93 rfl rfl ?_
    refine pa_iconst (v := 1) (pc' := 95) dX12_whaleLine_94 (by decide) rfl ?_
    refine pa_aload_n (pc' := 96) dX12_whaleLine_95 rfl rfl ?_
    refine pa_getI (pc' := 99) (n := 39) dX12_whaleLine_96 fl_12_81 (hxF.sh sh_196) (by decide) rfl rfl ?_
    refine pa_callv (pc' := 102) (vs := [.inl 1, .inl _]) (rest := []) dX12_whaleLine_99 ml_12_127 (by decide) rfl rfl rfl (fun d' _ => m_wrongF hxF hfF) (fun v g2 hq => ?_)
    obtain ⟨er, hq⟩ := hq
    subst er; subst hq
    exact endF hF (by simp only [sWhale, e0])
  | inr q0 =>
    simp only [e0, nmX] at K1 hn
    have K1 : mS R0 y n A (upA A.2.1 (7 + cH A) (tW y n p)) q0 g1 := K1
    have hx1 := K1.1.1
    have hf1 := K1.2.1
    have hq0 := K1.1.2.1
    have k41 := K1.1.2.2.1
    have no : isKind y n q0 = false → zPn N none d mX12_whaleLine (87, [(1, .inl (nI (107 + 4 * cH A))), (0, .inr (.inr (some 196)))], [], g1) (lnM R0 y n (sWhale y n A p)) := by
      intro z
      refine pa_iconst (v := (-1)) (pc' := 88) dX12_whaleLine_87 (by decide) rfl ?_
      refine pa_istore_n (pc' := 89) (ls' := [(2, .inl (-1)), (1, .inl (nI (107 + 4 * cH A))), (0, .inr (.inr (some 196)))]) dX12_whaleLine_88 (by decide) rfl rfl ?_
      refine pa_iload_n (pc' := 90) dX12_whaleLine_89 rfl rfl ?_
      refine pa_if_f (pc' := 93) dX12_whaleLine_90 (by decide) (by decide) rfl ?_
      refine pa_aload_n (pc' := 94) dX12_whaleLine_93 rfl rfl ?_
      refine pa_iconst (v := 1) (pc' := 95) dX12_whaleLine_94 (by decide) rfl ?_
      refine pa_aload_n (pc' := 96) dX12_whaleLine_95 rfl rfl ?_
      refine pa_getI (pc' := 99) (n := 39) dX12_whaleLine_96 fl_12_81 (hx1.sh sh_196) (by decide) k41 rfl ?_
      refine pa_callv (pc' := 102) (vs := [.inl 1, .inl (nI (tS y n q0))]) (rest := []) dX12_whaleLine_99 ml_12_127 (by decide) rfl rfl rfl (fun d' _ => m_wrong hx1 hf1 rfl) (fun v g2 hq => ?_)
      obtain ⟨er, hq⟩ := hq
      subst er; subst hq
      exact endF (wrg_mF hx1) (by simp only [sWhale, e0]; rw [if_neg (by rw [z]; decide)])
    have yes : ∀ (x : Int32), 0 ≤ x.toInt → x = kdV y n q0 → isKind y n q0 = true → zPn N none d mX12_whaleLine (88, [(1, .inl (nI (107 + 4 * cH A))), (0, .inr (.inr (some 196)))], [.inl x], g1) (lnM R0 y n (sWhale y n A p)) := by
      intro x hx0 hk z
      refine pa_istore_n (pc' := 89) (ls' := [(2, .inl x), (1, .inl (nI (107 + 4 * cH A))), (0, .inr (.inr (some 196)))]) dX12_whaleLine_88 (by decide) rfl rfl ?_
      refine pa_iload_n (pc' := 90) dX12_whaleLine_89 rfl rfl ?_
      refine pa_if_t (pc' := 102) dX12_whaleLine_90 (zk_lt_ge (zj_nlt (by rw [show (0 : Int32).toInt = 0 by decide]; exact hx0))) (by decide) ?_
      have s196 := hx1.sh sh_196
      refine pa_aload_n (pc' := 103) dX12_whaleLine_102 rfl rfl ?_
      refine pa_getI (pc' := 106) (n := 39) dX12_whaleLine_103 fl_12_100 s196 (by decide) hf1 rfl ?_
      refine pa_if_t (pc' := 110) dX12_whaleLine_106 (by decide) (by decide) ?_
      refine pa_aload_n (pc' := 111) dX12_whaleLine_110 rfl rfl ?_
      refine pa_callv (pc' := 114) (vs := []) (rest := []) dX12_whaleLine_111 ml_12_121 (by decide) rfl rfl rfl (fun d' _ => m_next hx1 K1.1.2.2.2.1 (tE_sp hq0).2.1) (fun v g2 hq => ?_)
      obtain ⟨er, hq⟩ := hq
      subst er
      have K1 : mE R0 y n A (upA A.2.1 (7 + cH A) (tW y n p)) (.inr (tE y n q0)) g2 := K1.nx hq (tE_sp hq0).2.1
      show zPn N none d mX12_whaleLine (114, [(2, .inl x), (1, .inl (nI (107 + 4 * cH A))), (0, .inr (.inr (some 196)))], [], g2) _
      refine pa_aload_n (pc' := 115) dX12_whaleLine_114 rfl rfl ?_
      refine pa_getR (pc' := 118) (n := 39) (r := 200) dX12_whaleLine_115 fl_12_23 (K1.mx.sh sh_196) (by decide) (K1.mx.2.1 _ _ _ rf_196_16) rfl ?_
      refine pa_iload_n (pc' := 119) dX12_whaleLine_118 rfl rfl ?_
      refine pa_iload_n (pc' := 120) dX12_whaleLine_119 rfl rfl ?_
      refine pa_iast (pc' := 121) (n := 363) dX12_whaleLine_120 (K1.mx.sh sh_200) rfl (fun _ => ?_)
      rw [nI_clamp (by omega)]
      have K1 := K1.zs (j := 107 + 4 * cH A) (v := x) hI (wr_wh hI (by omega))
      have w0 : (zsI g2 200 (107 + 4 * cH A) x).2.1 200 (107 + 4 * cH A) = kdV y n q0 := zsI_eq.trans hk
      refine pa_aload_n (pc' := 122) dX12_whaleLine_121 rfl rfl ?_
      refine pa_getR (pc' := 125) (n := 39) (r := 200) dX12_whaleLine_122 fl_12_23 (K1.mx.sh sh_196) (by decide) (K1.mx.2.1 _ _ _ rf_196_16) rfl ?_
      refine pa_iload_n (pc' := 126) dX12_whaleLine_125 rfl rfl ?_
      refine pa_iconst (v := nI 1) (pc' := 127) dX12_whaleLine_126 (by decide) rfl ?_
      refine pa_iadd (pc' := 128) (v := nI (107 + 4 * cH A + 1)) dX12_whaleLine_127 (nI_add _ _) rfl ?_
      refine pa_aload_n (pc' := 129) dX12_whaleLine_128 rfl rfl ?_
      refine pa_ldc (pc' := 131) dX12_whaleLine_129 cl_12_245 rfl rfl ?_
      refine pa_callv (pc' := 134) (vs := [.inr (.inr (some 1000050))]) (rest := [.inl (nI (107 + 4 * cH A + 1)), .inr (.inr (some 200))]) dX12_whaleLine_131 ml_12_246 (by decide) rfl rfl rfl (fun d' _ => M_behind hn K1 (bs := wAt) rfl) (fun v f1 hq => ?_)
      obtain ⟨v1, er, K2, hfr1, c1⟩ := hq.E
      subst er
      refine pa_iast (pc' := 135) (n := 363) (v := v1) dX12_whaleLine_134 (K2.mx.sh sh_200) rfl (fun _ => ?_)
      rw [nI_clamp (by omega)]
      have K1 := K2.zs (j := 107 + 4 * cH A + 1) (v := v1) hI (wr_wh hI (by omega))
      clear K2
      have w0 := (zsI_no (h := f1) (a := 200) (k := 107 + 4 * cH A + 1) (x := v1) (by omega)).trans ((hfr1 200 _ (by omega) (by omega)).trans w0)
      have w1 : (zsI f1 200 (107 + 4 * cH A + 1) v1).2.1 200 (107 + 4 * cH A + 1) = v1 := zsI_eq
      refine pa_aload_n (pc' := 136) dX12_whaleLine_135 rfl rfl ?_
      refine pa_getR (pc' := 139) (n := 39) (r := 200) dX12_whaleLine_136 fl_12_23 (K1.mx.sh sh_196) (by decide) (K1.mx.2.1 _ _ _ rf_196_16) rfl ?_
      refine pa_iload_n (pc' := 140) dX12_whaleLine_139 rfl rfl ?_
      refine pa_iconst (v := nI 2) (pc' := 141) dX12_whaleLine_140 (by decide) rfl ?_
      refine pa_iadd (pc' := 142) (v := nI (107 + 4 * cH A + 2)) dX12_whaleLine_141 (nI_add _ _) rfl ?_
      refine pa_aload_n (pc' := 143) dX12_whaleLine_142 rfl rfl ?_
      refine pa_ldc (pc' := 145) dX12_whaleLine_143 cl_12_250 rfl rfl ?_
      refine pa_iconst (v := 0) (pc' := 146) dX12_whaleLine_145 (by decide) rfl ?_
      refine pa_bipush (v := 99) (pc' := 148) dX12_whaleLine_146 (by decide) rfl ?_
      refine pa_callv (pc' := 151) (vs := [.inr (.inr (some 1000051)), .inl 0, .inl 99]) (rest := [.inl (nI (107 + 4 * cH A + 2)), .inr (.inr (some 200))]) dX12_whaleLine_148 ml_12_213 (by decide) rfl rfl rfl (fun d' _ => M_after K1 (bs := wKeeps) rfl) (fun v f2 hq => ?_)
      obtain ⟨v2, er, K2, hfr2, c2⟩ := hq.E
      subst er
      refine pa_iast (pc' := 152) (n := 363) (v := v2) dX12_whaleLine_151 (K2.mx.sh sh_200) rfl (fun _ => ?_)
      rw [nI_clamp (by omega)]
      have K1 := K2.zs (j := 107 + 4 * cH A + 2) (v := v2) hI (wr_wh hI (by omega))
      clear K2
      have w0 := (zsI_no (h := f2) (a := 200) (k := 107 + 4 * cH A + 2) (x := v2) (by omega)).trans ((hfr2 200 _ (by omega) (by omega)).trans w0)
      have w1 := (zsI_no (h := f2) (a := 200) (k := 107 + 4 * cH A + 2) (x := v2) (by omega)).trans ((hfr2 200 _ (by omega) (by omega)).trans w1)
      have w2 : (zsI f2 200 (107 + 4 * cH A + 2) v2).2.1 200 (107 + 4 * cH A + 2) = v2 := zsI_eq
      refine pa_aload_n (pc' := 153) dX12_whaleLine_152 rfl rfl ?_
      refine pa_getR (pc' := 156) (n := 39) (r := 200) dX12_whaleLine_153 fl_12_23 (K1.mx.sh sh_196) (by decide) (K1.mx.2.1 _ _ _ rf_196_16) rfl ?_
      refine pa_iload_n (pc' := 157) dX12_whaleLine_156 rfl rfl ?_
      refine pa_iconst (v := nI 3) (pc' := 158) dX12_whaleLine_157 (by decide) rfl ?_
      refine pa_iadd (pc' := 159) (v := nI (107 + 4 * cH A + 3)) dX12_whaleLine_158 (nI_add _ _) rfl ?_
      refine pa_aload_n (pc' := 160) dX12_whaleLine_159 rfl rfl ?_
      refine pa_ldc (pc' := 162) dX12_whaleLine_160 cl_12_252 rfl rfl ?_
      refine pa_iconst (v := 0) (pc' := 163) dX12_whaleLine_162 (by decide) rfl ?_
      refine pa_bipush (v := 99) (pc' := 165) dX12_whaleLine_163 (by decide) rfl ?_
      refine pa_callv (pc' := 168) (vs := [.inr (.inr (some 1000052)), .inl 0, .inl 99]) (rest := [.inl (nI (107 + 4 * cH A + 3)), .inr (.inr (some 200))]) dX12_whaleLine_165 ml_12_213 (by decide) rfl rfl rfl (fun d' _ => M_after K1 (bs := wLost) rfl) (fun v f3 hq => ?_)
      obtain ⟨v3, er, K2, hfr3, c3⟩ := hq.E
      subst er
      refine pa_iast (pc' := 169) (n := 363) (v := v3) dX12_whaleLine_168 (K2.mx.sh sh_200) rfl (fun _ => ?_)
      rw [nI_clamp (by omega)]
      have K1 := K2.zs (j := 107 + 4 * cH A + 3) (v := v3) hI (wr_wh hI (by omega))
      clear K2
      have w0 := (zsI_no (h := f3) (a := 200) (k := 107 + 4 * cH A + 3) (x := v3) (by omega)).trans ((hfr3 200 _ (by omega) (by omega)).trans w0)
      have w1 := (zsI_no (h := f3) (a := 200) (k := 107 + 4 * cH A + 3) (x := v3) (by omega)).trans ((hfr3 200 _ (by omega) (by omega)).trans w1)
      have w2 := (zsI_no (h := f3) (a := 200) (k := 107 + 4 * cH A + 3) (x := v3) (by omega)).trans ((hfr3 200 _ (by omega) (by omega)).trans w2)
      have w3 : (zsI f3 200 (107 + 4 * cH A + 3) v3).2.1 200 (107 + 4 * cH A + 3) = v3 := zsI_eq
      have hff := K1.fb
      have s196 := K1.mx.sh sh_196
      have s200 := K1.mx.sh sh_200
      have r196_16 := K1.mx.2.1 _ _ _ rf_196_16
      refine pa_aload_n (pc' := 170) dX12_whaleLine_169 rfl rfl ?_
      refine pa_getI (pc' := 173) (n := 39) dX12_whaleLine_170 fl_12_100 s196 (by decide) hff rfl ?_
      have bad : ∀ {e : sF} {g : zH}, mF R0 y n e g → sWhale y n A p = .inl e → zPn N none d mX12_whaleLine (187, [(2, .inl x), (1, .inl (nI (107 + 4 * cH A))), (0, .inr (.inr (some 196)))], [], g) (lnM R0 y n (sWhale y n A p)) := by
        intro e g hF he
        refine pa_vret dX12_whaleLine_187 rfl ⟨rfl, ?_⟩
        rw [he]
        exact hF
      clear hff
      cases e1 : sWord y n wAt (tE y n q0) with
      | inl e =>
        simp only [e1, bindS, sndS] at K1 ⊢
        exact pa_if_t (pc' := 187) dX12_whaleLine_173 rfl (by decide) (bad K1 (by simp only [sWhale, e0, z, eq_self, if_true, e1]))
      | inr q1 =>
        cases e2 : sOld y n (upA A.2.1 (7 + cH A) (tW y n p)) 0 6 q1 with
        | inl e =>
          simp only [e1, e2, bindS, sndS] at K1 ⊢
          exact pa_if_t (pc' := 187) dX12_whaleLine_173 rfl (by decide) (bad K1 (by simp only [sWhale, e0, z, eq_self, if_true, e1, e2]))
        | inr q2 =>
          obtain ⟨x2, q2⟩ := q2
          cases e3 : sWN y n wKeeps 0 99 q2 with
          | inl e =>
            simp only [e1, e2, e3, bindS, sndS] at K1 ⊢
            exact pa_if_t (pc' := 187) dX12_whaleLine_173 rfl (by decide) (bad K1 (by simp only [sWhale, e0, z, eq_self, if_true, e1, e2, e3]))
          | inr q3 =>
            obtain ⟨x3, q3⟩ := q3
            cases e4 : sWN y n wLost 0 99 q3 with
            | inl e =>
              simp only [e1, e2, e3, e4, bindS, sndS] at K1 ⊢
              exact pa_if_t (pc' := 187) dX12_whaleLine_173 rfl (by decide) (bad K1 (by simp only [sWhale, e0, z, eq_self, if_true, e1, e2, e3, e4]))
            | inr q4 =>
              obtain ⟨x4, q4⟩ := q4
              simp only [e1, e2, e3, e4, bindS, sndS] at K1 ⊢
              refine pa_if_f (pc' := 176) dX12_whaleLine_173 rfl (by decide) rfl ?_
              have k6 := (show mS R0 y n A _ q4 _ from K1).2.2.1.2.2.2.2.1
              refine pa_aload_n (pc' := 177) dX12_whaleLine_176 rfl rfl ?_
              refine pa_getR (pc' := 180) (n := 39) (r := 200) dX12_whaleLine_177 fl_12_23 s196 (by decide) r196_16 rfl ?_
              refine pa_bipush (v := nI 6) (pc' := 182) dX12_whaleLine_180 (by decide) rfl ?_
              refine pa_dup2 (pc' := 183) dX12_whaleLine_182 ⟨rfl, rfl⟩ rfl ?_
              refine pa_iald (pc' := 184) (n := 363) dX12_whaleLine_183 s200 rfl (fun _ => ?_)
              rw [nI_clamp (by omega), k6]
              refine pa_iconst (v := nI 1) (pc' := 185) dX12_whaleLine_184 (by decide) rfl ?_
              refine pa_iadd (pc' := 186) (v := nI (cH A + 1)) dX12_whaleLine_185 (nI_add _ _) rfl ?_
              refine pa_iast (pc' := 187) (n := 363) dX12_whaleLine_186 s200 rfl (fun _ => ?_)
              rw [nI_clamp (by omega)]
              refine pa_vret dX12_whaleLine_187 rfl ⟨rfl, ?_⟩
              simp only [sWhale, e0, z, eq_self, if_true, e1, e2, e3, e4]
              have K1 : mS R0 y n A _ q4 _ := K1
              have c1 := c1 x2 q2 (by simp only [e1, e2, bindS, sndS])
              have c2 := c2 x3 q3 (by simp only [e1, e2, e3, bindS, sndS])
              have c3 := c3 x4 q4 (by simp only [e1, e2, e3, e4, bindS, sndS])
              exact ⟨K1.1.zs, by rw [zsI_no (by omega)]; exact K1.2.1, K1.2.2.1.whaled hI hH w0 (w1.trans c1) (w2.trans c2) (w3.trans c3), K1.2.2.2.zs (by omega)⟩
    refine pa_aload_n (pc' := 36) dX12_whaleLine_35 rfl rfl ?_
    refine pa_ldc (pc' := 38) dX12_whaleLine_36 cl_12_237 rfl rfl ?_
    refine pa_callv (pc' := 41) (vs := [.inr (.inr (some 1000046))]) (rest := []) dX12_whaleLine_38 ml_12_117 (by decide) rfl rfl rfl (fun d' _ => m_isW K1.1 hf1 (bs := [99, 97, 108, 102]) rfl) (fun v g2 hq => ?_)
    obtain ⟨eg, hq⟩ := hq
    subst eg
    rcases hq with ⟨er, w1⟩ | ⟨er, w1⟩ <;> subst er
    · refine pa_if_f (x := 1) (pc' := 44) dX12_whaleLine_41 (by decide) (by decide) rfl ?_
      refine pa_iconst (v := 0) (pc' := 45) dX12_whaleLine_44 (by decide) rfl ?_
      refine pa_goto (pc' := 88) dX12_whaleLine_45 (by decide) ?_
      exact yes 0 (by decide) (knd_v (x := 0) (.inl ⟨rfl, w1⟩) (by decide)) (isKind_w.mpr (.inl w1))
    refine pa_if_t (x := 0) (pc' := 48) dX12_whaleLine_41 (by decide) (by decide) ?_
    refine pa_aload_n (pc' := 49) dX12_whaleLine_48 rfl rfl ?_
    refine pa_ldc (pc' := 51) dX12_whaleLine_49 cl_12_239 rfl rfl ?_
    refine pa_callv (pc' := 54) (vs := [.inr (.inr (some 1000047))]) (rest := []) dX12_whaleLine_51 ml_12_117 (by decide) rfl rfl rfl (fun d' _ => m_isW K1.1 hf1 (bs := [99, 111, 119]) rfl) (fun v g2 hq => ?_)
    obtain ⟨eg, hq⟩ := hq
    subst eg
    rcases hq with ⟨er, w2⟩ | ⟨er, w2⟩ <;> subst er
    · refine pa_if_f (x := 1) (pc' := 57) dX12_whaleLine_54 (by decide) (by decide) rfl ?_
      refine pa_iconst (v := 1) (pc' := 58) dX12_whaleLine_57 (by decide) rfl ?_
      refine pa_goto (pc' := 88) dX12_whaleLine_58 (by decide) ?_
      exact yes 1 (by decide) (knd_v (x := 1) (.inr (.inl ⟨rfl, w1, w2⟩)) (by decide)) (isKind_w.mpr (.inr (.inl w2)))
    refine pa_if_t (x := 0) (pc' := 61) dX12_whaleLine_54 (by decide) (by decide) ?_
    refine pa_aload_n (pc' := 62) dX12_whaleLine_61 rfl rfl ?_
    refine pa_ldc (pc' := 64) dX12_whaleLine_62 cl_12_241 rfl rfl ?_
    refine pa_callv (pc' := 67) (vs := [.inr (.inr (some 1000048))]) (rest := []) dX12_whaleLine_64 ml_12_117 (by decide) rfl rfl rfl (fun d' _ => m_isW K1.1 hf1 (bs := [98, 117, 108, 108]) rfl) (fun v g2 hq => ?_)
    obtain ⟨eg, hq⟩ := hq
    subst eg
    rcases hq with ⟨er, w3⟩ | ⟨er, w3⟩ <;> subst er
    · refine pa_if_f (x := 1) (pc' := 70) dX12_whaleLine_67 (by decide) (by decide) rfl ?_
      refine pa_iconst (v := 2) (pc' := 71) dX12_whaleLine_70 (by decide) rfl ?_
      refine pa_goto (pc' := 88) dX12_whaleLine_71 (by decide) ?_
      exact yes 2 (by decide) (knd_v (x := 2) (.inr (.inr (.inl ⟨rfl, w1, w2, w3⟩))) (by decide)) (isKind_w.mpr (.inr (.inr (.inl w3))))
    refine pa_if_t (x := 0) (pc' := 74) dX12_whaleLine_67 (by decide) (by decide) ?_
    refine pa_aload_n (pc' := 75) dX12_whaleLine_74 rfl rfl ?_
    refine pa_ldc (pc' := 77) dX12_whaleLine_75 cl_12_243 rfl rfl ?_
    refine pa_callv (pc' := 80) (vs := [.inr (.inr (some 1000049))]) (rest := []) dX12_whaleLine_77 ml_12_117 (by decide) rfl rfl rfl (fun d' _ => m_isW K1.1 hf1 (bs := [111, 108, 100]) rfl) (fun v g2 hq => ?_)
    obtain ⟨eg, hq⟩ := hq
    subst eg
    rcases hq with ⟨er, w4⟩ | ⟨er, w4⟩ <;> subst er
    · refine pa_if_f (x := 1) (pc' := 83) dX12_whaleLine_80 (by decide) (by decide) rfl ?_
      refine pa_iconst (v := 3) (pc' := 84) dX12_whaleLine_83 (by decide) rfl ?_
      refine pa_goto (pc' := 88) dX12_whaleLine_84 (by decide) ?_
      exact yes 3 (by decide) (knd_v (x := 3) (.inr (.inr (.inr (.inl ⟨rfl, w1, w2, w3, w4⟩)))) (by decide)) (isKind_w.mpr (.inr (.inr (.inr w4))))
    refine pa_if_t (x := 0) (pc' := 87) dX12_whaleLine_80 (by decide) (by decide) ?_
    refine no ?_
    cases z : isKind y n q0 with
    | false => rfl
    | true =>
      rcases isKind_w.mp z with q | q | q | q
      · exact absurd q w1
      · exact absurd q w2
      · exact absurd q w3
      · exact absurd q w4
end MDA
end Pk6
section Pk7
/-! the reference: ways -/
section MDB
variable {R0 : Nat → Nat → Int32} {y : Nat → Int32} {n d N p k s : Nat} {h h' g : zH} {A : pA} {nm : Nat → List Int32} {e : sF} {r : sF ⊕ Nat}
def jP (g : zH) (a b : Int32) (k : Nat) : Prop := (g.2.1 200 (59 + 4 * k) = a ∧ g.2.1 200 (59 + 4 * k + 1) = b) ∨ (g.2.1 200 (59 + 4 * k) = b ∧ g.2.1 200 (59 + 4 * k + 1) = a)
theorem M_joins {a b : Int32} (s200 : zsh g 200 = some (14, 363)) (hk : k < 12) : zPa d mX12_joins [.inr (.inr (some 200)), .inl (nI k), .inl a, .inl b] g (fun v h' => h' = g ∧ ((v = some (.inl 1) ∧ jP g a b k) ∨ (v = some (.inl 0) ∧ ¬ jP g a b k))) := by
  intro N
  show zPn N none d mX12_joins (0, [(0, .inr (.inr (some 200))), (1, .inl (nI k)), (2, .inl a), (3, .inl b)], [], g) _
  refine pa_aload_n (pc' := 1) dX12_joins_0 rfl rfl ?_
  refine pa_bipush (v := nI 59) (pc' := 3) dX12_joins_1 (by decide) rfl ?_
  refine pa_iconst (v := nI 4) (pc' := 4) dX12_joins_3 (by decide) rfl ?_
  refine pa_iload_n (pc' := 5) dX12_joins_4 rfl rfl ?_
  refine pa_imul (pc' := 6) (v := nI (4 * k)) dX12_joins_5 (nI_mul _ _) rfl ?_
  refine pa_iadd (pc' := 7) (v := nI (59 + 4 * k)) dX12_joins_6 (nI_add _ _) rfl ?_
  refine pa_iald (pc' := 8) (n := 363) dX12_joins_7 s200 rfl (fun _ => ?_)
  rw [nI_clamp (by omega)]
  refine pa_istore (pc' := 10) dX12_joins_8 (by decide) rfl rfl ?_
  refine pa_aload_n (pc' := 11) dX12_joins_10 rfl rfl ?_
  refine pa_bipush (v := nI 59) (pc' := 13) dX12_joins_11 (by decide) rfl ?_
  refine pa_iconst (v := nI 4) (pc' := 14) dX12_joins_13 (by decide) rfl ?_
  refine pa_iload_n (pc' := 15) dX12_joins_14 rfl rfl ?_
  refine pa_imul (pc' := 16) (v := nI (4 * k)) dX12_joins_15 (nI_mul _ _) rfl ?_
  refine pa_iadd (pc' := 17) (v := nI (59 + 4 * k)) dX12_joins_16 (nI_add _ _) rfl ?_
  refine pa_iconst (v := nI 1) (pc' := 18) dX12_joins_17 (by decide) rfl ?_
  refine pa_iadd (pc' := 19) (v := nI (59 + 4 * k + 1)) dX12_joins_18 (nI_add _ _) rfl ?_
  refine pa_iald (pc' := 20) (n := 363) dX12_joins_19 s200 rfl (fun _ => ?_)
  rw [nI_clamp (by omega)]
  refine pa_istore (pc' := 22) dX12_joins_20 (by decide) rfl rfl ?_
  have yes : jP g a b k → ∀ ls : zL, zPn N none d mX12_joins (46, ls, [], g) (fun v h' => h' = g ∧ ((v = some (.inl 1) ∧ jP g a b k) ∨ (v = some (.inl 0) ∧ ¬ jP g a b k))) := by
    intro z ls
    refine pa_iconst (v := 1) (pc' := 47) dX12_joins_46 (by decide) rfl ?_
    refine pa_goto (pc' := 51) dX12_joins_47 (by decide) ?_
    exact pa_iret dX12_joins_51 rfl rfl ⟨rfl, .inl ⟨rfl, z⟩⟩
  have no : ¬ jP g a b k → ∀ ls : zL, zPn N none d mX12_joins (50, ls, [], g) (fun v h' => h' = g ∧ ((v = some (.inl 1) ∧ jP g a b k) ∨ (v = some (.inl 0) ∧ ¬ jP g a b k))) := by
    intro z ls
    refine pa_iconst (v := 0) (pc' := 51) dX12_joins_50 (by decide) rfl ?_
    exact pa_iret dX12_joins_51 rfl rfl ⟨rfl, .inr ⟨rfl, z⟩⟩
  have two : ¬ (g.2.1 200 (59 + 4 * k) = a ∧ g.2.1 200 (59 + 4 * k + 1) = b) → zPn N none d mX12_joins (34, [(5, .inl (g.2.1 200 (59 + 4 * k + 1))), (4, .inl (g.2.1 200 (59 + 4 * k))), (0, .inr (.inr (some 200))), (1, .inl (nI k)), (2, .inl a), (3, .inl b)], [], g) (fun v h' => h' = g ∧ ((v = some (.inl 1) ∧ jP g a b k) ∨ (v = some (.inl 0) ∧ ¬ jP g a b k))) := by
    intro w
    refine pa_iload (pc' := 36) dX12_joins_34 rfl rfl ?_
    refine pa_iload_n (pc' := 37) dX12_joins_36 rfl rfl ?_
    refine pa_icmp (pc' := 50) (pc2 := 40) dX12_joins_37 (by decide) rfl (fun cd => no (fun z => ?_) _) (fun cd => ?_)
    · have cd : ¬ g.2.1 200 (59 + 4 * k) = b := by simpa [zcond] using cd
      rcases z with z | z
      · exact w z
      · exact cd z.1
    · have cd : g.2.1 200 (59 + 4 * k) = b := by simpa [zcond] using cd
      refine pa_iload (pc' := 42) dX12_joins_40 rfl rfl ?_
      refine pa_iload_n (pc' := 43) dX12_joins_42 rfl rfl ?_
      refine pa_icmp (pc' := 50) (pc2 := 46) dX12_joins_43 (by decide) rfl (fun cd2 => no (fun z => ?_) _) (fun cd2 => ?_)
      · have cd2 : ¬ g.2.1 200 (59 + 4 * k + 1) = a := by simpa [zcond] using cd2
        rcases z with z | z
        · exact w z
        · exact cd2 z.2
      · have cd2 : g.2.1 200 (59 + 4 * k + 1) = a := by simpa [zcond] using cd2
        exact yes (.inr ⟨cd, cd2⟩) _
  refine pa_iload (pc' := 24) dX12_joins_22 rfl rfl ?_
  refine pa_iload_n (pc' := 25) dX12_joins_24 rfl rfl ?_
  refine pa_icmp (pc' := 34) (pc2 := 28) dX12_joins_25 (by decide) rfl (fun cd => two (fun z => ?_)) (fun cd => ?_)
  · have cd : ¬ g.2.1 200 (59 + 4 * k) = a := by simpa [zcond] using cd
    exact cd z.1
  · have cd : g.2.1 200 (59 + 4 * k) = a := by simpa [zcond] using cd
    refine pa_iload (pc' := 30) dX12_joins_28 rfl rfl ?_
    refine pa_iload_n (pc' := 31) dX12_joins_30 rfl rfl ?_
    refine pa_icmp (pc' := 46) (pc2 := 34) dX12_joins_31 (by decide) rfl (fun cd2 => ?_) (fun cd2 => two (fun z => ?_))
    · have cd2 : g.2.1 200 (59 + 4 * k + 1) = b := by simpa [zcond] using cd2
      exact yes (.inl ⟨cd, cd2⟩) _
    · have cd2 : ¬ g.2.1 200 (59 + 4 * k + 1) = b := by simpa [zcond] using cd2
      exact cd2 z.2
theorem wr_wy (hI : pI A) (hW : cW A < 12) {t : Nat} (ht : t < 4) : wr2 A (59 + 4 * cW A + t) := by
  obtain ⟨b1, b2, b3, b4, b5⟩ := hI.2.2.1
  exact ⟨by omega, by omega, fun _ => by omega, fun i hi => by omega, fun i hi => by omega, fun i hi => by omega, fun i _ ok => by unfold okX at ok; omega⟩
theorem rmC.wayed {a b : Nat} {u w : Int32} (hI : pI A) (hW : cW A < 12) (K : rmC A h) (va : h.2.1 200 (59 + 4 * cW A) = nI a) (vb : h.2.1 200 (59 + 4 * cW A + 1) = nI b) (v2 : h.2.1 200 (59 + 4 * cW A + 2) = u) (v3 : h.2.1 200 (59 + 4 * cW A + 3) = w) : rmC (A.1, nm, xS (xS A.2.2.1 (61 + 4 * cW A) u) (62 + 4 * cW A) w, upA A.2.2.2.1 (cW A) (a, b), A.2.2.2.2.1, cI A, cW A + 1, cH A, cB A, cS A) (zsI h 200 5 (nI (cW A + 1))) := by
  obtain ⟨b1, b2, b3, b4, b5⟩ := hI.2.2.1
  obtain ⟨k1, k2, k3, k4, k5, k6, k7, k8, k9, k10, k11⟩ := K
  refine ⟨by rw [zsI_no (by omega)]; exact k1, fun z => by rw [zsI_no (by omega)]; exact k2 z, by rw [zsI_no (by omega)]; exact k3, zsI_eq, by rw [zsI_no (by omega)]; exact k5, by rw [zsI_no (by omega)]; exact k6, by rw [zsI_no (by omega)]; exact k7, fun i hi => ?_, fun i hi => ?_, fun i hi => ?_, ?_⟩
  · have hi : i < cI A := hi
    show (zsI h 200 5 _).2.1 200 (10 + 7 * i) = nI (xS (xS A.2.2.1 (61 + 4 * cW A) u) (62 + 4 * cW A) w i).length ∧ ∀ k, k < (xS (xS A.2.2.1 (61 + 4 * cW A) u) (62 + 4 * cW A) w i).length → (zsI h 200 5 _).2.1 200 (10 + 7 * i + 1 + k) = (xS (xS A.2.2.1 (61 + 4 * cW A) u) (62 + 4 * cW A) w i).getD k 0 - 97
    rw [xS2 (by omega)]
    exact ⟨by rw [zsI_no (by omega)]; exact (k8 i hi).1, fun q hq => by rw [zsI_no (by omega)]; exact (k8 i hi).2 q hq⟩
  · have hi : i < cW A + 1 := hi
    show (zsI h 200 5 _).2.1 200 (59 + 4 * i) = nI (upA A.2.2.2.1 (cW A) (a, b) i).1 ∧ (zsI h 200 5 _).2.1 200 (59 + 4 * i + 1) = nI (upA A.2.2.2.1 (cW A) (a, b) i).2
    rw [zsI_no (by omega), zsI_no (by omega), upA_at]
    split
    · next z => subst z; exact ⟨va, vb⟩
    · exact k9 i (by omega)
  · rw [zsI_no (by omega), zsI_no (by omega)]; exact k10 i hi
  · have g : mX (okX (A.1, nm, A.2.2.1, A.2.2.2.1, A.2.2.2.2.1, cI A, cW A + 1, cH A, cB A, cS A)) A.2.2.1 (zsI h 200 5 (nI (cW A + 1))) := (k11.cnt (k := 5) (v := nI (cW A + 1)) (by decide) (by decide) hI).mono (fun j ok => ok.up id (Nat.le_succ _) (Nat.le_refl _) (Nat.le_refl _) (Nat.le_refl _))
    have ok : ∀ s, s < 4 → okX (A.1, nm, A.2.2.1, A.2.2.2.1, A.2.2.2.2.1, cI A, cW A + 1, cH A, cB A, cS A) (59 + 4 * cW A + s) := fun s hs => .inr (.inl ⟨by omega, by show 59 + 4 * cW A + s < 59 + 4 * (cW A + 1); omega⟩)
    have e1 : 61 + 4 * cW A = 59 + 4 * cW A + 2 := by omega
    have e2 : 62 + 4 * cW A = 59 + 4 * cW A + 3 := by omega
    rw [e1, e2]
    exact (g.add (ok 2 (by decide)) ((zsI_no (by omega)).trans v2)).add (ok 3 (by decide)) ((zsI_no (by omega)).trans v3)
set_option maxRecDepth 8000 in
theorem M_way (hI : pI A) (hW : cW A < 12) (K : mS R0 y n A A.2.1 p h) : zPa d mX12_wayLine [.inr (.inr (some 196))] h (lnM R0 y n (sWay y n A p)) := by
  intro N
  have hx := K.1.1
  have s196 := hx.sh sh_196
  have s200 := hx.sh sh_200
  have r196_16 := hx.2.1 _ _ _ rf_196_16
  have hf := K.2.1
  have k5 := K.2.2.1.2.2.2.1
  have hn := hI.2.2.2.2.1
  show zPn N none d mX12_wayLine (0, [(0, .inr (.inr (some 196)))], [], h) _
  refine pa_aload_n (pc' := 1) dX12_wayLine_0 rfl rfl ?_
  refine pa_getI (pc' := 4) (n := 39) dX12_wayLine_1 fl_12_100 s196 (by decide) hf rfl ?_
  refine pa_if_t (pc' := 8) dX12_wayLine_4 (by decide) (by decide) ?_
  refine pa_bipush (v := nI 59) (pc' := 10) dX12_wayLine_8 (by decide) rfl ?_
  refine pa_iconst (v := nI 4) (pc' := 11) dX12_wayLine_10 (by decide) rfl ?_
  refine pa_aload_n (pc' := 12) dX12_wayLine_11 rfl rfl ?_
  refine pa_getR (pc' := 15) (n := 39) (r := 200) dX12_wayLine_12 fl_12_23 s196 (by decide) r196_16 rfl ?_
  refine pa_iconst (v := nI 5) (pc' := 16) dX12_wayLine_15 (by decide) rfl ?_
  refine pa_iald (pc' := 17) (n := 363) dX12_wayLine_16 s200 rfl (fun _ => ?_)
  rw [nI_clamp (by omega), k5]
  refine pa_imul (pc' := 18) (v := nI (4 * cW A)) dX12_wayLine_17 (nI_mul _ _) rfl ?_
  refine pa_iadd (pc' := 19) (v := nI (59 + 4 * cW A)) dX12_wayLine_18 (nI_add _ _) rfl ?_
  refine pa_istore_n (pc' := 20) (ls' := [(1, .inl (nI (59 + 4 * cW A))), (0, .inr (.inr (some 196)))]) dX12_wayLine_19 (by decide) rfl rfl ?_
  refine pa_aload_n (pc' := 21) dX12_wayLine_20 rfl rfl ?_
  refine pa_callv (pc' := 24) (vs := []) (rest := []) dX12_wayLine_21 ml_12_161 (by decide) rfl rfl rfl (fun d' _ => M_passed (r := .inr p) hn K) (fun v g1 hq => ?_)
  obtain ⟨xa, er, K1, hfr1, ca⟩ := hq.E
  subst er
  refine pa_istore_n (pc' := 25) (v := xa) (ls' := [(2, .inl xa), (1, .inl (nI (59 + 4 * cW A))), (0, .inr (.inr (some 196)))]) (st := []) dX12_wayLine_24 (by decide) rfl rfl ?_
  refine pa_aload_n (pc' := 26) dX12_wayLine_25 rfl rfl ?_
  refine pa_iconst (v := nI 0) (pc' := 27) dX12_wayLine_26 (by decide) rfl ?_
  refine pa_bipush (v := nI 6) (pc' := 29) dX12_wayLine_27 (by decide) rfl ?_
  refine pa_callv (pc' := 32) (vs := [.inl (nI 0), .inl (nI 6)]) (rest := []) dX12_wayLine_29 ml_12_153 (by decide) rfl rfl rfl (fun d' _ => M_named (by decide) hn K1) (fun v g2 hq2 => ?_)
  obtain ⟨hfr2, xb, er, hq2⟩ := hq2
  subst er
  have cs : (∃ e, mF R0 y n e g2 ∧ sWay y n A p = .inl e) ∨ (∃ a b q1 q2, sOld y n A.2.1 0 6 p = .inr (a, q1) ∧ sOld y n A.2.1 0 6 q1 = .inr (b, q2) ∧ q2 = tE y n q1 ∧ xa = nI a ∧ xb = nI b ∧ a < 7 ∧ b < 7 ∧ mS R0 y n A A.2.1 q1 g2) := by
    cases e1 : sOld y n A.2.1 0 6 p with
    | inl e =>
      simp only [bindS, e1, sndS] at hq2
      exact .inl ⟨e, hq2.1, by simp only [sWay, e1]⟩
    | inr z1 =>
      obtain ⟨a, q1⟩ := z1
      have ca := ca a q1 e1
      cases e2 : sOld y n A.2.1 0 6 q1 with
      | inl e =>
        simp only [bindS, e1, e2, sndS] at hq2
        exact .inl ⟨e, hq2.1, by simp only [sWay, e1, e2]⟩
      | inr z2 =>
        obtain ⟨b, q2⟩ := z2
        simp only [bindS, e1, e2, sndS] at hq2
        obtain ⟨eb, p', ep, eq, K2⟩ := hq2
        cases ep
        exact .inr ⟨a, b, q1, q2, rfl, e2, eq, ca, eb, sOld_6 e1, sOld_6 e2, K2⟩
  have x2 : mx R0 y n g2 := by
    rcases cs with ⟨e, z, -⟩ | ⟨a, b, q1, q2, -, -, -, -, -, -, -, z⟩
    · exact z.1
    · exact z.1.1
  have frr : ∀ j, g2.2.1 200 j = h.2.1 200 j := fun j => (hfr2 200 j (by omega) (by omega)).trans (hfr1 200 j (by omega) (by omega))
  have s196 := x2.sh sh_196
  have s200 := x2.sh sh_200
  have r196_16 := x2.2.1 _ _ _ rf_196_16
  have k5 : g2.2.1 200 5 = nI (cW A) := (frr 5).trans k5
  have kw := K.2.2.1.2.2.2.2.2.2.2.2.1
  clear hq hq2 K1
  refine pa_istore_n (pc' := 33) (v := xb) (ls' := [(3, .inl xb), (2, .inl xa), (1, .inl (nI (59 + 4 * cW A))), (0, .inr (.inr (some 196)))]) (st := []) dX12_wayLine_32 (by decide) rfl rfl ?_
  have tail : ∀ (N : Nat) (t : Int32) (ls : zL), (t = 0 ∨ t = 1) → (t = 1 ↔ (xa = xb ∨ ∃ k, k < cW A ∧ jP g2 xa xb k)) → zget ls 0 = some (.inr (.inr (some 196))) → zget ls 1 = some (.inl (nI (59 + 4 * cW A))) → zget ls 2 = some (.inl xa) → zget ls 3 = some (.inl xb) → zget ls 4 = some (.inl t) → zPn N none d mX12_wayLine (91, ls, [], g2) (lnM R0 y n (sWay y n A p)) := by
    intro N t ls ht hti hl0 hl1 hl2 hl3 hl4
    have endF : ∀ {e : sF} {g : zH}, mF R0 y n e g → sWay y n A p = .inl e → zPn N none d mX12_wayLine (112, ls, [], g) (lnM R0 y n (sWay y n A p)) := by
      intro e g hF he
      have s196 := hF.1.sh sh_196
      have hf := hF.2.1
      refine pa_aload_n (pc' := 113) dX12_wayLine_112 hl0 rfl ?_
      refine pa_getI (pc' := 116) (n := 39) dX12_wayLine_113 fl_12_100 s196 (by decide) hf rfl ?_
      refine pa_if_f (pc' := 119) dX12_wayLine_116 (by decide) (by decide) rfl ?_
      refine pa_vret dX12_wayLine_119 rfl ⟨rfl, ?_⟩
      rw [he]
      exact hF
    rcases cs with ⟨e, hF, he⟩ | ⟨a, b, q1, q2, e1, e2, eq, ea, eb, ha, hb, K2⟩
    · have hf := hF.2.1
      refine pa_aload_n (pc' := 92) dX12_wayLine_91 hl0 rfl ?_
      refine pa_getI (pc' := 95) (n := 39) dX12_wayLine_92 fl_12_100 s196 (by decide) hf rfl ?_
      refine pa_if_t (pc' := 112) dX12_wayLine_95 (by decide) (by decide) ?_
      exact endF hF he
    · have hf := K2.2.1
      have hq1 := K2.1.2.1
      have k4 := K2.1.2.2.1
      subst ea; subst eb
      have hany : (t = 1) ↔ (a = b ∨ (List.range (cW A)).any (joinsB A.2.2.2.1 a b) = true) := by
        rw [hti, nI_ne (by omega) (by omega)]
        refine or_congr Iff.rfl ?_
        rw [List.any_eq_true]
        constructor
        · rintro ⟨k, hk, z⟩
          refine ⟨k, List.mem_range.mpr hk, ?_⟩
          obtain ⟨w1, w2⟩ := kw k hk
          obtain ⟨o1, o2⟩ := hI.2.2.2.2.2.2.1 k hk
          unfold jP at z
          rw [frr, frr, w1, w2, nI_ne (by omega) (by omega), nI_ne (by omega) (by omega), nI_ne (by omega) (by omega), nI_ne (by omega) (by omega)] at z
          unfold joinsB
          rcases z with z | z
          · rw [decide_eq_true (Prod.ext z.1 z.2)]; rfl
          · rw [decide_eq_true (p := A.2.2.2.1 k = (b, a)) (Prod.ext z.1 z.2)]; simp
        · rintro ⟨k, hk, z⟩
          have hk := List.mem_range.mp hk
          obtain ⟨w1, w2⟩ := kw k hk
          obtain ⟨o1, o2⟩ := hI.2.2.2.2.2.2.1 k hk
          refine ⟨k, hk, ?_⟩
          unfold jP
          rw [frr, frr, w1, w2, nI_ne (by omega) (by omega), nI_ne (by omega) (by omega), nI_ne (by omega) (by omega), nI_ne (by omega) (by omega)]
          unfold joinsB at z
          rw [Bool.or_eq_true, decide_eq_true_eq, decide_eq_true_eq] at z
          rcases z with z | z
          · rw [z]; exact .inl ⟨rfl, rfl⟩
          · rw [z]; exact .inr ⟨rfl, rfl⟩
      refine pa_aload_n (pc' := 92) dX12_wayLine_91 hl0 rfl ?_
      refine pa_getI (pc' := 95) (n := 39) dX12_wayLine_92 fl_12_100 s196 (by decide) hf rfl ?_
      refine pa_if_f (pc' := 98) dX12_wayLine_95 (by decide) (by decide) rfl ?_
      refine pa_iload (pc' := 100) dX12_wayLine_98 hl4 rfl ?_
      rcases ht with rfl | rfl
      · have nany : ¬ (a = b ∨ (List.range A.2.2.2.2.2.2.1).any (joinsB A.2.2.2.1 a b) = true) := fun z => absurd (hany.mpr z) (by decide)
        refine pa_if_t (pc' := 112) dX12_wayLine_100 (by decide) (by decide) ?_
        refine pa_aload_n (pc' := 113) dX12_wayLine_112 hl0 rfl ?_
        refine pa_getI (pc' := 116) (n := 39) dX12_wayLine_113 fl_12_100 s196 (by decide) hf rfl ?_
        refine pa_if_t (pc' := 120) dX12_wayLine_116 (by decide) (by decide) ?_
        refine pa_aload_n (pc' := 121) dX12_wayLine_120 hl0 rfl ?_
        refine pa_callv (pc' := 124) (vs := []) (rest := []) dX12_wayLine_121 ml_12_121 (by decide) rfl rfl rfl (fun d' _ => m_next K2.1.1 K2.1.2.2.2.1 (tE_sp hq1).2.1) (fun v g3 hq => ?_)
        obtain ⟨er, hq⟩ := hq
        subst er
        have K1 : mE R0 y n A A.2.1 (.inr q2) g3 := by rw [eq]; exact K2.nx hq (tE_sp hq1).2.1
        show zPn N none d mX12_wayLine (124, ls, [], g3) _
        refine pa_aload_n (pc' := 125) dX12_wayLine_124 hl0 rfl ?_
        refine pa_getR (pc' := 128) (n := 39) (r := 200) dX12_wayLine_125 fl_12_23 (K1.mx.sh sh_196) (by decide) (K1.mx.2.1 _ _ _ rf_196_16) rfl ?_
        refine pa_iload_n (pc' := 129) dX12_wayLine_128 hl1 rfl ?_
        refine pa_iload_n (pc' := 130) dX12_wayLine_129 hl2 rfl ?_
        refine pa_iast (pc' := 131) (n := 363) dX12_wayLine_130 (K1.mx.sh sh_200) rfl (fun _ => ?_)
        rw [nI_clamp (by omega)]
        have va : (zsI g3 200 (59 + 4 * cW A) (nI a)).2.1 200 (59 + 4 * cW A) = nI a := zsI_eq
        have K1 := K1.zs (j := 59 + 4 * cW A) (v := nI a) hI (wr_wy (t := 0) hI hW (by omega))
        generalize zsI g3 200 (59 + 4 * cW A) (nI a) = g4 at va K1 ⊢
        refine pa_aload_n (pc' := 132) dX12_wayLine_131 hl0 rfl ?_
        refine pa_getR (pc' := 135) (n := 39) (r := 200) dX12_wayLine_132 fl_12_23 (K1.mx.sh sh_196) (by decide) (K1.mx.2.1 _ _ _ rf_196_16) rfl ?_
        refine pa_iload_n (pc' := 136) dX12_wayLine_135 hl1 rfl ?_
        refine pa_iconst (v := nI 1) (pc' := 137) dX12_wayLine_136 (by decide) rfl ?_
        refine pa_iadd (pc' := 138) (v := nI (59 + 4 * cW A + 1)) dX12_wayLine_137 (nI_add _ _) rfl ?_
        refine pa_iload_n (pc' := 139) dX12_wayLine_138 hl3 rfl ?_
        refine pa_iast (pc' := 140) (n := 363) dX12_wayLine_139 (K1.mx.sh sh_200) rfl (fun _ => ?_)
        rw [nI_clamp (by omega)]
        have va : (zsI g4 200 (59 + 4 * cW A + 1) (nI b)).2.1 200 (59 + 4 * cW A) = nI a := by rw [zsI_no (by omega)]; exact va
        have vb : (zsI g4 200 (59 + 4 * cW A + 1) (nI b)).2.1 200 (59 + 4 * cW A + 1) = nI b := zsI_eq
        have K1 := K1.zs (j := 59 + 4 * cW A + 1) (v := nI b) hI (wr_wy hI hW (by omega))
        generalize zsI g4 200 (59 + 4 * cW A + 1) (nI b) = g5 at va vb K1 ⊢
        refine pa_aload_n (pc' := 141) dX12_wayLine_140 hl0 rfl ?_
        refine pa_getR (pc' := 144) (n := 39) (r := 200) dX12_wayLine_141 fl_12_23 (K1.mx.sh sh_196) (by decide) (K1.mx.2.1 _ _ _ rf_196_16) rfl ?_
        refine pa_iload_n (pc' := 145) dX12_wayLine_144 hl1 rfl ?_
        refine pa_iconst (v := nI 2) (pc' := 146) dX12_wayLine_145 (by decide) rfl ?_
        refine pa_iadd (pc' := 147) (v := nI (59 + 4 * cW A + 2)) dX12_wayLine_146 (nI_add _ _) rfl ?_
        refine pa_aload_n (pc' := 148) dX12_wayLine_147 hl0 rfl ?_
        refine pa_ldc (pc' := 150) dX12_wayLine_148 cl_12_234 rfl rfl ?_
        refine pa_iconst (v := 1) (pc' := 151) dX12_wayLine_150 (by decide) rfl ?_
        refine pa_bipush (v := 99) (pc' := 153) dX12_wayLine_151 (by decide) rfl ?_
        refine pa_callv (pc' := 156) (vs := [.inr (.inr (some 1000044)), .inl 1, .inl 99]) (rest := [.inl (nI (59 + 4 * cW A + 2)), .inr (.inr (some 200))]) dX12_wayLine_153 ml_12_213 (by decide) rfl rfl rfl (fun d' _ => M_after K1 (bs := wDays) rfl) (fun v f1 hq => ?_)
        obtain ⟨v1, er, K2, hfr1, c1⟩ := hq.E
        subst er
        refine pa_iast (pc' := 157) (n := 363) (v := v1) dX12_wayLine_156 (K2.mx.sh sh_200) rfl (fun _ => ?_)
        rw [nI_clamp (by omega)]
        have K1 := K2.zs (j := 59 + 4 * cW A + 2) (v := v1) hI (wr_wy hI hW (by omega))
        clear K2
        have va := (zsI_no (h := f1) (a := 200) (k := 59 + 4 * cW A + 2) (x := v1) (by omega)).trans ((hfr1 200 _ (by omega) (by omega)).trans va)
        have vb := (zsI_no (h := f1) (a := 200) (k := 59 + 4 * cW A + 2) (x := v1) (by omega)).trans ((hfr1 200 _ (by omega) (by omega)).trans vb)
        have w1 : (zsI f1 200 (59 + 4 * cW A + 2) v1).2.1 200 (59 + 4 * cW A + 2) = v1 := zsI_eq
        refine pa_aload_n (pc' := 158) dX12_wayLine_157 hl0 rfl ?_
        refine pa_getR (pc' := 161) (n := 39) (r := 200) dX12_wayLine_158 fl_12_23 (K1.mx.sh sh_196) (by decide) (K1.mx.2.1 _ _ _ rf_196_16) rfl ?_
        refine pa_iload_n (pc' := 162) dX12_wayLine_161 hl1 rfl ?_
        refine pa_iconst (v := nI 3) (pc' := 163) dX12_wayLine_162 (by decide) rfl ?_
        refine pa_iadd (pc' := 164) (v := nI (59 + 4 * cW A + 3)) dX12_wayLine_163 (nI_add _ _) rfl ?_
        refine pa_aload_n (pc' := 165) dX12_wayLine_164 hl0 rfl ?_
        refine pa_ldc (pc' := 167) dX12_wayLine_165 cl_12_235 rfl rfl ?_
        refine pa_iconst (v := 1) (pc' := 168) dX12_wayLine_167 (by decide) rfl ?_
        refine pa_bipush (v := 15) (pc' := 170) dX12_wayLine_168 (by decide) rfl ?_
        refine pa_callv (pc' := 173) (vs := [.inr (.inr (some 1000045)), .inl 1, .inl 15]) (rest := [.inl (nI (59 + 4 * cW A + 3)), .inr (.inr (some 200))]) dX12_wayLine_170 ml_12_213 (by decide) rfl rfl rfl (fun d' _ => M_after K1 (bs := wOpen) rfl) (fun v f2 hq => ?_)
        obtain ⟨v2, er, K2, hfr2, c2⟩ := hq.E
        subst er
        refine pa_iast (pc' := 174) (n := 363) (v := v2) dX12_wayLine_173 (K2.mx.sh sh_200) rfl (fun _ => ?_)
        rw [nI_clamp (by omega)]
        have K1 := K2.zs (j := 59 + 4 * cW A + 3) (v := v2) hI (wr_wy hI hW (by omega))
        clear K2
        have va := (zsI_no (h := f2) (a := 200) (k := 59 + 4 * cW A + 3) (x := v2) (by omega)).trans ((hfr2 200 _ (by omega) (by omega)).trans va)
        have vb := (zsI_no (h := f2) (a := 200) (k := 59 + 4 * cW A + 3) (x := v2) (by omega)).trans ((hfr2 200 _ (by omega) (by omega)).trans vb)
        have w1 := (zsI_no (h := f2) (a := 200) (k := 59 + 4 * cW A + 3) (x := v2) (by omega)).trans ((hfr2 200 _ (by omega) (by omega)).trans w1)
        have w2 : (zsI f2 200 (59 + 4 * cW A + 3) v2).2.1 200 (59 + 4 * cW A + 3) = v2 := zsI_eq
        have hff := K1.fb
        have s196 := K1.mx.sh sh_196
        have s200 := K1.mx.sh sh_200
        have r196_16 := K1.mx.2.1 _ _ _ rf_196_16
        refine pa_aload_n (pc' := 175) dX12_wayLine_174 hl0 rfl ?_
        refine pa_getI (pc' := 178) (n := 39) dX12_wayLine_175 fl_12_100 s196 (by decide) hff rfl ?_
        have bad : ∀ {e : sF} {g : zH}, mF R0 y n e g → sWay y n A p = .inl e → zPn N none d mX12_wayLine (191, ls, [], g) (lnM R0 y n (sWay y n A p)) := by
          intro e g hF he
          refine pa_vret dX12_wayLine_191 rfl ⟨rfl, ?_⟩
          rw [he]
          exact hF
        clear hff
        cases e3 : sWN y n wDays 1 99 q2 with
        | inl e =>
          simp only [e3, bindS, sndS] at K1 ⊢
          exact pa_if_t (pc' := 191) dX12_wayLine_178 rfl (by decide) (bad K1 (by simp only [sWay, e1, e2, if_neg nany, e3]))
        | inr q3 =>
          obtain ⟨x3, q3⟩ := q3
          cases e4 : sWN y n wOpen 1 15 q3 with
          | inl e =>
            simp only [e3, e4, bindS, sndS] at K1 ⊢
            exact pa_if_t (pc' := 191) dX12_wayLine_178 rfl (by decide) (bad K1 (by simp only [sWay, e1, e2, if_neg nany, e3, e4]))
          | inr q4 =>
            obtain ⟨x4, q4⟩ := q4
            simp only [e3, e4, bindS, sndS] at K1 ⊢
            refine pa_if_f (pc' := 181) dX12_wayLine_178 rfl (by decide) rfl ?_
            have k5 := (show mS R0 y n A _ q4 _ from K1).2.2.1.2.2.2.1
            refine pa_aload_n (pc' := 182) dX12_wayLine_181 hl0 rfl ?_
            refine pa_getR (pc' := 185) (n := 39) (r := 200) dX12_wayLine_182 fl_12_23 s196 (by decide) r196_16 rfl ?_
            refine pa_iconst (v := nI 5) (pc' := 186) dX12_wayLine_185 (by decide) rfl ?_
            refine pa_dup2 (pc' := 187) dX12_wayLine_186 ⟨rfl, rfl⟩ rfl ?_
            refine pa_iald (pc' := 188) (n := 363) dX12_wayLine_187 s200 rfl (fun _ => ?_)
            rw [nI_clamp (by omega), k5]
            refine pa_iconst (v := nI 1) (pc' := 189) dX12_wayLine_188 (by decide) rfl ?_
            refine pa_iadd (pc' := 190) (v := nI (cW A + 1)) dX12_wayLine_189 (nI_add _ _) rfl ?_
            refine pa_iast (pc' := 191) (n := 363) dX12_wayLine_190 s200 rfl (fun _ => ?_)
            rw [nI_clamp (by omega)]
            refine pa_vret dX12_wayLine_191 rfl ⟨rfl, ?_⟩
            simp only [sWay, e1, e2, if_neg nany, e3, e4]
            have K1 : mS R0 y n A _ q4 _ := K1
            have c1 := c1 x3 q3 (by simp only [e3, bindS, sndS])
            have c2 := c2 x4 q4 (by simp only [e3, e4, bindS, sndS])
            exact ⟨K1.1.zs, by rw [zsI_no (by omega)]; exact K1.2.1, K1.2.2.1.wayed hI hW va vb (w1.trans c1) (w2.trans c2), K1.2.2.2.zs (by omega)⟩
      · refine pa_if_f (pc' := 103) dX12_wayLine_100 (by decide) (by decide) rfl ?_
        refine pa_aload_n (pc' := 104) dX12_wayLine_103 hl0 rfl ?_
        refine pa_iconst (v := 3) (pc' := 105) dX12_wayLine_104 (by decide) rfl ?_
        refine pa_aload_n (pc' := 106) dX12_wayLine_105 hl0 rfl ?_
        refine pa_getI (pc' := 109) (n := 39) dX12_wayLine_106 fl_12_81 s196 (by decide) k4 rfl ?_
        refine pa_callv (pc' := 112) (vs := [.inl 3, .inl (nI (tS y n q1))]) (rest := []) dX12_wayLine_109 ml_12_127 (by decide) rfl rfl rfl (fun d' _ => m_wrong K2.1.1 hf rfl) (fun v g3 hq => ?_)
        obtain ⟨er, hq⟩ := hq
        subst er; subst hq
        exact endF (wrg_mF K2.1.1) (by simp only [sWay, e1, e2]; rw [if_pos (hany.mp rfl)])
  have loop : ∀ (N j : Nat) (t : Int32) (ls : zL), j ≤ cW A → (t = 0 ∨ t = 1) → (t = 1 ↔ (xa = xb ∨ ∃ k, k < j ∧ jP g2 xa xb k)) → zget ls 0 = some (.inr (.inr (some 196))) → zget ls 1 = some (.inl (nI (59 + 4 * cW A))) → zget ls 2 = some (.inl xa) → zget ls 3 = some (.inl xb) → zget ls 4 = some (.inl t) → zget ls 5 = some (.inl (nI j)) → zPn N none d mX12_wayLine (48, ls, [], g2) (lnM R0 y n (sWay y n A p)) := by
    intro N
    induction N with
    | zero => intro j t ls _ _ _ _ _ _ _ _ _; exact zPn.zero
    | succ N ih =>
      intro j t ls hj ht hti hl0 hl1 hl2 hl3 hl4 hl5
      refine pa_iload (pc' := 50) dX12_wayLine_48 hl5 rfl ?_
      refine pa_aload_n (pc' := 51) dX12_wayLine_50 hl0 rfl ?_
      refine pa_getR (pc' := 54) (n := 39) (r := 200) dX12_wayLine_51 fl_12_23 s196 (by decide) r196_16 rfl ?_
      refine pa_iconst (v := nI 5) (pc' := 55) dX12_wayLine_54 (by decide) rfl ?_
      refine pa_iald (pc' := 56) (n := 363) dX12_wayLine_55 s200 rfl (fun _ => ?_)
      rw [nI_clamp (by omega), k5]
      refine pa_icmp (pc' := 91) (pc2 := 59) dX12_wayLine_56 (by decide) rfl (fun cd => ?_) (fun cd => ?_)
      · have cd := zi_nlt (zk_ge_lt cd)
        rw [nI_toInt (by omega), nI_toInt (by omega)] at cd
        have ej : j = cW A := by omega
        rw [ej] at hti
        exact tail (N + 1) t ls ht hti hl0 hl1 hl2 hl3 hl4
      · have cd := zi_lt (zk_ge_lt cd)
        rw [nI_toInt (by omega), nI_toInt (by omega)] at cd
        have nxt : ∀ (t' : Int32), (t' = 0 ∨ t' = 1) → (t' = 1 ↔ (xa = xb ∨ ∃ k, k < j + 1 ∧ jP g2 xa xb k)) → zPn (N + 1) none d mX12_wayLine (83, ls, [.inl t'], g2) (lnM R0 y n (sWay y n A p)) := by
          intro t' d1 d2
          refine pa_istore (pc' := 85) dX12_wayLine_83 (by decide) rfl rfl ?_
          refine pa_iinc (pc' := 88) (v := nI (j + 1)) dX12_wayLine_85 (zget_s1 hl5 (by decide) (by simp [zcat])) (by decide) (nI_add j 1) rfl rfl ?_
          refine pa_gotos (pc' := 48) dX12_wayLine_88 (by decide) ?_
          exact ih (j + 1) t' _ (by omega) d1 d2 (zget_s1 (zget_s1 hl0 (by decide) (by simp [zcat])) (by decide) (by simp [zcat])) (zget_s1 (zget_s1 hl1 (by decide) (by simp [zcat])) (by decide) (by simp [zcat])) (zget_s1 (zget_s1 hl2 (by decide) (by simp [zcat])) (by decide) (by simp [zcat])) (zget_s1 (zget_s1 hl3 (by decide) (by simp [zcat])) (by decide) (by simp [zcat])) (zget_s1 zget_s1e (by decide) (by simp [zcat])) zget_s1e
        have one : (xa = xb ∨ ∃ k, k < j + 1 ∧ jP g2 xa xb k) → zPn (N + 1) none d mX12_wayLine (78, ls, [], g2) (lnM R0 y n (sWay y n A p)) := by
          intro z
          refine pa_iconst (v := 1) (pc' := 79) dX12_wayLine_78 (by decide) rfl ?_
          refine pa_goto (pc' := 83) dX12_wayLine_79 (by decide) ?_
          exact nxt 1 (.inr rfl) ⟨fun _ => z, fun _ => rfl⟩
        refine pa_iload (pc' := 61) dX12_wayLine_59 hl4 rfl ?_
        rcases ht with rfl | rfl
        · refine pa_if_f (pc' := 64) dX12_wayLine_61 (by decide) (by decide) rfl ?_
          refine pa_aload_n (pc' := 65) dX12_wayLine_64 hl0 rfl ?_
          refine pa_getR (pc' := 68) (n := 39) (r := 200) dX12_wayLine_65 fl_12_23 s196 (by decide) r196_16 rfl ?_
          refine pa_iload (pc' := 70) dX12_wayLine_68 hl5 rfl ?_
          refine pa_iload_n (pc' := 71) dX12_wayLine_70 hl2 rfl ?_
          refine pa_iload_n (pc' := 72) dX12_wayLine_71 hl3 rfl ?_
          refine pa_calls (pc' := 75) (kd := 1) (vs := [.inr (.inr (some 200)), .inl (nI j), .inl xa, .inl xb]) (rest := []) dX12_wayLine_72 ml_12_230 (.inl rfl) rfl rfl rfl (fun d' _ => M_joins s200 (by omega)) (fun v g3 hq => ?_)
          obtain ⟨eg, hq⟩ := hq
          subst eg
          rcases hq with ⟨er, z⟩ | ⟨er, z⟩ <;> subst er
          · exact pa_if_f (x := 1) (pc' := 78) dX12_wayLine_75 (by decide) (by decide) rfl (one (.inr ⟨j, by omega, z⟩))
          · refine pa_if_t (x := 0) (pc' := 82) dX12_wayLine_75 (by decide) (by decide) ?_
            refine pa_iconst (v := 0) (pc' := 83) dX12_wayLine_82 (by decide) rfl ?_
            refine nxt 0 (.inl rfl) ⟨fun w => absurd w (by decide), fun w => hti.mpr (w.imp id (fun ⟨k, hk, q⟩ => ⟨k, ?_, q⟩))⟩
            rcases Nat.lt_or_ge k j with u | u
            · exact u
            · have : k = j := by omega
              subst this
              exact absurd q z
        · refine pa_if_t (pc' := 78) dX12_wayLine_61 (by decide) (by decide) ?_
          exact one ((hti.mp rfl).imp id (fun ⟨k, hk, q⟩ => ⟨k, by omega, q⟩))
  refine pa_iload_n (pc' := 34) dX12_wayLine_33 rfl rfl ?_
  refine pa_iload_n (pc' := 35) dX12_wayLine_34 rfl rfl ?_
  refine pa_icmp (pc' := 42) (pc2 := 38) dX12_wayLine_35 (by decide) rfl (fun cd => ?_) (fun cd => ?_)
  · have cd : ¬ xa = xb := by simpa [zcond] using cd
    refine pa_iconst (v := 0) (pc' := 43) dX12_wayLine_42 (by decide) rfl ?_
    refine pa_istore (pc' := 45) dX12_wayLine_43 (by decide) rfl rfl ?_
    refine pa_iconst (v := nI 0) (pc' := 46) dX12_wayLine_45 (by decide) rfl ?_
    refine pa_istore (pc' := 48) dX12_wayLine_46 (by decide) rfl rfl ?_
    exact loop N 0 0 _ (Nat.zero_le _) (.inl rfl) ⟨fun w => absurd w (by decide), fun w => w.elim (fun z => absurd z cd) (fun ⟨k, hk, _⟩ => absurd hk (Nat.not_lt_zero k))⟩ rfl rfl rfl rfl rfl rfl
  · have cd : xa = xb := by simpa [zcond] using cd
    refine pa_iconst (v := 1) (pc' := 39) dX12_wayLine_38 (by decide) rfl ?_
    refine pa_goto (pc' := 43) dX12_wayLine_39 (by decide) ?_
    refine pa_istore (pc' := 45) dX12_wayLine_43 (by decide) rfl rfl ?_
    refine pa_iconst (v := nI 0) (pc' := 46) dX12_wayLine_45 (by decide) rfl ?_
    refine pa_istore (pc' := 48) dX12_wayLine_46 (by decide) rfl rfl ?_
    exact loop N 0 1 _ (Nat.zero_le _) (.inr rfl) ⟨fun _ => .inl cd, fun _ => rfl⟩ rfl rfl rfl rfl rfl rfl
end MDB
end Pk7
section Pk8
/-! the reference: spouts -/
section MDC
variable {R0 : Nat → Nat → Int32} {y : Nat → Int32} {n d N p k s : Nat} {h h' g : zH} {A : pA} {nm : Nat → List Int32} {e : sF} {r : sF ⊕ Nat}
def lsF (g : zH) (w : Int32) : Nat → Int32
  | 0 => 0
  | k + 1 => if g.2.1 200 (159 + 3 * k) = w then g.2.1 200 (159 + 3 * k + 2) + 1 else lsF g w k
theorem wr_sp (hI : pI A) (hS : cS A < 8) {t : Nat} (ht : t < 3) : wr2 A (159 + 3 * cS A + t) := by
  obtain ⟨b1, b2, b3, b4, b5⟩ := hI.2.2.1
  exact ⟨by omega, by omega, fun _ => by omega, fun i hi => by omega, fun i hi => by omega, fun i hi => by omega, fun i _ ok => by unfold okX at ok; omega⟩
theorem rmC.spouted {a : Nat} {b u : Int32} (hI : pI A) (hS : cS A < 8) (K : rmC A h) (va : h.2.1 200 (159 + 3 * cS A) = nI a) (v1 : h.2.1 200 (159 + 3 * cS A + 1) = u) (vb : h.2.1 200 (159 + 3 * cS A + 2) = b) : rmC (A.1, nm, xS A.2.2.1 (160 + 3 * cS A) u, A.2.2.2.1, upA A.2.2.2.2.1 (cS A) (a, b), cI A, cW A, cH A, cB A, cS A + 1) (zsI h 200 8 (nI (cS A + 1))) := by
  obtain ⟨b1, b2, b3, b4, b5⟩ := hI.2.2.1
  obtain ⟨k1, k2, k3, k4, k5, k6, k7, k8, k9, k10, k11⟩ := K
  refine ⟨by rw [zsI_no (by omega)]; exact k1, fun z => by rw [zsI_no (by omega)]; exact k2 z, by rw [zsI_no (by omega)]; exact k3, by rw [zsI_no (by omega)]; exact k4, by rw [zsI_no (by omega)]; exact k5, by rw [zsI_no (by omega)]; exact k6, zsI_eq, fun i hi => ?_, fun i hi => ?_, fun i hi => ?_, ?_⟩
  · have hi : i < cI A := hi
    show (zsI h 200 8 _).2.1 200 (10 + 7 * i) = nI (xS A.2.2.1 (160 + 3 * cS A) u i).length ∧ ∀ k, k < (xS A.2.2.1 (160 + 3 * cS A) u i).length → (zsI h 200 8 _).2.1 200 (10 + 7 * i + 1 + k) = (xS A.2.2.1 (160 + 3 * cS A) u i).getD k 0 - 97
    rw [xS1 (by omega)]
    exact ⟨by rw [zsI_no (by omega)]; exact (k8 i hi).1, fun q hq => by rw [zsI_no (by omega)]; exact (k8 i hi).2 q hq⟩
  · rw [zsI_no (by omega), zsI_no (by omega)]; exact k9 i hi
  · have hi : i < cS A + 1 := hi
    show (zsI h 200 8 _).2.1 200 (159 + 3 * i) = nI (upA A.2.2.2.2.1 (cS A) (a, b) i).1 ∧ (zsI h 200 8 _).2.1 200 (159 + 3 * i + 2) = (upA A.2.2.2.2.1 (cS A) (a, b) i).2
    rw [zsI_no (by omega), zsI_no (by omega), upA_at]
    split
    · next z => subst z; exact ⟨va, vb⟩
    · exact k10 i (by omega)
  · have g : mX (okX (A.1, nm, A.2.2.1, A.2.2.2.1, A.2.2.2.2.1, cI A, cW A, cH A, cB A, cS A + 1)) A.2.2.1 (zsI h 200 8 (nI (cS A + 1))) := (k11.cnt (k := 8) (v := nI (cS A + 1)) (by decide) (by decide) hI).mono (fun j ok => ok.up id (Nat.le_refl _) (Nat.le_refl _) (Nat.le_refl _) (Nat.le_succ _))
    have e1 : 160 + 3 * cS A = 159 + 3 * cS A + 1 := by omega
    rw [e1]
    exact g.add (.inr (.inr (.inr (.inr ⟨by omega, by show 159 + 3 * cS A + 1 < 159 + 3 * (cS A + 1); omega⟩)))) ((zsI_no (by omega)).trans v1)
set_option maxRecDepth 8000 in
theorem M_spout (hI : pI A) (hS : cS A < 8) (K : mS R0 y n A A.2.1 p h) : zPa d mX12_spoutLine [.inr (.inr (some 196))] h (lnM R0 y n (sSpout y n A p)) := by
  intro N
  have hx := K.1.1
  have s196 := hx.sh sh_196
  have s200 := hx.sh sh_200
  have r196_16 := hx.2.1 _ _ _ rf_196_16
  have hf := K.2.1
  have k8 := K.2.2.1.2.2.2.2.2.2.1
  have hn := hI.2.2.2.2.1
  show zPn N none d mX12_spoutLine (0, [(0, .inr (.inr (some 196)))], [], h) _
  refine pa_aload_n (pc' := 1) dX12_spoutLine_0 rfl rfl ?_
  refine pa_getI (pc' := 4) (n := 39) dX12_spoutLine_1 fl_12_100 s196 (by decide) hf rfl ?_
  refine pa_if_t (pc' := 8) dX12_spoutLine_4 (by decide) (by decide) ?_
  refine pa_sipush (v := nI 159) (pc' := 11) dX12_spoutLine_8 (by decide) rfl ?_
  refine pa_iconst (v := nI 3) (pc' := 12) dX12_spoutLine_11 (by decide) rfl ?_
  refine pa_aload_n (pc' := 13) dX12_spoutLine_12 rfl rfl ?_
  refine pa_getR (pc' := 16) (n := 39) (r := 200) dX12_spoutLine_13 fl_12_23 s196 (by decide) r196_16 rfl ?_
  refine pa_bipush (v := nI 8) (pc' := 18) dX12_spoutLine_16 (by decide) rfl ?_
  refine pa_iald (pc' := 19) (n := 363) dX12_spoutLine_18 s200 rfl (fun _ => ?_)
  rw [nI_clamp (by omega), k8]
  refine pa_imul (pc' := 20) (v := nI (3 * cS A)) dX12_spoutLine_19 (nI_mul _ _) rfl ?_
  refine pa_iadd (pc' := 21) (v := nI (159 + 3 * cS A)) dX12_spoutLine_20 (nI_add _ _) rfl ?_
  refine pa_istore_n (pc' := 22) (ls' := [(1, .inl (nI (159 + 3 * cS A))), (0, .inr (.inr (some 196)))]) dX12_spoutLine_21 (by decide) rfl rfl ?_
  refine pa_aload_n (pc' := 23) dX12_spoutLine_22 rfl rfl ?_
  refine pa_bipush (v := nI 7) (pc' := 25) dX12_spoutLine_23 (by decide) rfl ?_
  refine pa_bipush (v := nI 11) (pc' := 27) dX12_spoutLine_25 (by decide) rfl ?_
  refine pa_callv (pc' := 30) (vs := [.inl (nI 7), .inl (nI 11)]) (rest := []) dX12_spoutLine_27 ml_12_153 (by decide) rfl rfl rfl (fun d' _ => M_named (r := .inr p) (by decide) hn K) (fun v g1 hq => ?_)
  obtain ⟨hfr1, xw, er, hq⟩ := hq
  subst er
  refine pa_istore_n (pc' := 31) (v := xw) (ls' := [(2, .inl xw), (1, .inl (nI (159 + 3 * cS A))), (0, .inr (.inr (some 196)))]) (st := []) dX12_spoutLine_30 (by decide) rfl rfl ?_
  have go : ∀ (g2 : zH), fr6 h g2 → mE R0 y n A A.2.1 (sndS (sOld y n A.2.1 7 11 p)) g2 → (∀ z q, sOld y n A.2.1 7 11 p = .inr (z, q) → xw = nI z) → zPn N none d mX12_spoutLine (42, [(2, .inl xw), (1, .inl (nI (159 + 3 * cS A))), (0, .inr (.inr (some 196)))], [], g2) (lnM R0 y n (sSpout y n A p)) := by
    intro g2 hfr2 K1 cw
    refine pa_aload_n (pc' := 43) dX12_spoutLine_42 rfl rfl ?_
    refine pa_callv (pc' := 46) (vs := []) (rest := []) dX12_spoutLine_43 ml_12_161 (by decide) rfl rfl rfl (fun d' _ => M_passed hn K1) (fun v g3 hq => ?_)
    obtain ⟨xi, er, K1, hfr3, ci⟩ := hq.E
    subst er
    have frr : ∀ j, g3.2.1 200 j = h.2.1 200 j := fun j => (hfr3 200 j (by omega) (by omega)).trans (hfr2 200 j (by omega) (by omega))
    have s196 := K1.mx.sh sh_196
    have s200 := K1.mx.sh sh_200
    have r196_16 := K1.mx.2.1 _ _ _ rf_196_16
    have k8 : g3.2.1 200 8 = nI (cS A) := (frr 8).trans k8
    refine pa_istore_n (pc' := 47) (v := xi) (ls' := [(3, .inl xi), (2, .inl xw), (1, .inl (nI (159 + 3 * cS A))), (0, .inr (.inr (some 196)))]) (st := []) dX12_spoutLine_46 (by decide) rfl rfl ?_
    have loop : ∀ (N j : Nat) (ls : zL), j ≤ cS A → zget ls 0 = some (.inr (.inr (some 196))) → zget ls 1 = some (.inl (nI (159 + 3 * cS A))) → zget ls 2 = some (.inl xw) → zget ls 3 = some (.inl xi) → zget ls 4 = some (.inl (lsF g3 xw j)) → zget ls 5 = some (.inl (nI j)) → zPn N none d mX12_spoutLine (53, ls, [], g3) (lnM R0 y n (sSpout y n A p)) := by
      intro N
      induction N with
      | zero => intro j ls _ _ _ _ _ _ _; exact zPn.zero
      | succ N ih =>
        intro j ls hj hl0 hl1 hl2 hl3 hl4 hl5
        refine pa_iload (pc' := 55) dX12_spoutLine_53 hl5 rfl ?_
        refine pa_aload_n (pc' := 56) dX12_spoutLine_55 hl0 rfl ?_
        refine pa_getR (pc' := 59) (n := 39) (r := 200) dX12_spoutLine_56 fl_12_23 s196 (by decide) r196_16 rfl ?_
        refine pa_bipush (v := nI 8) (pc' := 61) dX12_spoutLine_59 (by decide) rfl ?_
        refine pa_iald (pc' := 62) (n := 363) dX12_spoutLine_61 s200 rfl (fun _ => ?_)
        rw [nI_clamp (by omega), k8]
        refine pa_icmp (pc' := 107) (pc2 := 65) dX12_spoutLine_62 (by decide) rfl (fun cd => ?_) (fun cd => ?_)
        · have cd := zi_nlt (zk_ge_lt cd)
          rw [nI_toInt (by omega), nI_toInt (by omega)] at cd
          have ej : j = cS A := by omega
          subst ej
          refine pa_aload_n (pc' := 108) dX12_spoutLine_107 hl0 rfl ?_
          refine pa_ldcw (pc' := 111) dX12_spoutLine_108 cl_12_260 rfl rfl ?_
          refine pa_iload (pc' := 113) dX12_spoutLine_111 hl4 rfl ?_
          refine pa_sipush (v := 9999) (pc' := 116) dX12_spoutLine_113 (by decide) rfl ?_
          refine pa_callv (pc' := 119) (vs := [.inr (.inr (some 1000056)), .inl (lsF g3 xw (cS A)), .inl 9999]) (rest := []) dX12_spoutLine_116 ml_12_213 (by decide) rfl rfl rfl (fun d' _ => M_after K1 (bs := wDay) rfl) (fun v g4 hq => ?_)
          obtain ⟨xd, er, K2, hfr4, cd2⟩ := hq.E
          subst er
          refine pa_istore (pc' := 121) (v := xd) (ls' := zset1 ls 5 (.inl xd)) (st := []) dX12_spoutLine_119 (by decide) rfl rfl ?_
          have hl0 := zget_s1 (v := .inl xd) (k := 5) hl0 (by decide) (by simp [zcat])
          have hl1 := zget_s1 (v := .inl xd) (k := 5) hl1 (by decide) (by simp [zcat])
          have hl2 := zget_s1 (v := .inl xd) (k := 5) hl2 (by decide) (by simp [zcat])
          have hl3 := zget_s1 (v := .inl xd) (k := 5) hl3 (by decide) (by simp [zcat])
          have hl5 : zget (zset1 ls 5 (.inl xd)) 5 = some (.inl xd) := zget_s1e
          generalize zset1 ls 5 (.inl xd) = ls at hl0 hl1 hl2 hl3 hl5 ⊢
          have hff := K2.fb
          have s196 := K2.mx.sh sh_196
          refine pa_aload_n (pc' := 122) dX12_spoutLine_121 hl0 rfl ?_
          refine pa_getI (pc' := 125) (n := 39) dX12_spoutLine_122 fl_12_100 s196 (by decide) hff rfl ?_
          have bad : ∀ {e : sF} {g : zH}, mF R0 y n e g → sSpout y n A p = .inl e → zPn (N + 1) none d mX12_spoutLine (128, ls, [], g) (lnM R0 y n (sSpout y n A p)) := by
            intro e g hF he
            refine pa_vret dX12_spoutLine_128 rfl ⟨rfl, ?_⟩
            rw [he]
            exact hF
          clear hff
          cases e1 : sOld y n A.2.1 7 11 p with
          | inl e =>
            simp only [e1, bindS, sndS] at K2 ⊢
            exact pa_if_f (pc' := 128) dX12_spoutLine_125 rfl (by decide) rfl (bad K2 (by simp only [sSpout, e1]))
          | inr z1 =>
            obtain ⟨w, q1⟩ := z1
            cases e2 : sOld y n A.2.1 0 6 q1 with
            | inl e =>
              simp only [e1, e2, bindS, sndS] at K2 ⊢
              exact pa_if_f (pc' := 128) dX12_spoutLine_125 rfl (by decide) rfl (bad K2 (by simp only [sSpout, e1, e2]))
            | inr z2 =>
              obtain ⟨i, q2⟩ := z2
              have ew : xw = nI w := cw w q1 e1
              have lw : w < 5 := sOld_11 e1
              have el : lsF g3 xw (cS A) = least A.2.2.2.2.1 w (cS A) := by
                have : ∀ k, k ≤ cS A → lsF g3 xw k = least A.2.2.2.2.1 w k := by
                  intro k
                  induction k with
                  | zero => intro _; rfl
                  | succ k ihk =>
                    intro hk
                    obtain ⟨f1, f2⟩ := K.2.2.1.2.2.2.2.2.2.2.2.2.1 k (by omega)
                    have o := hI.2.2.2.2.2.2.2 k (by omega)
                    unfold lsF least
                    rw [frr, frr, f1, f2, ew]
                    by_cases z : (A.2.2.2.2.1 k).1 = w
                    · rw [if_pos z, if_pos (by rw [z])]
                    · rw [if_neg z, if_neg (fun q => z ((nI_ne (by omega) (by omega)).mp q)), ← ew]
                      exact ihk (by omega)
                exact this _ (Nat.le_refl _)
              cases e3 : sWN y n wDay (least A.2.2.2.2.1 w (cS A)) 9999 q2 with
              | inl e =>
                simp only [e1, e2, bindS, sndS, el, e3] at K2 ⊢
                exact pa_if_f (pc' := 128) dX12_spoutLine_125 rfl (by decide) rfl (bad K2 (by simp only [sSpout, e1, e2, e3]))
              | inr z3 =>
                obtain ⟨dd, q3⟩ := z3
                have ed : xd = dd := cd2 dd q3 (by simp only [e1, e2, bindS, sndS, el, e3])
                have ei : xi = nI i := ci i q2 (by simp only [e1, e2, bindS, sndS])
                simp only [e1, e2, bindS, sndS, el, e3] at K2 ⊢
                have K1 : mE R0 y n A A.2.1 (.inr q3) g4 := K2
                refine pa_if_t (pc' := 129) dX12_spoutLine_125 rfl (by decide) ?_
                refine pa_aload_n (pc' := 130) dX12_spoutLine_129 hl0 rfl ?_
                refine pa_getR (pc' := 133) (n := 39) (r := 200) dX12_spoutLine_130 fl_12_23 (K1.mx.sh sh_196) (by decide) (K1.mx.2.1 _ _ _ rf_196_16) rfl ?_
                refine pa_iload_n (pc' := 134) dX12_spoutLine_133 hl1 rfl ?_
                refine pa_iload_n (pc' := 135) dX12_spoutLine_134 hl2 rfl ?_
                refine pa_iast (pc' := 136) (n := 363) dX12_spoutLine_135 (K1.mx.sh sh_200) rfl (fun _ => ?_)
                rw [nI_clamp (by omega)]
                have va : (zsI g4 200 (159 + 3 * cS A) xw).2.1 200 (159 + 3 * cS A) = nI w := by rw [zsI_eq]; exact ew
                have K1 := K1.zs (j := 159 + 3 * cS A) (v := xw) hI (wr_sp (t := 0) hI hS (by omega))
                generalize zsI g4 200 (159 + 3 * cS A) xw = g5 at va K1 ⊢
                refine pa_aload_n (pc' := 137) dX12_spoutLine_136 hl0 rfl ?_
                refine pa_getR (pc' := 140) (n := 39) (r := 200) dX12_spoutLine_137 fl_12_23 (K1.mx.sh sh_196) (by decide) (K1.mx.2.1 _ _ _ rf_196_16) rfl ?_
                refine pa_iload_n (pc' := 141) dX12_spoutLine_140 hl1 rfl ?_
                refine pa_iconst (v := nI 1) (pc' := 142) dX12_spoutLine_141 (by decide) rfl ?_
                refine pa_iadd (pc' := 143) (v := nI (159 + 3 * cS A + 1)) dX12_spoutLine_142 (nI_add _ _) rfl ?_
                refine pa_iload_n (pc' := 144) dX12_spoutLine_143 hl3 rfl ?_
                refine pa_iast (pc' := 145) (n := 363) dX12_spoutLine_144 (K1.mx.sh sh_200) rfl (fun _ => ?_)
                rw [nI_clamp (by omega)]
                have va := (zsI_no (h := g5) (a := 200) (k := 159 + 3 * cS A + 1) (x := xi) (by omega)).trans va
                have v1 : (zsI g5 200 (159 + 3 * cS A + 1) xi).2.1 200 (159 + 3 * cS A + 1) = xi := zsI_eq
                have K1 := K1.zs (j := 159 + 3 * cS A + 1) (v := xi) hI (wr_sp hI hS (by omega))
                generalize zsI g5 200 (159 + 3 * cS A + 1) xi = g6 at va v1 K1 ⊢
                refine pa_aload_n (pc' := 146) dX12_spoutLine_145 hl0 rfl ?_
                refine pa_getR (pc' := 149) (n := 39) (r := 200) dX12_spoutLine_146 fl_12_23 (K1.mx.sh sh_196) (by decide) (K1.mx.2.1 _ _ _ rf_196_16) rfl ?_
                refine pa_iload_n (pc' := 150) dX12_spoutLine_149 hl1 rfl ?_
                refine pa_iconst (v := nI 2) (pc' := 151) dX12_spoutLine_150 (by decide) rfl ?_
                refine pa_iadd (pc' := 152) (v := nI (159 + 3 * cS A + 2)) dX12_spoutLine_151 (nI_add _ _) rfl ?_
                refine pa_iload (pc' := 154) dX12_spoutLine_152 hl5 rfl ?_
                refine pa_iast (pc' := 155) (n := 363) dX12_spoutLine_154 (K1.mx.sh sh_200) rfl (fun _ => ?_)
                rw [nI_clamp (by omega)]
                have va := (zsI_no (h := g6) (a := 200) (k := 159 + 3 * cS A + 2) (x := xd) (by omega)).trans va
                have v1 := (zsI_no (h := g6) (a := 200) (k := 159 + 3 * cS A + 2) (x := xd) (by omega)).trans v1
                have vb : (zsI g6 200 (159 + 3 * cS A + 2) xd).2.1 200 (159 + 3 * cS A + 2) = dd := by rw [zsI_eq]; exact ed
                have K1 := K1.zs (j := 159 + 3 * cS A + 2) (v := xd) hI (wr_sp hI hS (by omega))
                generalize zsI g6 200 (159 + 3 * cS A + 2) xd = g7 at va v1 vb K1 ⊢
                have K1 : mS R0 y n A A.2.1 q3 g7 := K1
                have k8 := K1.2.2.1.2.2.2.2.2.2.1
                have s200 := K1.1.1.sh sh_200
                refine pa_aload_n (pc' := 156) dX12_spoutLine_155 hl0 rfl ?_
                refine pa_getR (pc' := 159) (n := 39) (r := 200) dX12_spoutLine_156 fl_12_23 (K1.1.1.sh sh_196) (by decide) (K1.1.1.2.1 _ _ _ rf_196_16) rfl ?_
                refine pa_bipush (v := nI 8) (pc' := 161) dX12_spoutLine_159 (by decide) rfl ?_
                refine pa_dup2 (pc' := 162) dX12_spoutLine_161 ⟨rfl, rfl⟩ rfl ?_
                refine pa_iald (pc' := 163) (n := 363) dX12_spoutLine_162 s200 rfl (fun _ => ?_)
                rw [nI_clamp (by omega), k8]
                refine pa_iconst (v := nI 1) (pc' := 164) dX12_spoutLine_163 (by decide) rfl ?_
                refine pa_iadd (pc' := 165) (v := nI (cS A + 1)) dX12_spoutLine_164 (nI_add _ _) rfl ?_
                refine pa_iast (pc' := 166) (n := 363) dX12_spoutLine_165 s200 rfl (fun _ => ?_)
                rw [nI_clamp (by omega)]
                refine pa_vret dX12_spoutLine_166 rfl ⟨rfl, ?_⟩
                simp only [sSpout, e1, e2, e3]
                exact ⟨K1.1.zs, by rw [zsI_no (by omega)]; exact K1.2.1, K1.2.2.1.spouted hI hS va (v1.trans ei) vb, K1.2.2.2.zs (by omega)⟩
        · have cd := zi_lt (zk_ge_lt cd)
          rw [nI_toInt (by omega), nI_toInt (by omega)] at cd
          have nxt : ∀ ls' : zL, zget ls' 0 = some (.inr (.inr (some 196))) → zget ls' 1 = some (.inl (nI (159 + 3 * cS A))) → zget ls' 2 = some (.inl xw) → zget ls' 3 = some (.inl xi) → zget ls' 4 = some (.inl (lsF g3 xw (j + 1))) → zget ls' 5 = some (.inl (nI j)) → zPn (N + 1) none d mX12_spoutLine (101, ls', [], g3) (lnM R0 y n (sSpout y n A p)) := by
            intro ls' z0 z1 z2 z3 z4 z5
            refine pa_iinc (pc' := 104) (v := nI (j + 1)) dX12_spoutLine_101 z5 (by decide) (nI_add j 1) rfl rfl ?_
            refine pa_gotos (pc' := 53) dX12_spoutLine_104 (by decide) ?_
            exact ih (j + 1) _ (by omega) (zget_s1 z0 (by decide) (by simp [zcat])) (zget_s1 z1 (by decide) (by simp [zcat])) (zget_s1 z2 (by decide) (by simp [zcat])) (zget_s1 z3 (by decide) (by simp [zcat])) (zget_s1 z4 (by decide) (by simp [zcat])) zget_s1e
          refine pa_aload_n (pc' := 66) dX12_spoutLine_65 hl0 rfl ?_
          refine pa_getR (pc' := 69) (n := 39) (r := 200) dX12_spoutLine_66 fl_12_23 s196 (by decide) r196_16 rfl ?_
          refine pa_sipush (v := nI 159) (pc' := 72) dX12_spoutLine_69 (by decide) rfl ?_
          refine pa_iconst (v := nI 3) (pc' := 73) dX12_spoutLine_72 (by decide) rfl ?_
          refine pa_iload (pc' := 75) dX12_spoutLine_73 hl5 rfl ?_
          refine pa_imul (pc' := 76) (v := nI (3 * j)) dX12_spoutLine_75 (nI_mul _ _) rfl ?_
          refine pa_iadd (pc' := 77) (v := nI (159 + 3 * j)) dX12_spoutLine_76 (nI_add _ _) rfl ?_
          refine pa_iald (pc' := 78) (n := 363) dX12_spoutLine_77 s200 rfl (fun _ => ?_)
          rw [nI_clamp (by omega)]
          refine pa_iload_n (pc' := 79) dX12_spoutLine_78 hl2 rfl ?_
          refine pa_icmp (pc' := 101) (pc2 := 82) dX12_spoutLine_79 (by decide) rfl (fun cd3 => ?_) (fun cd3 => ?_)
          · have cd3 : ¬ g3.2.1 200 (159 + 3 * j) = xw := by simpa [zcond] using cd3
            exact nxt ls hl0 hl1 hl2 hl3 (by unfold lsF; rw [if_neg cd3]; exact hl4) hl5
          · have cd3 : g3.2.1 200 (159 + 3 * j) = xw := by simpa [zcond] using cd3
            refine pa_aload_n (pc' := 83) dX12_spoutLine_82 hl0 rfl ?_
            refine pa_getR (pc' := 86) (n := 39) (r := 200) dX12_spoutLine_83 fl_12_23 s196 (by decide) r196_16 rfl ?_
            refine pa_sipush (v := nI 159) (pc' := 89) dX12_spoutLine_86 (by decide) rfl ?_
            refine pa_iconst (v := nI 3) (pc' := 90) dX12_spoutLine_89 (by decide) rfl ?_
            refine pa_iload (pc' := 92) dX12_spoutLine_90 hl5 rfl ?_
            refine pa_imul (pc' := 93) (v := nI (3 * j)) dX12_spoutLine_92 (nI_mul _ _) rfl ?_
            refine pa_iadd (pc' := 94) (v := nI (159 + 3 * j)) dX12_spoutLine_93 (nI_add _ _) rfl ?_
            refine pa_iconst (v := nI 2) (pc' := 95) dX12_spoutLine_94 (by decide) rfl ?_
            refine pa_iadd (pc' := 96) (v := nI (159 + 3 * j + 2)) dX12_spoutLine_95 (nI_add _ _) rfl ?_
            refine pa_iald (pc' := 97) (n := 363) dX12_spoutLine_96 s200 rfl (fun _ => ?_)
            rw [nI_clamp (by omega)]
            refine pa_iconst (v := 1) (pc' := 98) dX12_spoutLine_97 (by decide) rfl ?_
            refine pa_iadd (pc' := 99) dX12_spoutLine_98 rfl rfl ?_
            refine pa_istore (pc' := 101) dX12_spoutLine_99 (by decide) rfl rfl ?_
            refine nxt _ (zget_s1 hl0 (by decide) (by simp [zcat])) (zget_s1 hl1 (by decide) (by simp [zcat])) (zget_s1 hl2 (by decide) (by simp [zcat])) (zget_s1 hl3 (by decide) (by simp [zcat])) ?_ (zget_s1 hl5 (by decide) (by simp [zcat]))
            unfold lsF
            rw [if_pos cd3]
            exact zget_s1e
    refine pa_iconst (v := 0) (pc' := 48) dX12_spoutLine_47 (by decide) rfl ?_
    refine pa_istore (pc' := 50) dX12_spoutLine_48 (by decide) rfl rfl ?_
    refine pa_iconst (v := nI 0) (pc' := 51) dX12_spoutLine_50 (by decide) rfl ?_
    refine pa_istore (pc' := 53) dX12_spoutLine_51 (by decide) rfl rfl ?_
    exact loop N 0 _ (Nat.zero_le _) rfl rfl rfl rfl rfl rfl
  cases e1 : sOld y n A.2.1 7 11 p with
  | inl e =>
    simp only [bindS, e1] at hq
    have hF := hq.1
    have s196 := hF.1.sh sh_196
    have hf := hF.2.1
    refine pa_aload_n (pc' := 32) dX12_spoutLine_31 rfl rfl ?_
    refine pa_getI (pc' := 35) (n := 39) dX12_spoutLine_32 fl_12_100 s196 (by decide) hf rfl ?_
    refine pa_if_t (pc' := 42) dX12_spoutLine_35 (by decide) (by decide) ?_
    exact go g1 hfr1 (by rw [e1]; exact hF) (fun z q w => by rw [e1] at w; cases w)
  | inr z1 =>
    obtain ⟨w, q1⟩ := z1
    simp only [bindS, e1] at hq
    obtain ⟨ew, p', ep, eq, K2⟩ := hq
    cases ep
    have s196 := K2.1.1.sh sh_196
    have hf := K2.2.1
    refine pa_aload_n (pc' := 32) dX12_spoutLine_31 rfl rfl ?_
    refine pa_getI (pc' := 35) (n := 39) dX12_spoutLine_32 fl_12_100 s196 (by decide) hf rfl ?_
    refine pa_if_f (pc' := 38) dX12_spoutLine_35 (by decide) (by decide) rfl ?_
    refine pa_aload_n (pc' := 39) dX12_spoutLine_38 rfl rfl ?_
    refine pa_callv (pc' := 42) (vs := []) (rest := []) dX12_spoutLine_39 ml_12_121 (by decide) rfl rfl rfl (fun d' _ => m_next K2.1.1 K2.1.2.2.2.1 (tE_sp K2.1.2.1).2.1) (fun v g2 hq => ?_)
    obtain ⟨er, hq⟩ := hq
    subst er
    refine go g2 (hfr1.tr (nM_fr hq)) ?_ (fun z q w => ?_)
    · rw [e1]
      show mS R0 y n A A.2.1 q1 g2
      rw [eq]
      exact K2.nx hq (tE_sp K2.1.2.1).2.1
    · rw [e1] at w
      cases w
      exact ew
end MDC
end Pk8
