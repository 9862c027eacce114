/-! the reference: a text -/
section MDX
variable {R0 : Nat → Nat → Int32} {y : Nat → Int32} {n d N p q : Nat} {h h' g : zH} {A : pA} {nm : Nat → List Int32} {e : sF}
theorem sh_201 : zsh hh_487 201 = some (14, 76) := by decide +kernel
theorem rf_196_15 : wd.2.2.1 196 15 = some 199 := by decide +kernel
theorem rf_196_17 : wd.2.2.1 196 17 = some 201 := by decide +kernel
/-- heaps alike but for the ints of one cell -/
def hBut (b : Nat) (h h' : zH) : Prop := h'.1 = h.1 ∧ h'.2.2 = h.2.2 ∧ ∀ c k, c ≠ b → h'.2.1 c k = h.2.1 c k
theorem hBut.rf {b : Nat} : hBut b h h := ⟨rfl, rfl, fun _ _ _ => rfl⟩
theorem hBut.tr {b : Nat} (k : hBut b h h') (k2 : hBut b h' g) : hBut b h g := ⟨k2.1.trans k.1, k2.2.1.trans k.2.1, fun c j hc => (k2.2.2 c j hc).trans (k.2.2 c j hc)⟩
theorem hBut.zs {b j : Nat} {v : Int32} (k : hBut b h h') : hBut b h (zsI h' b j v) := ⟨k.1, k.2.1, fun c i hc => (zsI_no (fun z => hc z.1)).trans (k.2.2 c i hc)⟩
theorem hBut.sh {b a : Nat} {q : Option (Nat × Nat)} (k : hBut b h h') (e : zsh h a = q) : zsh h' a = q := by
  unfold zsh at *
  rw [k.1]
  exact e
/-- copy changes one row alone -/
theorem m_cpF {a b na nb : Nat} {x z w : Int32} (sa : zsh h a = some (14, na)) (sb : zsh h b = some (14, nb)) : zPa d mX12_copy [.inr (.inr (some a)), .inl x, .inr (.inr (some b)), .inl z, .inl w] h (fun v h' => v = none ∧ hBut b h h') := by
  intro N
  have lp : ∀ (N : Nat) (k : Int32) (g : zH) (ls : zL), hBut b h g → zget ls 0 = some (.inr (.inr (some a))) → zget ls 1 = some (.inl x) → zget ls 2 = some (.inr (.inr (some b))) → zget ls 3 = some (.inl z) → zget ls 4 = some (.inl w) → zget ls 5 = some (.inl k) → zPn N none d mX12_copy (3, ls, [], g) (fun v h' => v = none ∧ hBut b h h') := by
    intro N
    induction N with
    | zero => intro k g ls _ _ _ _ _ _ _; exact zPn.zero
    | succ N ih =>
      intro k g ls hg hl0 hl1 hl2 hl3 hl4 hl5
      refine pa_iload (pc' := 5) dX12_copy_3 hl5 rfl ?_
      refine pa_iload (pc' := 7) dX12_copy_5 hl4 rfl ?_
      refine pa_icmp (pc' := 28) (pc2 := 10) dX12_copy_7 (by decide) rfl (fun c => ?_) (fun c => ?_)
      · exact pa_vret dX12_copy_28 rfl ⟨rfl, hg⟩
      · refine pa_aload_n (pc' := 11) dX12_copy_10 hl2 rfl ?_
        refine pa_iload_n (pc' := 12) dX12_copy_11 hl3 rfl ?_
        refine pa_iload (pc' := 14) dX12_copy_12 hl5 rfl ?_
        refine pa_iadd (pc' := 15) dX12_copy_14 rfl rfl ?_
        refine pa_aload_n (pc' := 16) dX12_copy_15 hl0 rfl ?_
        refine pa_iload_n (pc' := 17) dX12_copy_16 hl1 rfl ?_
        refine pa_iload (pc' := 19) dX12_copy_17 hl5 rfl ?_
        refine pa_iadd (pc' := 20) dX12_copy_19 rfl rfl ?_
        refine pa_iald (pc' := 21) (n := na) dX12_copy_20 (hg.sh sa) rfl (fun _ => ?_)
        refine pa_iast (pc' := 22) (n := nb) dX12_copy_21 (hg.sh sb) rfl (fun _ => ?_)
        refine pa_iinc (pc' := 25) dX12_copy_22 hl5 (by decide) rfl rfl rfl ?_
        refine pa_gotos (pc' := 3) dX12_copy_25 (by decide) ?_
        exact ih _ _ _ hg.zs (zget_s1 hl0 (by decide) (by simp [zcat])) (zget_s1 hl1 (by decide) (by simp [zcat])) (zget_s1 hl2 (by decide) (by simp [zcat])) (zget_s1 hl3 (by decide) (by simp [zcat])) (zget_s1 hl4 (by decide) (by simp [zcat])) zget_s1e
  show zPn N none d mX12_copy (0, [(0, .inr (.inr (some a))), (1, .inl x), (2, .inr (.inr (some b))), (3, .inl z), (4, .inl w)], [], h) _
  refine pa_iconst (v := 0) (pc' := 1) dX12_copy_0 (by decide) rfl ?_
  refine pa_istore (pc' := 3) dX12_copy_1 (by decide) rfl rfl ?_
  exact lp N _ _ _ hBut.rf rfl rfl rfl rfl rfl rfl
/-- the whole row -/
theorem m_cpR (sa : zsh h 200 = some (14, 363)) (sb : zsh h 199 = some (14, 363)) : zPa d mX12_copy [.inr (.inr (some 200)), .inl 0, .inr (.inr (some 199)), .inl 0, .inl 363] h (fun v h' => v = none ∧ hBut 199 h h' ∧ ∀ k, k < 363 → h'.2.1 199 k = h.2.1 200 k) := by
  intro N
  have lp : ∀ (N k : Nat) (g : zH) (ls : zL), k ≤ 363 → hBut 199 h g → (∀ j, j < k → g.2.1 199 j = h.2.1 200 j) → zget ls 0 = some (.inr (.inr (some 200))) → zget ls 1 = some (.inl (nI 0)) → zget ls 2 = some (.inr (.inr (some 199))) → zget ls 3 = some (.inl (nI 0)) → zget ls 4 = some (.inl (nI 363)) → zget ls 5 = some (.inl (nI k)) → zPn N none d mX12_copy (3, ls, [], g) (fun v h' => v = none ∧ hBut 199 h h' ∧ ∀ k, k < 363 → h'.2.1 199 k = h.2.1 200 k) := by
    intro N
    induction N with
    | zero => intro k g ls _ _ _ _ _ _ _ _ _; exact zPn.zero
    | succ N ih =>
      intro k g ls hk hg hj hl0 hl1 hl2 hl3 hl4 hl5
      refine pa_iload (pc' := 5) dX12_copy_3 hl5 rfl ?_
      refine pa_iload (pc' := 7) dX12_copy_5 hl4 rfl ?_
      refine pa_icmp (pc' := 28) (pc2 := 10) dX12_copy_7 (by decide) rfl (fun c => ?_) (fun c => ?_)
      · have c := zi_nlt (zk_ge_lt c)
        rw [nI_toInt (by omega), nI_toInt (by omega)] at c
        exact pa_vret dX12_copy_28 rfl ⟨rfl, hg, fun j hj2 => hj j (by omega)⟩
      · have c := zi_lt (zk_ge_lt c)
        rw [nI_toInt (by omega), nI_toInt (by omega)] at c
        refine pa_aload_n (pc' := 11) dX12_copy_10 hl2 rfl ?_
        refine pa_iload_n (pc' := 12) dX12_copy_11 hl3 rfl ?_
        refine pa_iload (pc' := 14) dX12_copy_12 hl5 rfl ?_
        refine pa_iadd (pc' := 15) (v := nI (0 + k)) dX12_copy_14 (nI_add _ _) rfl ?_
        refine pa_aload_n (pc' := 16) dX12_copy_15 hl0 rfl ?_
        refine pa_iload_n (pc' := 17) dX12_copy_16 hl1 rfl ?_
        refine pa_iload (pc' := 19) dX12_copy_17 hl5 rfl ?_
        refine pa_iadd (pc' := 20) (v := nI (0 + k)) dX12_copy_19 (nI_add _ _) rfl ?_
        refine pa_iald (pc' := 21) (n := 363) dX12_copy_20 (hg.sh sa) rfl (fun _ => ?_)
        refine pa_iast (pc' := 22) (n := 363) dX12_copy_21 (hg.sh sb) rfl (fun _ => ?_)
        rw [nI_clamp (by omega), Nat.zero_add]
        refine pa_iinc (pc' := 25) (v := nI (k + 1)) dX12_copy_22 hl5 (by decide) (nI_add k 1) rfl rfl ?_
        refine pa_gotos (pc' := 3) dX12_copy_25 (by decide) ?_
        refine ih (k + 1) _ _ (by omega) hg.zs (fun j hj3 => ?_) (zget_s1 hl0 (by decide) (by simp [zcat])) (zget_s1 hl1 (by decide) (by simp [zcat])) (zget_s1 hl2 (by decide) (by simp [zcat])) (zget_s1 hl3 (by decide) (by simp [zcat])) (zget_s1 hl4 (by decide) (by simp [zcat])) zget_s1e
        by_cases ej : j = k
        · subst ej
          rw [zsI_eq]
          exact hg.2.2 200 j (by decide)
        · rw [zsI_no (by omega)]
          exact hj j (by omega)
  show zPn N none d mX12_copy (0, [(0, .inr (.inr (some 200))), (1, .inl (nI 0)), (2, .inr (.inr (some 199))), (3, .inl (nI 0)), (4, .inl (nI 363))], [], h) _
  refine pa_iconst (v := nI 0) (pc' := 1) dX12_copy_0 (by decide) rfl ?_
  refine pa_istore (pc' := 3) dX12_copy_1 (by decide) rfl rfl ?_
  exact lp N 0 _ _ (Nat.zero_le _) hBut.rf (fun j hj => absurd hj (Nat.not_lt_zero j)) rfl rfl rfl rfl rfl rfl
/-- what was told, beside the row that stays -/
def shR (h : zH) : zH := (h.1, (fun a k => h.2.1 (if a = 200 then 199 else a) k), h.2.2)
theorem rmC.frB (hI : pI A) (k : rmC A h) (e : ∀ j, j < 363 → h'.2.1 200 j = h.2.1 200 j) : rmC A h' := by
  obtain ⟨k1, k2, k3, k4, k5, k6, k7, k8, k9, k10, k11⟩ := k
  obtain ⟨b1, b2, b3, b4, b5⟩ := hI.2.2.1
  have sl : ∀ i, i < cI A → (A.2.2.1 i).length ≤ 6 := fun i hi => by
    have := (hI.2.2.2.2.2.1 i hi).1
    unfold okSong at this
    rw [Bool.and_eq_true, Bool.and_eq_true] at this
    exact of_decide_eq_true this.2.1
  refine ⟨(e _ (by omega)).trans k1, fun z => (e _ (by omega)).trans (k2 z), (e _ (by omega)).trans k3, (e _ (by omega)).trans k4, (e _ (by omega)).trans k5, (e _ (by omega)).trans k6, (e _ (by omega)).trans k7, fun i hi => ⟨(e _ (by omega)).trans (k8 i hi).1, fun j hj => (e _ (by have := sl i hi; omega)).trans ((k8 i hi).2 j hj)⟩, fun i hi => ⟨(e _ (by omega)).trans (k9 i hi).1, (e _ (by omega)).trans (k9 i hi).2⟩, fun i hi => ⟨(e _ (by omega)).trans (k10 i hi).1, (e _ (by omega)).trans (k10 i hi).2⟩, k11.fr (fun j _ ok => e j (by have := okX_lt ok b2 b3 b4 b5; omega))⟩
def rtR (R0 : Nat → Nat → Int32) (r : sF ⊕ pA) (v : Option zV) (h' : zH) : Prop := match r with
  | .inl e => v = some (.inl (-1)) ∧ h'.2.1 196 9 = e.1 ∧ h'.2.1 196 10 = nI e.2 ∧ h'.2.1 196 11 = 4 ∧ ∀ a k, mKp a k → h'.2.1 a k = R0 a k
  | .inr A => v = some (.inl (nI (cI A))) ∧ rmC A (shR h') ∧ h'.2.1 196 14 = 1
theorem m_no4 (s196 : zsh h 196 = some (12, 39)) : zPa d mX12_no [.inr (.inr (some 196)), .inl 4] h (fun v h' => v = some (.inl (-1)) ∧ h' = zsI h 196 11 4) := by
  intro N
  show zPn N none d mX12_no (0, [(0, .inr (.inr (some 196))), (1, .inl 4)], [], h) _
  refine pa_aload_n (pc' := 1) dX12_no_0 rfl rfl ?_
  refine pa_iload_n (pc' := 2) dX12_no_1 rfl rfl ?_
  refine pa_putI (pc' := 5) (n := 39) dX12_no_2 fl_12_65 s196 (Or.inl rfl) (Or.inl rfl) rfl ?_
  refine pa_iconst (v := (-1)) (pc' := 6) dX12_no_5 (by decide) rfl ?_
  exact pa_iret dX12_no_6 rfl rfl ⟨rfl, rfl⟩
theorem M_fail (hF : mF R0 y n e h) {ls : zL} (hl0 : zget ls 0 = some (.inr (.inr (some 196)))) : zPn N none (d + 1) mX12_post (163, ls, [], h) (rtR R0 (.inl e)) := by
  have s196 := hF.1.sh sh_196
  have hf := hF.2.1
  refine pa_aload_n (pc' := 164) dX12_post_163 hl0 rfl ?_
  refine pa_getI (pc' := 167) (n := 39) dX12_post_164 fl_12_100 s196 (by decide) hf rfl ?_
  refine pa_if_f (pc' := 170) dX12_post_167 (by decide) (by decide) rfl ?_
  refine pa_aload_n (pc' := 171) dX12_post_170 hl0 rfl ?_
  refine pa_iconst (v := 4) (pc' := 172) dX12_post_171 (by decide) rfl ?_
  refine pa_callv (pc' := 175) (vs := [.inl 4]) (rest := []) dX12_post_172 ml_12_170 (by decide) rfl rfl rfl (fun d' _ => m_no4 s196) (fun v g2 hq => ?_)
  obtain ⟨er, hq⟩ := hq
  subst er; subst hq
  exact pa_iret dX12_post_175 rfl rfl ⟨rfl, by rw [zsI_no (by omega)]; exact hF.2.2.1, by rw [zsI_no (by omega)]; exact hF.2.2.2, zsI_eq, fun a k hk => (zsI_no (by unfold mKp at hk; omega)).trans (hF.1.2.2.2.2.2 a k hk)⟩
/-- the tail: what was told is taken -/
def tK (R : Nat → Int32) (h : zH) : Prop := h.1 = hh_487.1 ∧ (∀ a k b, wd.2.2.1 a k = some b → h.2.2.2.1 a k = some b) ∧ ∀ k, h.2.1 199 k = R k
theorem tK.sh {R : Nat → Int32} (hx : tK R h) {a : Nat} {q : Option (Nat × Nat)} (e : zsh hh_487 a = q) : zsh h a = q := by
  unfold zsh
  rw [hx.1]
  exact e
theorem tK.zs {R : Nat → Int32} {a j : Nat} {v : Int32} (hx : tK R h) (ha : a ≠ 199) : tK R (zsI h a j v) := ⟨hx.1, hx.2.1, fun k => (zsI_no (fun z => ha z.1.symm)).trans (hx.2.2 k)⟩
theorem tK.bt {R : Nat → Int32} (hx : tK R h) (k : hBut 201 h h') : tK R h' := ⟨k.1.trans hx.1, fun a j b hb => by rw [k.2.1]; exact hx.2.1 a j b hb, fun j => (k.2.2 199 j (by decide)).trans (hx.2.2 j)⟩
def tQ (R : Nat → Int32) (v : Option zV) (h' : zH) : Prop := v = some (.inl (R 4)) ∧ (∀ k, h'.2.1 199 k = R k) ∧ h'.2.1 196 14 = 1
variable {R : Nat → Int32}
theorem T_313 {ls : zL} (hx : tK R h) (hl0 : zget ls 0 = some (.inr (.inr (some 196)))) : zPn N none d mX12_post (313, ls, [], h) (tQ R) := by
  have s196 := hx.sh sh_196
  have s199 := hx.sh sh_199
  have r196_15 := hx.2.1 _ _ _ rf_196_15
  refine pa_aload_n (pc' := 314) dX12_post_313 hl0 rfl ?_
  refine pa_iconst (v := 1) (pc' := 315) dX12_post_314 (by decide) rfl ?_
  refine pa_putI (pc' := 318) (n := 39) dX12_post_315 fl_12_180 s196 (Or.inl rfl) (Or.inr ⟨rfl, by decide⟩) rfl ?_
  refine pa_aload_n (pc' := 319) dX12_post_318 hl0 rfl ?_
  refine pa_iconst (v := 0) (pc' := 320) dX12_post_319 (by decide) rfl ?_
  refine pa_putI (pc' := 323) (n := 39) dX12_post_320 fl_12_183 s196 (Or.inl rfl) (Or.inl rfl) rfl ?_
  refine pa_aload_n (pc' := 324) dX12_post_323 hl0 rfl ?_
  refine pa_iconst (v := 0) (pc' := 325) dX12_post_324 (by decide) rfl ?_
  refine pa_putI (pc' := 328) (n := 39) dX12_post_325 fl_12_186 s196 (Or.inl rfl) (Or.inl rfl) rfl ?_
  refine pa_aload_n (pc' := 329) dX12_post_328 hl0 rfl ?_
  refine pa_getR (pc' := 332) (n := 39) (r := 199) dX12_post_329 fl_12_20 s196 (by decide) r196_15 rfl ?_
  refine pa_iconst (v := nI 4) (pc' := 333) dX12_post_332 (by decide) rfl ?_
  refine pa_iald (pc' := 334) (n := 363) dX12_post_333 s199 rfl (fun _ => ?_)
  rw [nI_clamp (by omega)]
  have e : ∀ k, (zsI (zsI (zsI h 196 14 1) 196 20 0) 196 21 0).2.1 199 k = R k := fun k => by
    rw [zsI_no (by omega), zsI_no (by omega), zsI_no (by omega)]
    exact hx.2.2 k
  refine pa_iret dX12_post_334 rfl rfl ⟨?_, e, ?_⟩
  · rw [e]
  · rw [zsI_no (by omega), zsI_no (by omega), zsI_eq]
theorem T_255 : ∀ (N : Nat) (k : Int32) (h : zH) (ls : zL), tK R h → zget ls 0 = some (.inr (.inr (some 196))) → zget ls 2 = some (.inl k) → zPn N none d mX12_post (255, ls, [], h) (tQ R) := by
  intro N
  induction N with
  | zero => intro k h ls _ _ _; exact zPn.zero
  | succ N ih =>
    intro k h ls hx hl0 hl2
    have s196 := hx.sh sh_196
    have s199 := hx.sh sh_199
    have s201 := hx.sh sh_201
    have r196_15 := hx.2.1 _ _ _ rf_196_15
    have r196_17 := hx.2.1 _ _ _ rf_196_17
    refine pa_iload_n (pc' := 256) dX12_post_255 hl2 rfl ?_
    refine pa_aload_n (pc' := 257) dX12_post_256 hl0 rfl ?_
    refine pa_getR (pc' := 260) (n := 39) (r := 199) dX12_post_257 fl_12_20 s196 (by decide) r196_15 rfl ?_
    refine pa_bipush (v := 7) (pc' := 262) dX12_post_260 (by decide) rfl ?_
    refine pa_iald (pc' := 263) (n := 363) dX12_post_262 s199 rfl (fun _ => ?_)
    refine pa_icmp (pc' := 313) (pc2 := 266) dX12_post_263 (by decide) rfl (fun c => T_313 hx hl0) (fun c => ?_)
    refine pa_aload_n (pc' := 267) dX12_post_266 hl0 rfl ?_
    refine pa_getR (pc' := 270) (n := 39) (r := 199) dX12_post_267 fl_12_20 s196 (by decide) r196_15 rfl ?_
    refine pa_bipush (v := 10) (pc' := 272) dX12_post_270 (by decide) rfl ?_
    refine pa_bipush (v := 7) (pc' := 274) dX12_post_272 (by decide) rfl ?_
    refine pa_aload_n (pc' := 275) dX12_post_274 hl0 rfl ?_
    refine pa_getR (pc' := 278) (n := 39) (r := 199) dX12_post_275 fl_12_20 s196 (by decide) r196_15 rfl ?_
    refine pa_bipush (v := 127) (pc' := 280) dX12_post_278 (by decide) rfl ?_
    refine pa_iconst (v := 4) (pc' := 281) dX12_post_280 (by decide) rfl ?_
    refine pa_iload_n (pc' := 282) dX12_post_281 hl2 rfl ?_
    refine pa_imul (pc' := 283) dX12_post_282 rfl rfl ?_
    refine pa_iadd (pc' := 284) dX12_post_283 rfl rfl ?_
    refine pa_iconst (v := 1) (pc' := 285) dX12_post_284 (by decide) rfl ?_
    refine pa_iadd (pc' := 286) dX12_post_285 rfl rfl ?_
    refine pa_iald (pc' := 287) (n := 363) dX12_post_286 s199 rfl (fun _ => ?_)
    refine pa_imul (pc' := 288) dX12_post_287 rfl rfl ?_
    refine pa_iadd (pc' := 289) dX12_post_288 rfl rfl ?_
    refine pa_iconst (v := 1) (pc' := 290) dX12_post_289 (by decide) rfl ?_
    refine pa_iadd (pc' := 291) dX12_post_290 rfl rfl ?_
    refine pa_aload_n (pc' := 292) dX12_post_291 hl0 rfl ?_
    refine pa_getR (pc' := 295) (n := 39) (r := 201) dX12_post_292 fl_12_26 s196 (by decide) r196_17 rfl ?_
    refine pa_bipush (v := 28) (pc' := 297) dX12_post_295 (by decide) rfl ?_
    refine pa_bipush (v := 6) (pc' := 299) dX12_post_297 (by decide) rfl ?_
    refine pa_iload_n (pc' := 300) dX12_post_299 hl2 rfl ?_
    refine pa_imul (pc' := 301) dX12_post_300 rfl rfl ?_
    refine pa_iadd (pc' := 302) dX12_post_301 rfl rfl ?_
    refine pa_bipush (v := 6) (pc' := 304) dX12_post_302 (by decide) rfl ?_
    refine pa_calls (pc' := 307) (kd := 1) (rest := []) dX12_post_304 ml_12_176 (.inl rfl) rfl rfl rfl (fun d' _ => m_cpF s199 s201) (fun v g hq => ?_)
    obtain ⟨er, hq⟩ := hq
    subst er
    show zPn (N + 1) none d mX12_post (307, ls, [], g) (tQ R)
    refine pa_iinc (pc' := 310) dX12_post_307 hl2 (by decide) rfl rfl rfl ?_
    refine pa_gotos (pc' := 255) dX12_post_310 (by decide) ?_
    exact ih _ _ _ (hx.bt hq) (zget_s1 hl0 (by decide) (by simp [zcat])) zget_s1e
theorem T_215 : ∀ (N : Nat) (k : Int32) (h : zH) (ls : zL), tK R h → zget ls 0 = some (.inr (.inr (some 196))) → zget ls 2 = some (.inl k) → zPn N none d mX12_post (215, ls, [], h) (tQ R) := by
  intro N
  induction N with
  | zero => intro k h ls _ _ _; exact zPn.zero
  | succ N ih =>
    intro k h ls hx hl0 hl2
    have s196 := hx.sh sh_196
    have s199 := hx.sh sh_199
    have s201 := hx.sh sh_201
    have r196_15 := hx.2.1 _ _ _ rf_196_15
    have r196_17 := hx.2.1 _ _ _ rf_196_17
    refine pa_iload_n (pc' := 216) dX12_post_215 hl2 rfl ?_
    refine pa_aload_n (pc' := 217) dX12_post_216 hl0 rfl ?_
    refine pa_getR (pc' := 220) (n := 39) (r := 199) dX12_post_217 fl_12_20 s196 (by decide) r196_15 rfl ?_
    refine pa_bipush (v := 6) (pc' := 222) dX12_post_220 (by decide) rfl ?_
    refine pa_iald (pc' := 223) (n := 363) dX12_post_222 s199 rfl (fun _ => ?_)
    refine pa_icmp (pc' := 253) (pc2 := 226) dX12_post_223 (by decide) rfl (fun c => ?_) (fun c => ?_)
    · refine pa_iconst (v := 0) (pc' := 254) dX12_post_253 (by decide) rfl ?_
      refine pa_istore_n (pc' := 255) dX12_post_254 (by decide) rfl rfl ?_
      exact T_255 _ _ _ _ hx (zget_s1 hl0 (by decide) (by simp [zcat])) zget_s1e
    · refine pa_aload_n (pc' := 227) dX12_post_226 hl0 rfl ?_
      refine pa_getR (pc' := 230) (n := 39) (r := 201) dX12_post_227 fl_12_26 s196 (by decide) r196_17 rfl ?_
      refine pa_iconst (v := 2) (pc' := 231) dX12_post_230 (by decide) rfl ?_
      refine pa_iload_n (pc' := 232) dX12_post_231 hl2 rfl ?_
      refine pa_iadd (pc' := 233) dX12_post_232 rfl rfl ?_
      refine pa_aload_n (pc' := 234) dX12_post_233 hl0 rfl ?_
      refine pa_getR (pc' := 237) (n := 39) (r := 199) dX12_post_234 fl_12_20 s196 (by decide) r196_15 rfl ?_
      refine pa_bipush (v := 107) (pc' := 239) dX12_post_237 (by decide) rfl ?_
      refine pa_iconst (v := 4) (pc' := 240) dX12_post_239 (by decide) rfl ?_
      refine pa_iload_n (pc' := 241) dX12_post_240 hl2 rfl ?_
      refine pa_imul (pc' := 242) dX12_post_241 rfl rfl ?_
      refine pa_iadd (pc' := 243) dX12_post_242 rfl rfl ?_
      refine pa_iconst (v := 1) (pc' := 244) dX12_post_243 (by decide) rfl ?_
      refine pa_iadd (pc' := 245) dX12_post_244 rfl rfl ?_
      refine pa_iald (pc' := 246) (n := 363) dX12_post_245 s199 rfl (fun _ => ?_)
      refine pa_iast (pc' := 247) (n := 76) dX12_post_246 s201 rfl (fun _ => ?_)
      refine pa_iinc (pc' := 250) dX12_post_247 hl2 (by decide) rfl rfl rfl ?_
      refine pa_gotos (pc' := 215) dX12_post_250 (by decide) ?_
      exact ih _ _ _ (hx.zs (by decide)) (zget_s1 hl0 (by decide) (by simp [zcat])) zget_s1e
theorem T_194 : ∀ (N : Nat) (k : Int32) (h : zH) (ls : zL), tK R h → zget ls 0 = some (.inr (.inr (some 196))) → zget ls 2 = some (.inl k) → zPn N none d mX12_post (194, ls, [], h) (tQ R) := by
  intro N
  induction N with
  | zero => intro k h ls _ _ _; exact zPn.zero
  | succ N ih =>
    intro k h ls hx hl0 hl2
    have s196 := hx.sh sh_196
    have s201 := hx.sh sh_201
    have r196_17 := hx.2.1 _ _ _ rf_196_17
    refine pa_iload_n (pc' := 195) dX12_post_194 hl2 rfl ?_
    refine pa_bipush (v := 76) (pc' := 197) dX12_post_195 (by decide) rfl ?_
    refine pa_icmp (pc' := 213) (pc2 := 200) dX12_post_197 (by decide) rfl (fun c => ?_) (fun c => ?_)
    · refine pa_iconst (v := 0) (pc' := 214) dX12_post_213 (by decide) rfl ?_
      refine pa_istore_n (pc' := 215) dX12_post_214 (by decide) rfl rfl ?_
      exact T_215 _ _ _ _ hx (zget_s1 hl0 (by decide) (by simp [zcat])) zget_s1e
    · refine pa_aload_n (pc' := 201) dX12_post_200 hl0 rfl ?_
      refine pa_getR (pc' := 204) (n := 39) (r := 201) dX12_post_201 fl_12_26 s196 (by decide) r196_17 rfl ?_
      refine pa_iload_n (pc' := 205) dX12_post_204 hl2 rfl ?_
      refine pa_iconst (v := 0) (pc' := 206) dX12_post_205 (by decide) rfl ?_
      refine pa_iast (pc' := 207) (n := 76) dX12_post_206 s201 rfl (fun _ => ?_)
      refine pa_iinc (pc' := 210) dX12_post_207 hl2 (by decide) rfl rfl rfl ?_
      refine pa_gotos (pc' := 194) dX12_post_210 (by decide) ?_
      exact ih _ _ _ (hx.zs (by decide)) (zget_s1 hl0 (by decide) (by simp [zcat])) zget_s1e
theorem M_done {ls : zL} (hI : pI A) (K : mS R0 y n A nm p h) (hl0 : zget ls 0 = some (.inr (.inr (some 196)))) : zPn N none d mX12_post (163, ls, [], h) (rtR R0 (.inr A)) := by
  have hx := K.1.1
  have s196 := hx.sh sh_196
  have s199 := hx.sh sh_199
  have s200 := hx.sh sh_200
  have r196_15 := hx.2.1 _ _ _ rf_196_15
  have r196_16 := hx.2.1 _ _ _ rf_196_16
  have hf := K.2.1
  refine pa_aload_n (pc' := 164) dX12_post_163 hl0 rfl ?_
  refine pa_getI (pc' := 167) (n := 39) dX12_post_164 fl_12_100 s196 (by decide) hf rfl ?_
  refine pa_if_t (pc' := 176) dX12_post_167 (by decide) (by decide) ?_
  refine pa_aload_n (pc' := 177) dX12_post_176 hl0 rfl ?_
  refine pa_getR (pc' := 180) (n := 39) (r := 200) dX12_post_177 fl_12_23 s196 (by decide) r196_16 rfl ?_
  refine pa_iconst (v := 0) (pc' := 181) dX12_post_180 (by decide) rfl ?_
  refine pa_aload_n (pc' := 182) dX12_post_181 hl0 rfl ?_
  refine pa_getR (pc' := 185) (n := 39) (r := 199) dX12_post_182 fl_12_20 s196 (by decide) r196_15 rfl ?_
  refine pa_iconst (v := 0) (pc' := 186) dX12_post_185 (by decide) rfl ?_
  refine pa_sipush (v := 363) (pc' := 189) dX12_post_186 (by decide) rfl ?_
  refine pa_calls (pc' := 192) (kd := 1) (rest := []) dX12_post_189 ml_12_176 (.inl rfl) rfl rfl rfl (fun d' _ => m_cpR s200 s199) (fun v g hq => ?_)
  obtain ⟨er, hb, hq⟩ := hq
  subst er
  show zPn N none d mX12_post (192, ls, [], g) _
  have kt : tK (fun k => g.2.1 199 k) g := ⟨hb.1.trans hx.1, fun a j b h3 => by rw [hb.2.1]; exact hx.2.1 a j b h3, fun k => rfl⟩
  refine pa_iconst (v := 0) (pc' := 193) dX12_post_192 (by decide) rfl ?_
  refine pa_istore_n (pc' := 194) dX12_post_193 (by decide) rfl rfl ?_
  refine zPn.mono (T_194 N _ _ _ kt (zget_s1 hl0 (by decide) (by simp [zcat])) zget_s1e) (fun v h' hq2 => ?_)
  obtain ⟨ev, e1, e2⟩ := hq2
  have k4 : g.2.1 199 4 = nI (cI A) := (hq 4 (by decide)).trans K.2.2.1.2.2.1
  refine ⟨by rw [ev, ← k4], K.2.2.1.frB hI (fun j hj => ?_), e2⟩
  show h'.2.1 199 j = h.2.1 200 j
  rw [e1]
  exact hq j hj
end MDX
