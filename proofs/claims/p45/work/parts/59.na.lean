/-! by hand: rows that change whole, copy, note1 -/
theorem zn_ge {a b : Nat} (h : b ≤ a) (ha : a < 2 ^ 31) : zcond .ge (nI a) (nI b) = true := decide_eq_true (nI_le h ha)
theorem zn_nge {a b : Nat} (h : a < b) (hb : b < 2 ^ 31) : zcond .ge (nI a) (nI b) = false := decide_eq_false (nI_ge h hb)
theorem zn_in {k n : Nat} (h : k < n) (hn : n < 2 ^ 31) : zin (nI k) n = true := decide_eq_true (vp_in_nI h hn)
theorem nI_at {x : Int32} {k : Nat} (h : x.toInt = (k : Int)) : x = nI k := by
  have := i32_rg x
  exact Int32.toInt_inj.mp (by rw [h, nI_toInt (by omega)])
theorem zH_ext {h h' : zH} (e1 : h.1 = h'.1) (e2 : ∀ x j, h.2.1 x j = h'.2.1 x j) (e3 : h.2.2 = h'.2.2) : h = h' := by
  obtain ⟨a, b, c⟩ := h
  obtain ⟨a', b', c'⟩ := h'
  have e4 : b = b' := by funext x j; exact e2 x j
  dsimp only at e1 e3
  rw [e1, e4, e3]
/-- no implication speaks of this cell -/
def aNoC (w : aWd) (g : Nat) : Bool := w.2.2.2.all (fun i => !(Nat.beq i.2.1.1 g) && i.1.all (fun c => !(Nat.beq c.1.1 g)))
def aNoS (w : aWd) (g k : Nat) : Bool := w.2.2.2.all (fun i => !(Nat.beq i.2.1.1 g && Nat.beq i.2.1.2 k) && i.1.all (fun c => !(Nat.beq c.1.1 g && Nat.beq c.1.2 k)))
theorem hOK_row {w : aWd} {h h' : zH} {g : Nat} (e1 : h'.1 = h.1) (e2 : h'.2.2.2.1 = h.2.2.2.1) (hs : ∀ x j, x ≠ g → h'.2.1 x j = h.2.1 x j) (hn : ∀ j, aIn (h'.2.1 g j).toInt (gSeg (w.2.1 g) j)) (hno : aNoC w g = true) (ho : hOK w h) : hOK w h' := by
  obtain ⟨c5, c6, c7, c8, c9⟩ := ho
  refine ⟨fun a q hq => ?_, fun a k => ?_, fun a k b hb => by rw [e2]; exact c7 a k b hb, fun i hi => ?_, by rw [e1]; exact c9⟩
  · have := c5 a q hq
    unfold zsh at this ⊢
    rw [e1]; exact this
  · by_cases e : a = g
    · rw [e]; exact hn k
    · rw [hs a k e]; exact c6 a k
  · have hno := List.all_eq_true.mp hno i hi
    simp only [Bool.and_eq_true, Bool.not_eq_true', List.all_eq_true] at hno
    have hold := c8 i hi
    intro hc
    rw [hs _ _ (nbeq_f hno.1)]
    refine hold (fun c hcm => ?_)
    have := hc c hcm
    rw [hs _ _ (nbeq_f (hno.2 c hcm))] at this
    exact this
theorem hOK_set {w : aWd} {h : zH} {g k : Nat} {v : Int32} (hv : aIn v.toInt (gSeg (w.2.1 g) k)) (hno : aNoS w g k = true) (ho : hOK w h) : hOK w (zsI h g k v) := by
  obtain ⟨c5, c6, c7, c8, c9⟩ := ho
  refine ⟨c5, fun a j => ?_, c7, fun i hi => ?_, c9⟩
  · rw [zsI_at]
    split
    · next e => rw [e.1, e.2]; exact hv
    · exact c6 a j
  · have hno := List.all_eq_true.mp hno i hi
    simp only [Bool.and_eq_true, Bool.not_eq_true', List.all_eq_true] at hno
    have hne : ∀ {a b : Nat}, (Nat.beq a g && Nat.beq b k) = false → ¬ (a = g ∧ b = k) := by
      intro a b hq z
      rw [z.1, z.2] at hq
      simp at hq
    have hold := c8 i hi
    intro hc
    rw [zsI_no (hne hno.1)]
    refine hold (fun c hcm => ?_)
    have := hc c hcm
    rw [zsI_no (hne (hno.2 c hcm))] at this
    exact this
/-! copy -/
def cpyH (h : zH) (f a g b n : Nat) : zH := (h.1, zrow h.2.1 g (fun j => if b ≤ j ∧ j < b + n then h.2.1 f (a + (j - b)) else h.2.1 g j), h.2.2.1, h.2.2.2.1, h.2.2.2.2)
section HCPY
variable {h : zH} {f a g b n x j k : Nat}
theorem cpyH_at : (cpyH h f a g b n).2.1 x j = if x = g ∧ b ≤ j ∧ j < b + n then h.2.1 f (a + (j - b)) else h.2.1 x j := by
  simp only [cpyH, zrow]
  by_cases e : x = g
  · subst e
    by_cases q : b ≤ j ∧ j < b + n
    · rw [if_pos rfl, if_pos q, if_pos ⟨rfl, q⟩]
    · rw [if_pos rfl, if_neg q, if_neg (fun z => q z.2)]
  · rw [if_neg e, if_neg (fun z => e z.1)]
theorem cpyH_0 : cpyH h f a g b 0 = h := zH_ext rfl (fun x j => by rw [cpyH_at, if_neg (by omega)]) rfl
theorem cpyH_s : zsI (cpyH h f a g b k) g (b + k) (h.2.1 f (a + k)) = cpyH h f a g b (k + 1) := zH_ext rfl (fun x j => by
  rw [zsI_at, cpyH_at, cpyH_at]
  by_cases e : x = g ∧ j = b + k
  · rw [if_pos e, if_pos ⟨e.1, by omega, by omega⟩]
    have : a + (j - b) = a + k := by omega
    rw [this]
  · rw [if_neg e]
    by_cases q : x = g ∧ b ≤ j ∧ j < b + k
    · rw [if_pos q, if_pos ⟨q.1, q.2.1, by omega⟩]
    · rw [if_neg q, if_neg (fun z => q ⟨z.1, z.2.1, by have : j ≠ b + k := fun y => e ⟨z.1, y⟩; omega⟩)]) rfl
end HCPY
theorem lp_copy {d : Nat} {h : zH} {f g nf ng a b n : Nat} (sf : zsh h f = some (14, nf)) (sg : zsh h g = some (14, ng)) (hne : f ≠ g) (ha : a + n ≤ nf) (hb : b + n ≤ ng) (hn : nf < 100000) (hn2 : ng < 100000) : ∀ r k : Nat, k + r = n → zEx none d mX12_copy (3, [(5, .inl (nI k)), (0, .inr (.inr (some f))), (1, .inl (nI a)), (2, .inr (.inr (some g))), (3, .inl (nI b)), (4, .inl (nI n))], [], cpyH h f a g b k) (fun v h' => v = none ∧ h' = cpyH h f a g b n) := by
  intro r
  induction r with
  | zero =>
    intro k hk
    obtain rfl : k = n := by omega
    refine ex_iload (pc' := 5) dX12_copy_3 rfl rfl ?_
    refine ex_iload (pc' := 7) dX12_copy_5 rfl rfl ?_
    refine ex_icmp_t (pc' := 28) dX12_copy_7 (zn_ge (Nat.le_refl _) (by omega)) (by decide) ?_
    exact ex_vret dX12_copy_28 rfl ⟨rfl, rfl⟩
  | succ r ih =>
    intro k hk
    refine ex_iload (pc' := 5) dX12_copy_3 rfl rfl ?_
    refine ex_iload (pc' := 7) dX12_copy_5 rfl rfl ?_
    refine ex_icmp_f (pc' := 10) dX12_copy_7 (zn_nge (by omega) (by omega)) (by decide) rfl ?_
    refine ex_aload_n (pc' := 11) dX12_copy_10 rfl rfl ?_
    refine ex_iload_n (pc' := 12) dX12_copy_11 rfl rfl ?_
    refine ex_iload (pc' := 14) dX12_copy_12 rfl rfl ?_
    refine ex_iadd (pc' := 15) (v := nI (b + k)) dX12_copy_14 (nI_add _ _) rfl ?_
    refine ex_aload_n (pc' := 16) dX12_copy_15 rfl rfl ?_
    refine ex_iload_n (pc' := 17) dX12_copy_16 rfl rfl ?_
    refine ex_iload (pc' := 19) dX12_copy_17 rfl rfl ?_
    refine ex_iadd (pc' := 20) (v := nI (a + k)) dX12_copy_19 (nI_add _ _) rfl ?_
    refine ex_iald (pc' := 21) (n := nf) (v := h.2.1 f (a + k)) dX12_copy_20 sf (zn_in (by omega) (by omega)) (by rw [nI_clamp (by omega), cpyH_at, if_neg (fun z => hne z.1)]) rfl ?_
    refine en_iast (pc' := 22) (n := ng) (jj := b + k) (h2 := cpyH h f a g b (k + 1)) dX12_copy_21 sg ⟨zn_in (by omega) (by omega), nI_clamp (by omega)⟩ cpyH_s rfl ?_
    refine ex_iinc (pc' := 25) (v := nI (k + 1)) (ls' := [(5, .inl (nI (k + 1))), (0, .inr (.inr (some f))), (1, .inl (nI a)), (2, .inr (.inr (some g))), (3, .inl (nI b)), (4, .inl (nI n))]) dX12_copy_22 rfl (by decide) (nI_1 k) rfl rfl ?_
    refine ex_goto (pc' := 3) dX12_copy_25 (by decide) ?_
    exact ih (k + 1) (by omega)
theorem k_copy {d : Nat} {h : zH} {f g nf ng a b n : Nat} (sf : zsh h f = some (14, nf)) (sg : zsh h g = some (14, ng)) (hne : f ≠ g) (ha : a + n ≤ nf) (hb : b + n ≤ ng) (hn : nf < 100000) (hn2 : ng < 100000) : zCv d mX12_copy [.inr (.inr (some f)), .inl (nI a), .inr (.inr (some g)), .inl (nI b), .inl (nI n)] h (fun h' => h' = cpyH h f a g b n) := by
  show zEx none d mX12_copy (0, [(0, .inr (.inr (some f))), (1, .inl (nI a)), (2, .inr (.inr (some g))), (3, .inl (nI b)), (4, .inl (nI n))], [], h) _
  refine ex_iconst (v := nI 0) (pc' := 1) dX12_copy_0 rfl rfl ?_
  refine ex_istore (pc' := 3) (ls' := [(5, .inl (nI 0)), (0, .inr (.inr (some f))), (1, .inl (nI a)), (2, .inr (.inr (some g))), (3, .inl (nI b)), (4, .inl (nI n))]) dX12_copy_1 (by decide) rfl rfl ?_
  have := lp_copy (d := d) (h := h) sf sg hne ha hb hn hn2 n 0 (by omega)
  rw [cpyH_0] at this
  exact this
/-- each place's range fits the other's -/
def cpyChk (w : aWd) (f g nf ng : Nat) (A B N : aI) (lo hi : Nat) : Bool :=
  aNoC w g && (!(Nat.beq f g) && (!(Nat.beq g 196) && (Nat.blt nf 100000 && (Nat.blt ng 100000 &&
  (aEn A).all (fun a => (aEn B).all (fun b => (aEn N).all (fun n => ile 0 a && (ile 0 b && (ile 0 n && (Nat.ble (a.toNat + n.toNat) nf && (Nat.ble (b.toNat + n.toNat) ng && (Nat.ble lo b.toNat && (Nat.ble (b.toNat + n.toNat) hi &&
    (List.range n.toNat).all (fun j => aLe (gSeg (w.2.1 f) (a.toNat + j)) (gSeg (w.2.1 g) (b.toNat + j)))))))))))))))) 
theorem S_cpy {w : aWd} {f g nf ng : Nat} {A B N : aI} {lo hi D : Nat} {pre : List ((Nat × Nat) × aI) × aU} (hw1 : w.1 f = some (14, nf)) (hw2 : w.1 g = some (14, ng)) (hck : cpyChk w f g nf ng A B N lo hi = true) : aSpec w (mX12_copy, [.inr (.inl [f]), .inl A, .inr (.inl [g]), .inl B, .inl N], pre, [(none, [], [], [])], [(g, lo, hi)], [], D) := by
  intro d hd vs h hargs hok hpre
  match vs, hargs with
  | [v0, v1, v2, v3, v4], ⟨⟨q0, m0, e0⟩, ⟨x1, e1, i1⟩, ⟨q2, m2, e2⟩, ⟨x3, e3, i3⟩, ⟨x4, e4, i4⟩, _⟩ =>
    have m0 : q0 = f := by simpa using m0
    have m2 : q2 = g := by simpa using m2
    subst e0; subst e1; subst e2; subst e3; subst e4; subst m0; subst m2
    simp only [cpyChk, Bool.and_eq_true, List.all_eq_true, ile_iff, Nat.ble_eq, Nat.blt_eq, Bool.not_eq_true'] at hck
    obtain ⟨k1, k2, k3, k4, k5, k6⟩ := hck
    obtain ⟨a0, b0, n0, y1, y2, y3, y4, y5⟩ := k6 _ (aEn_in i1) _ (aEn_in i3) _ (aEn_in i4)
    have ex1 : x1 = nI x1.toInt.toNat := nI_at (by omega)
    have ex3 : x3 = nI x3.toInt.toNat := nI_at (by omega)
    have ex4 : x4 = nI x4.toInt.toNat := nI_at (by omega)
    generalize x1.toInt.toNat = a at *
    generalize x3.toInt.toNat = b at *
    generalize x4.toInt.toNat = n at *
    subst ex1; subst ex3; subst ex4
    refine zEx.mono (k_copy (d := d) (hok.1 _ _ hw1) (hok.1 _ _ hw2) (nbeq_f k2) y1 y2 k4 k5) (fun v h' hq => ?_)
    obtain ⟨rfl, rfl⟩ := hq
    refine ⟨hOK_row (h := h) (g := q2) rfl rfl (fun x j hx => by rw [cpyH_at, if_neg (fun z => hx z.1)]) (fun j => ?_) k1 hok, ⟨rfl, rfl, fun x j hm => ?_, fun _ _ _ => rfl, fun hm => ?_⟩, _, List.mem_cons_self, rfl, trivial, (fun q hq => nomatch hq), (fun q hq => nomatch hq)⟩
    · rw [cpyH_at]
      split
      · next z =>
        have := aLe_in (y5 (j - b) (List.mem_range.mpr (by omega))) (hok.2.1 q0 (a + (j - b)))
        have e : b + (j - b) = j := by omega
        rw [e] at this
        exact this
      · exact hok.2.1 q2 j
    · rw [cpyH_at, if_neg]
      intro z
      have : inM [(q2, lo, hi)] x j = true := by
        refine List.any_eq_true.mpr ⟨_, List.mem_cons_self, ?_⟩
        simp only [Bool.and_eq_true, Nat.beq_eq, Nat.ble_eq, Nat.blt_eq]
        exact ⟨z.1.symm, by omega, by omega⟩
      rw [this] at hm
      cases hm
    · exact hMn.eq (by rw [cpyH_at, if_neg (fun z => nbeq_f k3 z.1.symm)]) (by rw [cpyH_at, if_neg (fun z => nbeq_f k3 z.1.symm)])
