/-! led of the class: it answers or throws, and writes nothing -/
def ldS (h h' : zH) : Prop := hOK wd h' ∧ h'.1 = h.1 ∧ (∀ a k, h'.2.1 a k = h.2.1 a k) ∧ (∀ a k, h'.2.2.2.1 a k = h.2.2.2.1 a k) ∧ h'.2.2.2.2 = h.2.2.2.2
def ldQ (h : zH) (v : Option zV) (h' : zH) : Prop := (∃ b : Int32, v = some (.inl b) ∧ ldS h h') ∨ (v = some (.inr (.inl (-1))) ∧ ∃ g, ldS h g ∧ h' = zthr g)
theorem ldS.tr {h h1 h2 : zH} (a : ldS h h1) (b : ldS h1 h2) : ldS h h2 := ⟨b.1, b.2.1.trans a.2.1, fun x k => (b.2.2.1 x k).trans (a.2.2.1 x k), fun x k => (b.2.2.2.1 x k).trans (a.2.2.2.1 x k), b.2.2.2.2.trans a.2.2.2.2⟩
theorem ldQ.tr {h h1 : zH} (a : ldS h h1) {v : Option zV} {h' : zH} (b : ldQ h1 v h') : ldQ h v h' := by
  rcases b with ⟨y, e, z⟩ | ⟨e, g, z, w⟩
  · exact .inl ⟨y, e, a.tr z⟩
  · exact .inr ⟨e, g, a.tr z, w⟩
theorem nI_rg {x : Int32} {n : Nat} (h : aIn x.toInt [(0, (n : Int), 1)]) (hn : n ≤ 2147483647) : ∃ s : Nat, s ≤ n ∧ x = nI s := by
  obtain ⟨p, hp, a, b, -⟩ := h
  have e : p = (0, (n : Int), 1) := by simpa using hp
  subst e
  have a : 0 ≤ x.toInt := a
  have b : x.toInt ≤ (n : Int) := b
  refine ⟨x.toInt.toNat, by omega, Int32.toInt_inj.mp ?_⟩
  rw [nI_toInt (by omega)]
  omega
section HL
variable {d p m : Nat}
theorem led_loop (hp : p = 2 ∨ p = 42) (hm : m ≤ 8) : ∀ (r b : Nat) (h : zH) (ls : zL) (y : Int32), b + r = m → hOK wd h → h.2.2.2.1 0 3 = some p → h.2.1 p 7 = nI m → h.2.2.2.2 < 1000 → zget ls 0 = some (.inr (.inr (some 0))) → zget ls 2 = some (.inl y) → zget ls 3 = some (.inl (nI b)) → zEx none (d + 1) mX11_led (4, ls, [], h) (ldQ h) := by
  intro r
  induction r with
  | zero =>
    intro b h ls y hb ho r3 h7 hth l0 l2 l3
    have s0 : zsh h 0 = some (11, 16) := ho.1 0 (11, 16) (by decide +kernel)
    have sp : zsh h p = some (4, 15) := by rcases hp with e | e <;> subst e <;> exact ho.1 _ (4, 15) (by decide +kernel)
    refine ex_iload_n (pc' := 5) dX11_led_4 l3 rfl ?_
    refine ex_aload_n (pc' := 6) dX11_led_5 l0 rfl ?_
    refine ex_getR (pc' := 9) (n := 16) (r := p) dX11_led_6 fl_11_23 s0 (by decide) r3 rfl ?_
    refine ex_getI (pc' := 12) (n := 15) (v := nI m) dX11_led_9 fl_11_239 sp (by decide) h7 rfl ?_
    refine ex_icmp_t (pc' := 45) dX11_led_12 (by
      rw [show b = m by omega]
      simp [zcond]) (by decide) ?_
    exact ex_thr dX11_led_45 kl_11_363 (by decide) rfl hth (.inr ⟨rfl, h, ⟨ho, rfl, fun _ _ => rfl, fun _ _ => rfl, rfl⟩, rfl⟩)
  | succ r ih =>
    intro b h ls y hb ho r3 h7 hth l0 l2 l3
    have s0 : zsh h 0 = some (11, 16) := ho.1 0 (11, 16) (by decide +kernel)
    have s86 : zsh h 86 = some (2, 7) := ho.1 86 (2, 7) (by decide +kernel)
    have r6 : h.2.2.2.1 0 6 = some 86 := ho.2.2.1 0 6 86 (by decide +kernel)
    have sp : zsh h p = some (4, 15) := by rcases hp with e | e <;> subst e <;> exact ho.1 _ (4, 15) (by decide +kernel)
    refine ex_iload_n (pc' := 5) dX11_led_4 l3 rfl ?_
    refine ex_aload_n (pc' := 6) dX11_led_5 l0 rfl ?_
    refine ex_getR (pc' := 9) (n := 16) (r := p) dX11_led_6 fl_11_23 s0 (by decide) r3 rfl ?_
    refine ex_getI (pc' := 12) (n := 15) (v := nI m) dX11_led_9 fl_11_239 sp (by decide) h7 rfl ?_
    refine ex_icmp_f (pc' := 15) dX11_led_12 (zk_lt_ge (b := true) (zj_lt (by rw [nI_toInt (by omega), nI_toInt (by omega)]; omega))) (by decide) rfl ?_
    refine ex_iload_n (pc' := 16) dX11_led_15 l2 rfl ?_
    refine ex_if (pc' := 45) (pc2 := 19) dX11_led_16 (by decide) rfl (fun _ => ex_thr dX11_led_45 kl_11_363 (by decide) rfl hth (.inr ⟨rfl, h, ⟨ho, rfl, fun _ _ => rfl, fun _ _ => rfl, rfl⟩, rfl⟩)) (fun _ => ?_)
    refine ex_aload_n (pc' := 20) dX11_led_19 l0 rfl ?_
    refine ex_getR (pc' := 23) (n := 16) (r := 86) dX11_led_20 fl_11_42 s0 (by decide) r6 rfl ?_
    refine ex_iload_n (pc' := 24) dX11_led_23 l3 rfl ?_
    refine ex_callv (pc' := 27) (vs := [.inl (nI b)]) (rest := []) (n := 7) dX11_led_24 ml_11_242 ⟨zble rfl, zble rfl⟩ rfl rfl s86 (by decide) (zble rfl) rfl (S_113 d (Nat.zero_le _) [.inr (.inr (some 86)), .inl (nI b)] h ⟨⟨86, List.mem_cons_self, rfl⟩, ⟨nI b, rfl, aR1_in (lo := 0) (hi := 7) (by rw [nI_toInt (by omega)]; omega) (by rw [nI_toInt (by omega)]; omega)⟩, trivial⟩ ho ⟨fun q hq => (nomatch hq), fun q hq => (nomatch hq)⟩) (fun v h1 hq => ?_)
    obtain ⟨ho1, hf1, q, hq, hret, -⟩ := hq
    have hS : ldS h h1 := ⟨ho1, hf1.1, fun a k => hf1.2.2.1 a k rfl, fun a k => hf1.2.2.2.1 a k rfl, hf1.2.1⟩
    have hv : ∃ z : Int32, v = some (.inl z) := by
      have hq : q ∈ [((some (.inl [(0, 0, 1)]), [], [], []) : aPo), (some (.inl [(1, 1, 1)]), [], [], [])] := hq
      simp only [List.mem_cons, List.not_mem_nil, or_false] at hq
      rcases hq with e | e <;> subst e
      · obtain ⟨z, e, -⟩ := hret; exact ⟨z, e⟩
      · obtain ⟨z, e, -⟩ := hret; exact ⟨z, e⟩
    obtain ⟨z, e⟩ := hv
    subst e
    show zEx none (d + 1) mX11_led (27, ls, [.inl z], h1) (ldQ h)
    have next : ∀ (ls' : zL) (y' : Int32), zget ls' 0 = some (.inr (.inr (some 0))) → zget ls' 2 = some (.inl y') → zget ls' 3 = some (.inl (nI b)) → zEx none (d + 1) mX11_led (39, ls', [], h1) (ldQ h) := by
      intro ls' y' g0 g2 g3
      refine ex_iinc (pc' := 42) (v := nI (b + 1)) dX11_led_39 g3 (by decide) (nI_add b 1) rfl rfl ?_
      refine ex_goto (pc' := 4) dX11_led_42 (by decide) ?_
      refine zEx.mono (ih (b + 1) h1 _ y' (by omega) ho1 ((hS.2.2.2.1 0 3).trans r3) ((hS.2.2.1 p 7).trans h7) (by rw [hS.2.2.2.2]; exact hth) (zget_s1 g0 (by decide) (by simp [zcat])) (zget_s1 g2 (by decide) (by simp [zcat])) zget_s1e) (fun v h' hq => hq.tr hS)
    refine ex_if (pc' := 39) (pc2 := 30) dX11_led_27 (by decide) rfl (fun _ => next ls y l0 l2 l3) (fun _ => ?_)
    refine ex_iload_n (pc' := 31) dX11_led_30 l2 rfl ?_
    refine ex_if (pc' := 36) (pc2 := 34) dX11_led_31 (by decide) rfl (fun _ => ?_) (fun _ => ?_)
    · refine ex_iinc (pc' := 39) (v := y + Int32.ofInt (-1)) dX11_led_36 l2 (by decide) rfl rfl rfl ?_
      exact next _ _ (zget_s1 l0 (by decide) (by simp [zcat])) zget_s1e (zget_s1 l3 (by decide) (by simp [zcat]))
    · refine ex_iload_n (pc' := 35) dX11_led_34 l3 rfl ?_
      exact ex_iret dX11_led_35 rfl rfl (.inl ⟨nI b, rfl, hS⟩)
theorem S_led {h : zH} {x : Int32} (ho : hOK wd h) (hr : h.2.2.2.1 0 3 = some 2 ∨ h.2.2.2.1 0 3 = some 42) (hth : h.2.2.2.2 < 1000) : zCt (d + 1) zledM [.inr (.inr (some 0)), .inl x] h (ldQ h) := by
  obtain ⟨p, hp, r3⟩ : ∃ p : Nat, (p = 2 ∨ p = 42) ∧ h.2.2.2.1 0 3 = some p := by
    rcases hr with e | e
    · exact ⟨2, .inl rfl, e⟩
    · exact ⟨42, .inr rfl, e⟩
  have h7 : aIn (h.2.1 p 7).toInt [(0, ((8 : Nat) : Int), 1)] := by
    rcases hp with e | e
    · subst e; exact aLe_in (A := gSeg (wd.2.1 2) 7) (by decide +kernel) (ho.2.1 2 7)
    · subst e; exact aLe_in (A := gSeg (wd.2.1 42) 7) (by decide +kernel) (ho.2.1 42 7)
  obtain ⟨m, hm, e7⟩ := nI_rg h7 (by decide)
  show zEx none (d + 1) mX11_led (0, [(0, .inr (.inr (some 0))), (1, .inl x)], [], h) _
  refine ex_iload_n (pc' := 1) dX11_led_0 rfl rfl ?_
  refine ex_istore_n (pc' := 2) dX11_led_1 (by decide) rfl rfl ?_
  refine ex_iconst (v := nI 0) (pc' := 3) dX11_led_2 (by decide) rfl ?_
  refine ex_istore_n (pc' := 4) dX11_led_3 (by decide) rfl rfl ?_
  exact led_loop hp hm m 0 h _ x (by omega) ho r3 e7 hth rfl rfl rfl
end HL
