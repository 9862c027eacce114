/-! the law's loop: feed, post, led -/
section HLX
variable {t i L : Nat} {h h' g : zH} {xs : Nat → Int32} {ls : zL} {vs : List zV} {c c0 c1 : aCt} {k : Bool} {im : Int32}
theorem lIn0.inv (hi : lIn0 t h) (e : h.2.1 0 1 = h.2.1 196 2) (a : lT h) (b : lY h) : lInv t h := ⟨hi.1, hi.2.1, e, hi.2.2.1, hi.2.2.2, a, b⟩
def fS (s : Nat) : Nat := if s ≤ 980 then s + 20 else s
def fA (s : Nat) : Int32 := if s ≤ 980 then nI (s + 20) else -1
/-- what feed leaves alone -/
def fC1 (h h' : zH) : Prop := (∀ a j, 2 ≤ a → h'.2.1 a j = h.2.1 a j) ∧ h'.2.1 0 2 = h.2.1 0 2 ∧ h'.2.1 0 15 = h.2.1 0 15 ∧ ∀ a j, h'.2.2.2.1 a j = h.2.2.2.1 a j
def fM1 (h h' : zH) : Prop := (∀ a j, a < 196 ∨ 198 ≤ a → h'.2.1 a j = h.2.1 a j) ∧ (h'.2.1 196 9 = h.2.1 196 9 ∧ h'.2.1 196 10 = h.2.1 196 10 ∧ h'.2.1 196 11 = h.2.1 196 11 ∧ h'.2.1 196 14 = h.2.1 196 14 ∧ h'.2.1 196 21 = h.2.1 196 21) ∧ ∀ a j, h'.2.2.2.1 a j = h.2.2.2.1 a j
theorem lY_fed (k : lY h) (a : fC1 h g) (b : fM1 g h') : lY h' := by
  obtain ⟨a1, a2, a3, a4⟩ := a
  obtain ⟨b1, ⟨b9, b10, b11, b14, b21⟩, b2⟩ := b
  exact k.fr (fun x j h1 h2 => (b1 x j (by omega)).trans (a1 x j (by omega))) (fun j => (b1 199 j (by omega)).trans (a1 199 j (by omega))) ((b1 0 2 (by omega)).trans a2) ((b1 0 15 (by omega)).trans a3) (b9.trans (a1 196 9 (by omega))) (b10.trans (a1 196 10 (by omega))) (b11.trans (a1 196 11 (by omega))) (b14.trans (a1 196 14 (by omega))) (b21.trans (a1 196 21 (by omega))) ((b2 0 3).trans (a4 0 3))
def pF1 (a : Nat) : Bool := Nat.ble a 1
def pF2 (a : Nat) : Bool := Nat.beq a 196 || Nat.beq a 197
theorem pF1_f {a : Nat} (h : 2 ≤ a) : pF1 a = false := ble_f (by omega)
theorem pF2_f {a : Nat} (h : a < 196 ∨ 198 ≤ a) : pF2 a = false := by
  unfold pF2
  rw [beq_f (show a ≠ 196 by omega), beq_f (show a ≠ 197 by omega)]
  rfl
theorem l_feed11 {s : Nat} {x1 x2 x3 x4 x5 : Int32} (hi : lInv t h) (hs : s ≤ 1000) (e1 : h.2.1 0 1 = nI s) (e2 : h.2.1 196 2 = nI s) : zCi 1004 mX11_feed [.inr (.inr (some 0)), .inl x1, .inl x2, .inl x3, .inl x4, .inl x5] h (fun x h' => lIn0 t h' ∧ h'.2.1 196 2 = nI s ∧ h'.2.1 0 1 = nI (fS s) ∧ x = fA s ∧ fdC s x1 x2 x3 x4 x5 h h' ∧ fC1 h h') := by
  have g := S_5 1004 (by decide) [.inr (.inr (some 0)), .inl x1, .inl x2, .inl x3, .inl x4, .inl x5] h ⟨⟨0, List.mem_cons_self, rfl⟩, ⟨_, rfl, aIn_top _⟩, ⟨_, rfl, aIn_top _⟩, ⟨_, rfl, aIn_top _⟩, ⟨_, rfl, aIn_top _⟩, ⟨_, rfl, aIn_top _⟩, trivial⟩ hi.1 ⟨fun q hq => (nomatch hq), fun q hq => (nomatch hq)⟩
  refine zEx.mono (zPa.and (zEx.and g (F_feed11 (d := 1003) (x1 := x1) (x2 := x2) (x3 := x3) (x4 := x4) (x5 := x5) hi.1 e1 hs)) (N_feed11 (x1 := x1) (x2 := x2) (x3 := x3) (x4 := x4) (x5 := x5) hi.1 e1 hs)) (fun v h' hq => ?_)
  obtain ⟨⟨⟨ho, hf, -⟩, hq⟩, hz⟩ := hq
  have hj : lIn0 t h' := ⟨ho, hi.2.1.imp (fun z q hq => (hf.2.2.2.1 _ _ rfl).trans (z q hq)) (fun z q hq => (hf.2.2.2.1 _ _ rfl).trans (z q hq)), by rw [hf.2.1]; exact hi.2.2.2.1, hf.1.trans hi.2.2.2.2.1⟩
  have e3 : h'.2.1 196 2 = nI s := (hf.2.2.1 196 2 (by decide)).trans e2
  have e4 : fC1 h h' := ⟨fun a j ha => hf.2.2.1 a j (inM_by pF1 (by decide +kernel) (pF1_f ha)), hf.2.2.1 0 2 (by decide), hf.2.2.1 0 15 (by decide), fun a j => hf.2.2.2.1 a j rfl⟩
  rcases hq with ⟨c, a, b⟩ | ⟨c, a, b⟩
  · exact ⟨_, b, hj, e3, by rw [a, fS, if_pos c], by rw [fA, if_pos c], hz, e4⟩
  · exact ⟨_, b, hj, e3, by rw [a, fS, if_neg (by omega)], by rw [fA, if_neg (by omega)], hz, e4⟩
theorem l_feed12 {s : Nat} {x1 x2 x3 x4 x5 : Int32} (hi : lIn0 t h) (hs : s ≤ 1000) (e2 : h.2.1 196 2 = nI s) : zCi 1004 mX12_feed [.inr (.inr (some 196)), .inl x1, .inl x2, .inl x3, .inl x4, .inl x5] h (fun x h' => lIn0 t h' ∧ h'.2.1 0 1 = h.2.1 0 1 ∧ h'.2.1 196 2 = nI (fS s) ∧ x = fA s ∧ fdR s x1 x2 x3 x4 x5 h h' ∧ fM1 h h') := by
  have g := S_650 1004 (by decide) [.inr (.inr (some 196)), .inl x1, .inl x2, .inl x3, .inl x4, .inl x5] h ⟨⟨196, List.mem_cons_self, rfl⟩, ⟨_, rfl, aIn_top _⟩, ⟨_, rfl, aIn_top _⟩, ⟨_, rfl, aIn_top _⟩, ⟨_, rfl, aIn_top _⟩, ⟨_, rfl, aIn_top _⟩, trivial⟩ hi.1 ⟨fun q hq => (nomatch hq), fun q hq => (nomatch hq)⟩
  refine zEx.mono (zPa.and (zEx.and g (F_feed12 (d := 1004) (x1 := x1) (x2 := x2) (x3 := x3) (x4 := x4) (x5 := x5) hi.1 e2 hs)) (N_feed12 (x1 := x1) (x2 := x2) (x3 := x3) (x4 := x4) (x5 := x5) hi.1 e2 hs)) (fun v h' hq => ?_)
  obtain ⟨⟨⟨ho, hf, -⟩, hq⟩, hz⟩ := hq
  have hj : lIn0 t h' := ⟨ho, hi.2.1.imp (fun z q hq => (hf.2.2.2.1 _ _ rfl).trans (z q hq)) (fun z q hq => (hf.2.2.2.1 _ _ rfl).trans (z q hq)), by rw [hf.2.1]; exact hi.2.2.1, hf.1.trans hi.2.2.2⟩
  have e3 : h'.2.1 0 1 = h.2.1 0 1 := hf.2.2.1 0 1 (by decide)
  have e4 : fM1 h h' := ⟨fun a j ha => hf.2.2.1 a j (inM_by pF2 (by decide +kernel) (pF2_f ha)), ⟨hf.2.2.1 196 9 (by decide), hf.2.2.1 196 10 (by decide), hf.2.2.1 196 11 (by decide), hf.2.2.1 196 14 (by decide), hf.2.2.1 196 21 (by decide)⟩, fun a j => hf.2.2.2.1 a j rfl⟩
  rcases hq with ⟨c, a, b⟩ | ⟨c, a, b⟩
  · exact ⟨_, b, hj, e3, by rw [a, fS, if_pos c], by rw [fA, if_pos c], hz, e4⟩
  · exact ⟨_, b, hj, e3, by rw [a, fS, if_neg (by omega)], by rw [fA, if_neg (by omega)], hz, e4⟩
/-- both tapes behind feed -/
theorem lT_fed {s : Nat} {g : zH} {x1 x2 x3 x4 x5 : Int32} (hs : s ≤ 1000) (k : lT h) (e2 : h.2.1 196 2 = nI s) (a : fdC s x1 x2 x3 x4 x5 h g) (a2 : ∀ k, g.2.1 197 k = h.2.1 197 k) (b : fdR s x1 x2 x3 x4 x5 g h') (b2 : ∀ k, h'.2.1 1 k = g.2.1 1 k) (e3 : h'.2.1 196 2 = nI (fS s)) : lT h' := by
  intro j hj
  rw [e3] at hj
  unfold fS at hj
  rw [b2]
  have old : j < s → TB (g.2.1 1 j) (h'.2.1 197 j) := fun z => by
    rw [a.1 j z, b.1 j z, a2]
    exact k j (by rw [e2, nI_toInt (by omega)]; omega)
  split at hj
  · next c =>
    rw [nI_toInt (by omega)] at hj
    by_cases z : j < s
    · exact old z
    · obtain ⟨i, rfl⟩ : ∃ i, j = s + i := ⟨j - s, by omega⟩
      rw [a.2 c i (by omega), b.2 c i (by omega)]
      exact tb _ _
  · rw [nI_toInt (by omega)] at hj
    exact old (by omega)
/-- what post says, and what it tells -/
def pOK (x : Int32) (s : Nat) : Prop := 0 ≤ x.toInt ∧ x.toInt ≤ (s : Int)
def pst (y : Nat → Int32) (x : Int32) : sF ⊕ pA := sText y x.toInt.toNat (x.toInt.toNat + 1) pA0 0
theorem pOK.nI {s : Nat} {x : Int32} (hs : s ≤ 1000) (k : pOK x s) : x = nI x.toInt.toNat ∧ x.toInt.toNat ≤ s := by
  have h1 : 0 ≤ x.toInt := k.1
  have h2 : x.toInt ≤ s := k.2
  refine ⟨Int32.toInt_inj.mp ?_, by omega⟩
  rw [nI_toInt (by omega)]
  omega
section PNO
variable {x : Int32} {s d : Nat}
theorem N_no11 (ho : hOK wd h) (ht : h.2.1 0 1 = nI s) (hs : s ≤ 1000) (k : ¬ pOK x s) : zPa d mX11_post [.inr (.inr (some 0)), .inl x] h (fun v h' => v = some (.inl (-1)) ∧ h' = zsI h 0 2 2) := by
  intro N
  have s0 : zsh h 0 = some (11, 16) := ho.1 0 (11, 16) (by decide +kernel)
  have k0 : (0 : Int32).toInt = 0 := by decide
  have e12 : zPn N none d mX11_post (12, [(0, .inr (.inr (some 0))), (1, .inl x)], [], h) (fun v h' => v = some (.inl (-1)) ∧ h' = zsI h 0 2 2) := by
    refine pa_aload_n (pc' := 13) dX11_post_12 rfl rfl ?_
    refine pa_iconst (v := 2) (pc' := 14) dX11_post_13 (by decide) rfl ?_
    refine pa_callv (pc' := 17) (vs := [.inl 2]) (rest := []) dX11_post_14 ml_11_98 (by decide) rfl rfl rfl (fun d' _ => c_ref s0) (fun v g2 hq => ?_)
    obtain ⟨ev, eg⟩ := hq
    subst ev
    exact pa_iret dX11_post_17 rfl rfl ⟨rfl, eg⟩
  show zPn N none d mX11_post (0, [(0, .inr (.inr (some 0))), (1, .inl x)], [], h) _
  refine pa_iload_n (pc' := 1) dX11_post_0 rfl rfl ?_
  refine pa_if (pc' := 12) (pc2 := 4) dX11_post_1 (by decide) rfl (fun c => e12) (fun c => ?_)
  refine pa_iload_n (pc' := 5) dX11_post_4 rfl rfl ?_
  refine pa_aload_n (pc' := 6) dX11_post_5 rfl rfl ?_
  refine pa_getI (pc' := 9) (n := 16) (v := nI s) dX11_post_6 fl_11_13 s0 (by decide) ht rfl ?_
  refine pa_icmp (pc' := 18) (pc2 := 12) dX11_post_9 (by decide) rfl (fun c2 => ?_) (fun c2 => e12)
  have c3 := zi_ngt (zk_le_gt c2)
  rw [nI_toInt (by omega)] at c3
  have c1 := zi_nlt c
  exact absurd ⟨by omega, c3⟩ k
theorem m_good (s196 : zsh h 196 = some (12, 39)) : zPa d mX12_good [.inr (.inr (some 196))] h (fun v h' => v = none ∧ h' = zsI (zsI h 196 0 0) 196 11 0) := by
  intro N
  show zPn N none d mX12_good (0, [(0, .inr (.inr (some 196)))], [], h) _
  refine pa_aload_n (pc' := 1) dX12_good_0 rfl rfl ?_
  refine pa_iconst (v := 0) (pc' := 2) dX12_good_1 (by decide) rfl ?_
  refine pa_putI (pc' := 5) (n := 39) dX12_good_2 fl_12_62 s196 (Or.inl rfl) (Or.inl rfl) rfl ?_
  refine pa_aload_n (pc' := 6) dX12_good_5 rfl rfl ?_
  refine pa_iconst (v := 0) (pc' := 7) dX12_good_6 (by decide) rfl ?_
  refine pa_putI (pc' := 10) (n := 39) dX12_good_7 fl_12_65 s196 (Or.inl rfl) (Or.inl rfl) rfl ?_
  exact pa_vret dX12_good_10 rfl ⟨rfl, rfl⟩
theorem m_no {k : Int32} (s196 : zsh h 196 = some (12, 39)) : zPa d mX12_no [.inr (.inr (some 196)), .inl k] h (fun v h' => v = some (.inl (-1)) ∧ h' = zsI h 196 11 k) := by
  intro N
  show zPn N none d mX12_no (0, [(0, .inr (.inr (some 196))), (1, .inl k)], [], h) _
  refine pa_aload_n (pc' := 1) dX12_no_0 rfl rfl ?_
  refine pa_iload_n (pc' := 2) dX12_no_1 rfl rfl ?_
  refine pa_putI (pc' := 5) (n := 39) dX12_no_2 fl_12_65 s196 (Or.inl rfl) (Or.inl rfl) rfl ?_
  refine pa_iconst (v := (-1)) (pc' := 6) dX12_no_5 (by decide) rfl ?_
  exact pa_iret dX12_no_6 rfl rfl ⟨rfl, rfl⟩
theorem rtR.ch {R0 R1 : Nat → Nat → Int32} {r : sF ⊕ pA} {v : Option zV} (e : ∀ a j, mKp a j → R1 a j = R0 a j) (k : rtR R1 r v h) : rtR R0 r v h := by
  unfold rtR at *
  split at k
  · exact ⟨k.1, k.2.1, k.2.2.1, k.2.2.2.1, fun a j hk => (k.2.2.2.2 a j hk).trans (e a j hk)⟩
  · exact k
theorem N_post12 (ho : hOK wd h) (e1 : h.1 = hh_487.1) (ht : h.2.1 196 2 = nI s) (hs : s ≤ 1000) {y : Nat → Int32} (hy : ∀ k : Nat, (k : Int) < (nI s).toInt → TB (y k) (h.2.1 197 k)) : zPa (d + 1) mX12_post [.inr (.inr (some 196)), .inl x] h (fun v h' => (¬ pOK x s ∧ v = some (.inl (-1)) ∧ h' = zsI (zsI (zsI h 196 0 0) 196 11 0) 196 11 2) ∨ (pOK x s ∧ rtR h.2.1 (pst y x) v h')) := by
  intro N
  have s196 : zsh h 196 = some (12, 39) := ho.1 196 (12, 39) (by decide +kernel)
  show zPn N none (d + 1) mX12_post (0, [(0, .inr (.inr (some 196))), (1, .inl x)], [], h) _
  refine pa_aload_n (pc' := 1) dX12_post_0 rfl rfl ?_
  refine pa_callv (pc' := 4) (vs := []) (rest := []) dX12_post_1 ml_12_167 (by decide) rfl rfl rfl (fun d' _ => m_good s196) (fun v g hq => ?_)
  obtain ⟨er, eg⟩ := hq
  subst er
  have e2 : g.2.1 196 2 = nI s := by rw [eg, zsI_no (by omega), zsI_no (by omega)]; exact ht
  have eg1 : g.1 = h.1 := by rw [eg]; rfl
  have egr : ∀ a k, g.2.2.2.1 a k = h.2.2.2.1 a k := by rw [eg]; exact fun _ _ => rfl
  have e197 : ∀ k, g.2.1 197 k = h.2.1 197 k := fun k => by rw [eg, zsI_no (by omega), zsI_no (by omega)]
  have s196 : zsh g 196 = some (12, 39) := by unfold zsh at *; rw [eg1]; exact s196
  show zPn N none (d + 1) mX12_post (4, [(0, .inr (.inr (some 196))), (1, .inl x)], [], g) _
  refine pa_iload_n (pc' := 5) dX12_post_4 rfl rfl ?_
  refine pa_iconst (v := 0) (pc' := 6) dX12_post_5 (by decide) rfl ?_
  refine pa_aload_n (pc' := 7) dX12_post_6 rfl rfl ?_
  refine pa_getI (pc' := 10) (n := 39) (v := nI s) dX12_post_7 fl_12_68 s196 (by decide) e2 rfl ?_
  refine pa_calls (pc' := 13) (kd := 1) (vs := [.inl x, .inl 0, .inl (nI s)]) (rest := []) dX12_post_10 ml_12_149 (.inl rfl) rfl rfl rfl (fun d' _ => zPa.of in_ex) (fun r h2 hq => ?_)
  obtain ⟨r, er, eh, hq⟩ := hq
  subst er; subst eh
  rw [nI_toInt (by omega)] at hq
  show zPn N none (d + 1) mX12_post (13, [(0, .inr (.inr (some 196))), (1, .inl x)], [.inl r], h2) _
  rcases hq with ⟨e, c⟩ | ⟨e, c⟩
  · subst e
    have c : pOK x s := c
    refine pa_if_t (pc' := 22) dX12_post_13 (by decide) (by decide) ?_
    refine pa_aload_n (pc' := 23) dX12_post_22 rfl rfl ?_
    refine pa_iconst (v := 0) (pc' := 24) dX12_post_23 (by decide) rfl ?_
    refine pa_putI (pc' := 27) (n := 39) dX12_post_24 fl_12_68 s196 (Or.inl rfl) (Or.inl rfl) rfl ?_
    obtain ⟨en, hn⟩ := c.nI hs
    have key := M_text (N := N) (d := d) (n := x.toInt.toNat) (y := y) (h := zsI h2 196 2 0) (eg1.trans e1) (fun a k b hb => (egr a k).trans (ho.2.2.1 a k b hb)) (by omega) (fun k hk => by
      rw [zsI_no (by omega), e197]
      exact hy k (by rw [nI_toInt (by omega)]; omega))
    rw [← en] at key
    exact key.mono (fun v h' hq => .inr ⟨c, rtR.ch (fun a j hk => by
      unfold mKp at hk
      rw [zsI_no (by omega), eg, zsI_no (by omega), zsI_no (by omega)]) hq⟩)
  · subst e
    refine pa_if_f (pc' := 16) dX12_post_13 (by decide) (by decide) rfl ?_
    refine pa_aload_n (pc' := 17) dX12_post_16 rfl rfl ?_
    refine pa_iconst (v := 2) (pc' := 18) dX12_post_17 (by decide) rfl ?_
    refine pa_callv (pc' := 21) (vs := [.inl 2]) (rest := []) dX12_post_18 ml_12_170 (by decide) rfl rfl rfl (fun d' _ => m_no s196) (fun v g2 hq => ?_)
    obtain ⟨ev, eg2⟩ := hq
    subst ev
    exact pa_iret dX12_post_21 rfl rfl (.inl ⟨c, rfl, by rw [eg2, eg]⟩)
end PNO
/-- what post of the class leaves -/
def pQ1 (x : Int32) (s : Nat) (h : zH) (v : Int32) (h' : zH) : Prop := (∀ a j, 196 ≤ a → h'.2.1 a j = h.2.1 a j) ∧ ((¬ pOK x s ∧ v = -1 ∧ h' = zsI h 0 2 2) ∨ (pOK x s ∧ ∃ c b, cc2 c ∧ h.2.2.2.1 0 3 = some b ∧ pcR c b h (pst (h.2.1 1) x) (some (.inl v)) h'))
def pQ2 (y : Nat → Int32) (x : Int32) (s : Nat) (h : zH) (v : Int32) (h' : zH) : Prop := (∀ a j, a < 196 ∨ a = 197 → h'.2.1 a j = h.2.1 a j) ∧ (∀ a j, h'.2.2.2.1 a j = h.2.2.2.1 a j) ∧ (v ≠ -1 → h'.2.1 196 11 = 0 ∧ h'.2.1 196 13 = 0 ∧ h'.2.1 196 21 = 0) ∧ ((¬ pOK x s ∧ v = -1 ∧ h' = zsI (zsI (zsI h 196 0 0) 196 11 0) 196 11 2) ∨ (pOK x s ∧ rtR h.2.1 (pst y x) (some (.inl v)) h'))
theorem l_post11 {s : Nat} {x : Int32} (hi : lInv t h) (hs : s ≤ 1000) (e1 : h.2.1 0 1 = nI s) (e2 : h.2.1 196 2 = nI s) : zCi 1004 mX11_post [.inr (.inr (some 0)), .inl x] h (fun v h' => lIn0 t h' ∧ h'.2.1 196 2 = nI s ∧ h'.2.1 0 1 = pSz x s ∧ pQ1 x s h v h') := by
  have fin : ∀ {c b : Nat}, cc2 c → h.2.2.2.1 0 3 = some b → (pOK x s → zPa 1004 mX11_post [.inr (.inr (some 0)), .inl x] h (pcR c b h (pst (h.2.1 1) x))) → zPa 1004 mX11_post [.inr (.inr (some 0)), .inl x] h (fun v h' => ∀ w, v = some (.inl w) → ((¬ pOK x s ∧ w = -1 ∧ h' = zsI h 0 2 2) ∨ (pOK x s ∧ ∃ c b, cc2 c ∧ h.2.2.2.1 0 3 = some b ∧ pcR c b h (pst (h.2.1 1) x) (some (.inl w)) h'))) := by
    intro c b hc hb hp
    by_cases k : pOK x s
    · refine (hp k).mono (fun v h' hq w ew => .inr ⟨k, c, b, hc, hb, ?_⟩)
      rw [← ew]
      exact hq
    · refine (N_no11 hi.1 e1 hs k).mono (fun v h' hq w ew => .inl ⟨k, ?_, hq.2⟩)
      have := hq.1.symm.trans ew
      cases this
      rfl
  rcases hi.2.1 with hv | hv
  · refine zEx.mono (zPa.and (P_post11_0 (d := 1003) (x := x) hi.1 hv e1 hs (by decide)) (fin (c := 42) (b := 2) (by unfold cc2; decide) (hv ((0, 3), 2) (by decide)) (fun k => ?_))) (fun v h' hq => ?_)
    · obtain ⟨en, hn⟩ := k.nI hs
      have := N_post11_0 (d := 1003) (n := x.toInt.toNat) hi.1 hi.2.2.2.2.1 hv e1 hs hn (by decide)
      rw [← en] at this
      exact this
    · obtain ⟨⟨⟨y, e⟩, ho, a, b, c, f, g, fr⟩, hq⟩ := hq
      exact ⟨y, e, ⟨ho, f, by rw [b]; exact hi.2.2.2.1, a.trans hi.2.2.2.2.1⟩, c.trans e2, g, fr, hq y e⟩
  · refine zEx.mono (zPa.and (P_post11_1 (d := 1003) (x := x) hi.1 hv e1 hs (by decide)) (fin (c := 2) (b := 42) (by unfold cc2; decide) (hv ((0, 3), 42) (by decide)) (fun k => ?_))) (fun v h' hq => ?_)
    · obtain ⟨en, hn⟩ := k.nI hs
      have := N_post11_1 (d := 1003) (n := x.toInt.toNat) hi.1 hi.2.2.2.2.1 hv e1 hs hn (by decide)
      rw [← en] at this
      exact this
    · obtain ⟨⟨⟨y, e⟩, ho, a, b, c, f, g, fr⟩, hq⟩ := hq
      exact ⟨y, e, ⟨ho, f, by rw [b]; exact hi.2.2.2.1, a.trans hi.2.2.2.2.1⟩, c.trans e2, g, fr, hq y e⟩
theorem l_post12 {s : Nat} {x : Int32} {y : Nat → Int32} (hi : lIn0 t h) (hs : s ≤ 1000) (e2 : h.2.1 196 2 = nI s) (hy : ∀ k : Nat, (k : Int) < (nI s).toInt → TB (y k) (h.2.1 197 k)) : zCi 1004 mX12_post [.inr (.inr (some 196)), .inl x] h (fun v h' => lIn0 t h' ∧ h'.2.1 0 1 = h.2.1 0 1 ∧ h'.2.1 196 2 = pSz x s ∧ pQ2 y x s h v h') := by
  refine zEx.mono (zPa.and (P_post12 (d := 1003) (x := x) hi.1 e2 hs (by decide)) (N_post12 (d := 1003) (x := x) (y := y) hi.1 hi.2.2.2 e2 hs hy)) (fun v h' hq => ?_)
  obtain ⟨⟨⟨w, e⟩, ho, a, b, c, f, g, fr, z⟩, hq⟩ := hq
  refine ⟨w, e, ⟨ho, hi.2.1.imp (fun z q hq => (f _ _).trans (z q hq)) (fun z q hq => (f _ _).trans (z q hq)), by rw [b]; exact hi.2.2.1, a.trans hi.2.2.2⟩, c, g, fr, f, z w e, ?_⟩
  subst e
  rcases hq with ⟨k, ev, eh⟩ | ⟨k, hq⟩
  · cases ev
    exact .inl ⟨k, rfl, eh⟩
  · exact .inr ⟨k, hq⟩
/-- both tapes behind post -/
theorem lT_post {s : Nat} {x v w : Int32} {y : Nat → Int32} (k : lT h) (e2 : h.2.1 196 2 = nI s) (a : pQ1 x s h v g) (b : pQ2 y x s g w h') (e3 : h'.2.1 196 2 = pSz x s) : lT h' := by
  intro j hj
  rw [e3] at hj
  unfold pSz at hj
  split at hj
  · have : (0 : Int32).toInt = 0 := by decide
    omega
  · next c =>
    have eg : g = zsI h 0 2 2 := by
      rcases a.2 with ⟨-, -, z⟩ | ⟨z, -⟩
      · exact z
      · exact absurd z c
    rw [b.1 1 j (by omega), b.1 197 j (by omega), eg, zsI_no (by omega), zsI_no (by omega)]
    exact k j (by rw [e2]; exact hj)
/-- the rest behind post -/
theorem lY_post {s : Nat} {x v w : Int32} (k : lY h) (ho : hOK wd h') (a : pQ1 x s h v g) (b : pQ2 (h.2.1 1) x s g w h') : lY h' := by
  obtain ⟨a1, a2⟩ := a
  obtain ⟨b1, b2, b3, b4⟩ := b
  rcases a2 with ⟨a3, a4, a5⟩ | ⟨a3, c, b, hc, hb, a4⟩
  · rcases b4 with ⟨b5, b6, b7⟩ | ⟨b5, -⟩
    · obtain ⟨⟨A, c, kA, kT⟩, k2, ⟨k3, k4⟩, k5⟩ := k
      have f2 : ∀ a j, 1 ≤ a → a < 196 → h'.2.1 a j = h.2.1 a j := fun a j h1 h2 => (b1 a j (.inl h2)).trans (by rw [a5]; exact zsI_no (by omega))
      have f3 : ∀ a j, ¬ (a = 196 ∧ j = 0) → ¬ (a = 196 ∧ j = 11) → 196 ≤ a → h'.2.1 a j = h.2.1 a j := fun a j h1 h2 h3 => by
        rw [b7, zsI_no (by omega), zsI_no (by omega), zsI_no (by omega)]
        exact a1 a j h3
      have t0 : h'.2.1 0 2 = 2 := (b1 0 2 (.inl (by decide))).trans (by rw [a5]; exact zsI_eq)
      have t1 : h'.2.1 196 11 = 2 := by rw [b7]; exact zsI_eq
      refine ⟨⟨A, c, kA.fr (fun a j h1 h2 => f2 a j (by have := kA.2.1.rg h1 h2; omega) (by have := kA.2.1.rg h1 h2; omega)) (fun j => f3 199 j (by omega) (by omega) (by omega)) (f3 196 14 (by omega) (by omega) (by omega)) ((b2 0 3).trans (by rw [a5]; rfl)), kT⟩, ?_, ⟨?_, ?_⟩, ?_⟩
      · rw [f2 82 11 (by omega) (by omega), f3 196 9 (by omega) (by omega) (by omega)]; exact k2
      · rw [t0, t1]
      · rw [t1]
        exact fun z => absurd z (by decide)
      · rw [(b1 0 15 (.inl (by decide))).trans (show g.2.1 0 15 = h.2.1 0 15 by rw [a5]; exact zsI_no (by omega)), f3 196 21 (by omega) (by omega) (by omega)]; exact k5
    · exact absurd b5 a3
  · rcases b4 with ⟨b5, -⟩ | ⟨-, b5⟩
    · exact absurd a3 b5
    · cases er : pst (h.2.1 1) x with
      | inl e =>
        rw [er] at a4 b5
        obtain ⟨-, ⟨f1, f2⟩, f3, f4, f5, f6⟩ := a4
        obtain ⟨-, g9, g10, g11, g4⟩ := b5
        obtain ⟨⟨A, c', kA, kT⟩, k2, ⟨k3, k4⟩, k5⟩ := k
        have ec : c' = b := by
          have := kA.2.2.1.symm.trans hb
          cases this
          rfl
        subst ec
        have k199 : ∀ j, h'.2.1 199 j = h.2.1 199 j := fun j => (g4 199 j (Or.inl (by decide))).trans (a1 199 j (by decide))
        have k196 : ∀ j, 14 ≤ j → h'.2.1 196 j = h.2.1 196 j := fun j hj => (g4 196 j (Or.inr ⟨rfl, hj⟩)).trans (a1 196 j (by decide))
        refine ⟨⟨A, c', kA.fr (fun a j h1 h2 => (b1 a j (.inl (by have := kA.2.1.rg h1 h2; omega))).trans (f4 a j h1 h2)) k199 (k196 14 (by decide)) ((b2 0 3).trans f5), kT⟩, ?_, ⟨?_, ?_⟩, ?_⟩
        · rw [b1 82 11 (.inl (by decide)), f1, g9]
        · rw [b1 0 2 (.inl (by decide)), f3, g11]
        · intro _
          rw [b1 82 12 (.inl (by decide)), f2, g10]
        · rw [b1 0 15 (.inl (by decide)), f6, k196 21 (by decide)]; exact k5
      | inr A =>
        rw [er] at a4 b5
        obtain ⟨-, f1, f2, f3, f4, f5, f6, f7⟩ := a4
        obtain ⟨g1, g2, g3⟩ := b5
        have ew : w ≠ -1 := by
          cases g1
          intro z
          have := congrArg Int32.toInt z
          have b7 := f2.2.2.1.1
          rw [nI_toInt (by omega), show (-1 : Int32).toInt = -1 by decide] at this
          omega
        obtain ⟨z11, z13, z21⟩ := b3 ew
        have z9 : h'.2.1 196 9 = 0 := aIn_0 (ho.2.2.2.1 ([((196, 13), [(0, 0, 1)])], ((196, 9), [(0, 0, 1)])) (by decide +kernel) (fun q hq => by
          have eq : q = ((196, 13), [(0, 0, 1)]) := by simpa using (show q ∈ [(((196, 13), [(0, 0, 1)]) : (Nat × Nat) × aI)] from hq)
          subst eq
          show aIn (h'.2.1 196 13).toInt [(0, 0, 1)]
          rw [z13]
          exact aR1_in (lo := 0) (hi := 0) (by decide) (by decide)))
        refine ⟨⟨A, c, ⟨f2, hc, (b2 0 3).trans f3, rcC.frB f2 (fun a j h1 h2 => b1 a j (.inl (by have := hc.rg h1 h2; omega))) f1, .inr ⟨g3, f7, g2⟩⟩, sText_tA _ _ _ pI_0 tA_0 (Nat.zero_le _) er⟩, ?_, ⟨?_, ?_⟩, ?_⟩
        · rw [b1 82 11 (.inl (by decide)), f4, z9]
        · rw [b1 0 2 (.inl (by decide)), f5, z11]
        · rw [z11]
          exact fun z => absurd z (by decide)
        · rw [b1 0 15 (.inl (by decide)), f6, z21]
theorem l_led {x : Int32} (hi : lInv t h) (ht : t < 1000) : zCt 1004 zledM [.inr (.inr (some 0)), .inl x] h (fun v h' => (∃ b : Int32, v = some (.inl b) ∧ lInv (t + 1) h') ∨ ((∃ y : Int64, v = some (.inr (.inl y))) ∧ lInv (t + 1) h')) := by
  have hr : h.2.2.2.1 0 3 = some 2 ∨ h.2.2.2.1 0 3 = some 42 := hi.2.1.imp (fun z => z ((0, 3), 2) List.mem_cons_self) (fun z => z ((0, 3), 42) List.mem_cons_self)
  refine zEx.mono (S_led (d := 1003) (x := x) hi.1 hr (Nat.lt_of_le_of_lt hi.2.2.2.1 ht)) (fun v h' hq => ?_)
  have kp : ∀ g, ldS h g → lInv t g := fun g hg => ⟨hg.1, hi.2.1.imp (fun z q hq => (hg.2.2.2.1 _ _).trans (z q hq)) (fun z q hq => (hg.2.2.2.1 _ _).trans (z q hq)), by rw [hg.2.2.1, hg.2.2.1]; exact hi.2.2.1, by rw [hg.2.2.2.2]; exact hi.2.2.2.1, hg.2.1.trans hi.2.2.2.2.1, hi.tp.fr (hg.2.2.1 _ _) (fun k => hg.2.2.1 _ _) (fun k => hg.2.2.1 _ _), hi.ys.fr (fun a j _ _ => hg.2.2.1 a j) (fun j => hg.2.2.1 199 j) (hg.2.2.1 _ _) (hg.2.2.1 _ _) (hg.2.2.1 _ _) (hg.2.2.1 _ _) (hg.2.2.1 _ _) (hg.2.2.1 _ _) (hg.2.2.1 _ _) (hg.2.2.2.1 _ _)⟩
  rcases hq with ⟨b, e, hg⟩ | ⟨e, g, hg, eg⟩
  · exact .inl ⟨b, e, (kp _ hg).up⟩
  · have k := kp g hg
    subst eg
    exact .inr ⟨⟨-1, e⟩, k.1, k.2.1, k.2.2.1, Nat.succ_le_succ k.2.2.2.1, k.2.2.2.2⟩
theorem ex_led {scr : Option (Nat × (Nat → Int32))} {d pc pc' : Nat} {m : zM} {Q : Option zV → zH → Prop} {Qc : Option zV → zH → Prop} {k na a o : Nat} {cm : zM} {p : Int32} {rest : List zV} (hd : decode m.1 pc = .ok (.invokestatic k, 3)) (hz : zmth m.2.1 k = some (16, na, cm)) (hsc : scr.isSome = true) (hw : zwd rest ≤ 8 ∧ zsh h a = some (11, 16) ∧ zsh h o = some (15, 1) ∧ h.2.2.2.2 < 1000) (hp : pc + 3 = pc')
    (hc : zCt d zledM [.inr (.inr (some a)), .inl p] h Qc) (kk : ∀ v h', Qc v h' → (∃ b : Int32, v = some (.inl b) ∧ zEx scr (d + 1) m (pc', ls, .inl 0 :: rest, zsL h' o 0 b.toInt64) Q) ∨ ((∃ y : Int64, v = some (.inr (.inl y))) ∧ zEx scr (d + 1) m (pc', ls, .inl 1 :: rest, h') Q)) : zEx scr (d + 1) m (pc, ls, .inr (.inr (some o)) :: .inl p :: .inr (.inr (some a)) :: rest, h) Q := by
  obtain ⟨n1, r, h1, a1, hq⟩ := hc
  have hgo : ∀ (n2 : Nat) (g : zC), (∀ n, n1 ≤ n → zled (zcf n (d + 1)) pc ls (.inr (.inr (some o)) :: .inl p :: .inr (.inr (some a)) :: rest) h = some (.inl g)) → zEx scr (d + 1) m g Q → zEx scr (d + 1) m (pc, ls, .inr (.inr (some o)) :: .inl p :: .inr (.inr (some a)) :: rest, h) Q := by
    intro _ g hg ⟨n2, v, h', b1, b2⟩
    refine ⟨max n1 n2 + 1, v, h', ?_, b2⟩
    rw [zrun_succ]
    have hs : zstep scr (zcf (max n1 n2) (d + 1)) (decide (0 < d + 1)) m (pc, ls, .inr (.inr (some o)) :: .inl p :: .inr (.inr (some a)) :: rest, h) = some (.inl g) := by
      unfold zstep
      rw [hd]
      dsimp only
      have hl : zilen (.invokestatic k) = 0 ∨ 3 = zilen (.invokestatic k) := Or.inr rfl
      rw [if_pos hl]
      have e : decide (0 < d + 1) = true := by simp
      rw [e]
      simp only [zexec, hz]
      rw [if_neg (by decide), if_pos trivial, if_pos ⟨hsc, trivial⟩]
      exact hg _ (Nat.le_max_left _ _)
    rw [hs]
    exact zrun_le (Nat.le_max_right _ _) b1
  have hcf : ∀ n, n1 ≤ n → zcf n (d + 1) zledM [.inr (.inr (some a)), .inl p] h = some (r, h1) := by
    intro n hn
    unfold zcf
    dsimp only
    rw [if_pos (zble rfl)]
    exact zrun_le hn a1
  rcases kk r h1 hq with ⟨b, e, kz⟩ | ⟨⟨y, e⟩, kz⟩
  · subst e
    refine hgo 0 _ (fun n hn => ?_) kz
    unfold zled
    dsimp only
    rw [if_pos hw, hcf n hn, ← hp]
  · subst e
    refine hgo 0 _ (fun n hn => ?_) kz
    unfold zled
    dsimp only
    rw [if_pos hw, hcf n hn, ← hp]
end HLX
