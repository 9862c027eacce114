/-! send: what heardNow answers is the same behind bringsOf -/
def gOo (h : zH) : zH := ((h.1.1, (fun a => bif (Nat.beq a 196 || (Nat.beq a 199 || Nat.beq a 201)) then h.1.2.1 a else (99, 0)), h.1.2.2), h.2)
theorem gO_sh {h : zH} {a : Nat} {q : Nat × Nat} (ha : (Nat.beq a 196 || (Nat.beq a 199 || Nat.beq a 201)) = true) (hz : zsh h a = some q) : zsh (gOo h) a = some q := by
  unfold zsh at hz ⊢
  show (if a < h.1.1 then some (bif (Nat.beq a 196 || (Nat.beq a 199 || Nat.beq a 201)) then h.1.2.1 a else (99, 0)) else none) = some q
  rw [ha]
  exact hz
theorem hOK_o {h : zH} (ho : hOK wd h) : hOK wo (gOo h) := by
  refine ⟨fun a q hq => ?_, ho.2.1, ho.2.2.1, ho.2.2.2.1, ho.2.2.2.2⟩
  have hq : (bif (Nat.beq a 196 || (Nat.beq a 199 || Nat.beq a 201)) then wSh[a]? else none) = some q := hq
  cases e : (Nat.beq a 196 || (Nat.beq a 199 || Nat.beq a 201)) with
  | false => rw [e] at hq; cases hq
  | true =>
    rw [e] at hq
    exact gO_sh e (ho.1 a q hq)
theorem lkR_o {h h2 : zH} (ho : hOK wd h) (e1 : h2.1 = h.1) (e9 : ∀ k, h2.2.1 199 k = h.2.1 199 k) (e0 : ∀ k, h2.2.1 201 k = h.2.1 201 k) (er : ∀ a k, h2.2.2.2.1 a k = h.2.2.2.1 a k) : lkR (gOo h) h2 := by
  have sh : ∀ a k n, zsh (gOo h) a = some (k, n) → k ≠ 99 → (Nat.beq a 196 || (Nat.beq a 199 || Nat.beq a 201)) = true ∧ zsh h a = some (k, n) := by
    intro a k n hz hk
    have hz : (if a < h.1.1 then some (bif (Nat.beq a 196 || (Nat.beq a 199 || Nat.beq a 201)) then h.1.2.1 a else (99, 0)) else none) = some (k, n) := hz
    split at hz
    · next hl =>
      cases e : (Nat.beq a 196 || (Nat.beq a 199 || Nat.beq a 201)) with
      | false =>
        rw [e] at hz
        have hz : (99, 0) = (k, n) := Option.some.inj hz
        exact absurd (congrArg Prod.fst hz).symm hk
      | true =>
        rw [e] at hz
        refine ⟨rfl, ?_⟩
        unfold zsh
        rw [if_pos hl]
        exact hz
    · cases hz
  refine ⟨by rw [e1]; rfl, fun a k n hz hk => ?_, fun a n hz => ?_, er⟩
  · have := (sh a k n hz hk).2
    unfold zsh at this ⊢
    rw [e1]
    exact this
  · obtain ⟨q1, q2⟩ := sh a 14 n hz (by decide)
    simp only [Bool.or_eq_true, Nat.beq_eq] at q1
    rcases q1 with q | q | q
    · subst q
      have := (ho.1 196 (12, 39) (by decide +kernel)).symm.trans q2
      exact absurd (show (12 : Nat) = 14 from congrArg Prod.fst (Option.some.inj this)) (by decide)
    · subst q; exact funext e9
    · subst q; exact funext e0
def fO (m : zM) : Prop := m = mX12_heardNow ∨ m = mX12_hearsIn ∨ m = mX12_unlike ∨ m = mX12_noteIn ∨ m = mX12_boxLong ∨ m = mX12_songLong ∨ m = mX12_ofBox
def kO : List Nat := [262, 265, 280, 284, 287, 291]
theorem fO_T : ∀ m, fO m → m.2.1 = 12 ∧ ∃ S : aCd, (∀ q ∈ S, decode m.1 q.1 = .ok (q.2.1, q.2.2)) ∧ aClo kO 12 S = true := by
  intro m hm
  rcases hm with e | e | e | e | e | e | e <;> subst e
  · exact ⟨rfl, _, odX12_heardNow, by decide +kernel⟩
  · exact ⟨rfl, _, odX12_hearsIn, by decide +kernel⟩
  · exact ⟨rfl, _, odX12_unlike, by decide +kernel⟩
  · exact ⟨rfl, _, odX12_noteIn, by decide +kernel⟩
  · exact ⟨rfl, _, odX12_boxLong, by decide +kernel⟩
  · exact ⟨rfl, _, odX12_songLong, by decide +kernel⟩
  · exact ⟨rfl, _, odX12_ofBox, by decide +kernel⟩
theorem fO_K : ∀ k ∈ kO, ∃ na cm, zmth 12 k = some (0, na, cm) ∧ cm.2.1 < 13 ∧ fO cm := by
  refine List.forall_mem_cons.mpr ⟨⟨_, _, ml_12_262, by decide, ?_⟩, List.forall_mem_cons.mpr ⟨⟨_, _, ml_12_265, by decide, ?_⟩, List.forall_mem_cons.mpr ⟨⟨_, _, ml_12_280, by decide, ?_⟩, List.forall_mem_cons.mpr ⟨⟨_, _, ml_12_284, by decide, ?_⟩, List.forall_mem_cons.mpr ⟨⟨_, _, ml_12_287, by decide, ?_⟩, List.forall_mem_cons.mpr ⟨⟨_, _, ml_12_291, by decide, ?_⟩, fun _ h => nomatch h⟩⟩⟩⟩⟩⟩
  · exact .inr (.inr (.inr (.inr (.inr (.inr rfl)))))
  · exact .inr (.inr (.inr (.inr (.inr (.inl rfl)))))
  · exact .inr (.inr (.inr (.inl rfl)))
  · exact .inr (.inr (.inr (.inr (.inl rfl))))
  · exact .inr (.inr (.inl rfl))
  · exact .inr (.inl rfl)
/-- what heardNow answers, in each heap that agrees -/
theorem hn_val {h : zH} {b : Int32} (ho : hOK wd h) (hp : aPre h ct_hn.2.2.1) (hb : aIn b.toInt [(0, 7, 1)]) : ∃ v : Int32, (v = -2 ∨ (0 ≤ v.toInt ∧ v.toInt ≤ 6)) ∧ ∀ d, 4 ≤ d → ∀ h2, lkR (gOo h) h2 → zCi d mX12_heardNow [.inr (.inr (some 196)), .inl b] h2 (fun y h' => y = v ∧ h' = h2) := by
  have hs := S_hno 4 (Nat.le_refl 4) [.inr (.inr (some 196)), .inl b] (gOo h) ⟨⟨196, List.mem_cons_self, rfl⟩, ⟨b, rfl, hb⟩, trivial⟩ (hOK_o ho) hp
  obtain ⟨n, v, h1, hz, -, -, p, hpm, hr, -⟩ := hs
  have hv : ∃ y : Int32, v = some (.inl y) ∧ (y = -2 ∨ (0 ≤ y.toInt ∧ y.toInt ≤ 6)) := by
    have hpm : p ∈ [((some (.inl [(-2, -2, 1), (0, 6, 1)]), [], [], []) : aPo), (some (.inl [(-2, -2, 1)]), [], [], [])] := hpm
    simp only [List.mem_cons, List.not_mem_nil, or_false] at hpm
    have m2 : ∀ y : Int32, y.toInt = -2 → y = -2 := fun y hy => Int32.toInt_inj.mp (hy.trans (by decide))
    rcases hpm with e | e <;> subst e
    · obtain ⟨y, e, q, hq, l1, l2, -⟩ := hr
      refine ⟨y, e, ?_⟩
      simp only [List.mem_cons, List.not_mem_nil, or_false] at hq
      rcases hq with z | z <;> subst z
      · exact .inl (m2 y (Int.le_antisymm l2 l1))
      · exact .inr ⟨l1, l2⟩
    · obtain ⟨y, e, i⟩ := hr
      exact ⟨y, e, .inl (m2 y (aIn_eq i))⟩
  obtain ⟨y, ev, hy⟩ := hv
  subst ev
  refine ⟨y, hy, fun d hd h2 hr2 => ?_⟩
  have := lock (F := fO) (K := kO) (own := 12) fO_T fO_K hr2 n 4 d mX12_heardNow oX12_heardNow 0 _ _ _ h1 hd rfl odX12_heardNow (by decide +kernel) (by decide +kernel) hz
  exact ⟨n, _, h2, this.2, y, rfl, rfl, rfl⟩

/-- one local more -/
theorem aNH.loc {w : aWd} {md rm : aMd} {h0 : zH} {nd nd' : aNd} {pc : Nat} {lc : zL} {sc : List zV} {h : zH} {k : Nat} {x : Int32} {A : aI} (hn : aNH w md rm h0 nd (pc, lc, sc, h)) (hl : nd'.2.1 = nd.2.1 ++ [(k, .inl A)]) (hk : nd.2.1.all (fun q => !(Nat.beq q.1 k) && (!(Nat.beq (q.1 + 1) k) || (match q.2 with
    | .inr (.inr _) => false
    | _ => true))) = true) (hx : aIn x.toInt A) : ∀ q ∈ nd'.2.1, ∃ v, zget (zset1 lc k (.inl x)) q.1 = some v ∧ aAgR v q.2 := by
  intro q hq
  rw [hl] at hq
  rcases List.mem_append.mp hq with hq | hq
  · obtain ⟨v, e1, e2⟩ := hn.2.1 q hq
    have hz := List.all_eq_true.mp hk q hq
    simp only [Bool.and_eq_true, Bool.not_eq_true', Bool.or_eq_true] at hz
    refine ⟨v, zget_s1 e1 (nbeq_f hz.1) (fun z => ?_), e2⟩
    rcases hz.2 with y | y
    · exact nbeq_f y z.1
    · obtain ⟨j, p⟩ := q
      match p, y, e2 with
      | .inl _, _, ⟨x, e, _⟩ => rw [e] at z; exact absurd z.2 (fun y => by simp [zcat] at y)
      | .inr (.inl _), _, ⟨x, _, e⟩ => rw [e] at z; exact absurd z.2 (fun y => by simp [zcat] at y)
  · have hq : q = (k, .inl A) := by simpa using hq
    subst hq
    exact ⟨.inl x, zget_s1e, x, rfl, hx⟩
theorem aQ0 {w : aWd} {m : zM} {ags : List aAg} {pre : List ((Nat × Nat) × aI) × aU} {md rm : aMd} {D : Nat} {n : Int} {vs : List zV} {h h' : zH} {v : Option zV} (hq : aQ w (m, ags, pre, [(some (.inl [(n, n, 1)]), [], [], [])], md, rm, D) vs h v h') : ∃ y : Int32, v = some (.inl y) ∧ y.toInt = n := by
  obtain ⟨-, -, p, hp, hr, -⟩ := hq
  have hp : p = (some (.inl [(n, n, 1)]), [], [], []) := by simpa using hp
  subst hp
  obtain ⟨y, e, i⟩ := hr
  exact ⟨y, e, aIn_eq i⟩
theorem ib {b : Int32} (hb : aIn b.toInt [(0, 7, 1)]) : b.toInt ∈ ([0, 1, 2, 3, 4, 5, 6, 7] : List Int) := by
  have := aHull_in hb
  simp only [aHull] at this
  simp only [List.mem_cons, List.not_mem_nil, or_false]
  omega
/-- where nothing is heard, lays answers 0 -/
theorem lays0 {h : zH} {d : Nat} {b x : Int32} (hd : 7 ≤ d) (ho : hOK wd h) (hp : aPre h ct_hn.2.2.1) (hb : aIn b.toInt [(0, 7, 1)]) (hx : aIn x.toInt [(0, 4, 1)]) (hv : ∀ d, 4 ≤ d → ∀ h2, lkR (gOo h) h2 → zCi d mX12_heardNow [.inr (.inr (some 196)), .inl b] h2 (fun y h' => y = -2 ∧ h' = h2)) : zCi d mX12_lays [.inr (.inr (some 196)), .inl x, .inl b] h (fun y _ => y = 0) := by
  obtain ⟨d, rfl⟩ : ∃ d', d = d' + 1 := ⟨d - 1, by omega⟩
  have hn0 : aNH wd (ct_lays0 b.toInt).2.2.2.2.1 (ct_lays0 b.toInt).2.2.2.2.2.1 h (aEnt (ct_lays0 b.toInt) (1, [])) (0, zargs 0 [.inr (.inr (some 196)), .inl x, .inl b], [], h) := ⟨rfl, aPos_in (vs := [.inr (.inr (some 196)), .inl x, .inl b]) (ps := (ct_lays0 b.toInt).2.1) ⟨⟨196, List.mem_cons_self, rfl⟩, ⟨x, rfl, hx⟩, ⟨b, rfl, aR1_in (Int.le_refl _) (Int.le_refl _)⟩, trivial⟩, trivial, hp, ho, hFr.rf⟩
  have key : zEx none (d + 1) mX12_lays (0, zargs 0 [.inr (.inr (some 196)), .inl x, .inl b], [], h) (aQ wd (ct_lays0 b.toInt) [] h) := by
    refine aSeg_ok (c := ct_lays0 b.toInt) (List.all_eq_true.mp kE_lays0 _ (ib hb)) (lh_lays0 _) odX12_lays hd (fun nd' hm' g' hn' _ => ?_) hn0
    have e : nd' = nd0 (n29 b.toInt) := by simpa using hm'
    subst e
    obtain ⟨pc, lc, sc, h1⟩ := g'
    have hn' : aNH wd (ct_lays0 b.toInt).2.2.2.2.1 (ct_lays0 b.toInt).2.2.2.2.2.1 h (n29 b.toInt) (pc, lc, sc, h1) := hn'
    have hl := hn'.2.1
    have e1 : (29 : Nat) = pc := hn'.1
    have e2 : sc = [] := by
      cases sc with
      | nil => rfl
      | cons a t => exact (hn'.2.2.1 : False).elim
    subst e1; subst e2
    obtain ⟨v0, k0, q0, m0, w0⟩ := hl (0, .inr (.inl [196])) List.mem_cons_self
    have m0 : q0 = 196 := by simpa using m0
    subst m0; subst w0
    obtain ⟨v2, k2, y2, w2, i2⟩ := hl (2, .inl [(b.toInt, b.toInt, 1)]) (List.mem_cons_of_mem _ (List.mem_cons_of_mem _ List.mem_cons_self))
    subst w2
    have ey : y2 = b := Int32.toInt_inj.mp (aIn_eq i2)
    subst ey
    have hr : lkR (gOo h) h1 := lkR_o ho hn'.fr.1 (fun k => hn'.fr.2.2.1 199 k rfl) (fun k => hn'.fr.2.2.1 201 k rfl) (fun a k => hn'.fr.2.2.2.1 a k rfl)
    have s0 : zsh h1 196 = some (12, 39) := hn'.ok.1 196 (12, 39) (by decide +kernel)
    refine ex_aload_n (pc' := 30) dX12_lays_29 k0 rfl ?_
    refine ex_iload_n (pc' := 31) dX12_lays_30 k2 rfl ?_
    refine en_callvI (pc' := 34) (v := -2) (h2 := h1) (vs := [.inl y2]) (rest := []) (n := 39) dX12_lays_31 ml_12_295 ⟨zble rfl, zble rfl⟩ rfl rfl s0 (by decide) (zble rfl) rfl (hv d (by omega) h1 hr) ?_
    refine ex_istore (pc' := 36) dX12_lays_34 (show 5 < mX12_lays.2.2.1 by decide) rfl rfl ?_
    refine aSeg_ok (c := ct_lays0 y2.toInt) (nd := n36 y2.toInt) (tg := []) (List.all_eq_true.mp k_n36 _ (ib hb)) (lh_lays0 _) odX12_lays hd (fun nd' hm' => nomatch hm') ?_
    exact ⟨rfl, hn'.loc (nd' := n36 y2.toInt) rfl rfl (aR1_in (lo := -2) (hi := -2) (by decide) (by decide)), trivial, hn'.2.2.2.1, hn'.ok, hn'.fr⟩
  refine zEx.mono key (fun v h' hq => ?_)
  obtain ⟨y, e, ey⟩ := aQ0 hq
  exact ⟨y, e, Int32.toInt_inj.mp (ey.trans (by decide))⟩
theorem brings0 {h : zH} {d : Nat} {b x : Int32} (hd : 8 ≤ d) (ho : hOK wd h) (hp : aPre h ct_hn.2.2.1) (hb : aIn b.toInt [(0, 7, 1)]) (hx : aIn x.toInt [(0, 4, 1)]) (hv : ∀ d, 4 ≤ d → ∀ h2, lkR (gOo h) h2 → zCi d mX12_heardNow [.inr (.inr (some 196)), .inl b] h2 (fun y h' => y = -2 ∧ h' = h2)) : zCi d mX12_bringsOf [.inr (.inr (some 196)), .inl x, .inl b] h (fun y _ => y = -2) := by
  obtain ⟨d, rfl⟩ : ∃ d', d = d' + 1 := ⟨d - 1, by omega⟩
  have s0 : zsh h 196 = some (12, 39) := ho.1 196 (12, 39) (by decide +kernel)
  show zEx none (d + 1) mX12_bringsOf (0, [(0, .inr (.inr (some 196))), (1, .inl x), (2, .inl b)], [], h) _
  refine ex_aload_n (pc' := 1) dX12_bringsOf_0 rfl rfl ?_
  refine ex_iload_n (pc' := 2) dX12_bringsOf_1 rfl rfl ?_
  refine ex_iload_n (pc' := 3) dX12_bringsOf_2 rfl rfl ?_
  refine ex_callvI (pc' := 6) (vs := [.inl x, .inl b]) (rest := []) (n := 39) dX12_bringsOf_3 ml_12_364 ⟨zble rfl, zble rfl⟩ rfl rfl s0 (by decide) (zble rfl) rfl (lays0 (by omega) ho hp hb hx hv) (fun y h' e => ?_)
  subst e
  refine ex_if_t (pc' := 23) dX12_bringsOf_6 rfl (by decide) ?_
  refine ex_bipush (v := (-2)) (pc' := 25) dX12_bringsOf_23 (by decide) rfl ?_
  exact ex_iretI dX12_bringsOf_25 rfl rfl rfl
theorem S_send : aSpec wd ct_send := by
  intro d hd vs h hargs hok hpre
  have hd : 9 ≤ d := hd
  obtain ⟨d, rfl⟩ : ∃ d', d = d' + 1 := ⟨d - 1, by omega⟩
  show zEx none (d + 1) mX12_send (0, zargs 0 vs, [], h) (aQ wd ct_send vs h)
  have hn0 : aNH wd ct_send.2.2.2.2.1 ct_send.2.2.2.2.2.1 h (aEnt ct_send (1, [])) (0, zargs 0 vs, [], h) := ⟨rfl, aPos_in hargs, trivial, hpre, hok, hFr.rf⟩
  refine aSeg_ok (c := ct_send) kE_send lh_send odX12_send hd (fun nd' hm' g' hn' _ => ?_) hn0
  have e : nd' = nd0 n26 := by simpa using hm'
  subst e
  obtain ⟨pc, lc, sc, h1⟩ := g'
  have hn' : aNH wd ct_send.2.2.2.2.1 ct_send.2.2.2.2.2.1 h n26 (pc, lc, sc, h1) := hn'
  have hl := hn'.2.1
  have e1 : (26 : Nat) = pc := hn'.1
  have e2 : sc = [] := by
    cases sc with
    | nil => rfl
    | cons a t => exact (hn'.2.2.1 : False).elim
  subst e1; subst e2
  obtain ⟨v0, k0, q0, m0, w0⟩ := hl (0, .inr (.inl [196])) List.mem_cons_self
  have m0 : q0 = 196 := by simpa using m0
  subst m0; subst w0
  obtain ⟨v1, k1, y1, w1, i1⟩ := hl (1, .inl [(0, 4, 1)]) (List.mem_cons_of_mem _ List.mem_cons_self)
  subst w1
  obtain ⟨v2, k2, y2, w2, i2⟩ := hl (2, .inl [(0, 7, 1)]) (List.mem_cons_of_mem _ (List.mem_cons_of_mem _ List.mem_cons_self))
  subst w2
  have ho1 := hn'.ok
  have ho1 : hOK wd h1 := ho1
  have hp1 : aPre h1 ct_hn.2.2.1 := ⟨fun q hq => hn'.2.2.2.1.1 q ((by decide +kernel : ∀ q ∈ ct_hn.2.2.1.1, q ∈ n26.2.2.2.1) q hq), fun q hq => nomatch hq⟩
  obtain ⟨v, hv, hval⟩ := hn_val ho1 hp1 i2
  have s0 : zsh h1 196 = some (12, 39) := ho1.1 196 (12, 39) (by decide +kernel)
  have hbo : zCt d mX12_bringsOf [.inr (.inr (some 196)), .inl y1, .inl y2] h1 (fun r h' => aQ wd ct_bo [.inr (.inr (some 196)), .inl y1, .inl y2] h1 r h' ∧ (v = -2 → r = some (.inl (-2)))) := by
    have g := S_bo d (by show 8 ≤ d; omega) [.inr (.inr (some 196)), .inl y1, .inl y2] h1 ⟨⟨196, List.mem_cons_self, rfl⟩, ⟨y1, rfl, i1⟩, ⟨y2, rfl, i2⟩, trivial⟩ ho1 hp1
    by_cases e : v = -2
    · subst e
      refine zEx.mono (zEx.and g (brings0 (by omega) ho1 hp1 i2 i1 hval)) (fun r h' hq => ⟨hq.1, fun _ => ?_⟩)
      obtain ⟨y, ey, ez⟩ := hq.2
      rw [ey, ez]
    · exact zEx.mono g (fun r h' hq => ⟨hq, fun z => absurd z e⟩)
  refine ex_aload_n (pc' := 27) dX12_send_26 k0 rfl ?_
  refine ex_iload_n (pc' := 28) dX12_send_27 k1 rfl ?_
  refine ex_iload_n (pc' := 29) dX12_send_28 k2 rfl ?_
  refine ex_callv (pc' := 32) (vs := [.inl y1, .inl y2]) (rest := []) (n := 39) dX12_send_29 ml_12_367 ⟨zble rfl, zble rfl⟩ rfl rfl s0 (by decide) (zble rfl) rfl hbo (fun r h2 hq => ?_)
  obtain ⟨⟨ho2, hf2, p, hpm, hret, -⟩, hneg⟩ := hq
  obtain ⟨y, ey⟩ : ∃ y : Int32, r = some (.inl y) := by
    have hpm : p ∈ [((some (.inl aTop), [], [], []) : aPo), (some (.inl [(-2, -2, 1)]), [], [], [])] := hpm
    simp only [List.mem_cons, List.not_mem_nil, or_false] at hpm
    rcases hpm with e | e <;> subst e
    · obtain ⟨y, e, -⟩ := hret; exact ⟨y, e⟩
    · obtain ⟨y, e, -⟩ := hret; exact ⟨y, e⟩
  subst ey
  have htr : ∀ q ∈ n26.2.2.2.1, aIn (h2.2.1 q.1.1 q.1.2).toInt q.2 := by
    have hno : n26.2.2.2.1.all (fun q => !(inM ct_bo.2.2.2.2.1 q.1.1 q.1.2)) = true := by decide +kernel
    intro q hq
    have := List.all_eq_true.mp hno q hq
    rw [hf2.2.2.1 q.1.1 q.1.2 (by simpa using this)]
    exact hn'.2.2.2.1.1 q hq
  have hfr : hFr ct_send.2.2.2.2.1 ct_send.2.2.2.2.2.1 h h2 := hn'.fr.tr hf2 (by decide +kernel) (by decide +kernel)
  show zEx none (d + 1) mX12_send (32, lc, [.inl y], h2) _
  refine ex_istore_n (pc' := 33) dX12_send_32 (by decide) rfl rfl ?_
  refine ex_iload_n (pc' := 34) dX12_send_33 zget_s1e rfl ?_
  refine ex_if (pc' := 43) (pc2 := 37) dX12_send_34 (by decide) rfl (fun c => ?_) (fun c => ?_)
  · have c : (0 : Int32) ≤ y := by simpa [zcond] using c
    have c : (0 : Int) ≤ y.toInt := Int32.le_iff_toInt_le.mp c
    have hv6 : 0 ≤ v.toInt ∧ v.toInt ≤ 6 := by
      rcases hv with z | z
      · have := hneg z
        have := Sum.inl.inj (Option.some.inj this)
        rw [this] at c
        exact absurd c (by decide)
      · exact z
    have s2 : zsh h2 196 = some (12, 39) := ho2.1 196 (12, 39) (by decide +kernel)
    refine ex_aload_n (pc' := 44) dX12_send_43 (zget_s1 k0 (by decide) (by simp [zcat])) rfl ?_
    refine ex_iload_n (pc' := 45) dX12_send_44 (zget_s1 k2 (by decide) (by simp [zcat])) rfl ?_
    have hr : lkR (gOo h1) h2 := lkR_o ho1 hf2.1 (fun k => hf2.2.2.1 199 k rfl) (fun k => hf2.2.2.1 201 k rfl) (fun a k => hf2.2.2.2.1 a k rfl)
    refine en_callvI (pc' := 48) (v := v) (h2 := h2) (vs := [.inl y2]) (rest := []) (n := 39) dX12_send_45 ml_12_295 ⟨zble rfl, zble rfl⟩ rfl rfl s2 (by decide) (zble rfl) rfl (hval d (by omega) h2 hr) ?_
    refine aSeg_ok (c := ct_send) (nd := n48) (tg := []) k_n48 lh_send odX12_send hd (fun nd' hm' => nomatch hm') ?_
    exact ⟨rfl, hn'.loc (nd' := n48) rfl rfl (aR1_in (lo := 0) (hi := 2147483647) c (i32_rg y).2), ⟨⟨v, rfl, aR1_in (lo := 0) (hi := 6) hv6.1 hv6.2⟩, trivial⟩, ⟨htr, fun q hq => nomatch hq⟩, ho2, hfr⟩
  · refine aSeg_ok (c := ct_send) (nd := n37) (tg := []) k_n37 lh_send odX12_send hd (fun nd' hm' => nomatch hm') ?_
    exact ⟨rfl, hn'.loc (nd' := n37) rfl rfl (aIn_top y), trivial, ⟨htr, fun q hq => nomatch hq⟩, ho2, hfr⟩
