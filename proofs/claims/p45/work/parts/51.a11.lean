/-! Math's own, copies of rows, references that are written, ends -/
section A11
variable {σ : Nat → Int} {w : aWd} {md rm : aMd} {h0 h : zH} {f : aLf} {r : List Int} {ls : aL} {ρ : List aI} {tr tr' : aT} {rr : aU} {lc : zL}
variable {scr : Option (Nat × (Nat → Int32))} {d : Nat} {m : zM} {Q : Option zV → zH → Prop} {pc len : Nat} {st : List aV} {i : Instr}
def aMax (A B : aI) : aI := aR1 (imax (aHull A).1 (aHull B).1) (imax (aHull A).2 (aHull B).2)
def aMin (A B : aI) : aI := aR1 (imin (aHull A).1 (aHull B).1) (imin (aHull A).2 (aHull B).2)
theorem aMax_in {A B : aI} {x y : Int32} (hx : aIn x.toInt A) (hy : aIn y.toInt B) : aIn (if x < y then y else x).toInt (aMax A B) := by
  have h1 := aHull_in hx
  have h2 := aHull_in hy
  have m1 := imax_cs (aHull A).1 (aHull B).1
  have m2 := @imax_le (aHull A).2 (aHull B).2
  unfold aMax
  split
  · next q =>
    have q := Int32.lt_iff_toInt_lt.mp q
    exact aR1_in (by omega) (by omega)
  · next q =>
    have q : ¬ x.toInt < y.toInt := fun z => q (Int32.lt_iff_toInt_lt.mpr z)
    exact aR1_in (by omega) (by omega)
theorem aMin_in {A B : aI} {x y : Int32} (hx : aIn x.toInt A) (hy : aIn y.toInt B) : aIn (if y < x then y else x).toInt (aMin A B) := by
  have h1 := aHull_in hx
  have h2 := aHull_in hy
  have m1 := @imin_le (aHull A).1 (aHull B).1
  have m2 := imin_cs (aHull A).2 (aHull B).2
  unfold aMin
  split
  · next q =>
    have q := Int32.lt_iff_toInt_lt.mp q
    exact aR1_in (by omega) (by omega)
  · next q =>
    have q : ¬ y.toInt < x.toInt := fun z => q (Int32.lt_iff_toInt_lt.mpr z)
    exact aR1_in (by omega) (by omega)
theorem deep_t (h : 0 < d) : decide (0 < d) = true := by simpa using h
theorem ok_mm {k kd na : Nat} {cm : zM} {x y : aE} (hk : kd = 11 ∨ kd = 12) (hd : decode m.1 pc = .ok (.invokestatic k, 3)) (hz : zmth m.2.1 k = some (kd, na, cm)) (hd0 : 0 < d) (hw : Nat.ble (aWid st) 8 = true)
    (kk : aOK w md rm h0 f r scr d m Q (pc + 3, ls, .inl (aNew ρ (if Nat.beq kd 11 then aMax (aset ρ x) (aset ρ y) else aMin (aset ρ x) (aset ρ y))).1 :: st, (aNew ρ (if Nat.beq kd 11 then aMax (aset ρ x) (aset ρ y) else aMin (aset ρ x) (aset ρ y))).2, tr, rr)) : aOK w md rm h0 f r scr d m Q (pc, ls, .inl y :: .inl x :: st, ρ, tr, rr) := by
  intro σ g hg
  obtain ⟨pc', lc, sc, h⟩ := g
  obtain ⟨rfl, hc, hst⟩ := hg
  obtain ⟨b, vs1, e1, hy, hs1⟩ := aSt_i hst
  obtain ⟨a, vs, e2, hx, hs2⟩ := aSt_i hs1
  dsimp only at e1
  subst e2; subst e1
  have hwd : zwd vs ≤ 8 := by rw [aWid_in hs2]; simpa using hw
  have a1 := aset_in hc.1 hx
  have a2 := aset_in hc.1 hy
  rcases hk with rfl | rfl
  · obtain ⟨σ', s1, s2, s3⟩ := aNew_in rfl hc.1 (aMax_in a1 a2)
    refine ex_go hd (Or.inr rfl) (fun call => ?_) (kk σ' (pc + 3, lc, .inl (if a < b then b else a) :: vs, h) ⟨rfl, hc.x s1 s2, ⟨_, rfl, s3⟩, hs2.x s1⟩)
    simp only [zexec, hz, deep_t hd0]
    show zprim true 11 pc lc (.inl b :: .inl a :: vs) h = _
    exact if_pos hwd
  · obtain ⟨σ', s1, s2, s3⟩ := aNew_in rfl hc.1 (aMin_in a1 a2)
    refine ex_go hd (Or.inr rfl) (fun call => ?_) (kk σ' (pc + 3, lc, .inl (if b < a then b else a) :: vs, h) ⟨rfl, hc.x s1 s2, ⟨_, rfl, s3⟩, hs2.x s1⟩)
    simp only [zexec, hz, deep_t hd0]
    show zprim true 12 pc lc (.inl b :: .inl a :: vs) h = _
    exact if_pos hwd
theorem ok_abs {k na : Nat} {cm : zM} {x : aE} (hd : decode m.1 pc = .ok (.invokestatic k, 3)) (hz : zmth m.2.1 k = some (13, na, cm)) (hd0 : 0 < d) (hw : Nat.ble (aWid st) 8 = true)
    (kk : aOK w md rm h0 f r scr d m Q (pc + 3, ls, .inl (.inr (ρ.length, 0)) :: st, ρ ++ [aTop], tr, rr)) : aOK w md rm h0 f r scr d m Q (pc, ls, .inl x :: st, ρ, tr, rr) := by
  intro σ g hg
  obtain ⟨pc', lc, sc, h⟩ := g
  obtain ⟨rfl, hc, hst⟩ := hg
  obtain ⟨a, vs, e2, hx, hs2⟩ := aSt_i hst
  dsimp only at e2
  subst e2
  have hwd : zwd vs ≤ 8 := by rw [aWid_in hs2]; simpa using hw
  obtain ⟨σ', s1, s2, s3⟩ := aNew_i hc.1 (aIn_top (if 0 ≤ a then a else 0 - a))
  refine ex_go hd (Or.inr rfl) (fun call => ?_) (kk σ' (pc + 3, lc, .inl (if 0 ≤ a then a else 0 - a) :: vs, h) ⟨rfl, hc.x s1 s2, ⟨_, rfl, s3⟩, hs2.x s1⟩)
  simp only [zexec, hz, deep_t hd0]
  show zprim true 13 pc lc (.inl a :: vs) h = _
  exact if_pos hwd
/-- many slots of one cell are written: each with something of range V -/
def aWm (w : aWd) (md : aMd) (ρ : List aI) (tr : aT) (as : List Nat) (lo hi : Int) (V : aI) : Option aT :=
  if as.all (fun a => aSegLe 0 (w.2.1 a) (aR1 lo hi) V && md.any (fun q => Nat.beq q.1 a && (ile q.2.1 lo && ile (hi + 1) q.2.2))) && w.2.2.2.all (aImpOk w ρ tr (tr.filter (fun q => !(aHit as lo hi q.1))) as lo hi) && (!(aMono md) || (!(aHit as lo hi (196, 5)) && !(aHit as lo hi (196, 6)))) then some (tr.filter (fun q => !(aHit as lo hi q.1))) else none
theorem aWm_in {as : List Nat} {lo hi : Int} {V : aI} {a : Nat} {h' : zH} (hc : aC w md rm h0 f r σ ls ρ tr rr lc h) (hw : aWm w md ρ tr as lo hi V = some tr') (ha : a ∈ as) (e1 : h'.1 = h.1) (e2 : h'.2.2.2 = h.2.2.2)
    (hsame : ∀ b j : Nat, ¬ (b = a ∧ lo ≤ (j : Int) ∧ (j : Int) ≤ hi) → h'.2.1 b j = h.2.1 b j) (hnew : ∀ j : Nat, lo ≤ (j : Int) → (j : Int) ≤ hi → aIn (h'.2.1 a j).toInt V) : aC w md rm h0 f r σ ls ρ tr' rr lc h' := by
  unfold aWm at hw
  split at hw
  · next q =>
    have et : tr.filter (fun q => !(aHit as lo hi q.1)) = tr' := Option.some.inj hw
    simp only [Bool.and_eq_true] at q
    obtain ⟨⟨q1, q2⟩, q3⟩ := q
    obtain ⟨c1, c2, c3, c4, ⟨c5, c6, c7, c8, c80⟩, ⟨c9, c10, c11, c12, c120⟩, c13⟩ := hc
    have qa := List.all_eq_true.mp q1 a ha
    simp only [Bool.and_eq_true] at qa
    have hno : ∀ {s : Nat × Nat}, aHit as lo hi s = false → ¬ (s.1 = a ∧ lo ≤ (s.2 : Int) ∧ (s.2 : Int) ≤ hi) := fun hs z => aHit_no (k := _) ha z.2.1 z.2.2 hs ⟨z.1, rfl⟩
    have g6 : ∀ b j, aIn (h'.2.1 b j).toInt (gSeg (w.2.1 b) j) := by
      intro b j
      by_cases z : b = a ∧ lo ≤ (j : Int) ∧ (j : Int) ≤ hi
      · rw [z.1]
        exact aSegLe_in (aR1_in z.2.1 z.2.2) (hnew j z.2.1 z.2.2) (Nat.zero_le _) qa.1
      · rw [hsame b j z]; exact c6 b j
    have g3 : ∀ q ∈ tr', aEq ρ.length σ (h'.2.1 q.1.1 q.1.2).toInt q.2 := by
      intro p hp
      rw [← et] at hp
      obtain ⟨m1, m2⟩ := List.mem_filter.mp hp
      rw [hsame _ _ (hno (by simpa using m2))]
      exact c3 p m1
    have er : h'.2.2.2.1 = h.2.2.2.1 := by rw [e2]
    have ez : ∀ a, zsh h' a = zsh h a := fun a => by unfold zsh; rw [e1]
    refine ⟨c1, c2, g3, by rw [er]; exact c4, ⟨fun b p hp => by rw [ez]; exact c5 b p hp, g6, by rw [er]; exact c7, fun i hi => ?_, by rw [e1]; exact c80⟩, ⟨e1.trans c9, by rw [show h'.2.2.2.2 = h.2.2.2.2 by rw [e2]]; exact c10, fun b j hb => ?_, by rw [er]; exact c12, fun hm => ?_⟩, c13⟩
    · have hi1 := List.all_eq_true.mp q2 i hi
      rw [et] at hi1
      have hold := c8 i hi
      have rd := aRd0_h (w := w) (h := h') c1 g3 g6
      have rd0 := aRd0_h (w := w) (h := h) c1 c3 c6
      simp only [aImpOk, Bool.or_eq_true, Bool.and_eq_true, Bool.not_eq_true', List.all_eq_true, List.any_eq_true] at hi1
      intro hcond
      rcases hi1 with ⟨n1, n2⟩ | ⟨c, hcm, hd⟩ | hle | ⟨n1, n2⟩
      · rw [hsame _ _ (hno n1)]
        refine hold (fun c hcm => ?_)
        have := hcond c hcm
        rw [hsame _ _ (hno (n2 c hcm))] at this
        exact this
      · exact (aDis_no hd (rd c.1.1 c.1.2) (hcond c hcm)).elim
      · exact aLe_in hle (rd i.2.1.1 i.2.1.2)
      · rw [hsame _ _ (hno n1)]
        refine hold (fun c hcm => ?_)
        rcases n2 c hcm with z | z
        · have := hcond c hcm
          rw [hsame _ _ (hno z)] at this
          exact this
        · exact aLe_in z (rd0 c.1.1 c.1.2)
    · rw [hsame, c11 b j hb]
      intro z
      obtain ⟨p, hp, hq⟩ := List.any_eq_true.mp qa.2
      simp only [Bool.and_eq_true, ile_iff, Nat.beq_eq] at hq
      have : inM md b j = true := by
        refine List.any_eq_true.mpr ⟨p, hp, ?_⟩
        simp only [Bool.and_eq_true, Nat.beq_eq, Nat.ble_eq, Nat.blt_eq]
        rw [z.1]
        exact ⟨hq.1, by omega, by omega⟩
      rw [this] at hb
      cases hb
    · rw [hm] at q3
      have hn : aHit as lo hi (196, 5) = false ∧ aHit as lo hi (196, 6) = false := by simpa using q3
      exact (c120 hm).tr (hMn.eq (hsame _ _ (hno hn.1)) (hsame _ _ (hno hn.2)))
  · cases hw
/-- System.arraycopy from 0 to 0, n places -/
theorem ok_copy {k na n : Nat} {cm : zM} {as bs : List Nat} (hd : decode m.1 pc = .ok (.invokestatic k, 3)) (hz : zmth m.2.1 k = some (14, na, cm)) (hd0 : 0 < d) (hwd : Nat.ble (aWid st) 8 = true) (hn : Nat.blt n 100000 = true)
    (hb : aBnd w bs (fun k => Nat.beq k 14) (aR1 0 ((n : Int) - 1)) = true) (ha : aBnd w as (fun k => Nat.beq k 14) (aR1 0 ((n : Int) - 1)) = true) (hn1 : Nat.ble 1 n = true)
    (hw : aWm w md ρ tr as 0 ((n : Int) - 1) (aUni (bs.map (fun b => aSegs 0 (w.2.1 b) (aR1 0 ((n : Int) - 1))))) = some tr')
    (kk : aOK w md rm h0 f r scr d m Q (pc + 3, ls, st, ρ, tr', rr)) : aOK w md rm h0 f r scr d m Q (pc, ls, .inl (.inl n) :: .inl (.inl 0) :: .inr (.inl as) :: .inl (.inl 0) :: .inr (.inl bs) :: st, ρ, tr, rr) := by
  intro σ g hg
  obtain ⟨pc', lc, sc, h⟩ := g
  obtain ⟨rfl, hc, hst⟩ := hg
  obtain ⟨x1, v1, e1, y1, hs1⟩ := aSt_i hst
  obtain ⟨x2, v2, e2, y2, hs2⟩ := aSt_i hs1
  obtain ⟨a, v3, e3, y3, hs3⟩ := aSt_r hs2
  obtain ⟨x4, v4, e4, y4, hs4⟩ := aSt_i hs3
  obtain ⟨b, vs, e5, y5, hs5⟩ := aSt_r hs4
  dsimp only at e1
  subst e5; subst e4; subst e3; subst e2; subst e1
  have hwd : zwd vs ≤ 8 := by rw [aWid_in hs5]; simpa using hwd
  have hn : n < 100000 := by simpa [Nat.blt_eq] using hn
  have hn1 : 1 ≤ n := by simpa using hn1
  have y1 : x1.toInt = (n : Int) := y1
  have y2 : x2.toInt = 0 := y2
  have y4 : x4.toInt = 0 := y4
  have ez2 : x2 = 0 := Int32.toInt_inj.mp y2
  have ez4 : x4 = 0 := Int32.toInt_inj.mp y4
  have en1 : x1.toNatClampNeg = n := by show x1.toInt.toNat = n; omega
  have hlast : aIn (nI (n - 1)).toInt (aR1 0 ((n : Int) - 1)) := by rw [nI_toInt (by omega)]; exact aR1_in (by omega) (by omega)
  obtain ⟨kb, nb, b1, b2, b3, -⟩ := aBnd_in hc hb y5 hlast
  obtain ⟨ka, nna, a1, a2, a3, -⟩ := aBnd_in hc ha y3 hlast
  have b2 : kb = 14 := by simpa using b2
  have a2 : ka = 14 := by simpa using a2
  subst b2; subst a2
  have lb : n ≤ nb := by
    have := (vp_in_iff.mp (zin_in b3)).2
    rw [nI_toInt (by omega)] at this
    omega
  have la : n ≤ nna := by
    have := (vp_in_iff.mp (zin_in a3)).2
    rw [nI_toInt (by omega)] at this
    omega
  have hrow : ∀ j, (va_cpy (h.2.1 b) (h.2.1 a) 0 0 n) j = if j < n then h.2.1 b j else h.2.1 a j := by
    intro j
    by_cases q : j < n
    · rw [pk_cpy_in (Nat.zero_le _) (by omega), if_pos q]; simp
    · rw [pk_cpy_out (by omega), if_neg q]
  refine ex_go hd (Or.inr rfl) (fun call => ?_) (kk σ (pc + 3, lc, vs, zsRow h a (va_cpy (h.2.1 b) (h.2.1 a) 0 0 n)) ⟨rfl, aWm_in hc hw y3 rfl rfl (fun c j hcj => ?_) (fun j j1 j2 => ?_), hs5⟩)
  · simp only [zexec, hz, deep_t hd0]
    have ep : ∀ s, zprim true 14 pc lc s h = zcopy pc lc s h := fun _ => rfl
    rw [if_neg (by decide), if_neg (by decide), if_neg (by decide), ep]
    unfold zcopy
    simp only [b1, a1, en1, ez2, ez4]
    have z0 : (0 : Int32).toNatClampNeg = 0 := rfl
    have zn : ¬ x1 < 0 := fun z => by have := Int32.lt_iff_toInt_lt.mp z; rw [y1] at this; have e0 : (0 : Int32).toInt = 0 := rfl; omega
    rw [if_pos ⟨trivial, trivial, by decide, by decide, zn, by rw [z0]; omega, by rw [z0]; omega, hwd⟩, z0]
  · show zrow h.2.1 a (va_cpy (h.2.1 b) (h.2.1 a) 0 0 n) c j = h.2.1 c j
    unfold zrow
    by_cases q : c = a
    · rw [if_pos q, hrow, if_neg (by omega), q]
    · rw [if_neg q]
  · show aIn (zrow h.2.1 a (va_cpy (h.2.1 b) (h.2.1 a) 0 0 n) a j).toInt _
    unfold zrow
    rw [if_pos rfl, hrow, if_pos (by omega)]
    exact aUni_in (aSegs_in (k := j) (aR1_in j1 j2) (Nat.zero_le _) (hc.2.2.2.2.1.2.1 b j)) (List.mem_map.mpr ⟨b, y5, rfl⟩ : aSegs 0 (w.2.1 b) (aR1 0 ((n : Int) - 1)) ∈ bs.map (fun b => aSegs 0 (w.2.1 b) (aR1 0 ((n : Int) - 1))))
/-- a reference is written -/
theorem ok_putR {k ci fl a b : Nat} (hd : decode m.1 pc = .ok (.putfield k, len)) (hl : zilen (.putfield k) = 0 ∨ len = zilen (.putfield k)) (hz : zfld m.2.1 k = some (ci, fl)) (hk : aKd w [a] ci = true) (hfi : zfin ci fl = false) (hty : Nat.beq ((zft ci).getD fl 9) 3 = true) (hw : (w.2.2.1 a fl).isNone = true) (hm : inM rm a fl = true)
    (kk : aOK w md rm h0 f r scr d m Q (pc + len, ls, st, ρ, tr, ((a, fl), b) :: rr.filter (fun q => !(Nat.beq q.1.1 a && Nat.beq q.1.2 fl)))) : aOK w md rm h0 f r scr d m Q (pc, ls, .inr (.inl [b]) :: .inr (.inl [a]) :: st, ρ, tr, rr) := by
  intro σ g hg
  obtain ⟨pc', lc, sc, h⟩ := g
  obtain ⟨rfl, hc, hst⟩ := hg
  obtain ⟨b', v1, e1, y1, hs1⟩ := aSt_r hst
  obtain ⟨a', vs, e2, y2, hs2⟩ := aSt_r hs1
  dsimp only at e1
  have y1 : b' = b := by simpa using y1
  have y2 : a' = a := by simpa using y2
  subst e2; subst e1; subst y1; subst y2
  obtain ⟨n, hn⟩ := aKd_in hk (List.mem_cons_self)
  have hsh := hc.2.2.2.2.1.1 a' _ hn
  have hat : ∀ c j, (zsR h a' fl (some b')).2.2.2.1 c j = if c = a' ∧ j = fl then some b' else h.2.2.2.1 c j := by
    intro c j
    show zup h.2.2.2.1 a' fl (some b') c j = _
    unfold zup
    by_cases e : c = a'
    · by_cases e2 : j = fl <;> simp [e, e2]
    · simp [e]
  refine ex_go hd hl (fun call => ?_) (kk σ (pc + len, lc, vs, zsR h a' fl (some b')) ⟨rfl, ?_, hs2⟩)
  · simp only [zexec, hz, hsh]
    rw [if_pos ⟨trivial, Or.inl hfi⟩]
    unfold zput
    dsimp only
    rw [if_pos (by simpa using hty)]
  · obtain ⟨c1, c2, c3, c4, ⟨c5, c6, c7, c8, c80⟩, ⟨c9, c10, c11, c12, c120⟩, c13⟩ := hc
    refine ⟨c1, c2, c3, fun q hq => ?_, ⟨c5, c6, fun c j x hx => ?_, c8, c80⟩, ⟨c9, c10, c11, fun c j hb => ?_, c120⟩, c13⟩
    · rcases List.mem_cons.mp hq with rfl | hq
      · rw [hat, if_pos ⟨rfl, rfl⟩]
      · obtain ⟨m1, m2⟩ := List.mem_filter.mp hq
        rw [hat, if_neg]
        · exact c4 q m1
        · intro z
          simp only [Bool.not_eq_true', Bool.and_eq_false_iff] at m2
          rcases m2 with m2 | m2
          · exact nbeq_f m2 z.1
          · exact nbeq_f m2 z.2
    · rw [hat, if_neg]
      · exact c7 c j x hx
      · intro z
        rw [z.1, z.2] at hx
        rw [hx] at hw
        cases hw
    · rw [hat, if_neg]
      · exact c12 c j hb
      · intro z
        rw [z.1, z.2, hm] at hb
        cases hb
end A11
