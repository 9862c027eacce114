/-! the steps without heap, one by one: what must hold of what comes behind -/
section A6
variable {w : aWd} {md rm : aMd} {h0 : zH} {f : aLf} {r : List Int} {ls : aL} {ρ : List aI} {tr : aT} {rr : aU}
variable {scr : Option (Nat × (Nat → Int32))} {d : Nat} {m : zM} {Q : Option zV → zH → Prop} {pc len : Nat} {st : List aV} {i : Instr}
/-- a constant is pushed -/
theorem ok_const {c : Int} {v : Int32} (hv : v.toInt = c) (hd : decode m.1 pc = .ok (i, len)) (hl : zilen i = 0 ∨ len = zilen i) (hx : ∀ call ls st h, zexec scr call (decide (0 < d)) m i len pc ls st h = some (.inl (pc + len, ls, .inl v :: st, h)))
    (k : aOK w md rm h0 f r scr d m Q (pc + len, ls, .inl (.inl c) :: st, ρ, tr, rr)) : aOK w md rm h0 f r scr d m Q (pc, ls, st, ρ, tr, rr) := by
  intro σ g hg
  obtain ⟨pc', lc, sc, h⟩ := g
  obtain ⟨rfl, hc, hs⟩ := hg
  exact ex_go hd hl (fun call => hx call lc sc h) (k σ _ ⟨rfl, hc, ⟨⟨v, rfl, hv⟩, hs⟩⟩)
/-- something else is pushed -/
theorem ok_push {a : aV} (hd : decode m.1 pc = .ok (i, len)) (hl : zilen i = 0 ∨ len = zilen i) (hx : ∀ σ lc sc h, aC w md rm h0 f r σ ls ρ tr rr lc h → ∃ v, aVR ρ.length σ v a ∧ ∀ call, zexec scr call (decide (0 < d)) m i len pc lc sc h = some (.inl (pc + len, lc, v :: sc, h)))
    (k : aOK w md rm h0 f r scr d m Q (pc + len, ls, a :: st, ρ, tr, rr)) : aOK w md rm h0 f r scr d m Q (pc, ls, st, ρ, tr, rr) := by
  intro σ g hg
  obtain ⟨pc', lc, sc, h⟩ := g
  obtain ⟨rfl, hc, hs⟩ := hg
  obtain ⟨v, hv, hx⟩ := hx σ lc sc h hc
  exact ex_go hd hl hx (k σ _ ⟨rfl, hc, ⟨hv, hs⟩⟩)
def aLoadOf (i : Instr) : Option (Nat × Nat × Nat) := match i with
  | .iload k => some (0, k, 2)
  | .iload_n k => some (0, k, 1)
  | .lload k => some (1, k, 2)
  | .lload_n k => some (1, k, 1)
  | .aload k => some (2, k, 2)
  | .aload_n k => some (2, k, 1)
  | _ => none
def aSort (so : Nat) (a : aV) : Bool := match a with
  | .inl _ => Nat.beq so 0
  | .inr (.inl _) => Nat.beq so 2
  | .inr (.inr _) => Nat.beq so 1
theorem aLoadOf_x {so k n : Nat} (h : aLoadOf i = some (so, k, n)) : zilen i = n ∧ ∀ call deep len ls st h, zexec scr call deep m i len pc ls st h = zload so k len pc ls st h := by
  unfold aLoadOf at h
  split at h <;> cases h <;> exact ⟨rfl, fun _ _ _ _ _ _ => rfl⟩
theorem zload_s {so k : Nat} {v : zV} {n : Nat} {σ : Nat → Int} {a : aV} {lc : zL} {sc : List zV} {h : zH} (hg : zget lc k = some v) (hv : aVR n σ v a) (hs : aSort so a = true) : zload so k len pc lc sc h = some (.inl (pc + len, lc, v :: sc, h)) := by
  unfold zload
  rw [hg]
  match a, hv, hs with
  | .inl e, ⟨x, h1, _⟩, hs =>
    have : so = 0 := by simpa [aSort] using hs
    subst this; subst h1; rfl
  | .inr (.inl as), ⟨q, _, h1⟩, hs =>
    have : so = 2 := by simpa [aSort] using hs
    subst this; subst h1; rfl
  | .inr (.inr _), ⟨x, h1, _⟩, hs =>
    have : so = 1 := by simpa [aSort] using hs
    subst this; subst h1; rfl
theorem ok_load {so k n : Nat} {a : aV} (hi : aLoadOf i = some (so, k, n)) (hd : decode m.1 pc = .ok (i, len)) (hl : zilen i = 0 ∨ len = zilen i) (ha : aGet ls k = some a) (hs : aSort so a = true)
    (kk : aOK w md rm h0 f r scr d m Q (pc + len, ls, a :: st, ρ, tr, rr)) : aOK w md rm h0 f r scr d m Q (pc, ls, st, ρ, tr, rr) := by
  refine ok_push hd hl (fun σ lc sc h hc => ?_) kk
  obtain ⟨v, hg, hv⟩ := hc.2.1 (k, a) (aGet_mem ha)
  exact ⟨v, hv, fun call => by rw [(aLoadOf_x hi).2]; exact zload_s hg hv hs⟩
def aStoreOf (i : Instr) : Option (Nat × Nat × Nat) := match i with
  | .istore k => some (0, k, 2)
  | .istore_n k => some (0, k, 1)
  | .lstore k => some (1, k, 2)
  | .lstore_n k => some (1, k, 1)
  | .astore k => some (2, k, 2)
  | .astore_n k => some (2, k, 1)
  | _ => none
theorem aStoreOf_x {so k n : Nat} (h : aStoreOf i = some (so, k, n)) : zilen i = n ∧ ∀ call deep len ls st h, zexec scr call deep m i len pc ls st h = zstore m so k len pc ls st h := by
  unfold aStoreOf at h
  split at h <;> cases h <;> exact ⟨rfl, fun _ _ _ _ _ _ => rfl⟩
theorem ok_store {so k n : Nat} {a : aV} (hi : aStoreOf i = some (so, k, n)) (hd : decode m.1 pc = .ok (i, len)) (hl : zilen i = 0 ∨ len = zilen i) (hs : aSort so a = true) (hk : Nat.blt (if aIsL a then k + 1 else k) m.2.2.1 = true)
    (kk : aOK w md rm h0 f r scr d m Q (pc + len, (if aIsL a then aSet2 ls k a else aSet1 ls k a), st, ρ, tr, rr)) : aOK w md rm h0 f r scr d m Q (pc, ls, a :: st, ρ, tr, rr) := by
  intro σ g hg
  obtain ⟨pc', lc, sc, h⟩ := g
  obtain ⟨rfl, hc, hst⟩ := hg
  have hk : (if aIsL a then k + 1 else k) < m.2.2.1 := by simpa [Nat.blt_eq] using hk
  match a, hs, hk, hst, kk with
  | .inl e, hs, hk, hst, kk =>
    have e0 : so = 0 := by simpa [aSort] using hs
    subst e0
    obtain ⟨x, vs, rfl, h1, h2⟩ := aSt_i hst
    refine ex_go hd hl (fun call => ?_) (kk σ (pc + len, zset1 lc k (.inl x), vs, h) ⟨rfl, hc.set1 ⟨x, rfl, h1⟩, h2⟩)
    rw [(aStoreOf_x hi).2]
    unfold zstore
    exact if_pos ⟨rfl, hk⟩
  | .inr (.inl as), hs, hk, hst, kk =>
    have e0 : so = 2 := by simpa [aSort] using hs
    subst e0
    obtain ⟨x, vs, rfl, h1, h2⟩ := aSt_r hst
    refine ex_go hd hl (fun call => ?_) (kk σ (pc + len, zset1 lc k (.inr (.inr (some x))), vs, h) ⟨rfl, hc.set1 ⟨x, h1, rfl⟩, h2⟩)
    rw [(aStoreOf_x hi).2]
    unfold zstore
    exact if_pos ⟨rfl, hk⟩
  | .inr (.inr u), hs, hk, hst, kk =>
    have e0 : so = 1 := by simpa [aSort] using hs
    subst e0
    obtain ⟨x, vs, rfl, h2, h3⟩ := aSt_l hst
    refine ex_go hd hl (fun call => ?_) (kk σ (pc + len, zset2 lc k (.inr (.inl x)), vs, h) ⟨rfl, hc.set2 ⟨x, rfl, h3⟩, h2⟩)
    rw [(aStoreOf_x hi).2]
    unfold zstore
    exact if_pos ⟨rfl, hk⟩
/-- iinc -/
theorem ok_iinc {k : Nat} {n : Int} {e e' : aE} {ρ' : List aI} (hd : decode m.1 pc = .ok (.iinc k n, len)) (hl : zilen (.iinc k n) = 0 ∨ len = zilen (.iinc k n)) (ha : aGet ls k = some (.inl e)) (hk : Nat.blt k m.2.2.1 = true) (hn : aFt n = true)
    (hq : (aPlus ρ e n = some e' ∧ ρ' = ρ) ∨ (aNew ρ aTop = (e', ρ')))
    (kk : aOK w md rm h0 f r scr d m Q (pc + len, aSet1 ls k (.inl e'), st, ρ', tr, rr)) : aOK w md rm h0 f r scr d m Q (pc, ls, st, ρ, tr, rr) := by
  intro σ g hg
  obtain ⟨pc', lc, sc, h⟩ := g
  obtain ⟨rfl, hc, hst⟩ := hg
  have hk : k < m.2.2.1 := by simpa [Nat.blt_eq] using hk
  obtain ⟨v, hgt, x, rfl, hx⟩ := hc.2.1 (k, .inl e) (aGet_mem ha)
  have hz : ∀ call, zexec scr call (decide (0 < d)) m (.iinc k n) len pc lc sc h = some (.inl (pc + len, zset1 lc k (.inl (x + Int32.ofInt n)), sc, h)) := by
    intro call
    simp only [zexec, hgt]
    exact if_pos hk
  rcases hq with ⟨hp, rfl⟩ | hq
  · have := aPlus_in hc.1 hx hp (v := x + Int32.ofInt n) (by rw [Int32.toInt_add, ofInt_ft hn])
    exact ex_go hd hl hz (kk σ _ ⟨rfl, hc.set1 ⟨_, rfl, this⟩, hst⟩)
  · obtain ⟨σ', s1, s2, s3⟩ := aNew_in hq hc.1 (aIn_top (x + Int32.ofInt n))
    exact ex_go hd hl hz (kk σ' _ ⟨rfl, (hc.x s1 s2).set1 ⟨_, rfl, s3⟩, hst.x s1⟩)
/-- a jump -/
def aTg (pc : Nat) (off : Int) : Option Nat := if ile 0 (pc + off) then some ((pc : Int) + off).toNat else none
theorem aTg_in {off : Int} {t : Nat} (h : aTg pc off = some t) : 0 ≤ (pc : Int) + off ∧ ((pc : Int) + off).toNat = t := by
  unfold aTg at h
  split at h
  · next q => cases h; exact ⟨ile_iff.mp q, rfl⟩
  · cases h
theorem ok_goto {off : Int} {t : Nat} (hd : decode m.1 pc = .ok (.goto off, len)) (hl : zilen (.goto off) = 0 ∨ len = zilen (.goto off)) (ht : aTg pc off = some t)
    (kk : aOK w md rm h0 f r scr d m Q (t, ls, st, ρ, tr, rr)) : aOK w md rm h0 f r scr d m Q (pc, ls, st, ρ, tr, rr) := by
  intro σ g hg
  obtain ⟨pc', lc, sc, h⟩ := g
  obtain ⟨rfl, hc, hst⟩ := hg
  obtain ⟨t1, t2⟩ := aTg_in ht
  refine ex_go hd hl (fun call => ?_) (kk σ (t, lc, sc, h) ⟨rfl, hc, hst⟩)
  simp only [zexec, zjump]
  rw [if_pos t1, t2]
/-- both ways of a condition on two expressions -/
def aBoth (ρ : List aI) (cd : ClassFile.Cond) (x y : aE) : List aI := aNarr (aNarr ρ x cd (aHull (aset ρ y)).1 (aHull (aset ρ y)).2) y (aSw cd) (aHull (aset ρ x)).1 (aHull (aset ρ x)).2
theorem aBoth_in {cd : ClassFile.Cond} {x y : aE} {a b : Int32} {σ : Nat → Int} {lc : zL} {h : zH} (hc : aC w md rm h0 f r σ ls ρ tr rr lc h) (hx : aEq ρ.length σ a.toInt x) (hy : aEq ρ.length σ b.toInt y) (hz : zcond cd a b = true) : aC w md rm h0 f r σ ls (aBoth ρ cd x y) tr rr lc h ∧ (aBoth ρ cd x y).length = ρ.length := by
  have h1 := aHull_in (aset_in hc.1 hx)
  have h2 := aHull_in (aset_in hc.1 hy)
  have l1 : (aNarr ρ x cd (aHull (aset ρ y)).1 (aHull (aset ρ y)).2).length = ρ.length := aNarr_len
  refine ⟨?_, by unfold aBoth; rw [aNarr_len, l1]⟩
  unfold aBoth
  exact (hc.narr hx h2.1 h2.2 hz).narr (x := b) (y := a) (by rw [l1]; exact hy) h1.1 h1.2 (by rw [aSw_z]; exact hz)
/-- the condition can't be -/
def aCan (cd : ClassFile.Cond) (x y : Int × Int) : Bool := match cd with
  | .eq => ile x.1 y.2 && ile y.1 x.2
  | .ne => !(ieq x.1 x.2 && (ieq y.1 y.2 && ieq x.1 y.1))
  | .lt => ile (x.1 + 1) y.2
  | .ge => ile y.1 x.2
  | .gt => ile (y.1 + 1) x.2
  | .le => ile x.1 y.2
def aNone (ρ : List aI) (cd : ClassFile.Cond) (x y : aE) : Bool := !(aCan cd (aHull (aset ρ x)) (aHull (aset ρ y))) || aDead (aBoth ρ cd x y)
theorem aNone_no {cd : ClassFile.Cond} {x y : aE} {a b : Int32} {σ : Nat → Int} {lc : zL} {h : zH} (hc : aC w md rm h0 f r σ ls ρ tr rr lc h) (hx : aEq ρ.length σ a.toInt x) (hy : aEq ρ.length σ b.toInt y) (hz : zcond cd a b = true) (hn : aNone ρ cd x y = true) : False := by
  have h1 := aHull_in (aset_in hc.1 hx)
  have h2 := aHull_in (aset_in hc.1 hy)
  simp only [aNone, Bool.or_eq_true, Bool.not_eq_true'] at hn
  rcases hn with hn | hn
  · have : aCan cd (aHull (aset ρ x)) (aHull (aset ρ y)) = true := by
      rw [zcond_i] at hz
      cases cd <;> simp only [decide_eq_true_eq] at hz <;> simp only [aCan, Bool.and_eq_true, Bool.not_eq_true', ile_iff]
      · omega
      · refine Bool.eq_false_iff.mpr (fun q => ?_)
        simp only [Bool.and_eq_true, ieq_iff] at q
        omega
      · omega
      · omega
      · omega
      · omega
    rw [this] at hn
    cases hn
  · exact aDead_no (aBoth_in hc hx hy hz).1.1 hn
theorem ok_icmp {cd : ClassFile.Cond} {off : Int} {t : Nat} {x y : aE} (hd : decode m.1 pc = .ok (.if_icmp cd off, len)) (hl : zilen (.if_icmp cd off) = 0 ∨ len = zilen (.if_icmp cd off)) (ht : aTg pc off = some t)
    (k1 : aNone ρ cd x y = true ∨ aOK w md rm h0 f r scr d m Q (t, ls, st, aBoth ρ cd x y, tr, rr)) (k2 : aNone ρ (aNo cd) x y = true ∨ aOK w md rm h0 f r scr d m Q (pc + len, ls, st, aBoth ρ (aNo cd) x y, tr, rr)) : aOK w md rm h0 f r scr d m Q (pc, ls, .inl y :: .inl x :: st, ρ, tr, rr) := by
  intro σ g hg
  obtain ⟨pc', lc, sc, h⟩ := g
  obtain ⟨rfl, hc, hst⟩ := hg
  obtain ⟨b, vs, rfl, hy, hst⟩ := aSt_i hst
  obtain ⟨a, vs, rfl, hx, hst⟩ := aSt_i hst
  obtain ⟨t1, t2⟩ := aTg_in ht
  by_cases hz : zcond cd a b = true
  · obtain ⟨c1, c2⟩ := aBoth_in hc hx hy hz
    rcases k1 with k1 | k1
    · exact (aNone_no hc hx hy hz k1).elim
    · refine ex_go hd hl (fun call => ?_) (k1 σ (t, lc, vs, h) ⟨rfl, c1, by show aSt (aBoth ρ cd x y).length σ vs st; rw [c2]; exact hst⟩)
      simp only [zexec, zbr]
      rw [if_pos t1, if_pos hz, t2]
  · have hz' : zcond (aNo cd) a b = true := by rw [aNo_z]; simpa using hz
    obtain ⟨c1, c2⟩ := aBoth_in hc hx hy hz'
    rcases k2 with k2 | k2
    · exact (aNone_no hc hx hy hz' k2).elim
    · refine ex_go hd hl (fun call => ?_) (k2 σ (pc + len, lc, vs, h) ⟨rfl, c1, by show aSt (aBoth ρ (aNo cd) x y).length σ vs st; rw [c2]; exact hst⟩)
      simp only [zexec, zbr]
      rw [if_pos t1, if_neg hz]
theorem ok_if {cd : ClassFile.Cond} {off : Int} {t : Nat} {x : aE} (hd : decode m.1 pc = .ok (.ifCond cd off, len)) (hl : zilen (.ifCond cd off) = 0 ∨ len = zilen (.ifCond cd off)) (ht : aTg pc off = some t)
    (k1 : aNone ρ cd x (.inl 0) = true ∨ aOK w md rm h0 f r scr d m Q (t, ls, st, aBoth ρ cd x (.inl 0), tr, rr)) (k2 : aNone ρ (aNo cd) x (.inl 0) = true ∨ aOK w md rm h0 f r scr d m Q (pc + len, ls, st, aBoth ρ (aNo cd) x (.inl 0), tr, rr)) : aOK w md rm h0 f r scr d m Q (pc, ls, .inl x :: st, ρ, tr, rr) := by
  intro σ g hg
  obtain ⟨pc', lc, sc, h⟩ := g
  obtain ⟨rfl, hc, hst⟩ := hg
  obtain ⟨a, vs, rfl, hx, hst⟩ := aSt_i hst
  obtain ⟨t1, t2⟩ := aTg_in ht
  have hy : aEq ρ.length σ (0 : Int32).toInt (.inl 0) := rfl
  by_cases hz : zcond cd a 0 = true
  · obtain ⟨c1, c2⟩ := aBoth_in hc hx hy hz
    rcases k1 with k1 | k1
    · exact (aNone_no hc hx hy hz k1).elim
    · refine ex_go hd hl (fun call => ?_) (k1 σ (t, lc, vs, h) ⟨rfl, c1, by show aSt (aBoth ρ cd x (.inl 0)).length σ vs st; rw [c2]; exact hst⟩)
      simp only [zexec, zbr]
      rw [if_pos t1, if_pos hz, t2]
  · have hz' : zcond (aNo cd) a 0 = true := by rw [aNo_z]; simpa using hz
    obtain ⟨c1, c2⟩ := aBoth_in hc hx hy hz'
    rcases k2 with k2 | k2
    · exact (aNone_no hc hx hy hz' k2).elim
    · refine ex_go hd hl (fun call => ?_) (k2 σ (pc + len, lc, vs, h) ⟨rfl, c1, by show aSt (aBoth ρ (aNo cd) x (.inl 0)).length σ vs st; rw [c2]; exact hst⟩)
      simp only [zexec, zbr]
      rw [if_pos t1, if_neg hz]
end A6
