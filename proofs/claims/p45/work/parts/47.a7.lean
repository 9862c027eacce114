/-! arithmetic, stack, switches, constants of the pool -/
section A7
variable {w : aWd} {md rm : aMd} {h0 : zH} {f : aLf} {r : List Int} {ls : aL} {ρ : List aI} {tr : aT} {rr : aU}
variable {scr : Option (Nat × (Nat → Int32))} {d : Nat} {m : zM} {Q : Option zV → zH → Prop} {pc len : Nat} {st : List aV} {i : Instr}
def aIsA (i : Instr) : Bool := match i with
  | .iadd => true
  | .isub => true
  | .imul => true
  | .iand => true
  | .ior => true
  | .ixor => true
  | .ishl => true
  | .ishr => true
  | .iushr => true
  | .idiv => true
  | .irem => true
  | .ineg => true
  | .i2b => true
  | .i2c => true
  | .i2l => true
  | .lor => true
  | .lcmp => true
  | _ => false
theorem aIsA_x (h : aIsA i = true) : zilen i = 1 ∧ ∀ call deep len ls st h, zexec scr call deep m i len pc ls st h = zarith i len pc ls st h := by
  unfold aIsA at h
  split at h <;> first | exact ⟨rfl, fun _ _ _ _ _ _ => rfl⟩ | cases h
theorem ok_bin {x y : aE} {q : aE × List aI} (hi : aIsA i = true) (hd : decode m.1 pc = .ok (i, len)) (hl : zilen i = 0 ∨ len = zilen i) (hq : aAri ρ i x y = some q)
    (kk : aOK w md rm h0 f r scr d m Q (pc + len, ls, .inl q.1 :: st, q.2, tr, rr)) : aOK w md rm h0 f r scr d m Q (pc, ls, .inl y :: .inl x :: st, ρ, tr, rr) := by
  intro σ g hg
  obtain ⟨pc', lc, sc, h⟩ := g
  obtain ⟨rfl, hc, hst⟩ := hg
  obtain ⟨b, vs, rfl, hy, hst⟩ := aSt_i hst
  obtain ⟨a, vs, rfl, hx, hst⟩ := aSt_i hst
  obtain ⟨v, σ', hv, s1, s2, s3⟩ := aAri_in hc.1 hx hy hq
  refine ex_go hd hl (fun call => ?_) (kk σ' (pc + len, lc, .inl v :: vs, h) ⟨rfl, hc.x s1 s2, ⟨v, rfl, s3⟩, hst.x s1⟩)
  rw [(aIsA_x hi).2]
  simp only [zarith, hv]
theorem aUn_bin {A C : aI} (h : aUn i A = some C) : ∀ x y, zbin i x y = none := by
  unfold aUn at h
  split at h <;> first | exact fun _ _ => rfl | cases h
theorem zarith_u {x : Int32} {v : zV} {vs : List zV} {lc : zL} {h : zH} (hb : ∀ x y, zbin i x y = none) (hu : zun i x = some v) : zarith i len pc lc (.inl x :: vs) h = some (.inl (pc + len, lc, v :: vs, h)) := by
  unfold zarith
  split
  · next y x' st' e =>
    cases e
    rw [hb, hu]
  · next x' st' _ e =>
    cases e
    rw [hu]
  · next e => cases e
  · next _ q _ => exact (q _ _ rfl).elim
theorem ok_un {x : aE} {C : aI} (hi : aIsA i = true) (hd : decode m.1 pc = .ok (i, len)) (hl : zilen i = 0 ∨ len = zilen i) (hq : aUn i (aset ρ x) = some C)
    (kk : aOK w md rm h0 f r scr d m Q (pc + len, ls, .inl (aNew ρ C).1 :: st, (aNew ρ C).2, tr, rr)) : aOK w md rm h0 f r scr d m Q (pc, ls, .inl x :: st, ρ, tr, rr) := by
  intro σ g hg
  obtain ⟨pc', lc, sc, h⟩ := g
  obtain ⟨rfl, hc, hst⟩ := hg
  obtain ⟨a, vs, rfl, hx, hst⟩ := aSt_i hst
  obtain ⟨v, hv, hin⟩ := aUn_in (aset_in hc.1 hx) hq
  obtain ⟨σ', s1, s2, s3⟩ := aNew_in rfl hc.1 hin
  refine ex_go hd hl (fun call => ?_) (kk σ' (pc + len, lc, .inl v :: vs, h) ⟨rfl, hc.x s1 s2, ⟨v, rfl, s3⟩, hst.x s1⟩)
  rw [(aIsA_x hi).2]
  exact zarith_u (aUn_bin hq) hv
theorem ok_i2l {x : aE} (hd : decode m.1 pc = .ok (.i2l, len)) (hl : zilen .i2l = 0 ∨ len = zilen .i2l) (kk : aOK w md rm h0 f r scr d m Q (pc + len, ls, .inr (.inr false) :: st, ρ, tr, rr)) : aOK w md rm h0 f r scr d m Q (pc, ls, .inl x :: st, ρ, tr, rr) := by
  intro σ g hg
  obtain ⟨pc', lc, sc, h⟩ := g
  obtain ⟨rfl, hc, hst⟩ := hg
  obtain ⟨a, vs, rfl, hx, hst⟩ := aSt_i hst
  refine ex_go hd hl (fun call => ?_) (kk σ (pc + len, lc, .inr (.inl a.toInt64) :: vs, h) ⟨rfl, hc, ⟨_, rfl, nofun⟩, hst⟩)
  show zarith .i2l len pc lc (.inl a :: vs) h = _
  exact zarith_u (fun _ _ => rfl) rfl
theorem ok_lor {u v : Bool} (hd : decode m.1 pc = .ok (.lor, len)) (hl : zilen .lor = 0 ∨ len = zilen .lor) (kk : aOK w md rm h0 f r scr d m Q (pc + len, ls, .inr (.inr false) :: st, ρ, tr, rr)) : aOK w md rm h0 f r scr d m Q (pc, ls, .inr (.inr u) :: .inr (.inr v) :: st, ρ, tr, rr) := by
  intro σ g hg
  obtain ⟨pc', lc, sc, h⟩ := g
  obtain ⟨rfl, hc, hst⟩ := hg
  obtain ⟨b, vs, e1, hs1, -⟩ := aSt_l hst
  obtain ⟨a, vs, e2, hs2, -⟩ := aSt_l hs1
  dsimp only at e1
  subst e2; subst e1
  exact ex_go hd hl (fun call => rfl) (kk σ (pc + len, lc, .inr (.inl (a ||| b)) :: vs, h) ⟨rfl, hc, ⟨_, rfl, nofun⟩, hs2⟩)
theorem lg_cmp_in (a b : Int64) : aIn (lg_cmp a b).toInt (aR1 (-1) 1) := by
  have : lg_cmp a b = -1 ∨ lg_cmp a b = 0 ∨ lg_cmp a b = 1 := by
    unfold lg_cmp
    split
    · exact Or.inr (Or.inr rfl)
    · split
      · exact Or.inr (Or.inl rfl)
      · exact Or.inl rfl
  rcases this with e | e | e <;> rw [e] <;> exact aR1_in (by decide) (by decide)
theorem ok_lcmp {u v : Bool} (hd : decode m.1 pc = .ok (.lcmp, len)) (hl : zilen .lcmp = 0 ∨ len = zilen .lcmp) (kk : aOK w md rm h0 f r scr d m Q (pc + len, ls, .inl (aNew ρ (aR1 (-1) 1)).1 :: st, (aNew ρ (aR1 (-1) 1)).2, tr, rr)) : aOK w md rm h0 f r scr d m Q (pc, ls, .inr (.inr u) :: .inr (.inr v) :: st, ρ, tr, rr) := by
  intro σ g hg
  obtain ⟨pc', lc, sc, h⟩ := g
  obtain ⟨rfl, hc, hst⟩ := hg
  obtain ⟨b, vs, e1, hs1, -⟩ := aSt_l hst
  obtain ⟨a, vs, e2, hs2, -⟩ := aSt_l hs1
  dsimp only at e1
  subst e2; subst e1
  obtain ⟨σ', s1, s2, s3⟩ := aNew_in rfl hc.1 (lg_cmp_in a b)
  exact ex_go hd hl (fun call => rfl) (kk σ' (pc + len, lc, .inl (lg_cmp a b) :: vs, h) ⟨rfl, hc.x s1 s2, ⟨_, rfl, s3⟩, hs2.x s1⟩)
theorem ok_lshl {x : aE} {v : Bool} (hd : decode m.1 pc = .ok (.lshl, len)) (hl : zilen .lshl = 0 ∨ len = zilen .lshl) (kk : aOK w md rm h0 f r scr d m Q (pc + len, ls, .inr (.inr false) :: st, ρ, tr, rr)) : aOK w md rm h0 f r scr d m Q (pc, ls, .inl x :: .inr (.inr v) :: st, ρ, tr, rr) := by
  intro σ g hg
  obtain ⟨pc', lc, sc, h⟩ := g
  obtain ⟨rfl, hc, hst⟩ := hg
  obtain ⟨b, vs, e1, -, hs1⟩ := aSt_i hst
  obtain ⟨a, vs, e2, hs2, -⟩ := aSt_l hs1
  dsimp only at e1
  subst e2; subst e1
  exact ex_go hd hl (fun call => rfl) (kk σ (pc + len, lc, _ :: vs, h) ⟨rfl, hc, ⟨_, rfl, nofun⟩, hs2⟩)
/-- dup, dup2, pop, pop2 -/
theorem ok_dup {a : aV} (hd : decode m.1 pc = .ok (.dup, len)) (hl : zilen .dup = 0 ∨ len = zilen .dup) (ha : aIsL a = false) (kk : aOK w md rm h0 f r scr d m Q (pc + len, ls, a :: a :: st, ρ, tr, rr)) : aOK w md rm h0 f r scr d m Q (pc, ls, a :: st, ρ, tr, rr) := by
  intro σ g hg
  obtain ⟨pc', lc, sc, h⟩ := g
  obtain ⟨rfl, hc, hst⟩ := hg
  obtain ⟨v, vs, rfl, hv, hst⟩ := aSt_c hst
  have hcat := aVR_cat hv
  rw [ha] at hcat
  exact ex_go hd hl (fun call => by simp only [zexec]; exact if_pos hcat) (kk σ (pc + len, lc, v :: v :: vs, h) ⟨rfl, hc, hv, hv, hst⟩)
theorem ok_dup2 {a b : aV} (hd : decode m.1 pc = .ok (.dup2, len)) (hl : zilen .dup2 = 0 ∨ len = zilen .dup2) (ha : aIsL a = false) (hb : aIsL b = false) (kk : aOK w md rm h0 f r scr d m Q (pc + len, ls, a :: b :: a :: b :: st, ρ, tr, rr)) : aOK w md rm h0 f r scr d m Q (pc, ls, a :: b :: st, ρ, tr, rr) := by
  intro σ g hg
  obtain ⟨pc', lc, sc, h⟩ := g
  obtain ⟨rfl, hc, hst⟩ := hg
  obtain ⟨v, vs, rfl, hv, hst⟩ := aSt_c hst
  obtain ⟨u, vs, rfl, hu, hst⟩ := aSt_c hst
  have hcat := aVR_cat hv
  have hcat2 := aVR_cat hu
  rw [ha] at hcat
  rw [hb] at hcat2
  exact ex_go hd hl (fun call => by simp only [zexec]; exact if_pos ⟨hcat, hcat2⟩) (kk σ (pc + len, lc, v :: u :: v :: u :: vs, h) ⟨rfl, hc, hv, hu, hv, hu, hst⟩)
theorem ok_pop {a : aV} (hi : (i = .pop ∧ aIsL a = false) ∨ (i = .pop2 ∧ aIsL a = true)) (hd : decode m.1 pc = .ok (i, len)) (hl : zilen i = 0 ∨ len = zilen i) (kk : aOK w md rm h0 f r scr d m Q (pc + len, ls, st, ρ, tr, rr)) : aOK w md rm h0 f r scr d m Q (pc, ls, a :: st, ρ, tr, rr) := by
  intro σ g hg
  obtain ⟨pc', lc, sc, h⟩ := g
  obtain ⟨rfl, hc, hst⟩ := hg
  obtain ⟨v, vs, rfl, hv, hst⟩ := aSt_c hst
  have hcat := aVR_cat hv
  refine ex_go hd hl (fun call => ?_) (kk σ (pc + len, lc, vs, h) ⟨rfl, hc, hst⟩)
  rcases hi with ⟨rfl, ha⟩ | ⟨rfl, ha⟩ <;> rw [ha] at hcat <;> simp only [zexec] <;> exact if_pos hcat
/-- what the pool holds -/
def aCst (v : zV) : Option aV := match v with
  | .inl x => some (.inl (.inl x.toInt))
  | .inr (.inr (some a)) => some (.inr (.inl [a]))
  | .inr (.inl x) => some (.inr (.inr (decide (x ≠ 0))))
  | _ => none
theorem aCst_in {v : zV} {a : aV} {n : Nat} {σ : Nat → Int} (h : aCst v = some a) : aVR n σ v a := by
  unfold aCst at h
  split at h
  · cases h; exact ⟨_, rfl, rfl⟩
  · cases h; exact ⟨_, List.mem_cons_self, rfl⟩
  · cases h; exact ⟨_, rfl, fun q => of_decide_eq_true q⟩
  · cases h
theorem ok_ldc {k : Nat} {v : zV} {a : aV} (hi : ((i = .ldc k ∨ i = .ldc_w k) ∧ zcat v = 1) ∨ (i = .ldc2_w k ∧ zcat v = 2)) (hd : decode m.1 pc = .ok (i, len)) (hl : zilen i = 0 ∨ len = zilen i) (hv : zcst m.2.1 k = some v) (ha : aCst v = some a) (kk : aOK w md rm h0 f r scr d m Q (pc + len, ls, a :: st, ρ, tr, rr)) : aOK w md rm h0 f r scr d m Q (pc, ls, st, ρ, tr, rr) := by
  refine ok_push hd hl (fun σ lc sc h hc => ⟨v, aCst_in ha, fun call => ?_⟩) kk
  rcases hi with ⟨rfl | rfl, hc⟩ | ⟨rfl, hc⟩ <;> simp only [zexec, zldv, hv] <;> rw [if_pos hc]
/-- a switch: the cases, and what is below and above -/
theorem ok_sw {df lo hi : Int} {offs : Array Int} {x : aE} {t0 : Nat} (hd : decode m.1 pc = .ok (.tableswitch df lo hi offs, len)) (hl : zilen (.tableswitch df lo hi offs) = 0 ∨ len = zilen (.tableswitch df lo hi offs)) (hsz : hi - lo < offs.size) (hlo : aFt lo = true) (hhi : aFt hi = true) (h0t : aTg pc df = some t0)
    (k1 : aNone ρ .lt x (.inl lo) = true ∨ aOK w md rm h0 f r scr d m Q (t0, ls, st, aBoth ρ .lt x (.inl lo), tr, rr)) (k2 : aNone ρ .gt x (.inl hi) = true ∨ aOK w md rm h0 f r scr d m Q (t0, ls, st, aBoth ρ .gt x (.inl hi), tr, rr))
    (k3 : ∀ j : Nat, (hj : j < offs.size) → aFt (lo + j) = true → aNone ρ .eq x (.inl (lo + j)) = true ∨ ∃ t, aTg pc offs[j] = some t ∧ aOK w md rm h0 f r scr d m Q (t, ls, st, aBoth ρ .eq x (.inl (lo + j)), tr, rr)) : aOK w md rm h0 f r scr d m Q (pc, ls, .inl x :: st, ρ, tr, rr) := by
  intro σ g hg
  obtain ⟨pc', lc, sc, h⟩ := g
  obtain ⟨rfl, hc, hst⟩ := hg
  obtain ⟨a, vs, rfl, hx, hst⟩ := aSt_i hst
  obtain ⟨t1, t2⟩ := aTg_in h0t
  have elo := ofInt_ft hlo
  have ehi := ofInt_ft hhi
  rcases Int.lt_or_le a.toInt lo with q | q
  · have hz : zcond .lt a (Int32.ofInt lo) = true := by rw [zcond_i, elo]; exact decide_eq_true q
    obtain ⟨c1, c2⟩ := aBoth_in (y := .inl lo) hc hx elo hz
    rcases k1 with k1 | k1
    · exact (aNone_no (y := .inl lo) hc hx elo hz k1).elim
    · refine ex_go hd hl (fun call => ?_) (k1 σ (t0, lc, vs, h) ⟨rfl, c1, by show aSt (aBoth ρ .lt x (.inl lo)).length σ vs st; rw [c2]; exact hst⟩)
      simp only [zexec, zjump]
      rw [if_pos (Or.inl q), if_pos t1, t2]
  · rcases Int.lt_or_le hi a.toInt with q2 | q2
    · have hz : zcond .gt a (Int32.ofInt hi) = true := by rw [zcond_i, ehi]; exact decide_eq_true q2
      obtain ⟨c1, c2⟩ := aBoth_in (y := .inl hi) hc hx ehi hz
      rcases k2 with k2 | k2
      · exact (aNone_no (y := .inl hi) hc hx ehi hz k2).elim
      · refine ex_go hd hl (fun call => ?_) (k2 σ (t0, lc, vs, h) ⟨rfl, c1, by show aSt (aBoth ρ .gt x (.inl hi)).length σ vs st; rw [c2]; exact hst⟩)
        simp only [zexec, zjump]
        rw [if_pos (Or.inr q2), if_pos t1, t2]
    · have hj : (a.toInt - lo).toNat < offs.size := by omega
      have ej : lo + ((a.toInt - lo).toNat : Int) = a.toInt := by omega
      have hft : aFt (lo + ((a.toInt - lo).toNat : Int)) = true := by
        have := i32_rg a
        simp only [aFt, Bool.and_eq_true, ile_iff]
        omega
      have hz : zcond .eq a a = true := by rw [zcond_i]; simp
      rcases k3 _ hj hft with k3 | ⟨t, g1, k3⟩
      · exact (aNone_no (y := .inl (lo + ((a.toInt - lo).toNat : Int))) hc hx (b := a) ej.symm hz k3).elim
      · obtain ⟨c1, c2⟩ := aBoth_in (y := .inl (lo + ((a.toInt - lo).toNat : Int))) hc hx (b := a) ej.symm hz
        obtain ⟨u1, u2⟩ := aTg_in g1
        refine ex_go hd hl (fun call => ?_) (k3 σ (t, lc, vs, h) ⟨rfl, c1, by show aSt (aBoth ρ .eq x (.inl (lo + ((a.toInt - lo).toNat : Int)))).length σ vs st; rw [c2]; exact hst⟩)
        simp only [zexec, zjump]
        rw [if_neg (by omega), Array.getElem?_eq_getElem hj]
        dsimp only
        rw [if_pos u1, u2]
end A7
