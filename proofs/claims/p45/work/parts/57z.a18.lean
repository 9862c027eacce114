/-! SEGMENTS: a node is run to other nodes; loops whose measure is found by hand -/
section A18
variable {w : aWd} {c : aCt} {lk : aLk} {cd : aCd} {fk : List Nat} {fuel d : Nat} {vs : List zV}
def aQ (w : aWd) (c : aCt) (vs : List zV) (h : zH) (v : Option zV) (h' : zH) : Prop := hOK w h' ∧ hFr c.2.2.2.2.1 c.2.2.2.2.2.1 h h' ∧ ∃ p ∈ c.2.2.2.1, aPst vs v h' p
def aSgk (w : aWd) (c : aCt) (lk : aLk) (cd : aCd) (fk : List Nat) (fuel : Nat) (tg : List aNd) (nd : aNd) : Bool := aRkOk nd && aRun w c.2.2.2.2.1 c.2.2.2.2.2.1 c.1 c.2.2.2.2.2.2 lk cd tg c.2.2.2.1 fk [] nd.2.2.2.2.2 fuel true (aNs nd)
def aLkH (w : aWd) (c : aCt) (lk : aLk) : Prop := ∀ q ∈ lk, zmth c.1.2.1 q.1 = some (q.2.1, q.2.2.1, q.2.2.2.1) ∧ aSpec w q.2.2.2
def aCdH (c : aCt) (cd : aCd) : Prop := ∀ q ∈ cd, decode c.1.1 q.1 = .ok (q.2.1, q.2.2)
theorem aSeg_ok {tg : List aNd} {nd : aNd} {h0 : zH} {g : zC} (hck : aSgk w c lk cd fk fuel tg nd = true) (hlk : aLkH w c lk) (hcd : aCdH c cd) (hd : c.2.2.2.2.2.2 ≤ d) (hnd : ∀ nd' ∈ tg, ∀ g', aNH w c.2.2.2.2.1 c.2.2.2.2.2.1 h0 nd' g' → aRank nd' g' < aRank nd g → zEx none d c.1 g' (aQ w c vs h0)) (hn : aNH w c.2.2.2.2.1 c.2.2.2.2.2.1 h0 nd g) : zEx none d c.1 g (aQ w c vs h0) := by
  simp only [aSgk, Bool.and_eq_true] at hck
  obtain ⟨r1, r2⟩ := aRkOk_in hck.1 hn
  obtain ⟨hg, -⟩ := aNs_in hn
  exact aRun_ok (X := aNx nd g) hlk hcd hd r1 (by cases vs <;> trivial) (fun nd' hm' g' hn' hlt' => hnd nd' hm' g' hn' hlt') fuel true (aNs nd) hck.2 _ g hg
theorem aMdLe_rf {a : aMd} : aMdLe a a = true := by
  refine List.all_eq_true.mpr (fun p hp => Bool.or_eq_true_iff.mpr (.inr (List.any_eq_true.mpr ⟨p, hp, ?_⟩)))
  simp
theorem aMdOk_rf {a : aMd} : aMdOk a a = true := by
  unfold aMdOk
  rw [aMdLe_rf]
  cases aMono a <;> simp
theorem hFr.rf {md rm : aMd} {h : zH} : hFr md rm h h := ⟨rfl, rfl, fun _ _ _ => rfl, fun _ _ _ => rfl, fun _ => hMn.rf⟩
theorem aNH.re {md rm md' rm' : aMd} {h0 : zH} {nd : aNd} {g : zC} (hn : aNH w md rm h0 nd g) : aNH w md' rm' g.2.2.2 nd g := by
  obtain ⟨a, b, e, f, k, m⟩ := hn
  exact ⟨a, b, e, f, k, hFr.rf⟩
theorem aNH.fr {md rm : aMd} {h0 : zH} {nd : aNd} {g : zC} (hn : aNH w md rm h0 nd g) : hFr md rm h0 g.2.2.2 := hn.2.2.2.2.2
theorem aNH.ok {md rm : aMd} {h0 : zH} {nd : aNd} {g : zC} (hn : aNH w md rm h0 nd g) : hOK w g.2.2.2 := hn.2.2.2.2.1
theorem aNH.at {md rm : aMd} {h0 : zH} {nd : aNd} {g : zC} {q : (Nat × Nat) × aI} (hn : aNH w md rm h0 nd g) (hq : q ∈ nd.2.2.2.1) : aIn (g.2.2.2.2.1 q.1.1 q.1.2).toInt q.2 := hn.2.2.2.1.1 q hq
/-- from a node, with its own heap as the heap before -/
def aNok (w : aWd) (c : aCt) (d : Nat) (vs : List zV) (nd : aNd) : Prop := ∀ g, aNH w c.2.2.2.2.1 c.2.2.2.2.2.1 g.2.2.2 nd g → zEx none d c.1 g (aQ w c vs g.2.2.2)
theorem aNok.go {nd : aNd} {h0 : zH} {g : zC} (h : aNok w c d vs nd) (hn : aNH w c.2.2.2.2.1 c.2.2.2.2.2.1 h0 nd g) : zEx none d c.1 g (aQ w c vs h0) := by
  refine zEx.mono (h g hn.re) (fun v h' hq => ⟨hq.1, hn.fr.tr hq.2.1 aMdOk_rf aMdLe_rf, hq.2.2⟩)
theorem aNodes_ok {nds ex : List aNd} (hck : ∀ nd ∈ nds, aSgk w c lk cd fk fuel (nds ++ ex) nd = true) (hlk : aLkH w c lk) (hcd : aCdH c cd) (hd : c.2.2.2.2.2.2 ≤ d) (hex : ∀ nd ∈ ex, aNok w c d vs nd) : ∀ nd ∈ nds, aNok w c d vs nd := by
  have nodes : ∀ (N : Nat) (nd : aNd), nd ∈ nds → ∀ h0 g, aNH w c.2.2.2.2.1 c.2.2.2.2.2.1 h0 nd g → aRank nd g < (N : Int) → zEx none d c.1 g (aQ w c vs h0) := by
    intro N
    induction N with
    | zero =>
      intro nd hm h0 g hn hlt
      have hc := hck nd hm
      simp only [aSgk, Bool.and_eq_true] at hc
      have := (aRkOk_in hc.1 hn).2
      exact absurd hlt (by omega)
    | succ N ih =>
      intro nd hm h0 g hn hlt
      refine aSeg_ok (hck nd hm) hlk hcd hd (fun nd' hm' g' hn' hlt' => ?_) hn
      rcases List.mem_append.mp hm' with hm' | hm'
      · exact ih nd' hm' h0 g' hn' (by omega)
      · exact (hex nd' hm').go hn'
  intro nd hm g hn
  have hc := hck nd hm
  simp only [aSgk, Bool.and_eq_true] at hc
  exact nodes (aRank nd g + 1).toNat nd hm g.2.2.2 g hn (by have := (aRkOk_in hc.1 hn).2; omega)
/-- a node with rank 0, with rank 1 -/
def nd0 (nd : aNd) : aNd := (nd.1, nd.2.1, nd.2.2.1, nd.2.2.2.1, nd.2.2.2.2.1, (0, []))
def nd1 (nd : aNd) : aNd := (nd.1, nd.2.1, nd.2.2.1, nd.2.2.2.1, nd.2.2.2.2.1, (1, []))
def aTok (B : aI) (nd : aNd) : Bool := nd.2.2.2.1.any (fun q => Nat.beq q.1.1 196 && (Nat.beq q.1.2 6 && aLe q.2 B))
theorem aTok_in {B : aI} {md rm : aMd} {h0 : zH} {nd : aNd} {g : zC} (hn : aNH w md rm h0 nd g) (h : aTok B nd = true) : aIn (g.2.2.2.2.1 196 6).toInt B := by
  obtain ⟨q, hq, hz⟩ := List.any_eq_true.mp h
  simp only [Bool.and_eq_true, Nat.beq_eq] at hz
  have := aLe_in hz.2.2 (hn.at hq)
  rw [hz.1, hz.2.1] at this
  exact this
/-- a loop from C by B back to C: 'end' grows from C to B, and never falls -/
theorem aLoop_ok {T A B C : List aNd} (hmo : aMono c.2.2.2.2.1 = true) (hlk : aLkH w c lk) (hcd : aCdH c cd) (hd : c.2.2.2.2.2.2 ≤ d) (hT : ∀ nd ∈ T, aNok w c d vs nd) (hA : ∀ nd ∈ A, aNok w c d vs nd)
    (ckC : ∀ nd ∈ C, aSgk w c lk cd fk fuel ((A ++ B).map nd0) (nd1 nd) = true) (ckB : ∀ nd ∈ B, aSgk w c lk cd fk fuel ((T ++ C).map nd0) (nd1 nd) = true) (hw : aLe (gSeg (w.2.1 196) 5) [(0, 100000, 1)] = true)
    (hC : ∀ nd ∈ C, aTok [(59, 59, 1)] nd = true) (hB : ∀ nd ∈ B, aTok [(1, 3, 1)] nd = true) : ∀ nd ∈ C, aNok w c d vs nd := by
  have lp : ∀ (N : Nat) (nd : aNd), nd ∈ C → ∀ g, aNH w c.2.2.2.2.1 c.2.2.2.2.2.1 g.2.2.2 nd g → 100000 - (g.2.2.2.2.1 196 5).toInt < (N : Int) → zEx none d c.1 g (aQ w c vs g.2.2.2) := by
    intro N
    induction N with
    | zero =>
      intro nd hm g hn hlt
      have := aLe_in hw (hn.ok.2.1 196 5)
      have := (aHull_in this).2
      exact absurd hlt (by simp only [aHull] at this; omega)
    | succ N ih =>
      intro nd hm g hn hlt
      refine aSeg_ok (nd := nd1 nd) (ckC nd hm) hlk hcd hd (fun nd' hm' g' hn' _ => ?_) hn
      obtain ⟨nd', hm1, rfl⟩ := List.mem_map.mp hm'
      have hn' : aNH w c.2.2.2.2.1 c.2.2.2.2.2.1 g.2.2.2 nd' g' := hn'
      rcases List.mem_append.mp hm1 with hm' | hm'
      · exact (hA nd' hm').go hn'
      have t0 : (g.2.2.2.2.1 196 6).toInt = 59 := aIn_eq (aTok_in hn (hC nd hm))
      have t1 := aHull_in (aTok_in hn' (hB nd' hm'))
      have mn := hn'.fr.2.2.2.2 hmo
      have hgt : (g.2.2.2.2.1 196 5).toInt < (g'.2.2.2.2.1 196 5).toInt := by
        rcases mn.2 with z | z | z
        · exact z
        · rw [z] at t1
          exact absurd t1.1 (by decide)
        · rw [z, t0] at t1
          exact absurd t1.2 (by decide)
      refine zEx.mono (aSeg_ok (nd := nd1 nd') (h0 := g'.2.2.2) (vs := vs) (ckB nd' hm') hlk hcd hd (fun nd2 hm2 g2 hn2 _ => ?_) hn'.re) (fun v h' hq => ⟨hq.1, hn'.fr.tr hq.2.1 aMdOk_rf aMdLe_rf, hq.2.2⟩)
      obtain ⟨nd2, hm1, rfl⟩ := List.mem_map.mp hm2
      have hn2 : aNH w c.2.2.2.2.1 c.2.2.2.2.2.1 g'.2.2.2 nd2 g2 := hn2
      rcases List.mem_append.mp hm1 with hm2 | hm2
      · exact (hT nd2 hm2).go hn2
      · have m2 := (hn2.fr.2.2.2.2 hmo).1
        refine zEx.mono (ih nd2 hm2 g2 hn2.re (by omega)) (fun v h' hq => ⟨hq.1, hn2.fr.tr hq.2.1 aMdOk_rf aMdLe_rf, hq.2.2⟩)
  intro nd hm g hn
  refine lp (100000 - (g.2.2.2.2.1 196 5).toInt + 1).toNat nd hm g hn ?_
  have := aLe_in hw (hn.ok.2.1 196 5)
  have := (aHull_in this).2
  simp only [aHull] at this
  omega
/-- one segment, to nodes that are done -/
theorem aStep_ok {T : List aNd} {nd : aNd} (hlk : aLkH w c lk) (hcd : aCdH c cd) (hd : c.2.2.2.2.2.2 ≤ d) (hT : ∀ nd ∈ T, aNok w c d vs nd) (hck : aSgk w c lk cd fk fuel (T.map nd0) (nd1 nd) = true) : aNok w c d vs nd := by
  intro g hn
  refine aSeg_ok (nd := nd1 nd) hck hlk hcd hd (fun nd' hm' g' hn' _ => ?_) hn
  obtain ⟨nd', hm1, rfl⟩ := List.mem_map.mp hm'
  exact (hT nd' hm1).go hn'
/-- the entry, to nodes that are done (with fewer changes told) -/
theorem aEntry_ok {md' : aMd} {tg : List aNd} {rk : Int × List (Nat × Int)} (hck : (aRkOk (aEnt c rk) && aRun w c.2.2.2.2.1 c.2.2.2.2.2.1 c.1 c.2.2.2.2.2.2 lk cd tg c.2.2.2.1 fk ((aPvl 0 (aPos 0 c.2.1)).map (fun q => aXp q.2)) rk fuel true (aNs (aEnt c rk))) = true) (hlk : aLkH w c lk) (hcd : aCdH c cd)
    (hmd : aMdOk md' c.2.2.2.2.1 = true) (htg : ∀ d, c.2.2.2.2.2.2 ≤ d → ∀ vs, ∀ nd ∈ tg, aNok w (c.1, c.2.1, c.2.2.1, c.2.2.2.1, md', c.2.2.2.2.2.1, c.2.2.2.2.2.2) d vs nd) : aSpec w c := by
  intro d hd vs h hargs hok hpre
  simp only [Bool.and_eq_true] at hck
  obtain ⟨k1, k2⟩ := hck
  have hn : aNH w c.2.2.2.2.1 c.2.2.2.2.2.1 h (aEnt c rk) (0, zargs 0 vs, [], h) := ⟨rfl, aPos_in hargs, trivial, hpre, hok, rfl, rfl, fun _ _ _ => rfl, fun _ _ _ => rfl, fun _ => hMn.rf⟩
  obtain ⟨r1, r2⟩ := aRkOk_in k1 hn
  obtain ⟨hg, hlen⟩ := aNs_in hn
  have hag : aAgF (aNx (aEnt c rk) (0, zargs 0 vs, [], h)).length (aGd (aNx (aEnt c rk) (0, zargs 0 vs, [], h))) vs ((aPvl 0 (aPos 0 c.2.1)).map (fun q => aXp q.2)) := by
    rw [hlen]
    exact aAg0 (lc := zargs 0 vs) hargs hg.2.1.2.1 (fun j v hj => hj)
  refine aRun_ok (X := aNx (aEnt c rk) (0, zargs 0 vs, [], h)) hlk hcd hd r1 hag (fun nd' hm' g' hn' hlt' => ?_) fuel true (aNs (aEnt c rk)) k2 _ _ hg
  refine zEx.mono (htg d hd vs nd' hm' g' hn'.re) (fun v h' hq => ⟨hq.1, hn'.fr.tr hq.2.1 hmd aMdLe_rf, hq.2.2⟩)
/-- the check, node by node -/
theorem aChkL_ok {nds : List aNd} {rk : Int × List (Nat × Int)} (kE : (aRkOk (aEnt c rk) && aRun w c.2.2.2.2.1 c.2.2.2.2.2.1 c.1 c.2.2.2.2.2.2 lk cd nds c.2.2.2.1 fk ((aPvl 0 (aPos 0 c.2.1)).map (fun q => aXp q.2)) rk fuel true (aNs (aEnt c rk))) = true) (kN : ∀ nd ∈ nds, aSgk w c lk cd fk fuel nds nd = true) (hlk : aLkH w c lk) (hcd : aCdH c cd) : aSpec w c := by
  refine aChk_ok (lk := lk) (cd := cd) (nds := nds) (fk := fk) (rk := rk) (fuel := fuel) ?_ hlk hcd
  simp only [Bool.and_eq_true] at kE
  simp only [aChk, Bool.and_eq_true, List.all_eq_true]
  refine ⟨kE.1, kE.2, fun nd hm => ?_⟩
  have := kN nd hm
  simp only [aSgk, Bool.and_eq_true] at this
  exact this
/-- the entry of a loop of lines -/
theorem aPost_ok {md' : aMd} {T A B C : List aNd} (hlk : aLkH w c lk) (hcd : aCdH c cd) (hw : aLe (gSeg (w.2.1 196) 5) [(0, 100000, 1)] = true) (hmd : (aMono md' && aMdOk md' c.2.2.2.2.1) = true)
    (kT : ∀ nd ∈ T, aSgk w (c.1, c.2.1, c.2.2.1, c.2.2.2.1, md', c.2.2.2.2.2.1, c.2.2.2.2.2.2) lk cd fk fuel (T ++ []) nd = true)
    (kA : ∀ nd ∈ A, aSgk w (c.1, c.2.1, c.2.2.1, c.2.2.2.1, md', c.2.2.2.2.2.1, c.2.2.2.2.2.2) lk cd fk fuel (T.map nd0) (nd1 nd) = true)
    (kB : ∀ nd ∈ B, (aTok [(1, 3, 1)] nd && aSgk w (c.1, c.2.1, c.2.2.1, c.2.2.2.1, md', c.2.2.2.2.2.1, c.2.2.2.2.2.2) lk cd fk fuel ((T ++ C).map nd0) (nd1 nd)) = true)
    (kC : ∀ nd ∈ C, (aTok [(59, 59, 1)] nd && aSgk w (c.1, c.2.1, c.2.2.1, c.2.2.2.1, md', c.2.2.2.2.2.1, c.2.2.2.2.2.2) lk cd fk fuel ((A ++ B).map nd0) (nd1 nd)) = true)
    (kE : (aRkOk (aEnt c (1, [])) && aRun w c.2.2.2.2.1 c.2.2.2.2.2.1 c.1 c.2.2.2.2.2.2 lk cd ((T ++ C).map nd0) c.2.2.2.1 fk ((aPvl 0 (aPos 0 c.2.1)).map (fun q => aXp q.2)) (1, []) fuel true (aNs (aEnt c (1, [])))) = true) : aSpec w c := by
  simp only [Bool.and_eq_true] at hmd kB kC
  refine aEntry_ok (md' := md') kE hlk hcd hmd.2 (fun d hd vs nd hm => ?_)
  obtain ⟨nd, hm1, rfl⟩ := List.mem_map.mp hm
  have hT := aNodes_ok (vs := vs) (ex := []) kT hlk hcd hd (fun nd hm => nomatch hm)
  have hA : ∀ nd ∈ A, aNok w _ d vs nd := fun nd hm => aStep_ok (c := (c.1, c.2.1, c.2.2.1, c.2.2.2.1, md', c.2.2.2.2.2.1, c.2.2.2.2.2.2)) hlk hcd hd hT (kA nd hm)
  have hC := aLoop_ok (c := (c.1, c.2.1, c.2.2.1, c.2.2.2.1, md', c.2.2.2.2.2.1, c.2.2.2.2.2.2)) (vs := vs) hmd.1 hlk hcd hd hT hA (fun nd hm => (kC nd hm).2) (fun nd hm => (kB nd hm).2) hw (fun nd hm => (kC nd hm).1) (fun nd hm => (kB nd hm).1)
  rcases List.mem_append.mp hm1 with hm | hm
  · exact hT nd hm
  · exact hC nd hm
end A18
