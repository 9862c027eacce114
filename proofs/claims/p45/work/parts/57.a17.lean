/-! nodes with differences: one place's number is at most another's and c more -/
abbrev aLo : Type := Nat ⊕ (Nat × Nat)
abbrev aFa : Type := aLo × aLo × Int
def aLoc (A : aS) (l : aLo) : Option aE := match l with
  | .inl k => (match aGet A.2.1 k with
    | some (.inl e) => some e
    | _ => none)
  | .inr q => aTrk A.2.2.2.2.1 q.1 q.2
def cVal (g : zC) (l : aLo) : Int := match l with
  | .inl k => aVal ((zget g.2.1 k).getD (.inl 0))
  | .inr q => (g.2.2.2.2.1 q.1 q.2).toInt
/-- the second is at most the first and c -/
def aFh (g : zC) (x : aFa) : Prop := cVal g x.2.1 ≤ cVal g x.1 + x.2.2
def aLfE (e : aE) : Int × List (Nat × Int) := match e with
  | .inl n => (n, [])
  | .inr (i, o) => (o, [(i, 1)])
abbrev aSf : Type := List (aE × aE × Int)
section A17
variable {w : aWd} {md rm : aMd} {h0 : zH} {f : aLf} {r : List Int} {σ : Nat → Int} {n n' : Nat} {A : aS} {g : zC}
theorem aLoc_in {l : aLo} {e : aE} (hg : aG w md rm h0 f r σ A g) (h : aLoc A l = some e) : aEq A.2.2.2.1.length σ (cVal g l) e := by
  obtain ⟨-, hc, -⟩ := hg
  match l with
  | .inl k =>
    unfold aLoc at h
    dsimp only at h
    split at h
    · next e' ha =>
      cases h
      obtain ⟨v, g1, x, g2, g3⟩ := hc.2.1 _ (aGet_mem ha)
      show aEq _ σ (aVal ((zget g.2.1 k).getD (.inl 0))) e
      have g1 : zget g.2.1 k = some v := g1
      rw [g1, g2]
      exact g3
    · cases h
  | .inr q => exact hc.2.2.1 _ (aTrk_mem h)
theorem aLfE_in {x : Int} {e : aE} (h : aEq n σ x e) : x = (aLfE e).1 + aLv σ (aLfE e).2 := by
  match e, h with
  | .inl c, h =>
    have h : x = c := h
    show x = c + 0
    omega
  | .inr (i, o), h =>
    have := h.2
    show x = o + (1 * σ i + 0)
    omega
/-- what was known at the beginning still is -/
def aSfH (n : Nat) (σ : Nat → Int) (sf : aSf) : Prop := ∀ q ∈ sf, ∃ a b : Int, aEq n σ a q.1 ∧ aEq n σ b q.2.1 ∧ b ≤ a + q.2.2
theorem aSfH.x {σ' : Nat → Int} {sf : aSf} (h : aSfH n σ sf) (hx : aX n n' σ σ') : aSfH n' σ' sf := by
  intro q hq
  obtain ⟨a, b, h1, h2, h3⟩ := h q hq
  exact ⟨a, b, h1.x hx, h2.x hx, h3⟩
/-- is it so, by ranges alone or by one that was known -/
def aDf (ρ : List aI) (ea eb : aE) (c : Int) (s : aE × aE × Int) : Bool := match aLow ρ ((aLfE ea).1 + c - (aLfE eb).1 - ((aLfE s.1).1 + s.2.2 - (aLfE s.2.1).1)) ((aLfE ea).2 ++ (aNeg (aLfE eb).2 ++ (aNeg (aLfE s.1).2 ++ (aLfE s.2.1).2))) with
  | some b => ile 0 b
  | none => false
def aFac (sf : aSf) (A : aS) (x : aFa) : Option aS := match aLoc A x.1, aLoc A x.2.1 with
  | some ea, some eb => if aDf A.2.2.2.1 ea eb x.2.2 (.inl 0, .inl 0, 0) || sf.any (fun s => aDf A.2.2.2.1 ea eb x.2.2 s) then some (match eb with
      | .inr (i, o) => (match A.2.2.2.1[i]? with
        | some B => (A.1, A.2.1, A.2.2.1, A.2.2.2.1.set i (aCutH B ((aHull (aset A.2.2.2.1 ea)).2 + x.2.2 - o)), A.2.2.2.2)
        | none => A)
      | .inl _ => A) else none
  | _, _ => none
theorem aDf_in {ρ : List aI} {ea eb : aE} {c a b : Int} {s : aE × aE × Int} (he : aEnv ρ σ) (ha : aEq ρ.length σ a ea) (hb : aEq ρ.length σ b eb) (hs : ∃ x y : Int, aEq ρ.length σ x s.1 ∧ aEq ρ.length σ y s.2.1 ∧ y ≤ x + s.2.2) (h : aDf ρ ea eb c s = true) : b ≤ a + c := by
  obtain ⟨x, y, h1, h2, h3⟩ := hs
  unfold aDf at h
  split at h
  · next q hq =>
    have e1 := aLow_in he hq
    have e2 := ile_iff.mp h
    rw [aLv_app, aLv_app, aLv_app, aLv_neg, aLv_neg] at e1
    have l1 := aLfE_in ha
    have l2 := aLfE_in hb
    have l3 := aLfE_in h1
    have l4 := aLfE_in h2
    omega
  · cases h
theorem aFac_in {sf : aSf} {A' : aS} {x : aFa} (hg : aG w md rm h0 f r σ A g) (hsf : aSfH A.2.2.2.1.length σ sf) (h : aFac sf A x = some A') : aG w md rm h0 f r σ A' g ∧ aFh g x ∧ A'.2.2.2.1.length = A.2.2.2.1.length := by
  unfold aFac at h
  split at h
  · next ea eb hea heb =>
    split at h
    · next q =>
      have h : _ = A' := Option.some.inj h
      have va := aLoc_in hg hea
      have vb := aLoc_in hg heb
      have hfact : aFh g x := by
        simp only [Bool.or_eq_true, List.any_eq_true] at q
        rcases q with q | ⟨s, hs, q⟩
        · exact aDf_in (s := (.inl 0, .inl 0, 0)) hg.2.1.1 va vb ⟨0, 0, rfl, rfl, by decide⟩ q
        · exact aDf_in hg.2.1.1 va vb (hsf s hs) q
      subst h
      split
      · next i o =>
        split
        · next B hB =>
          have hh := aHull_in (aset_in hg.2.1.1 va)
          have hx : cVal g x.2.1 ≤ cVal g x.1 + x.2.2 := hfact
          have hv := vb.2
          refine ⟨⟨hg.1, hg.2.1.nar (aCutH_in (hg.2.1.1 i B hB) (by omega)), ?_⟩, hfact, List.length_set ..⟩
          show aSt (A.2.2.2.1.set i _).length σ _ _
          rw [List.length_set]
          exact hg.2.2
        · exact ⟨hg, hfact, rfl⟩
      · exact ⟨hg, hfact, rfl⟩
    · cases h
  · cases h
def aFacs (sf : aSf) : aS → List aFa → Option aS
  | A, [] => some A
  | A, x :: t => match aFac sf A x with
    | some B => aFacs sf B t
    | none => none
theorem aFacs_in {sf : aSf} : ∀ {l : List aFa} {A A' : aS}, aG w md rm h0 f r σ A g → aSfH A.2.2.2.1.length σ sf → aFacs sf A l = some A' → aG w md rm h0 f r σ A' g ∧ ∀ x ∈ l, aFh g x
  | [], A, A', hg, _, h => by cases h; exact ⟨hg, fun x hx => (by cases hx)⟩
  | x :: t, A, A', hg, hsf, h => by
    unfold aFacs at h
    split at h
    · next B hB =>
      obtain ⟨h1, h2, h3⟩ := aFac_in hg hsf hB
      obtain ⟨i1, i2⟩ := aFacs_in h1 (by rw [h3]; exact hsf) h
      refine ⟨i1, fun y hy => ?_⟩
      rcases List.mem_cons.mp hy with rfl | hy
      · exact h2
      · exact i2 y hy
    · cases h
/-- a node with its differences is reached -/
def aGoF (w : aWd) (sf : aSf) (rk : Int × List (Nat × Int)) (A : aS) (nd : aNd × List aFa) : Bool := Nat.beq nd.1.1 A.1 && (match aFacs sf A nd.2 with
  | some B => aGoN w rk B nd.1
  | none => false)
def aRunF (w : aWd) (md rm : aMd) (m : zM) (D : Nat) (lk : aLk) (cd : aCd) (nds : List (aNd × List aFa)) (ps : List aPo) (fk : List Nat) (ag : List (Option aE)) (sf : aSf) (rk : Int × List (Nat × Int)) : Nat → Bool → aS → Bool
  | 0, _, _ => false
  | n + 1, fst, A => if !fst && nds.any (fun nd => Nat.beq nd.1.1 A.1) then nds.any (fun nd => aGoF w sf rk A nd)
    else (if fk.any (fun p => Nat.beq p A.1) then aFk A else [A]).all (fun B => match aLook cd B.1 with
      | none => false
      | some (i, len) => (Nat.beq (zilen i) 0 || Nat.beq len (zilen i)) && (if aIsR i then aEnd w m ps ag i B else (match aStp w md rm m D lk i len B with
        | none => false
        | some Bs => Bs.all (fun C => aRunF w md rm m D lk cd nds ps fk ag sf rk n false C))))
theorem aRunF_ok {d D : Nat} {m : zM} {lk : aLk} {cd : aCd} {nds : List (aNd × List aFa)} {ps : List aPo} {fk : List Nat} {ag : List (Option aE)} {sf : aSf} {rk : Int × List (Nat × Int)} {vs : List zV} {X : List Int}
    (hlk : ∀ q ∈ lk, zmth m.2.1 q.1 = some (q.2.1, q.2.2.1, q.2.2.2.1) ∧ aSpec w q.2.2.2) (hcd : ∀ q ∈ cd, decode m.1 q.1 = .ok (q.2.1, q.2.2)) (hDd : D ≤ d) (hr : ∀ q ∈ rk.2, q.1 < X.length) (hag : aAgF X.length (aGd X) vs ag) (hsf : aSfH X.length (aGd X) sf)
    (hnd : ∀ nd ∈ nds, ∀ g, aNH w md rm h0 nd.1 g → (∀ x ∈ nd.2, aFh g x) → aRank nd.1 g < rk.1 + aLv (aGd X) rk.2 → zEx none d m g (fun v h' => hOK w h' ∧ hFr md rm h0 h' ∧ ∃ p ∈ ps, aPst vs v h' p)) :
    ∀ (n : Nat) (fst : Bool) (A : aS), aRunF w md rm m D lk cd nds ps fk ag sf rk n fst A = true → aOK w md rm h0 (aFI 0 X.length) X none d m (fun v h' => hOK w h' ∧ hFr md rm h0 h' ∧ ∃ p ∈ ps, aPst vs v h' p) A := by
  intro n
  induction n with
  | zero => intro fst A h; cases h
  | succ n ih =>
    intro fst A h
    unfold aRunF at h
    split at h
    · obtain ⟨nd, hm, hgo⟩ := List.any_eq_true.mp h
      intro σ g hg
      simp only [aGoF, Bool.and_eq_true] at hgo
      have hgo := hgo.2
      split at hgo
      · next B hB =>
        obtain ⟨f1, f2⟩ := aFacs_in hg (hsf.x (aFI_x hg.2.1.2.2.2.2.2.2)) hB
        obtain ⟨g1, g2⟩ := aGoN_in f1 hr hgo
        exact hnd nd hm g g1 f2 g2
      · cases hgo
    · have key : ∀ B, (match aLook cd B.1 with
          | none => false
          | some (i, len) => (Nat.beq (zilen i) 0 || Nat.beq len (zilen i)) && (if aIsR i then aEnd w m ps ag i B else (match aStp w md rm m D lk i len B with
            | none => false
            | some Bs => Bs.all (fun C => aRunF w md rm m D lk cd nds ps fk ag sf rk n false C)))) = true → aOK w md rm h0 (aFI 0 X.length) X none d m (fun v h' => hOK w h' ∧ hFr md rm h0 h' ∧ ∃ p ∈ ps, aPst vs v h' p) B := by
        intro B hB
        split at hB
        · cases hB
        · next i len hlo =>
          simp only [Bool.and_eq_true, Bool.or_eq_true, Nat.beq_eq] at hB
          have hdec := hcd _ (aLook_mem hlo)
          dsimp only at hdec
          split at hB
          · exact aEnd_ok hB.2 (fun n σ hq => hag.x (aFI_x hq)) hdec hB.1
          · obtain ⟨hl, hB⟩ := hB
            split at hB
            · cases hB
            · next Bs hs => exact aStp_ok hs (fun C hC => ih false C (List.all_eq_true.mp hB C hC)) hlk hDd hdec hl
      split at h
      · exact aFk_ok (fun B hB => key B (List.all_eq_true.mp h B hB))
      · exact key A (List.all_eq_true.mp h A List.mem_cons_self)
/-- a node's differences, in its own names -/
def aSf0 (nd : aNd × List aFa) : aSf := nd.2.filterMap (fun x => match aLoc (aNs nd.1) x.1, aLoc (aNs nd.1) x.2.1 with
  | some a, some b => some (a, b, x.2.2)
  | _, _ => none)
theorem aSf0_in {nd : aNd × List aFa} (hn : aNH w md rm h0 nd.1 g) (hx : ∀ x ∈ nd.2, aFh g x) : aSfH (aNx nd.1 g).length (aGd (aNx nd.1 g)) (aSf0 nd) := by
  obtain ⟨hg, hl⟩ := aNs_in hn
  intro q hq
  obtain ⟨x, hm, hq⟩ := List.mem_filterMap.mp hq
  split at hq
  · next a b ha hb =>
    cases hq
    have va := aLoc_in hg ha
    have vb := aLoc_in hg hb
    have e : (aNs nd.1).2.2.2.1.length = (aNx nd.1 g).length := hl.symm
    rw [e] at va vb
    exact ⟨_, _, va, vb, hx x hm⟩
  · cases hq
def aChkF (w : aWd) (c : aCt) (lk : aLk) (cd : aCd) (nds : List (aNd × List aFa)) (fk : List Nat) (rk : Int × List (Nat × Int)) (fuel : Nat) : Bool :=
  aRkOk (aEnt c rk) && (aRunF w c.2.2.2.2.1 c.2.2.2.2.2.1 c.1 c.2.2.2.2.2.2 lk cd nds c.2.2.2.1 fk ((aPvl 0 (aPos 0 c.2.1)).map (fun q => aXp q.2)) [] rk fuel true (aNs (aEnt c rk))
    && nds.all (fun nd => aRkOk nd.1 && aRunF w c.2.2.2.2.1 c.2.2.2.2.2.1 c.1 c.2.2.2.2.2.2 lk cd nds c.2.2.2.1 fk [] (aSf0 nd) nd.1.2.2.2.2.2 fuel true (aNs nd.1)))
/-- the check with differences is sound -/
theorem aChkF_ok {c : aCt} {lk : aLk} {cd : aCd} {nds : List (aNd × List aFa)} {fk : List Nat} {rk : Int × List (Nat × Int)} {fuel : Nat} (hck : aChkF w c lk cd nds fk rk fuel = true) (hlk : ∀ q ∈ lk, zmth c.1.2.1 q.1 = some (q.2.1, q.2.2.1, q.2.2.2.1) ∧ aSpec w q.2.2.2) (hcd : ∀ q ∈ cd, decode c.1.1 q.1 = .ok (q.2.1, q.2.2)) : aSpec w c := by
  intro d hd vs h hargs hok hpre
  simp only [aChkF, Bool.and_eq_true, List.all_eq_true] at hck
  obtain ⟨k1, k2, k3⟩ := hck
  have nodes : ∀ (N : Nat) (nd : aNd × List aFa), nd ∈ nds → ∀ g, aNH w c.2.2.2.2.1 c.2.2.2.2.2.1 h nd.1 g → (∀ x ∈ nd.2, aFh g x) → aRank nd.1 g < (N : Int) → zEx none d c.1 g (fun v h' => hOK w h' ∧ hFr c.2.2.2.2.1 c.2.2.2.2.2.1 h h' ∧ ∃ p ∈ c.2.2.2.1, aPst vs v h' p) := by
    intro N
    induction N with
    | zero =>
      intro nd hm g hn _ hlt
      have := (aRkOk_in (k3 nd hm).1 hn).2
      exact absurd hlt (by omega)
    | succ N ih =>
      intro nd hm g hn hx hlt
      obtain ⟨r1, r2⟩ := aRkOk_in (k3 nd hm).1 hn
      obtain ⟨hg, -⟩ := aNs_in hn
      refine aRunF_ok (X := aNx nd.1 g) hlk hcd hd r1 (by cases vs <;> trivial) (aSf0_in hn hx) (fun nd' hm' g' hn' hx' hlt' => ih nd' hm' g' hn' hx' ?_) fuel true (aNs nd.1) (k3 nd hm).2 _ g hg
      have : aRank nd.1 g = nd.1.2.2.2.2.2.1 + aLv (aGd (aNx nd.1 g)) nd.1.2.2.2.2.2.2 := rfl
      omega
  have hn : aNH w c.2.2.2.2.1 c.2.2.2.2.2.1 h (aEnt c rk) (0, zargs 0 vs, [], h) := ⟨rfl, aPos_in hargs, trivial, hpre, hok, rfl, rfl, fun _ _ _ => rfl, fun _ _ _ => rfl, fun _ => hMn.rf⟩
  obtain ⟨r1, r2⟩ := aRkOk_in k1 hn
  obtain ⟨hg, hlen⟩ := aNs_in hn
  have hag : aAgF (aNx (aEnt c rk) (0, zargs 0 vs, [], h)).length (aGd (aNx (aEnt c rk) (0, zargs 0 vs, [], h))) vs ((aPvl 0 (aPos 0 c.2.1)).map (fun q => aXp q.2)) := by
    rw [hlen]
    exact aAg0 (lc := zargs 0 vs) hargs hg.2.1.2.1 (fun j v hj => hj)
  exact aRunF_ok (X := aNx (aEnt c rk) (0, zargs 0 vs, [], h)) hlk hcd hd r1 hag (fun q hq => (by cases hq)) (fun nd' hm' g' hn' hx' hlt' => nodes (aRank nd'.1 g' + 1).toNat nd' hm' g' hn' hx' (by have := (aRkOk_in (k3 nd' hm').1 hn').2; omega)) fuel true (aNs (aEnt c rk)) k2 _ _ hg
end A17
