/-! where a node begins, how one is reached, ends -/
def aFI : Nat → Nat → aLf
  | _, 0 => []
  | s, k + 1 => (0, [(s, 1)]) :: aFI (s + 1) k
theorem aFI_mk {n : Nat} {σ : Nat → Int} : ∀ {X : List Int} {s : Nat}, (∀ j : Nat, j < X.length → s + j < n ∧ some (σ (s + j)) = X[j]?) → aLq n σ (aFI s X.length) X
  | [], s, _ => trivial
  | x :: X, s, h => by
    have h0 := h 0 (by simp)
    have e0 : σ s = x := by simpa using h0.2
    refine ⟨⟨fun q hq => ?_, ?_⟩, aFI_mk (X := X) (s := s + 1) (fun j hj => ?_)⟩
    · have : q = (s, 1) := by simpa using hq
      rw [this]
      exact h0.1
    · show (0 : Int) + (1 * σ s + 0) = x
      omega
    · have := h (j + 1) (by simp; omega)
      have e : s + 1 + j = s + (j + 1) := by omega
      rw [e]
      exact ⟨this.1, by rw [this.2]; simp⟩
theorem aFI_at {n : Nat} {σ : Nat → Int} : ∀ {X : List Int} {s : Nat}, aLq n σ (aFI s X.length) X → ∀ j : Nat, j < X.length → s + j < n ∧ some (σ (s + j)) = X[j]?
  | [], s, _, j, hj => by simp at hj
  | x :: X, s, h, j, hj => by
    obtain ⟨⟨h1, h2⟩, h3⟩ := h
    cases j with
    | zero =>
      have e : (0 : Int) + (1 * σ s + 0) = x := h2
      refine ⟨h1 (s, 1) List.mem_cons_self, ?_⟩
      show some (σ s) = some x
      congr 1
      omega
    | succ j =>
      have := aFI_at h3 j (by simpa using hj)
      have e : s + 1 + j = s + (j + 1) := by omega
      rw [e] at this
      exact ⟨this.1, by rw [this.2]; simp⟩
theorem aFI_x {n : Nat} {σ : Nat → Int} {X : List Int} (h : aLq n σ (aFI 0 X.length) X) : aX X.length n (aGd X) σ := by
  have ha := aFI_at h
  refine ⟨?_, fun i hi => ?_⟩
  · rcases Nat.eq_zero_or_pos X.length with e | e
    · omega
    · have := (ha (X.length - 1) (by omega)).1
      omega
  · have := (ha i hi).2
    rw [Nat.zero_add] at this
    unfold aGd
    rw [List.getD_eq_getElem?_getD, ← this]
    rfl
section A15
variable {w : aWd} {md rm : aMd} {h0 : zH}
theorem aNs_in {nd : aNd} {g : zC} (hn : aNH w md rm h0 nd g) : aG w md rm h0 (aFI 0 (aNx nd g).length) (aNx nd g) (aGd (aNx nd g)) (aNs nd) g ∧ (aNx nd g).length = (aNr nd).length := by
  obtain ⟨h1, h2, h3, ⟨h4, h5⟩, h6, h7⟩ := hn
  obtain ⟨pc, lc, sc, h⟩ := g
  obtain ⟨np, nl, ns, nt, nr, nk⟩ := nd
  dsimp only at h1 h2 h3 h4 h5 h6 h7
  subst h1
  generalize hX : aNx (np, nl, ns, nt, nr, nk) (np, lc, sc, h) = X
  have hX1 : X = [] ++ (nl.flatMap (fun q => aPx ((zget lc q.1).getD (.inl 0)) q.2) ++ ((sc.zip ns).flatMap (fun q => aPx q.1 q.2) ++ nt.flatMap (fun q => aPx (.inl (h.2.1 q.1.1 q.1.2)) (.inl q.2)))) := hX.symm
  have hN : (aNr (np, nl, ns, nt, nr, nk)).length = (nl.flatMap (fun q => aPr q.2)).length + ((ns.flatMap aPr).length + (nt.flatMap (fun q => aPr (.inl q.2))).length) := by
    show (nl.flatMap (fun q => aPr q.2) ++ (ns.flatMap aPr ++ nt.flatMap (fun q => aPr (.inl q.2)))).length = _
    rw [List.length_append, List.length_append]
  obtain ⟨l1, l2⟩ := aPvl_in (X := X) (lc := lc) (N := (aNr (np, nl, ns, nt, nr, nk)).length) (l := nl) (A := []) h2 hX1 (by rw [hN]; simp)
  have k1 := aPw_len l2
  obtain ⟨s1, s2⟩ := aPvs_in (X := X) (N := (aNr (np, nl, ns, nt, nr, nk)).length) (A := nl.flatMap (fun q => aPx ((zget lc q.1).getD (.inl 0)) q.2)) (C := nt.flatMap (fun q => aPx (.inl (h.2.1 q.1.1 q.1.2)) (.inl q.2))) h3 (by rw [hX1]; simp) (by rw [hN, k1]; omega)
  have k2 := aPw_len s2
  obtain ⟨t1, t2⟩ := aPvt_in (X := X) (h := h) (N := (aNr (np, nl, ns, nt, nr, nk)).length) (l := nt) (A := nl.flatMap (fun q => aPx ((zget lc q.1).getD (.inl 0)) q.2) ++ (sc.zip ns).flatMap (fun q => aPx q.1 q.2)) (C := []) h4 (by rw [hX1]; simp) (by rw [hN, List.length_append, k1, k2]; omega)
  rw [List.length_append, k1, k2] at t1
  rw [k1] at s1
  have hpw : aPw X (aNr (np, nl, ns, nt, nr, nk)) := by
    rw [hX1, List.nil_append]
    exact aPw_app l2 (aPw_app s2 t2)
  have hlen := aPw_len hpw
  refine ⟨⟨rfl, ⟨aPw_env hpw, l1, t1, h5, h6, h7, ?_⟩, s1⟩, hlen⟩
  refine aFI_mk (fun j hj => ⟨?_, ?_⟩)
  · rw [Nat.zero_add]
    show j < (aNr (np, nl, ns, nt, nr, nk)).length
    omega
  · rw [Nat.zero_add]
    unfold aGd
    rw [List.getD_eq_getElem?_getD, List.getElem?_eq_getElem hj]
    rfl
/-- expressions beside the names of a node -/
def aPe (a : aV) (p : aAg) : List (Option aE) := if aPn p then (match a with
  | .inl e => [some e]
  | _ => [none]) else []
def aArL (ρ : List aI) (ls : aL) : List (Nat × aAg) → Option (List (Option aE))
  | [] => some []
  | q :: t => match aGet ls q.1 with
    | some a => if aMt1 ρ a q.2 then (match aArL ρ ls t with
      | some E => some (aPe a q.2 ++ E)
      | none => none) else none
    | none => none
def aArS (ρ : List aI) : List aV → List aAg → Option (List (Option aE))
  | [], [] => some []
  | a :: as, p :: ps => if aMt1 ρ a p then (match aArS ρ as ps with
    | some E => some (aPe a p ++ E)
    | none => none) else none
  | _, _ => none
def aArT (tr : aT) : List ((Nat × Nat) × aI) → List (Option aE)
  | [] => []
  | q :: t => (if aPn (.inl q.2) then [aTrk tr q.1.1 q.1.2] else []) ++ aArT tr t
def aArr (w : aWd) (A : aS) (nd : aNd) : Option (List (Option aE)) := if Nat.beq nd.1 A.1 && aMp w A.2.2.2.1 A.2.2.2.2.1 A.2.2.2.2.2 (nd.2.2.2.1, nd.2.2.2.2.1) then (match aArL A.2.2.2.1 A.2.1 nd.2.1, aArS A.2.2.2.1 A.2.2.1 nd.2.2.1 with
  | some E, some F => some (E ++ (F ++ aArT A.2.2.2.2.1 nd.2.2.2.1))
  | _, _ => none) else none
def aExR (n : Nat) (σ : Nat → Int) : List Int → List (Option aE) → Prop
  | [], [] => True
  | x :: xs, o :: os => (∀ e, o = some e → aEq n σ x e) ∧ aExR n σ xs os
  | _, _ => False
theorem aExR_app {n : Nat} {σ : Nat → Int} : ∀ {xs ys : List Int} {E F : List (Option aE)}, aExR n σ xs E → aExR n σ ys F → aExR n σ (xs ++ ys) (E ++ F)
  | [], ys, [], F, _, h => h
  | x :: xs, ys, o :: E, F, h1, h2 => ⟨h1.1, aExR_app h1.2 h2⟩
  | [], _, _ :: _, _, h, _ => h.elim
  | _ :: _, _, [], _, h, _ => h.elim
theorem aPe_in {n : Nat} {σ : Nat → Int} {v : zV} {a : aV} {p : aAg} (hv : aVR n σ v a) : aExR n σ (aPx v p) (aPe a p) := by
  unfold aPx aPe
  split
  · match a, hv with
    | .inl e, ⟨x, h1, h2⟩ => subst h1; exact ⟨fun e' he => by cases he; exact h2, trivial⟩
    | .inr (.inl as), _ => exact ⟨fun e' he => (by cases he), trivial⟩
    | .inr (.inr u), _ => exact ⟨fun e' he => (by cases he), trivial⟩
  · trivial
variable {σ : Nat → Int} {f : aLf} {r : List Int} {ls : aL} {ρ : List aI} {tr : aT} {rr : aU} {lc : zL} {h : zH}
theorem aArL_in (he : aEnv ρ σ) (hl : ∀ q ∈ ls, ∃ v, zget lc q.1 = some v ∧ aVR ρ.length σ v q.2) : ∀ {l : List (Nat × aAg)} {E : List (Option aE)}, aArL ρ ls l = some E → (∀ q ∈ l, ∃ v, zget lc q.1 = some v ∧ aAgR v q.2) ∧ aExR ρ.length σ (l.flatMap (fun q => aPx ((zget lc q.1).getD (.inl 0)) q.2)) E
  | [], E, h => by cases h; exact ⟨fun q hq => (by cases hq), trivial⟩
  | q :: t, E, h => by
    unfold aArL at h
    split at h
    · next a ha =>
      split at h
      · next hm =>
        split at h
        · next F hF =>
          cases h
          obtain ⟨v, e1, e2⟩ := hl _ (aGet_mem ha)
          obtain ⟨i1, i2⟩ := aArL_in he hl hF
          refine ⟨fun p hp => ?_, ?_⟩
          · rcases List.mem_cons.mp hp with rfl | hp
            · exact ⟨v, e1, aMt1_in he e2 hm⟩
            · exact i1 p hp
          · rw [List.flatMap_cons]
            have e3 : (zget lc q.1).getD (.inl 0) = v := by
              have e1 : zget lc q.1 = some v := e1
              rw [e1]; rfl
            rw [e3]
            exact aExR_app (aPe_in e2) i2
        · cases h
      · cases h
    · cases h
theorem aArS_in (he : aEnv ρ σ) : ∀ {vs : List zV} {as : List aV} {ps : List aAg} {E : List (Option aE)}, aSt ρ.length σ vs as → aArS ρ as ps = some E → aArgs vs ps ∧ aExR ρ.length σ ((vs.zip ps).flatMap (fun q => aPx q.1 q.2)) E
  | [], [], [], E, _, h => by cases h; exact ⟨trivial, trivial⟩
  | v :: vs, a :: as, p :: ps, E, hs, h => by
    unfold aArS at h
    split at h
    · next hm =>
      split at h
      · next F hF =>
        cases h
        obtain ⟨i1, i2⟩ := aArS_in he hs.2 hF
        refine ⟨⟨aMt1_in he hs.1 hm, i1⟩, ?_⟩
        rw [List.zip_cons_cons, List.flatMap_cons]
        exact aExR_app (aPe_in hs.1) i2
      · cases h
    · cases h
  | [], _ :: _, _, _, hs, _ => hs.elim
  | _ :: _, [], _, _, hs, _ => hs.elim
  | [], [], _ :: _, _, _, h => by cases h
  | _ :: _, _ :: _, [], _, _, h => by cases h
theorem aArT_in (ht : ∀ q ∈ tr, aEq ρ.length σ (h.2.1 q.1.1 q.1.2).toInt q.2) : ∀ {l : List ((Nat × Nat) × aI)}, aExR ρ.length σ (l.flatMap (fun q => aPx (.inl (h.2.1 q.1.1 q.1.2)) (.inl q.2))) (aArT tr l)
  | [] => trivial
  | q :: t => by
    rw [List.flatMap_cons]
    refine aExR_app ?_ (aArT_in ht)
    unfold aPx
    split
    · exact ⟨fun e he => ht _ (aTrk_mem he), trivial⟩
    · trivial
theorem aArr_in {A : aS} {nd : aNd} {g : zC} {E : List (Option aE)} (hg : aG w md rm h0 f r σ A g) (ha : aArr w A nd = some E) : aNH w md rm h0 nd g ∧ aExR A.2.2.2.1.length σ (aNx nd g) E := by
  obtain ⟨pc, ls, st, ρ, tr, rr⟩ := A
  obtain ⟨pc', lc, sc, h⟩ := g
  obtain ⟨e1, hc, hs⟩ := hg
  dsimp only at e1 hc hs
  unfold aArr at ha
  split at ha
  · next q =>
    simp only [Bool.and_eq_true, Nat.beq_eq] at q
    split at ha
    · next F G hF hG =>
      cases ha
      obtain ⟨l1, l2⟩ := aArL_in hc.1 hc.2.1 hF
      obtain ⟨s1, s2⟩ := aArS_in hc.1 hs hG
      exact ⟨⟨q.1.trans e1, l1, s1, aMp_in hc q.2, hc.2.2.2.2.1, hc.2.2.2.2.2.1⟩, aExR_app l2 (aExR_app s2 (aArT_in hc.2.2.1))⟩
    · cases ha
  · cases ha
/-- a sum over a node's names, in the names of the state that reaches it -/
def aSb (E : List (Option aE)) : List (Nat × Int) → Option (Int × List (Nat × Int))
  | [] => some (0, [])
  | q :: t => match aSb E t with
    | none => none
    | some p => (match E[q.1]? with
      | some (some (.inl n)) => some (p.1 + q.2 * n, p.2)
      | some (some (.inr (i, o))) => some (p.1 + q.2 * o, (i, q.2) :: p.2)
      | _ => none)
theorem aExR_at {n : Nat} : ∀ {xs : List Int} {E : List (Option aE)} {i : Nat} {e : aE}, aExR n σ xs E → E[i]? = some (some e) → aEq n σ (aGd xs i) e
  | [], [], i, e, _, hi => by cases hi
  | x :: xs, o :: os, i, e, h, hi => by
    cases i with
    | zero => cases hi; exact h.1 e rfl
    | succ i =>
      have e2 : aGd (x :: xs) (i + 1) = aGd xs i := by simp [aGd]
      rw [e2]
      exact aExR_at h.2 (by simpa using hi)
  | [], _ :: _, _, _, h, _ => h.elim
  | _ :: _, [], _, _, h, _ => h.elim
theorem aSb_in {n : Nat} {xs : List Int} {E : List (Option aE)} (hx : aExR n σ xs E) : ∀ {l : List (Nat × Int)} {p : Int × List (Nat × Int)}, aSb E l = some p → aLv (aGd xs) l = p.1 + aLv σ p.2
  | [], p, h => by cases h; rfl
  | q :: t, p, h => by
    unfold aSb at h
    split at h
    · cases h
    · next p' hp =>
      have ih := aSb_in hx hp
      show q.2 * aGd xs q.1 + aLv (aGd xs) t = _
      split at h
      · next k he =>
        cases h
        have := aExR_at hx he
        have e : aGd xs q.1 = k := this
        rw [ih, e]
        show q.2 * k + (p'.1 + aLv σ p'.2) = p'.1 + q.2 * k + aLv σ p'.2
        omega
      · next i o he =>
        cases h
        have e := (aExR_at hx he).2
        rw [ih, e, Int.mul_add]
        show q.2 * σ i + q.2 * o + (p'.1 + aLv σ p'.2) = p'.1 + q.2 * o + (q.2 * σ i + aLv σ p'.2)
        omega
      · cases h
def aNeg (l : List (Nat × Int)) : List (Nat × Int) := l.map (fun q => (q.1, -q.2))
theorem aLv_neg : ∀ {l : List (Nat × Int)}, aLv σ (aNeg l) = - aLv σ l
  | [] => rfl
  | q :: t => by
    show -q.2 * σ q.1 + aLv σ (aNeg t) = -(q.2 * σ q.1 + aLv σ t)
    rw [aLv_neg, Int.neg_mul]
    omega
theorem aLv_app : ∀ {l k : List (Nat × Int)}, aLv σ (l ++ k) = aLv σ l + aLv σ k
  | [], k => by show aLv σ k = 0 + aLv σ k; omega
  | q :: t, k => by
    show q.2 * σ q.1 + aLv σ (t ++ k) = q.2 * σ q.1 + aLv σ t + aLv σ k
    rw [aLv_app]
    omega
/-- a node is reached with a lower rank -/
def aGoN (w : aWd) (rk : Int × List (Nat × Int)) (A : aS) (nd : aNd) : Bool := match aArr w A nd with
  | some E => (match aSb E nd.2.2.2.2.2.2 with
    | some p => (match aLow A.2.2.2.1 (rk.1 - nd.2.2.2.2.2.1 - p.1) (rk.2 ++ aNeg p.2) with
      | some b => ile 1 b
      | none => false)
    | none => false)
  | none => false
def aRank (nd : aNd) (g : zC) : Int := nd.2.2.2.2.2.1 + aLv (aGd (aNx nd g)) nd.2.2.2.2.2.2
theorem aGoN_in {A : aS} {nd : aNd} {g : zC} {rk : Int × List (Nat × Int)} {X : List Int} (hg : aG w md rm h0 (aFI 0 X.length) X σ A g) (hr : ∀ q ∈ rk.2, q.1 < X.length) (ha : aGoN w rk A nd = true) : aNH w md rm h0 nd g ∧ aRank nd g < rk.1 + aLv (aGd X) rk.2 := by
  unfold aGoN at ha
  split at ha
  · next E hE =>
    obtain ⟨n1, n2⟩ := aArr_in hg hE
    split at ha
    · next p hp =>
      split at ha
      · next b hb =>
        have hx := aFI_x hg.2.1.2.2.2.2.2.2
        have e1 := aSb_in n2 hp
        have e2 := aLow_in hg.2.1.1 hb
        have e3 := ile_iff.mp ha
        rw [aLv_app, aLv_neg, aLv_x hr hx] at e2
        refine ⟨n1, ?_⟩
        unfold aRank
        rw [e1]
        omega
      · cases ha
    · cases ha
  · cases ha
end A15
