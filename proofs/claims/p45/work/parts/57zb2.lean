/-! slots -/
noncomputable def bTrk (t : aT) (a k : Nat) : Option aE := @List.rec ((Nat × Nat) × aE) (fun _ => Option aE) none (fun q _ ih => (@Bool.rec (fun _ => Option aE) (ih) ((@Bool.rec (fun _ => Option aE) (ih) (some q.2) (Nat.beq q.1.1 a))) (Nat.beq q.1.2 k))) t
theorem bTrk_eq (t : aT) (a k : Nat) : bTrk t a k = aTrk t a k := by
  induction t with
  | nil => rfl
  | cons q t ih =>
    show (@Bool.rec (fun _ => Option aE) (bTrk t a k) ((@Bool.rec (fun _ => Option aE) (bTrk t a k) (some q.2) (Nat.beq q.1.1 a))) (Nat.beq q.1.2 k)) = if Nat.beq q.1.1 a && Nat.beq q.1.2 k then some q.2 else aTrk t a k
    rw [ih]
    cases Nat.beq q.1.1 a <;> cases Nat.beq q.1.2 k <;> rfl
noncomputable def bTrr (t : aU) (a k : Nat) : Option Nat := @List.rec ((Nat × Nat) × Nat) (fun _ => Option Nat) none (fun q _ ih => (@Bool.rec (fun _ => Option Nat) (ih) ((@Bool.rec (fun _ => Option Nat) (ih) (some q.2) (Nat.beq q.1.1 a))) (Nat.beq q.1.2 k))) t
theorem bTrr_eq (t : aU) (a k : Nat) : bTrr t a k = aTrr t a k := by
  induction t with
  | nil => rfl
  | cons q t ih =>
    show (@Bool.rec (fun _ => Option Nat) (bTrr t a k) ((@Bool.rec (fun _ => Option Nat) (bTrr t a k) (some q.2) (Nat.beq q.1.1 a))) (Nat.beq q.1.2 k)) = if Nat.beq q.1.1 a && Nat.beq q.1.2 k then some q.2 else aTrr t a k
    rw [ih]
    cases Nat.beq q.1.1 a <;> cases Nat.beq q.1.2 k <;> rfl
/-- a world by tables: shapes, ranges (as lists, slot by slot), references, implications by what they give, by what they speak of -/
abbrev bWd : Type := (Nat → Option (Nat × Nat)) × (Nat → List (Nat × aI)) × (Nat → Nat → aI) × (Nat → Nat → Option Nat) × (Nat → Nat → List aM) × (Nat → Nat → List aM)
def bMn (a k : Nat) (i : aM) : Bool := (Nat.beq i.2.1.1 a && Nat.beq i.2.1.2 k) || i.1.any (fun c => Nat.beq c.1.1 a && Nat.beq c.1.2 k)
def bWok (w : aWd) (x : bWd) : Prop := (∀ a, x.1 a = w.1 a) ∧ (∀ a, x.2.1 a = w.2.1 a) ∧ (∀ a k, x.2.2.1 a k = gSeg (w.2.1 a) k) ∧ (∀ a k, x.2.2.2.1 a k = w.2.2.1 a k) ∧ (∀ a k, x.2.2.2.2.1 a k = w.2.2.2.filter (fun i => Nat.beq i.2.1.1 a && Nat.beq i.2.1.2 k)) ∧ ∀ a k, x.2.2.2.2.2 a k = w.2.2.2.filter (bMn a k)
theorem find_fil {α : Type} (l : List α) (p q : α → Bool) : (l.filter p).find? q = l.find? (fun a => p a && q a) := by
  induction l with
  | nil => rfl
  | cons a t ih =>
    rw [List.filter_cons, List.find?_cons]
    cases p a with
    | false => exact ih
    | true =>
      rw [if_pos rfl, List.find?_cons, ih]
      rfl
section BS
variable {w : aWd} {x : bWd}
noncomputable def bRd0 (x : bWd) (ρ : List aI) (tr : aT) (a k : Nat) : aI := @Option.rec aE (fun _ => aI) (x.2.2.1 a k) (fun e => bset ρ e) (bTrk tr a k)
theorem bRd0_eq (hx : bWok w x) (ρ : List aI) (tr : aT) (a k : Nat) : bRd0 x ρ tr a k = aRd0 w ρ tr a k := by
  unfold bRd0 aRd0
  rw [bTrk_eq, hx.2.2.1]
  cases aTrk tr a k with
  | none => rfl
  | some e => exact bset_eq ρ e
noncomputable def bRd (x : bWd) (ρ : List aI) (tr : aT) (a k : Nat) : aI := @Option.rec aE (fun _ => aI) (@Option.rec aM (fun _ => aI) (x.2.2.1 a k) (fun i => i.2.2) (bFind (x.2.2.2.2.1 a k) (fun i => bAll i.1 (fun c => bLe (bRd0 x ρ tr c.1.1 c.1.2) c.2)))) (fun e => bset ρ e) (bTrk tr a k)
theorem bRd_eq (hx : bWok w x) (ρ : List aI) (tr : aT) (a k : Nat) : bRd x ρ tr a k = aRd w ρ tr a k := by
  unfold bRd aRd
  rw [bTrk_eq, hx.2.2.1, hx.2.2.2.2.1, bFind_eq, find_fil]
  simp only [bAll_eq, bLe_eq, bRd0_eq hx, Bool.and_assoc]
  cases aTrk tr a k with
  | some e => exact bset_eq ρ e
  | none =>
    dsimp only
    cases w.2.2.2.find? (fun i => Nat.beq i.2.1.1 a && (Nat.beq i.2.1.2 k && i.1.all (fun c => aLe (aRd0 w ρ tr c.1.1 c.1.2) c.2))) <;> rfl
noncomputable def bRf (x : bWd) (rr : aU) (a k : Nat) : Option Nat := @Option.rec Nat (fun _ => Option Nat) (x.2.2.2.1 a k) (fun b => some b) (bTrr rr a k)
theorem bRf_eq (hx : bWok w x) (rr : aU) (a k : Nat) : bRf x rr a k = aRf w rr a k := by
  unfold bRf aRf
  rw [bTrr_eq, hx.2.2.2.1]
  cases aTrr rr a k <;> rfl
noncomputable def bDis (A B : aI) : Bool := bAll A (fun p => bAll B (fun q => (@Bool.rec (fun _ => Bool) (bile (badd q.2.1 1) p.1) true (bile (badd p.2.1 1) q.1))))
theorem bDis_eq (A B : aI) : bDis A B = aDis A B := by
  unfold bDis aDis
  simp only [bAll_eq, bile_eq, badd_eq, ← or_b]
noncomputable def bHit (as : List Nat) (lo hi : Int) (s : Nat × Nat) : Bool := (@Bool.rec (fun _ => Bool) false ((@Bool.rec (fun _ => Bool) false (bile (.ofNat s.2) hi) (bile lo (.ofNat s.2)))) (bAny as (fun a => Nat.beq a s.1)))
theorem bHit_eq (as : List Nat) (lo hi : Int) (s : Nat × Nat) : bHit as lo hi s = aHit as lo hi s := by
  unfold bHit aHit
  rw [bAny_eq, bile_eq, bile_eq, and_b, and_b]
  rfl
noncomputable def bImpOk (x : bWd) (ρ : List aI) (tr tr' : aT) (as : List Nat) (lo hi : Int) (i : aM) : Bool :=
  (@Bool.rec (fun _ => Bool) ((@Bool.rec (fun _ => Bool) ((@Bool.rec (fun _ => Bool) ((@Bool.rec (fun _ => Bool) false (bAll i.1 (fun c => (@Bool.rec (fun _ => Bool) (bLe (bRd0 x ρ tr c.1.1 c.1.2) c.2) true ((@Bool.rec (fun _ => Bool) true false (bHit as lo hi c.1)))))) ((@Bool.rec (fun _ => Bool) true false (bHit as lo hi i.2.1))))) true (bLe (bRd0 x ρ tr' i.2.1.1 i.2.1.2) i.2.2))) true (bAny i.1 (fun c => bDis (bRd0 x ρ tr' c.1.1 c.1.2) c.2)))) true ((@Bool.rec (fun _ => Bool) false (bAll i.1 (fun c => (@Bool.rec (fun _ => Bool) true false (bHit as lo hi c.1)))) ((@Bool.rec (fun _ => Bool) true false (bHit as lo hi i.2.1))))))
theorem bImpOk_eq (hx : bWok w x) (ρ : List aI) (tr tr' : aT) (as : List Nat) (lo hi : Int) (i : aM) : bImpOk x ρ tr tr' as lo hi i = aImpOk w ρ tr tr' as lo hi i := by
  unfold bImpOk aImpOk
  simp only [bHit_eq, bAll_eq, bAny_eq, bDis_eq, bLe_eq, bRd0_eq hx, ← not_b, ← or_b, ← and_b]
/-- the one place that is written, if it is one -/
noncomputable def bPt (as : List Nat) (I : aI) : Option (Nat × Nat) := @List.rec Nat (fun _ => Option (Nat × Nat)) none (fun a t _ => @List.rec Nat (fun _ => Option (Nat × Nat)) (@List.rec aP (fun _ => Option (Nat × Nat)) none (fun p u _ => @List.rec aP (fun _ => Option (Nat × Nat)) ((@Bool.rec (fun _ => Option (Nat × Nat)) (none) (some (a, btoN p.1)) ((@Bool.rec (fun _ => Bool) false ((@Bool.rec (fun _ => Bool) false (Nat.beq p.2.2 0) (bile 0 p.1))) (bieq p.1 p.2.1))))) (fun _ _ _ => none) u) I) (fun _ _ _ => none) t) as
theorem bPt_in {as : List Nat} {I : aI} {a k : Nat} (h : bPt as I = some (a, k)) : as = [a] ∧ I = [((k : Int), (k : Int), 0)] := by
  unfold bPt at h
  cases as with
  | nil => cases h
  | cons b t =>
    cases t with
    | cons => cases h
    | nil =>
      cases I with
      | nil => cases h
      | cons p u =>
        cases u with
        | cons => cases h
        | nil =>
          obtain ⟨p1, p2, p3⟩ := p
          have h : (@Bool.rec (fun _ => Option (Nat × Nat)) (none) (some (b, btoN p1)) ((@Bool.rec (fun _ => Bool) false ((@Bool.rec (fun _ => Bool) false (Nat.beq p3 0) (bile 0 p1))) (bieq p1 p2)))) = some (a, k) := h
          rw [← and_b, ← and_b, ← ite_b] at h
          split at h
          · next q =>
            simp only [Bool.and_eq_true, bieq_eq, ieq_iff, bile_eq, ile_iff, Nat.beq_eq] at q
            obtain ⟨q1, q2, q3⟩ := q
            rw [btoN_eq] at h
            cases h
            subst q3
            subst q1
            exact ⟨rfl, by rw [Int.toNat_of_nonneg q2]⟩
          · cases h
noncomputable def bImps (w : aWd) (x : bWd) (as : List Nat) (I : aI) : List aM := @Option.rec (Nat × Nat) (fun _ => List aM) w.2.2.2 (fun q => x.2.2.2.2.2 q.1 q.2) (bPt as I)
theorem bImps_eq (hx : bWok w x) {ρ : List aI} {tr tr' : aT} {as : List Nat} {I : aI} : bAll (bImps w x as I) (bImpOk x ρ tr tr' as (bHull I).1 (bHull I).2) = w.2.2.2.all (aImpOk w ρ tr tr' as (aHull I).1 (aHull I).2) := by
  rw [bAll_eq, bHull_eq, show bImpOk x ρ tr tr' as (aHull I).1 (aHull I).2 = aImpOk w ρ tr tr' as (aHull I).1 (aHull I).2 from funext (fun i => bImpOk_eq hx ρ tr tr' as _ _ i)]
  unfold bImps
  cases e : bPt as I with
  | none => rfl
  | some q =>
    obtain ⟨a, k⟩ := q
    obtain ⟨e1, e2⟩ := bPt_in e
    subst e1
    subst e2
    show (x.2.2.2.2.2 a k).all _ = _
    rw [hx.2.2.2.2.2]
    have no : ∀ s : Nat × Nat, (Nat.beq s.1 a && Nat.beq s.2 k) = false → aHit [a] (k : Int) (k : Int) s = false := fun s hs => by
      unfold aHit
      rw [List.any_cons, List.any_nil, Bool.or_false]
      cases z : Nat.beq a s.1 with
      | false => rfl
      | true =>
        have z2 : a = s.1 := by simpa using z
        rw [← z2] at hs
        simp only [show Nat.beq a a = true by simp, Bool.true_and] at hs
        have : s.2 ≠ k := fun q => by rw [q] at hs; simp at hs
        cases z3 : (ile (k : Int) s.2 && ile (s.2 : Int) k) with
        | false => rfl
        | true =>
          simp only [Bool.and_eq_true, ile_iff] at z3
          omega
    have tv : ∀ i, bMn a k i = false → aImpOk w ρ tr tr' [a] (k : Int) (k : Int) i = true := fun i z => by
      unfold bMn at z
      rw [Bool.or_eq_false_iff] at z
      unfold aImpOk
      rw [no i.2.1 z.1, List.all_eq_true.mpr (fun c hc => by
        rw [no c.1 (Bool.eq_false_iff.mpr (List.any_eq_false.mp z.2 c hc))]
        rfl)]
      rfl
    have hh : aHull [((k : Int), (k : Int), 0)] = ((k : Int), (k : Int)) := rfl
    rw [hh]
    dsimp only
    induction w.2.2.2 with
    | nil => rfl
    | cons i l ih =>
      rw [List.filter_cons, List.all_cons]
      cases z : bMn a k i with
      | true =>
        rw [if_pos rfl, List.all_cons, ih]
      | false =>
        rw [if_neg (by decide), ih, tv i z, Bool.true_and]
/-- what is written fits -/
noncomputable def bSegLe (x : bWd) (a : Nat) (I V : aI) : Bool := (@Bool.rec (fun _ => Bool) (aSegLe 0 (x.2.1 a) I V) true (@Option.rec (Nat × Nat) (fun _ => Bool) false (fun q => bLe V (x.2.2.1 q.1 q.2)) (bPt [a] I)))
theorem segLe_pt {V : aI} {k : Nat} : ∀ {l : List (Nat × aI)} {s : Nat}, s ≤ k → aLe V (gSeg l k) = true → aSegLe s l [((k : Int), (k : Int), 0)] V = true
  | [], _, _, _ => rfl
  | p :: t, s, hs, h => by
    unfold gSeg at h
    unfold aSegLe
    by_cases z : k < p.1
    · rw [if_pos (by simpa [Nat.blt_eq] using z)] at h
      rw [h, Bool.or_true, Bool.true_and]
      have e : aCutL [((k : Int), (k : Int), 0)] (p.1 : Int) = [] := by
        unfold aCutL aCut1
        simp only [List.flatMap_cons, List.flatMap_nil, List.append_nil]
        rw [if_neg (fun q => by have := ile_iff.mp q; omega), if_pos (show Nat.beq 0 0 = true from rfl)]
      rw [e]
      rfl
    · rw [if_neg (by simpa [Nat.blt_eq] using z)] at h
      have e : aCut [((k : Int), (k : Int), 0)] (s : Int) ((p.1 : Int) - 1) = [] := by
        unfold aCut aCut1
        simp only [List.flatMap_cons, List.flatMap_nil, List.append_nil]
        rw [if_pos (ile_iff.mpr (by omega)), if_neg (fun q => by
          have := ile_iff.mp q
          have := (@imin_le (k : Int) ((p.1 : Int) - 1)).2
          omega)]
      rw [e, segLe_pt (s := p.1) (by omega) h, Bool.or_true]
      rfl
theorem bSegLe_eq (hx : bWok w x) (a : Nat) (I V : aI) : bSegLe x a I V = aSegLe 0 (w.2.1 a) I V := by
  unfold bSegLe
  rw [hx.2.1]
  cases e : bPt [a] I with
  | none => rfl
  | some q =>
    obtain ⟨b, k⟩ := q
    obtain ⟨e1, e2⟩ := bPt_in e
    cases e1
    subst e2
    show (@Bool.rec (fun _ => Bool) (aSegLe 0 (w.2.1 a) [((k : Int), (k : Int), 0)] V) true (bLe V (x.2.2.1 a k))) = _
    rw [← or_b, bLe_eq, hx.2.2.1]
    cases z : aLe V (gSeg (w.2.1 a) k) with
    | false => rfl
    | true => rw [segLe_pt (Nat.zero_le k) z]; rfl
noncomputable def bTrN (tr : aT) (as : List Nat) (I : aI) (e : aE) : aT := bApp (@List.rec Nat (fun _ => aT) [] (fun a t _ => @List.rec Nat (fun _ => aT) ((@Bool.rec (fun _ => aT) ([]) ([((a, btoN (bHull I).1), e)]) (bieq (bHull I).1 (bHull I).2))) (fun _ _ _ => []) t) as) (bFil tr (fun q => (@Bool.rec (fun _ => Bool) true false (bHit as (bHull I).1 (bHull I).2 q.1))))
theorem bTrN_eq (tr : aT) (as : List Nat) (I : aI) (e : aE) : bTrN tr as I e = aTrN tr as I e := by
  unfold bTrN aTrN
  rw [bApp_eq, bFil_eq, bHull_eq, btoN_eq, bieq_eq]
  congr 1
  · cases as with
    | nil => rfl
    | cons a t =>
      cases t with
      | nil => exact ite_b.symm
      | cons => rfl
  · congr 1
    funext q
    rw [bHit_eq, not_b]
noncomputable def bMono (md : aMd) : Bool := bAny md (fun q => Nat.beq q.1 1000002)
theorem bMono_eq (md : aMd) : bMono md = aMono md := bAny_eq md _
noncomputable def bWr (w : aWd) (x : bWd) (md : aMd) (ρ : List aI) (tr : aT) (as : List Nat) (I : aI) (e : aE) : Option aT :=
  (@Bool.rec (fun _ => Option aT) (none) (some (bTrN tr as I e)) ((@Bool.rec (fun _ => Bool) false ((@Bool.rec (fun _ => Bool) false ((@Bool.rec (fun _ => Bool) ((@Bool.rec (fun _ => Bool) false ((@Bool.rec (fun _ => Bool) true false (bHit as (bHull I).1 (bHull I).2 (196, 6)))) ((@Bool.rec (fun _ => Bool) true false (bHit as (bHull I).1 (bHull I).2 (196, 5)))))) true ((@Bool.rec (fun _ => Bool) true false (bMono md))))) (bAll (bImps w x as I) (bImpOk x ρ tr (bTrN tr as I e) as (bHull I).1 (bHull I).2)))) (bAll as (fun a => (@Bool.rec (fun _ => Bool) false (bAny md (fun q => (@Bool.rec (fun _ => Bool) false ((@Bool.rec (fun _ => Bool) false (bile (badd (bHull I).2 1) (.ofNat q.2.2)) (bile (.ofNat q.2.1) (bHull I).1))) (Nat.beq q.1 a)))) (bSegLe x a I (bset ρ e))))))))
theorem bWr_eq (hx : bWok w x) (md : aMd) (ρ : List aI) (tr : aT) (as : List Nat) (I : aI) (e : aE) : bWr w x md ρ tr as I e = aWr w md ρ tr as I e := by
  unfold bWr aWr
  rw [bTrN_eq, bImps_eq hx, ite_b, Bool.and_assoc, and_b, and_b, or_b, and_b, not_b, not_b, not_b, bMono_eq]
  simp only [bAll_eq, bAny_eq, bSegLe_eq hx, bset_eq, bile_eq, badd_eq, bHull_eq, bHit_eq, and_b]
  rfl
noncomputable def bRdE (x : bWd) (ρ : List aI) (tr : aT) (a k : Nat) : aE × List aI × aT := @Option.rec aE (fun _ => aE × List aI × aT) ((bNew ρ (bRd x ρ tr a k)).1, (bNew ρ (bRd x ρ tr a k)).2, ((a, k), (bNew ρ (bRd x ρ tr a k)).1) :: tr) (fun e => (e, ρ, tr)) (bTrk tr a k)
theorem bRdE_eq (hx : bWok w x) (ρ : List aI) (tr : aT) (a k : Nat) : bRdE x ρ tr a k = aRdE w ρ tr a k := by
  unfold bRdE aRdE
  rw [bTrk_eq, bRd_eq hx, bNew_eq]
  cases aTrk tr a k <;> rfl
noncomputable def bJn (A B : aI) : aI := (@Bool.rec (fun _ => aI) (bApp A B) (B) (bLe A B))
theorem bJn_eq (A B : aI) : bJn A B = aJn A B := by
  unfold bJn aJn
  rw [bLe_eq, bApp_eq, ite_b]
noncomputable def bUni (l : List aI) : aI := @List.rec aI (fun _ => aI) [] (fun B _ ih => bJn B ih) l
theorem bUni_eq : ∀ l : List aI, bUni l = aUni l
  | [] => rfl
  | B :: t => by
    show bJn B (bUni t) = aJn B (aUni t)
    rw [bUni_eq t, bJn_eq]
noncomputable def bGetM (x : bWd) (ρ : List aI) (tr : aT) (as : List Nat) (k : Nat) : aE × List aI × aT := ((bNew ρ (bUni (bMap as (fun a => bRd x ρ tr a k)))).1, (bNew ρ (bUni (bMap as (fun a => bRd x ρ tr a k)))).2, tr)
noncomputable def bGetI (x : bWd) (ρ : List aI) (tr : aT) (as : List Nat) (k : Nat) : aE × List aI × aT := @List.rec Nat (fun _ => aE × List aI × aT) (bGetM x ρ tr as k) (fun a t _ => @List.rec Nat (fun _ => aE × List aI × aT) (bRdE x ρ tr a k) (fun _ _ _ => bGetM x ρ tr as k) t) as
theorem bGetM_eq (hx : bWok w x) (ρ : List aI) (tr : aT) (as : List Nat) (k : Nat) : bGetM x ρ tr as k = ((aNew ρ (aUni (as.map (fun a => aRd w ρ tr a k)))).1, (aNew ρ (aUni (as.map (fun a => aRd w ρ tr a k)))).2, tr) := by
  unfold bGetM
  simp only [bNew_eq, bUni_eq, bMap_eq, bRd_eq hx]
theorem bGetI_eq (hx : bWok w x) (ρ : List aI) (tr : aT) (as : List Nat) (k : Nat) : bGetI x ρ tr as k = aGetI w ρ tr as k := by
  unfold bGetI
  cases as with
  | nil => exact bGetM_eq hx ρ tr [] k
  | cons a t =>
    cases t with
    | nil => exact bRdE_eq hx ρ tr a k
    | cons => exact bGetM_eq hx ρ tr _ k
noncomputable def bKd (x : bWd) (as : List Nat) (kd : Nat) : Bool := bAll as (fun a => @Option.rec (Nat × Nat) (fun _ => Bool) false (fun q => Nat.beq q.1 kd) (x.1 a))
theorem bKd_eq (hx : bWok w x) (as : List Nat) (kd : Nat) : bKd x as kd = aKd w as kd := by
  unfold bKd aKd
  rw [bAll_eq]
  congr 1
  funext a
  rw [hx.1]
  cases w.1 a <;> rfl
noncomputable def bBnd (x : bWd) (as : List Nat) (kd : Nat → Bool) (I : aI) : Bool := bAll as (fun a => @Option.rec (Nat × Nat) (fun _ => Bool) false (fun q => (@Bool.rec (fun _ => Bool) false ((@Bool.rec (fun _ => Bool) false (bile (badd (bHull I).2 1) (.ofNat q.2)) (bile 0 (bHull I).1))) (kd q.1))) (x.1 a))
theorem bBnd_eq (hx : bWok w x) (as : List Nat) (kd : Nat → Bool) (I : aI) : bBnd x as kd I = aBnd w as kd I := by
  unfold bBnd aBnd
  rw [bAll_eq]
  congr 1
  funext a
  rw [hx.1, bHull_eq]
  cases w.1 a with
  | none => rfl
  | some q =>
    show (@Bool.rec (fun _ => Bool) false ((@Bool.rec (fun _ => Bool) false (bile (badd (aHull I).2 1) (.ofNat q.2)) (bile 0 (aHull I).1))) (kd q.1)) = (kd q.1 && (ile 0 (aHull I).1 && ile ((aHull I).2 + 1) q.2))
    rw [bile_eq, bile_eq, badd_eq, and_b, and_b]
    rfl
noncomputable def bEmp (A : aI) : Bool := @List.rec aP (fun _ => Bool) true (fun _ _ _ => false) A
theorem bEmp_eq (A : aI) : bEmp A = A.isEmpty := by cases A <;> rfl
noncomputable def bSegs (I : aI) (l : List (Nat × aI)) : Nat → aI := @List.rec (Nat × aI) (fun _ => Nat → aI) (fun _ => aTop) (fun p _ ih s => (@Bool.rec (fun _ => aI) ((@Bool.rec (fun _ => aI) (bJn p.2 (ih p.1)) (p.2) (bEmp (bCutL I (.ofNat p.1))))) (ih p.1) (bEmp (bCut I (.ofNat s) (bsub (.ofNat p.1) 1))))) l
theorem bSegs_eq (I : aI) : ∀ (l : List (Nat × aI)) (s : Nat), bSegs I l s = aSegs s l I
  | [], _ => rfl
  | p :: t, s => by
    show (@Bool.rec (fun _ => aI) ((@Bool.rec (fun _ => aI) (bJn p.2 (bSegs I t p.1)) (p.2) (bEmp (bCutL I (.ofNat p.1))))) (bSegs I t p.1) (bEmp (bCut I (.ofNat s) (bsub (.ofNat p.1) 1)))) = if (aCut I s ((p.1 : Int) - 1)).isEmpty then aSegs p.1 t I else (if (aCutL I p.1).isEmpty then p.2 else aJn p.2 (aSegs p.1 t I))
    rw [bSegs_eq I t, bEmp_eq, bEmp_eq, bCut_eq, bCutL_eq, bJn_eq, bsub_eq, ite_b, ite_b]
    rfl
noncomputable def bLdM (x : bWd) (ρ : List aI) (tr : aT) (as : List Nat) (I : aI) : aE × List aI × aT := ((bNew ρ (bUni (bMap as (fun a => bSegs I (x.2.1 a) 0)))).1, (bNew ρ (bUni (bMap as (fun a => bSegs I (x.2.1 a) 0)))).2, tr)
noncomputable def bLd1 (x : bWd) (ρ : List aI) (tr : aT) (a : Nat) (I : aI) : aE × List aI × aT := (@Bool.rec (fun _ => aE × List aI × aT) (((bNew ρ (bSegs I (x.2.1 a) 0)).1, (bNew ρ (bSegs I (x.2.1 a) 0)).2, tr)) (bRdE x ρ tr a (btoN (bHull I).1)) (bieq (bHull I).1 (bHull I).2))
noncomputable def bLdI (x : bWd) (ρ : List aI) (tr : aT) (as : List Nat) (I : aI) : aE × List aI × aT := @List.rec Nat (fun _ => aE × List aI × aT) (bLdM x ρ tr as I) (fun a t _ => @List.rec Nat (fun _ => aE × List aI × aT) (bLd1 x ρ tr a I) (fun _ _ _ => bLdM x ρ tr as I) t) as
theorem bLdM_eq (hx : bWok w x) (ρ : List aI) (tr : aT) (as : List Nat) (I : aI) : bLdM x ρ tr as I = ((aNew ρ (aUni (as.map (fun a => aSegs 0 (w.2.1 a) I)))).1, (aNew ρ (aUni (as.map (fun a => aSegs 0 (w.2.1 a) I)))).2, tr) := by
  unfold bLdM
  simp only [bNew_eq, bUni_eq, bMap_eq, bSegs_eq, hx.2.1]
theorem bLdI_eq (hx : bWok w x) (ρ : List aI) (tr : aT) (as : List Nat) (I : aI) : bLdI x ρ tr as I = aLdI w ρ tr as I := by
  unfold bLdI
  cases as with
  | nil => exact bLdM_eq hx ρ tr [] I
  | cons a t =>
    cases t with
    | nil =>
      show bLd1 x ρ tr a I = if ieq (aHull I).1 (aHull I).2 then aRdE w ρ tr a (aHull I).1.toNat else ((aNew ρ (aSegs 0 (w.2.1 a) I)).1, (aNew ρ (aSegs 0 (w.2.1 a) I)).2, tr)
      unfold bLd1
      rw [bieq_eq, bHull_eq, bRdE_eq hx, btoN_eq, bNew_eq, bSegs_eq, hx.2.1, ite_b]
    | cons => exact bLdM_eq hx ρ tr _ I
/-- all that may stand in a place -/
noncomputable def bEra (l : List Nat) : List Nat → List Nat := @List.rec Nat (fun _ => List Nat → List Nat) (fun bs => bs.reverse) (fun a _ ih bs => (@Bool.rec (fun _ => List Nat) (ih (a :: bs)) (ih bs) (bAny bs (fun b => Nat.beq a b)))) l
theorem bEra_lp : ∀ (l bs : List Nat), bEra l bs = List.eraseDupsBy.loop (· == ·) l bs
  | [], bs => rfl
  | a :: t, bs => by
    show (@Bool.rec (fun _ => List Nat) (bEra t (a :: bs)) (bEra t bs) (bAny bs (fun b => Nat.beq a b))) = _
    unfold List.eraseDupsBy.loop
    rw [bAny_eq, bEra_lp t, bEra_lp t]
    have e : (fun b => Nat.beq a b) = fun b => a == b := funext (fun b => by rw [Bool.eq_iff_iff]; simp)
    rw [e]
    cases bs.any (fun b => a == b) <;> rfl
theorem bEra_eq (l : List Nat) : bEra l [] = l.eraseDups := bEra_lp l []
noncomputable def bAllO (l : List (Option Nat)) : Option (List Nat) := (@Bool.rec (fun _ => Option (List Nat)) (none) (some (bEra (@List.rec (Option Nat) (fun _ => List Nat) [] (fun o _ ih => @Option.rec Nat (fun _ => List Nat) ih (fun a => a :: ih) o) l) [])) (bAll l (fun o => @Option.rec Nat (fun _ => Bool) false (fun _ => true) o)))
theorem bAllO_eq (l : List (Option Nat)) : bAllO l = aAll l := by
  unfold bAllO aAll
  have e1 : (fun o => @Option.rec Nat (fun _ => Bool) false (fun _ => true) o) = fun (q : Option Nat) => q.isSome := funext (fun o => by cases o <;> rfl)
  have e2 : ∀ l : List (Option Nat), @List.rec (Option Nat) (fun _ => List Nat) [] (fun o _ ih => @Option.rec Nat (fun _ => List Nat) ih (fun a => a :: ih) o) l = l.filterMap id := fun l => by
    induction l with
    | nil => rfl
    | cons o t ih =>
      cases o with
      | none =>
        rw [List.filterMap_cons_none rfl]
        exact ih
      | some a =>
        rw [List.filterMap_cons_some (show id (some a) = some a from rfl)]
        exact congrArg (a :: ·) ih
  rw [e1, bAll_eq, bEra_eq, e2, ite_b]
noncomputable def bEn1 (hi : Int) (s : Nat) (n : Nat) : Int → List Int := @Nat.rec (fun _ => Int → List Int) (fun _ => []) (fun _ ih lo => (@Bool.rec (fun _ => List Int) ([]) (lo :: (@Bool.rec (fun _ => List Int) (ih (badd lo (.ofNat s))) ([]) (Nat.beq s 0))) (bile lo hi))) n
theorem bEn1_eq (hi : Int) (s : Nat) : ∀ (n : Nat) (lo : Int), bEn1 hi s n lo = aEn1 n lo hi s
  | 0, _ => rfl
  | n + 1, lo => by
    show (@Bool.rec (fun _ => List Int) ([]) (lo :: (@Bool.rec (fun _ => List Int) (bEn1 hi s n (badd lo (.ofNat s))) ([]) (Nat.beq s 0))) (bile lo hi)) = if ile lo hi then lo :: (if Nat.beq s 0 then [] else aEn1 n (lo + s) hi s) else []
    rw [bEn1_eq hi s n, bile_eq, badd_eq, ite_b, ite_b]
    rfl
noncomputable def bEn (A : aI) : List Int := bFlat A (fun p => bEn1 p.2.1 p.2.2 (Nat.succ (btoN (bsub p.2.1 p.1))) p.1)
theorem bEn_eq (A : aI) : bEn A = aEn A := by
  unfold bEn aEn
  simp only [bFlat_eq, bEn1_eq, btoN_eq, bsub_eq]
noncomputable def bLdR (x : bWd) (rr : aU) (as : List Nat) (I : aI) : Option (List Nat) := bAllO (bFlat as (fun a => bMap (bEn I) (fun k => bRf x rr a (btoN k))))
theorem bLdR_eq (hx : bWok w x) (rr : aU) (as : List Nat) (I : aI) : bLdR x rr as I = aLdR w rr as I := by
  unfold bLdR aLdR
  simp only [bAllO_eq, bFlat_eq, bMap_eq, bEn_eq, bRf_eq hx, btoN_eq]
end BS
