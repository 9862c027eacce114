/-! steps -/
abbrev bOp : Type := aWd → bWd → aMd → aMd → Nat → aLk → aS → Option (List aS)
section BO
variable {w : aWd} {x : bWd} {md rm : aMd} {D : Nat} {lk : aLk} {m : zM}
noncomputable def bBoth (ρ : List aI) (cd : ClassFile.Cond) (x y : aE) : List aI := bNarr (bNarr ρ x cd (bHull (bset ρ y)).1 (bHull (bset ρ y)).2) y (aSw cd) (bHull (bset ρ x)).1 (bHull (bset ρ x)).2
theorem bBoth_eq (ρ : List aI) (cd : ClassFile.Cond) (x y : aE) : bBoth ρ cd x y = aBoth ρ cd x y := by
  unfold bBoth aBoth
  simp only [bNarr_eq, bHull_eq, bset_eq]
noncomputable def bCan (cd : ClassFile.Cond) (x y : Int × Int) : Bool := @ClassFile.Cond.rec (fun _ => Bool) ((@Bool.rec (fun _ => Bool) false (bile y.1 x.2) (bile x.1 y.2))) ((@Bool.rec (fun _ => Bool) true false ((@Bool.rec (fun _ => Bool) false ((@Bool.rec (fun _ => Bool) false (bieq x.1 y.1) (bieq y.1 y.2))) (bieq x.1 x.2))))) (bile (badd x.1 1) y.2) (bile y.1 x.2) (bile (badd y.1 1) x.2) (bile x.1 y.2) cd
theorem bCan_eq (cd : ClassFile.Cond) (x y : Int × Int) : bCan cd x y = aCan cd x y := by
  cases cd
  · show (@Bool.rec (fun _ => Bool) false (bile y.1 x.2) (bile x.1 y.2)) = _
    rw [bile_eq, bile_eq, ← and_b]
    rfl
  · show (@Bool.rec (fun _ => Bool) true false ((@Bool.rec (fun _ => Bool) false ((@Bool.rec (fun _ => Bool) false (bieq x.1 y.1) (bieq y.1 y.2))) (bieq x.1 x.2)))) = _
    rw [bieq_eq, bieq_eq, bieq_eq, ← and_b, ← and_b, ← not_b]
    rfl
  · show bile (badd x.1 1) y.2 = _
    rw [bile_eq, badd_eq]
    rfl
  · exact bile_eq _ _
  · show bile (badd y.1 1) x.2 = _
    rw [bile_eq, badd_eq]
    rfl
  · exact bile_eq _ _
noncomputable def bNone (ρ : List aI) (cd : ClassFile.Cond) (x y : aE) : Bool := (@Bool.rec (fun _ => Bool) (bDead (bBoth ρ cd x y)) true ((@Bool.rec (fun _ => Bool) true false (bCan cd (bHull (bset ρ x)) (bHull (bset ρ y))))))
theorem bNone_eq (ρ : List aI) (cd : ClassFile.Cond) (x y : aE) : bNone ρ cd x y = aNone ρ cd x y := by
  unfold bNone aNone
  rw [bCan_eq, bDead_eq, bBoth_eq, bHull_eq, bHull_eq, bset_eq, bset_eq, ← or_b, ← not_b]
noncomputable def bIf (cd : ClassFile.Cond) (tg : Option Nat) (nx : Nat) (x y : aE) (st : List aV) (A : aS) : Option (List aS) := @Option.rec Nat (fun _ => Option (List aS)) none (fun t => some (bApp ((@Bool.rec (fun _ => List aS) ([(t, A.2.1, st, bBoth A.2.2.2.1 cd x y, A.2.2.2.2)]) ([]) (bNone A.2.2.2.1 cd x y))) ((@Bool.rec (fun _ => List aS) ([(nx, A.2.1, st, bBoth A.2.2.2.1 (aNo cd) x y, A.2.2.2.2)]) ([]) (bNone A.2.2.2.1 (aNo cd) x y))))) tg
theorem bIf_eq {cd : ClassFile.Cond} {off : Int} {len : Nat} {x y : aE} {st : List aV} {A : aS} : bIf cd (aTg A.1 off) (A.1 + len) x y st A = sIf cd off len x y st A := by
  unfold bIf sIf
  simp only [bNone_eq, bBoth_eq, bApp_eq, ← ite_b]
  cases aTg A.1 off <;> rfl
noncomputable def qLoad (so k nx : Nat) (A : aS) : Option (List aS) := @Option.rec aV (fun _ => Option (List aS)) none (fun a => (@Bool.rec (fun _ => Option (List aS)) (none) (some [(nx, A.2.1, a :: A.2.2.1, A.2.2.2)]) (aSort so a))) (bGet A.2.1 k)
theorem qLoad_eq {so k len : Nat} {A : aS} : qLoad so k (A.1 + len) A = match aGet A.2.1 k with | some a => if aSort so a then some [(A.1 + len, A.2.1, a :: A.2.2.1, A.2.2.2)] else none | none => none := by
  unfold qLoad
  rw [bGet_eq]
  simp only [← ite_b]
  cases aGet A.2.1 k <;> rfl
noncomputable def qStore (m : zM) (so k nx : Nat) (A : aS) : Option (List aS) := @List.rec aV (fun _ => Option (List aS)) none (fun a st _ => (@Bool.rec (fun _ => Option (List aS)) (none) (some [(nx, bSetL A.2.1 k a, st, A.2.2.2)]) ((@Bool.rec (fun _ => Bool) false (Nat.ble (Nat.succ ((@Bool.rec (fun _ => Nat) (k) (Nat.succ k) (bIsL a)))) m.2.2.1) (aSort so a))))) A.2.2.1
theorem qStore_eq {so k len : Nat} {A : aS} : qStore m so k (A.1 + len) A = match A.2.2.1 with | a :: st => if aSort so a && Nat.blt (aKx a k) m.2.2.1 then some [(A.1 + len, aSetL A.2.1 k a, st, A.2.2.2)] else none | _ => none := by
  unfold qStore
  simp only [bIsL_eq, bSetL_eq, aKx, ite_b, and_b]
  cases A.2.2.1 <;> rfl
noncomputable def qIinc (m : zM) (k : Nat) (n : Int) (nx : Nat) (A : aS) : Option (List aS) := match bGet A.2.1 k with
  | some (.inl e) => (@Bool.rec (fun _ => Option (List aS)) (none) (@Option.rec aE (fun _ => Option (List aS)) (some [(nx, bSet1 A.2.1 k (.inl (bNew A.2.2.2.1 aTop).1), A.2.2.1, (bNew A.2.2.2.1 aTop).2, A.2.2.2.2)]) (fun e' => some [(nx, bSet1 A.2.1 k (.inl e'), A.2.2.1, A.2.2.2)]) (bPlus A.2.2.2.1 e n)) ((@Bool.rec (fun _ => Bool) false ((@Bool.rec (fun _ => Bool) false (bile n 2147483647) (bile (-2147483648) n))) (Nat.ble (Nat.succ k) m.2.2.1))))
  | _ => none
theorem qIinc_eq {k : Nat} {n : Int} {len : Nat} {A : aS} : qIinc m k n (A.1 + len) A = sIinc m k n len A := by
  unfold qIinc sIinc
  rw [bGet_eq]
  rcases aGet A.2.1 k with _ | e | q
  · rfl
  · dsimp only
    rw [bPlus_eq, bile_eq, bile_eq]
    simp only [bSet1_eq, bNew_eq, aFt, ite_b, and_b]
    cases aPlus A.2.2.2.1 e n <;> rfl
  · rfl
noncomputable def qArS (nx : Nat) (q : aE × List aI) (st : List aV) (A : aS) : Option (List aS) := some [(nx, A.2.1, .inl q.1 :: st, q.2, A.2.2.2.2)]
noncomputable def qAri (sg : Bool) (nx : Nat) (A : aS) : Option (List aS) := match A.2.2.1 with
  | .inl y :: .inl x :: st => @Option.rec Int (fun _ => Option (List aS)) (qArS nx (bNew A.2.2.2.1 (bClip ((@Bool.rec (fun _ => aI) (bAdd (bset A.2.2.2.1 x) (bset A.2.2.2.1 y)) (bSub (bset A.2.2.2.1 x) (bset A.2.2.2.1 y)) (sg))))) st A) (fun k => @Option.rec aE (fun _ => Option (List aS)) (qArS nx (bNew A.2.2.2.1 (bClip ((@Bool.rec (fun _ => aI) (bAdd (bset A.2.2.2.1 x) (bset A.2.2.2.1 y)) (bSub (bset A.2.2.2.1 x) (bset A.2.2.2.1 y)) (sg))))) st A) (fun e => qArS nx (e, A.2.2.2.1) st A) (bPlus A.2.2.2.1 x ((@Bool.rec (fun _ => Int) (k) (bneg k) (sg))))) (bKn A.2.2.2.1 y)
  | _ => none
theorem sAri_ii {i : Instr} {len : Nat} {A : aS} {y x : aE} {S : List aV} (h : A.2.2.1 = .inl y :: .inl x :: S) (hu : aUn i (aset A.2.2.2.1 y) = none) : sAri i len A = match aAri A.2.2.2.1 i x y with | some q => some [(A.1 + len, A.2.1, .inl q.1 :: S, q.2, A.2.2.2.2)] | none => none := by
  unfold sAri
  rw [h]
  dsimp only
  rw [hu]
  rfl
theorem aAri_sub {ρ : List aI} {x y : aE} : aAri ρ .isub x y = match aKn ρ y with | some k => (match aPlus ρ x (-k) with | some e => some (e, ρ) | none => some (aNew ρ (aClip (aSub (aset ρ x) (aset ρ y))))) | none => some (aNew ρ (aClip (aSub (aset ρ x) (aset ρ y)))) := by
  cases hk : aKn ρ y with
  | none => simp [aAri, aBin, hk]
  | some k => cases hp : aPlus ρ x (-k) <;> simp [aAri, aBin, hk, hp]
theorem aAri_add {ρ : List aI} {x y : aE} : aAri ρ .iadd x y = match aKn ρ y with | some k => (match aPlus ρ x k with | some e => some (e, ρ) | none => some (aNew ρ (aClip (aAdd (aset ρ x) (aset ρ y))))) | none => some (aNew ρ (aClip (aAdd (aset ρ x) (aset ρ y)))) := by
  cases hk : aKn ρ y with
  | none => simp [aAri, aBin, hk]
  | some k => cases hp : aPlus ρ x k <;> simp [aAri, aBin, hk, hp]
theorem qAri_eq {sg : Bool} {len : Nat} {A : aS} : qAri sg (A.1 + len) A = sAri (if sg then .isub else .iadd) len A := by
  obtain ⟨pc, ls, S, ρ, tt⟩ := A
  rcases S with _ | ⟨y | y, S⟩
  · cases sg <;> rfl
  · rcases S with _ | ⟨x | x, S⟩
    · cases sg <;> rfl
    · unfold qAri
      dsimp only
      simp only [bClip_eq, bSub_eq, bAdd_eq, bset_eq, bNew_eq, bKn_eq, bPlus_eq, bneg_eq]
      cases sg with
      | true =>
        rw [if_pos rfl, sAri_ii (A := (pc, ls, .inl y :: .inl x :: S, ρ, tt)) rfl rfl, aAri_sub]
        dsimp only
        cases aKn ρ y with
        | none => rfl
        | some k =>
          dsimp only
          cases aPlus ρ x (-k) <;> rfl
      | false =>
        rw [if_neg (by decide), sAri_ii (A := (pc, ls, .inl y :: .inl x :: S, ρ, tt)) rfl rfl, aAri_add]
        dsimp only
        cases aKn ρ y with
        | none => rfl
        | some k =>
          dsimp only
          cases aPlus ρ x k <;> rfl
    · cases sg <;> rfl
  · cases sg <;> rfl
noncomputable def bLoo {α : Type} (l : List (Nat × α)) (i : Nat) : Option α := @List.rec (Nat × α) (fun _ => Option α) none (fun q _ ih => (@Bool.rec (fun _ => Option α) (ih) (some q.2) (Nat.beq q.1 i))) l
theorem bLoo_eq {α : Type} (l : List (Nat × α)) (i : Nat) : bLoo l i = zlook l i := by
  induction l with
  | nil => rfl
  | cons q t ih =>
    show (@Bool.rec (fun _ => Option α) (bLoo t i) (some q.2) (Nat.beq q.1 i)) = zlook (q :: t) i
    unfold zlook
    rw [ih]
    by_cases e : q.1 = i
    · rw [if_pos e, show Nat.beq q.1 i = true by simpa using e]
    · rw [if_neg e, show Nat.beq q.1 i = false from Bool.eq_false_iff.mpr (fun z => e (by simpa using z))]
/-- a field, and is it a reference -/
noncomputable def bFld (o k : Nat) : Option (Nat × Nat × Bool) := @Option.rec (Nat × Nat × Nat) (fun _ => Option (Nat × Nat × Bool)) none (fun q => some (q.1, q.2.1, Nat.beq ((zft q.1).getD q.2.1 0) 3)) (bLoo (zfldTT.getD o []) k)
theorem bFld_eq (o k : Nat) : bFld o k = match zfld o k with | some q => some (q.1, q.2, Nat.beq ((zft q.1).getD q.2 0) 3) | none => none := by
  unfold bFld zfld
  rw [bLoo_eq]
  cases zlook (zfldTT.getD o []) k <;> rfl
noncomputable def qGetf (f : Option (Nat × Nat × Bool)) (w : aWd) (x : bWd) (nx : Nat) (A : aS) : Option (List aS) := match A.2.2.1 with
  | .inr (.inl as) :: st => @Option.rec (Nat × Nat × Bool) (fun _ => Option (List aS)) none (fun q => (@Bool.rec (fun _ => Option (List aS)) (none) ((@Bool.rec (fun _ => Option (List aS)) (some [(nx, A.2.1, .inl (bGetI x A.2.2.2.1 A.2.2.2.2.1 as q.2.1).1 :: st, (bGetI x A.2.2.2.1 A.2.2.2.2.1 as q.2.1).2.1, (bGetI x A.2.2.2.1 A.2.2.2.2.1 as q.2.1).2.2, A.2.2.2.2.2)]) (@Option.rec (List Nat) (fun _ => Option (List aS)) none (fun bs => some [(nx, A.2.1, .inr (.inl bs) :: st, A.2.2.2)]) (bAllO (bMap as (fun a => bRf x A.2.2.2.2.2 a q.2.1)))) (q.2.2))) (bKd x as q.1))) f
  | _ => none
theorem qGetf_eq (hx : bWok w x) {k len : Nat} {A : aS} : qGetf (bFld m.2.1 k) w x (A.1 + len) A = match A.2.2.1 with | .inr (.inl as) :: st => sGet w m k len as st A | _ => none := by
  unfold qGetf
  generalize A.2.2.1 = S
  rcases S with _ | ⟨e | as | b, S⟩
  · rfl
  · rfl
  · dsimp only
    unfold sGet
    rw [bFld_eq]
    cases zfld m.2.1 k with
    | none => rfl
    | some q =>
      obtain ⟨ci, fl⟩ := q
      dsimp only
      simp only [bKd_eq hx, bMap_eq, bAllO_eq, bRf_eq hx, bGetI_eq hx, ← ite_b]
      cases aAll (as.map (fun a => aRf w A.2.2.2.2.2 a fl)) <;> rfl
  · rfl
noncomputable def qPutf (w : aWd) (x : bWd) (md rm : aMd) (m : zM) (k nx len : Nat) (A : aS) : Option (List aS) := match A.2.2.1 with
  | .inl e :: .inr (.inl as) :: st => (match zfld m.2.1 k with
    | some (ci, fl) => (@Bool.rec (fun _ => Option (List aS)) (none) (@Option.rec aT (fun _ => Option (List aS)) none (fun tr => some [(nx, A.2.1, st, A.2.2.2.1, tr, A.2.2.2.2.2)]) (bWr w x md A.2.2.2.1 A.2.2.2.2.1 as [((fl : Int), (fl : Int), 0)] e)) ((@Bool.rec (fun _ => Bool) false ((@Bool.rec (fun _ => Bool) false ((@Bool.rec (fun _ => Bool) ((@Bool.rec (fun _ => Bool) false (bLe (bset A.2.2.2.1 e) [(0, 1, 1)]) (Nat.beq ((zft ci).getD fl 9) 1))) true (Nat.beq ((zft ci).getD fl 9) 0))) ((@Bool.rec (fun _ => Bool) true false (zfin ci fl))))) (bKd x as ci))))
    | none => none)
  | .inr (.inl [b]) :: .inr (.inl [a]) :: st => sPutR w rm m k len b a st A
  | _ => none
theorem qPutf_eq (hx : bWok w x) {k len : Nat} {A : aS} : qPutf w x md rm m k (A.1 + len) len A = aStp w md rm m D lk (.putfield k) len A := by
  show qPutf w x md rm m k (A.1 + len) len A = match A.2.2.1 with
    | .inl e :: .inr (.inl as) :: st => sPutI w md m k len e as st A
    | .inr (.inl [b]) :: .inr (.inl [a]) :: st => sPutR w rm m k len b a st A
    | _ => none
  unfold qPutf
  have key : ∀ (e : aE) (as : List Nat) (st : List aV), (match zfld m.2.1 k with
    | some (ci, fl) => (@Bool.rec (fun _ => Option (List aS)) (none) (@Option.rec aT (fun _ => Option (List aS)) none (fun tr => some [(A.1 + len, A.2.1, st, A.2.2.2.1, tr, A.2.2.2.2.2)]) (bWr w x md A.2.2.2.1 A.2.2.2.2.1 as [((fl : Int), (fl : Int), 0)] e)) ((@Bool.rec (fun _ => Bool) false ((@Bool.rec (fun _ => Bool) false ((@Bool.rec (fun _ => Bool) ((@Bool.rec (fun _ => Bool) false (bLe (bset A.2.2.2.1 e) [(0, 1, 1)]) (Nat.beq ((zft ci).getD fl 9) 1))) true (Nat.beq ((zft ci).getD fl 9) 0))) ((@Bool.rec (fun _ => Bool) true false (zfin ci fl))))) (bKd x as ci))))
    | none => none) = sPutI w md m k len e as st A := fun e as st => by
    unfold sPutI
    cases zfld m.2.1 k with
    | none => rfl
    | some q =>
      obtain ⟨ci, fl⟩ := q
      dsimp only
      simp only [bKd_eq hx, bLe_eq, bset_eq, bWr_eq hx, ite_b, and_b, or_b, not_b]
      cases aWr w md A.2.2.2.1 A.2.2.2.2.1 as [((fl : Int), (fl : Int), 0)] e <;> rfl
  split
  · next e as st q => rw [key]
  · rfl
  · next h1 h2 => rfl
noncomputable def qIald (w : aWd) (x : bWd) (md rm : aMd) (m : zM) (D : Nat) (lk : aLk) (nx len : Nat) (A : aS) : Option (List aS) := match A.2.2.1 with
  | .inl e :: .inr (.inl as) :: st => (@Bool.rec (fun _ => Option (List aS)) ((@Bool.rec (fun _ => Option (List aS)) (none) (some [(nx, A.2.1, .inl (bLdI x A.2.2.2.1 A.2.2.2.2.1 as (bset A.2.2.2.1 e)).1 :: st, (bLdI x A.2.2.2.1 A.2.2.2.2.1 as (bset A.2.2.2.1 e)).2.1, (bLdI x A.2.2.2.1 A.2.2.2.2.1 as (bset A.2.2.2.1 e)).2.2, A.2.2.2.2.2)]) (bBnd x as (fun k => Nat.beq k 14) (bset A.2.2.2.1 e)))) (aStp w md rm m D lk .iaload len A) (bAny as (fun a => Nat.beq a 1000001)))
  | _ => none
theorem iald_no {len pc : Nat} {ls : aL} {ρ : List aI} {tr : aT} {rr : aU} {e : aE} {as : List Nat} {st : List aV} (z : as.any (fun a => Nat.beq a 1000001) = false) {R : Option (List aS)} (hR : (if aBnd w as (fun k => Nat.beq k 14) (aset ρ e) then some [(pc + len, ls, .inl (aLdI w ρ tr as (aset ρ e)).1 :: st, (aLdI w ρ tr as (aset ρ e)).2.1, (aLdI w ρ tr as (aset ρ e)).2.2, rr)] else none) = R) : aStp w md rm m D lk .iaload len (pc, ls, .inl e :: .inr (.inl as) :: st, ρ, tr, rr) = R := by
  unfold aStp
  dsimp only
  split
  · next e2 st2 q =>
    cases q
    simp at z
  · next e2 as2 st2 _ q =>
    cases q
    exact hR
  · next h1 h2 => exact absurd rfl (h2 e as st)
theorem iald_ot {len pc : Nat} {ls : aL} {S : List aV} {ρ : List aI} {tr : aT} {rr : aU} (h : ∀ e as st, S = .inl e :: .inr (.inl as) :: st → False) : aStp w md rm m D lk .iaload len (pc, ls, S, ρ, tr, rr) = none := by
  unfold aStp
  dsimp only
  split
  · next e2 st2 => exact absurd rfl (h e2 [1000001] st2)
  · next e2 as2 st2 _ => exact absurd rfl (h e2 as2 st2)
  · rfl
theorem qIald_eq (hx : bWok w x) {len : Nat} {A : aS} : qIald w x md rm m D lk (A.1 + len) len A = aStp w md rm m D lk .iaload len A := by
  obtain ⟨pc, ls, S, ρ, tr, rr⟩ := A
  unfold qIald
  dsimp only
  split
  · next e as st =>
    rw [bAny_eq]
    cases z : as.any (fun a => Nat.beq a 1000001) with
    | true => rfl
    | false =>
      refine Eq.symm (iald_no z ?_)
      simp only [bBnd_eq hx, bLdI_eq hx, bset_eq, ite_b]
  · next h => exact (iald_ot h).symm
noncomputable def qIast (w : aWd) (x : bWd) (md : aMd) (nx : Nat) (A : aS) : Option (List aS) := match A.2.2.1 with
  | .inl e :: .inl j :: .inr (.inl as) :: st => (@Bool.rec (fun _ => Option (List aS)) (none) (@Option.rec aT (fun _ => Option (List aS)) none (fun tr => some [(nx, A.2.1, st, A.2.2.2.1, tr, A.2.2.2.2.2)]) (bWr w x md A.2.2.2.1 A.2.2.2.2.1 as (bset A.2.2.2.1 j) e)) (bBnd x as (fun k => Nat.beq k 14) (bset A.2.2.2.1 j)))
  | _ => none
theorem qIast_eq (hx : bWok w x) {len : Nat} {A : aS} : qIast w x md (A.1 + len) A = aStp w md rm m D lk .iastore len A := by
  obtain ⟨pc, ls, S, ρ, tr, rr⟩ := A
  unfold qIast aStp
  dsimp only
  simp only [bBnd_eq hx, bset_eq, bWr_eq hx, ← ite_b]
  split
  · next e j as st =>
    dsimp only
    cases aWr w md ρ tr as (aset ρ j) e <;> rfl
  · next h =>
    split
    · next e j as st => exact absurd rfl (h e j as st)
    · rfl
noncomputable def qAald (x : bWd) (nx : Nat) (A : aS) : Option (List aS) := match A.2.2.1 with
  | .inl e :: .inr (.inl as) :: st => (@Bool.rec (fun _ => Option (List aS)) (none) (@Option.rec (List Nat) (fun _ => Option (List aS)) none (fun bs => some [(nx, A.2.1, .inr (.inl bs) :: st, A.2.2.2)]) (bLdR x A.2.2.2.2.2 as (bset A.2.2.2.1 e))) (bBnd x as (fun k => (@Bool.rec (fun _ => Bool) false (Nat.ble k 20) (Nat.ble 16 k))) (bset A.2.2.2.1 e)))
  | _ => none
theorem qAald_eq (hx : bWok w x) {len : Nat} {A : aS} : qAald x (A.1 + len) A = aStp w md rm m D lk .aaload len A := by
  obtain ⟨pc, ls, S, ρ, tr, rr⟩ := A
  unfold qAald aStp
  dsimp only
  simp only [bBnd_eq hx, bset_eq, bLdR_eq hx, ← and_b]
  simp only [← ite_b]
  split
  · next e as st =>
    dsimp only
    cases aLdR w rr as (aset ρ e) <;> rfl
  · next h =>
    split
    · next e as st => exact absurd rfl (h e as st)
    · rfl
/-- an instruction, prepared -/
noncomputable def bOpOf (m : zM) (pc : Nat) (i : Instr) (len : Nat) : bOp := match i with
  | .iconst n => fun _ _ _ _ _ _ A => (@Bool.rec (fun _ => Option (List aS)) (none) (some [(Nat.add pc len, A.2.1, .inl (.inl n) :: A.2.2.1, A.2.2.2)]) ((@Bool.rec (fun _ => Bool) false (bile n 2147483647) (bile (-2147483648) n))))
  | .bipush n => fun _ _ _ _ _ _ A => (@Bool.rec (fun _ => Option (List aS)) (none) (some [(Nat.add pc len, A.2.1, .inl (.inl n) :: A.2.2.1, A.2.2.2)]) ((@Bool.rec (fun _ => Bool) false (bile n 127) (bile (-128) n))))
  | .sipush n => fun _ _ _ _ _ _ A => (@Bool.rec (fun _ => Option (List aS)) (none) (some [(Nat.add pc len, A.2.1, .inl (.inl n) :: A.2.2.1, A.2.2.2)]) ((@Bool.rec (fun _ => Bool) false (bile n 32767) (bile (-32768) n))))
  | .iload k => fun _ _ _ _ _ _ A => qLoad 0 k (Nat.add pc len) A
  | .iload_n k => fun _ _ _ _ _ _ A => qLoad 0 k (Nat.add pc len) A
  | .lload k => fun _ _ _ _ _ _ A => qLoad 1 k (Nat.add pc len) A
  | .lload_n k => fun _ _ _ _ _ _ A => qLoad 1 k (Nat.add pc len) A
  | .aload k => fun _ _ _ _ _ _ A => qLoad 2 k (Nat.add pc len) A
  | .aload_n k => fun _ _ _ _ _ _ A => qLoad 2 k (Nat.add pc len) A
  | .istore k => fun _ _ _ _ _ _ A => qStore m 0 k (Nat.add pc len) A
  | .istore_n k => fun _ _ _ _ _ _ A => qStore m 0 k (Nat.add pc len) A
  | .astore k => fun _ _ _ _ _ _ A => qStore m 2 k (Nat.add pc len) A
  | .astore_n k => fun _ _ _ _ _ _ A => qStore m 2 k (Nat.add pc len) A
  | .iinc k n => fun _ _ _ _ _ _ A => qIinc m k n (Nat.add pc len) A
  | .goto off => fun _ _ _ _ _ _ A => @Option.rec Nat (fun _ => Option (List aS)) none (fun t => some [(t, A.2)]) (aTg pc off)
  | .ifCond cd off => fun _ _ _ _ _ _ A => match A.2.2.1 with
    | .inl x :: st => bIf cd (aTg pc off) (Nat.add pc len) x (.inl 0) st A
    | _ => none
  | .if_icmp cd off => fun _ _ _ _ _ _ A => match A.2.2.1 with
    | .inl y :: .inl x :: st => bIf cd (aTg pc off) (Nat.add pc len) x y st A
    | _ => none
  | .getfield k => fun w x _ _ _ _ A => qGetf (bFld m.2.1 k) w x (Nat.add pc len) A
  | .putfield k => fun w x md rm _ _ A => qPutf w x md rm m k (Nat.add pc len) len A
  | .iaload => fun w x md rm D lk A => qIald w x md rm m D lk (Nat.add pc len) len A
  | .iastore => fun w x md _ _ _ A => qIast w x md (Nat.add pc len) A
  | .aaload => fun _ x _ _ _ _ A => qAald x (Nat.add pc len) A
  | .iadd => fun _ _ _ _ _ _ A => qAri false (Nat.add pc len) A
  | .isub => fun _ _ _ _ _ _ A => qAri true (Nat.add pc len) A
  | .invokevirtual k => fun w x md rm D lk A => (@Bool.rec (fun _ => Option (List aS)) (none) (bInv w x md rm D lk (fun kd => Nat.beq kd 0) k (Nat.add pc 3) A) (Nat.beq len 3))
  | .invokespecial k => fun w x md rm D lk A => (@Bool.rec (fun _ => Option (List aS)) (none) (bInv w x md rm D lk (fun kd => (@Bool.rec (fun _ => Bool) (Nat.beq kd 4) true (Nat.beq kd 2))) k (Nat.add pc 3) A) (Nat.beq len 3))
  | .invokestatic k => fun w x md rm D lk A => (@Bool.rec (fun _ => Option (List aS)) (none) (@Option.rec (List aS) (fun _ => Option (List aS)) (sPrim w md m D k A) (fun Bs => some Bs) (bInv w x md rm D lk (fun kd => (@Bool.rec (fun _ => Bool) (Nat.beq kd 3) true (Nat.beq kd 1))) k (Nat.add pc 3) A)) (Nat.beq len 3))
  | i => fun w _ md rm D lk A => aStp w md rm m D lk i len A
theorem bOpOf_eq (hx : bWok w x) {i : Instr} {len : Nat} {A : aS} : bOpOf m A.1 i len w x md rm D lk A = aStp w md rm m D lk i len A := by
  have con : ∀ (lo hi n : Int), ((@Bool.rec (fun _ => Option (List aS)) (none) (some [(A.1 + len, A.2.1, .inl (.inl n) :: A.2.2.1, A.2.2.2)]) ((@Bool.rec (fun _ => Bool) false (bile n hi) (bile lo n)))) : Option (List aS)) = sCon (ile lo n && ile n hi) n len A := fun lo hi n => by
    unfold sCon
    rw [bile_eq, bile_eq, ite_b, and_b]
  cases i with
  | iconst n => exact con _ _ n
  | bipush n => exact con _ _ n
  | sipush n => exact con _ _ n
  | iload k => exact qLoad_eq
  | iload_n k => exact qLoad_eq
  | lload k => exact qLoad_eq
  | lload_n k => exact qLoad_eq
  | aload k => exact qLoad_eq
  | aload_n k => exact qLoad_eq
  | istore k => exact qStore_eq
  | istore_n k => exact qStore_eq
  | astore k => exact qStore_eq
  | astore_n k => exact qStore_eq
  | iinc k n => exact qIinc_eq
  | goto off =>
    show @Option.rec Nat (fun _ => Option (List aS)) none (fun t => some [(t, A.2)]) (aTg A.1 off) = match aTg A.1 off with | some t => some [(t, A.2)] | none => none
    cases aTg A.1 off <;> rfl
  | ifCond cd off =>
    show (match A.2.2.1 with | .inl x :: st => bIf cd (aTg A.1 off) (A.1 + len) x (.inl 0) st A | _ => none) = (match A.2.2.1 with | .inl x :: st => sIf cd off len x (.inl 0) st A | _ => none)
    simp only [bIf_eq]
  | if_icmp cd off =>
    show (match A.2.2.1 with | .inl y :: .inl x :: st => bIf cd (aTg A.1 off) (A.1 + len) x y st A | _ => none) = (match A.2.2.1 with | .inl y :: .inl x :: st => sIf cd off len x y st A | _ => none)
    simp only [bIf_eq]
  | getfield k => exact qGetf_eq hx
  | putfield k => exact qPutf_eq hx
  | iaload => exact qIald_eq hx
  | iastore => exact qIast_eq hx
  | aaload => exact qAald_eq hx
  | iadd => exact qAri_eq (sg := false)
  | isub => exact qAri_eq (sg := true)
  | invokevirtual k =>
    show (@Bool.rec (fun _ => Option (List aS)) (none) (bInv w x md rm D lk (fun kd => Nat.beq kd 0) k (A.1 + 3) A) (Nat.beq len 3)) = if Nat.beq len 3 then sInv w md rm D lk (fun kd => Nat.beq kd 0) k A else none
    rw [bInv_eq hx, ite_b]
  | invokespecial k =>
    show (@Bool.rec (fun _ => Option (List aS)) (none) (bInv w x md rm D lk (fun kd => (@Bool.rec (fun _ => Bool) (Nat.beq kd 4) true (Nat.beq kd 2))) k (A.1 + 3) A) (Nat.beq len 3)) = if Nat.beq len 3 then sInv w md rm D lk (fun kd => Nat.beq kd 2 || Nat.beq kd 4) k A else none
    rw [bInv_eq hx, ite_b]
    simp only [or_b]
  | invokestatic k =>
    show (@Bool.rec (fun _ => Option (List aS)) (none) (@Option.rec (List aS) (fun _ => Option (List aS)) (sPrim w md m D k A) (fun Bs => some Bs) (bInv w x md rm D lk (fun kd => (@Bool.rec (fun _ => Bool) (Nat.beq kd 3) true (Nat.beq kd 1))) k (A.1 + 3) A)) (Nat.beq len 3)) = if Nat.beq len 3 then (match sInv w md rm D lk (fun kd => Nat.beq kd 1 || Nat.beq kd 3) k A with | some Bs => some Bs | none => sPrim w md m D k A) else none
    rw [bInv_eq hx, ite_b]
    simp only [or_b]
    cases sInv w md rm D lk (fun kd => @Bool.rec (fun _ => Bool) (Nat.beq kd 3) true (Nat.beq kd 1)) k A <;> rfl
  | _ => rfl
end BO
