/-! calls -/
section BC
variable {w : aWd} {x : bWd}
noncomputable def bMt1 (ρ : List aI) (a : aV) (p : aAg) : Bool := @Sum.rec aI (List Nat ⊕ Bool) (fun _ => Bool) (fun A => @Sum.rec aE (List Nat ⊕ Bool) (fun _ => Bool) (fun e => bLe (bset ρ e) A) (fun _ => false) a) (fun q => @Sum.rec (List Nat) Bool (fun _ => Bool) (fun bs => @Sum.rec aE (List Nat ⊕ Bool) (fun _ => Bool) (fun _ => false) (fun r => @Sum.rec (List Nat) Bool (fun _ => Bool) (fun as => bAll as (fun q => bAny bs (fun b => Nat.beq q b))) (fun _ => false) r) a) (fun _ => aMt1 ρ a p) q) p
theorem bMt1_eq (ρ : List aI) (a : aV) (p : aAg) : bMt1 ρ a p = aMt1 ρ a p := by
  rcases p with A | bs | c
  · rcases a with e | as | b
    · show bLe (bset ρ e) A = aLe (aset ρ e) A
      rw [bLe_eq, bset_eq]
    · rfl
    · rfl
  · rcases a with e | as | b
    · rfl
    · show bAll as (fun q => bAny bs (fun b => Nat.beq q b)) = as.all (fun q => bs.any (fun b => Nat.beq q b))
      simp only [bAll_eq, bAny_eq]
    · rfl
  · rfl
noncomputable def bMt (ρ : List aI) (l : List aV) : List aAg → Bool := @List.rec aV (fun _ => List aAg → Bool) (fun ps => @List.rec aAg (fun _ => Bool) true (fun _ _ _ => false) ps) (fun a _ ih ps => @List.rec aAg (fun _ => Bool) false (fun p ps _ => (@Bool.rec (fun _ => Bool) false (ih ps) (bMt1 ρ a p))) ps) l
theorem bMt_eq (ρ : List aI) : ∀ (l : List aV) (ps : List aAg), bMt ρ l ps = aMt ρ l ps
  | [], [] => rfl
  | [], _ :: _ => rfl
  | _ :: _, [] => rfl
  | a :: l, p :: ps => by
    show (@Bool.rec (fun _ => Bool) false (bMt ρ l ps) (bMt1 ρ a p)) = (aMt1 ρ a p && aMt ρ l ps)
    rw [bMt1_eq, bMt_eq ρ l ps, and_b]
noncomputable def bMp (x : bWd) (ρ : List aI) (tr : aT) (rr : aU) (p : List ((Nat × Nat) × aI) × aU) : Bool :=
  (@Bool.rec (fun _ => Bool) false (bAll p.2 (fun q => @Option.rec Nat (fun _ => Bool) false (fun b => Nat.beq b q.2) (bRf x rr q.1.1 q.1.2))) (bAll p.1 (fun q => bLe (bRd x ρ tr q.1.1 q.1.2) q.2)))
theorem bMp_eq (hx : bWok w x) (ρ : List aI) (tr : aT) (rr : aU) (p : List ((Nat × Nat) × aI) × aU) : bMp x ρ tr rr p = aMp w ρ tr rr p := by
  unfold bMp aMp
  rw [← and_b, bAll_eq, bAll_eq]
  simp only [bLe_eq, bRd_eq hx, bRf_eq hx]
  congr 2
  funext q
  cases aRf w rr q.1.1 q.1.2 <;> rfl
noncomputable def bInM (md : aMd) (a k : Nat) : Bool := bAny md (fun q => (@Bool.rec (fun _ => Bool) false ((@Bool.rec (fun _ => Bool) false (Nat.ble (Nat.succ k) q.2.2) (Nat.ble q.2.1 k))) (Nat.beq q.1 a)))
theorem bInM_eq (md : aMd) (a k : Nat) : bInM md a k = inM md a k := by
  unfold bInM inM
  rw [bAny_eq]
  congr 1
  funext q
  rw [and_b, and_b]
  rfl
noncomputable def bMdLe (a b : aMd) : Bool := bAll a (fun p => (@Bool.rec (fun _ => Bool) (bAny b (fun q => (@Bool.rec (fun _ => Bool) false ((@Bool.rec (fun _ => Bool) false (Nat.ble p.2.2 q.2.2) (Nat.ble q.2.1 p.2.1))) (Nat.beq q.1 p.1)))) true ((@Bool.rec (fun _ => Bool) false (Nat.beq p.2.2 0) (Nat.beq p.1 1000002)))))
theorem bMdLe_eq (a b : aMd) : bMdLe a b = aMdLe a b := by
  unfold bMdLe aMdLe
  rw [bAll_eq]
  congr 1
  funext p
  rw [bAny_eq, or_b, and_b]
  simp only [and_b]
noncomputable def bMdOk (a b : aMd) : Bool := (@Bool.rec (fun _ => Bool) false ((@Bool.rec (fun _ => Bool) ((@Bool.rec (fun _ => Bool) ((@Bool.rec (fun _ => Bool) false ((@Bool.rec (fun _ => Bool) true false (bInM a 196 6))) ((@Bool.rec (fun _ => Bool) true false (bInM a 196 5))))) true (bMono a))) true ((@Bool.rec (fun _ => Bool) true false (bMono b))))) (bMdLe a b))
theorem bMdOk_eq (a b : aMd) : bMdOk a b = aMdOk a b := by
  unfold bMdOk aMdOk
  rw [bMdLe_eq, bMono_eq, bMono_eq, bInM_eq, bInM_eq, and_b, or_b, or_b, and_b, not_b, not_b, not_b]
noncomputable def bAd (l : List ((Nat × Nat) × aI)) : List aI → aT → List aI × aT := @List.rec ((Nat × Nat) × aI) (fun _ => List aI → aT → List aI × aT) (fun ρ tr => (ρ, tr)) (fun q _ ih ρ tr => ih (bNew ρ q.2).2 ((q.1, (bNew ρ q.2).1) :: tr)) l
theorem bAd_eq : ∀ (l : List ((Nat × Nat) × aI)) (ρ : List aI) (tr : aT), bAd l ρ tr = aAd ρ tr l
  | [], _, _ => rfl
  | q :: t, ρ, tr => by
    show bAd t (bNew ρ q.2).2 ((q.1, (bNew ρ q.2).1) :: tr) = aAd (aNew ρ q.2).2 ((q.1, (aNew ρ q.2).1) :: tr) t
    rw [bNew_eq, bAd_eq t]
noncomputable def bNa (ρ : List aI) (as : List aV) (os : List (Option aI)) : List aI := @List.rec (Option aI) (fun _ => List aI) ρ (fun _ _ _ => aNa ρ as os) os
theorem bNa_eq (ρ : List aI) (as : List aV) (os : List (Option aI)) : bNa ρ as os = aNa ρ as os := by
  cases os with
  | nil => cases as <;> rfl
  | cons => rfl
noncomputable def bAftR (pc : Nat) (ls : aL) (rest : List aV) (rr : aU) (r : Option (aI ⊕ Unit)) (q : List aI × aT) : aS := @Option.rec (aI ⊕ Unit) (fun _ => aS) (pc, ls, rest, q.1, q.2, rr) (fun s => @Sum.rec aI Unit (fun _ => aS) (fun A => (pc, ls, .inl (bNew q.1 A).1 :: rest, (bNew q.1 A).2, q.2, rr)) (fun _ => (pc, ls, .inr (.inr false) :: rest, q.1, q.2, rr)) s) r
noncomputable def bAft (pc : Nat) (ls : aL) (rest : List aV) (ρ : List aI) (tr : aT) (rr : aU) (as : List aV) (c : aCt) (p : aPo) : aS :=
  bAftR pc ls rest (bApp p.2.2.2 (bFil rr (fun q => (@Bool.rec (fun _ => Bool) true false (bInM c.2.2.2.2.2.1 q.1.1 q.1.2))))) p.1 (bAd p.2.2.1 (bNa ρ as p.2.1) (bFil tr (fun q => (@Bool.rec (fun _ => Bool) true false (bInM c.2.2.2.2.1 q.1.1 q.1.2)))))
theorem bAft_eq (pc : Nat) (ls : aL) (rest : List aV) (ρ : List aI) (tr : aT) (rr : aU) (as : List aV) (c : aCt) (p : aPo) : bAft pc ls rest ρ tr rr as c p = aAft pc ls rest ρ tr rr as c p := by
  unfold bAft aAft
  rw [bApp_eq, bAd_eq, bNa_eq, bFil_eq, bFil_eq]
  simp only [bInM_eq, ← not_b]
  rcases p.1 with _ | A | u
  · rfl
  · unfold bAftR
    dsimp only
    rw [bNew_eq]
  · rfl
noncomputable def bWid (as : List aV) : Nat := @List.rec aV (fun _ => Nat) 0 (fun a _ ih => Nat.add ((@Bool.rec (fun _ => Nat) (1) (2) (bIsL a))) ih) as
theorem bWid_eq : ∀ as : List aV, bWid as = aWid as
  | [] => rfl
  | a :: t => by
    show Nat.add ((@Bool.rec (fun _ => Nat) (1) (2) (bIsL a))) (bWid t) = ((a :: t).map (fun a => if aIsL a then 2 else 1)).sum
    rw [bWid_eq t, List.map_cons, List.sum_cons, bIsL_eq, ite_b]
    rfl
noncomputable def bCallOk (w : aWd) (x : bWd) (md rm : aMd) (ρ : List aI) (tr : aT) (rr : aU) (st : List aV) (kd na : Nat) (c : aCt) : Bool :=
  (@Bool.rec (fun _ => Bool) false ((@Bool.rec (fun _ => Bool) false ((@Bool.rec (fun _ => Bool) false ((@Bool.rec (fun _ => Bool) false ((@Bool.rec (fun _ => Bool) false ((@Bool.rec (fun _ => Bool) false ((@Bool.rec (fun _ => Bool) false ((@Bool.rec (fun _ => Bool) ((@Bool.rec (fun _ => Bool) (match (bTake st na).reverse with
      | .inr (.inl as) :: _ => aKd w as c.1.2.1 && Nat.blt c.1.2.1 13
      | _ => false) true (Nat.beq kd 3))) true (Nat.beq kd 1))) (bMdLe c.2.2.2.2.2.1 rm))) (bMdOk c.2.2.2.2.1 md))) (bMp x ρ tr rr c.2.2.1))) (Nat.ble (bWid (bTake st na)) c.1.2.2.1))) (Nat.ble (bWid (bDrop st na)) 8))) (Nat.ble na (bLen st)))) (bMt ρ (bTake st na).reverse c.2.1))
theorem bCallOk_eq (hx : bWok w x) (md rm : aMd) (ρ : List aI) (tr : aT) (rr : aU) (st : List aV) (kd na : Nat) (c : aCt) : bCallOk w x md rm ρ tr rr st kd na c = aCallOk w md rm ρ tr rr st kd na c := by
  unfold bCallOk aCallOk
  rw [bMt_eq, bTake_eq, bDrop_eq, bLen_eq, bWid_eq, bWid_eq, bMp_eq hx, bMdOk_eq, bMdLe_eq]
  simp only [← and_b, ← or_b]
  cases Nat.ble na st.length <;> cases Nat.ble (aWid (st.drop na)) 8 <;> cases Nat.ble (aWid (st.take na)) c.1.2.2.1 <;> cases aMt ρ (st.take na).reverse c.2.1 <;> rfl
noncomputable def bInv (w : aWd) (x : bWd) (md rm : aMd) (D : Nat) (lk : aLk) (kds : Nat → Bool) (k nx : Nat) (A : aS) : Option (List aS) := @Option.rec (Nat × Nat × Nat × aCt) (fun _ => Option (List aS)) none (fun q => some (bFil (bMap q.2.2.2.2.2.2.1 (fun p => bAft nx A.2.1 (bDrop A.2.2.1 q.2.2.1) A.2.2.2.1 A.2.2.2.2.1 A.2.2.2.2.2 (bTake A.2.2.1 q.2.2.1).reverse q.2.2.2 p)) (fun B => (@Bool.rec (fun _ => Bool) true false (bDead B.2.2.2.1)))))
  (bFind lk (fun q => (@Bool.rec (fun _ => Bool) false ((@Bool.rec (fun _ => Bool) false ((@Bool.rec (fun _ => Bool) false (bCallOk w x md rm A.2.2.2.1 A.2.2.2.2.1 A.2.2.2.2.2 A.2.2.1 q.2.1 q.2.2.1 q.2.2.2) (Nat.ble (Nat.succ q.2.2.2.2.2.2.2.2.2) D))) (kds q.2.1))) (Nat.beq q.1 k))))
theorem bInv_eq (hx : bWok w x) {md rm : aMd} {D : Nat} {lk : aLk} {kds : Nat → Bool} {k : Nat} {A : aS} : bInv w x md rm D lk kds k (A.1 + 3) A = sInv w md rm D lk kds k A := by
  unfold bInv sInv
  rw [bFind_eq]
  simp only [bCallOk_eq hx, ← and_b, bFil_eq, bMap_eq, bAft_eq, bDead_eq, bTake_eq, bDrop_eq, ← not_b]
  show @Option.rec _ _ _ _ (lk.find? (fun q => Nat.beq q.1 k && (kds q.2.1 && (Nat.blt q.2.2.2.2.2.2.2.2.2 D && aCallOk w md rm A.2.2.2.1 A.2.2.2.2.1 A.2.2.2.2.2 A.2.2.1 q.2.1 q.2.2.1 q.2.2.2)))) = _
  cases lk.find? (fun q => Nat.beq q.1 k && (kds q.2.1 && (Nat.blt q.2.2.2.2.2.2.2.2.2 D && aCallOk w md rm A.2.2.2.1 A.2.2.2.2.1 A.2.2.2.2.2 A.2.2.1 q.2.1 q.2.2.1 q.2.2.2))) <;> rfl
/-! nodes -/
noncomputable def bPn (p : aAg) : Bool := @Sum.rec aI (List Nat ⊕ Bool) (fun _ => Bool) (fun A => @Option.rec Int (fun _ => Bool) true (fun _ => false) (bOne A)) (fun _ => false) p
theorem bPn_eq (p : aAg) : bPn p = aPn p := by
  rcases p with A | q
  · cases A with
    | nil => rfl
    | cons p t =>
      cases t with
      | cons => rfl
      | nil =>
        show @Option.rec Int (fun _ => Bool) true (fun _ => false) ((@Bool.rec (fun _ => Option Int) (none) (some p.1) (bieq p.1 p.2.1))) = !(ieq p.1 p.2.1)
        rw [bieq_eq]
        cases ieq p.1 p.2.1 <;> rfl
  · rfl
noncomputable def bArL (ρ : List aI) (ls : aL) (l : List (Nat × aAg)) : Option (List (Option aE)) := @List.rec (Nat × aAg) (fun _ => Option (List (Option aE))) (some []) (fun q _ ih => @Option.rec aV (fun _ => Option (List (Option aE))) none (fun a => (@Bool.rec (fun _ => Option (List (Option aE))) (none) (@Option.rec (List (Option aE)) (fun _ => Option (List (Option aE))) none (fun E => some ((@Bool.rec (fun _ => List (Option aE)) (E) ((@Sum.rec aE (List Nat ⊕ Bool) (fun _ => Option aE) (fun e => some e) (fun _ => none) a) :: E) (bPn q.2)))) ih) (bMt1 ρ a q.2))) (bGet ls q.1)) l
theorem bArL_eq (ρ : List aI) (ls : aL) : ∀ l, bArL ρ ls l = aArL ρ ls l
  | [] => rfl
  | q :: t => by
    show @Option.rec aV (fun _ => Option (List (Option aE))) none (fun a => (@Bool.rec (fun _ => Option (List (Option aE))) (none) (@Option.rec (List (Option aE)) (fun _ => Option (List (Option aE))) none (fun E => some ((@Bool.rec (fun _ => List (Option aE)) (E) ((@Sum.rec aE (List Nat ⊕ Bool) (fun _ => Option aE) (fun e => some e) (fun _ => none) a) :: E) (bPn q.2)))) (bArL ρ ls t)) (bMt1 ρ a q.2))) (bGet ls q.1) = _
    unfold aArL
    rw [bArL_eq ρ ls t, bGet_eq]
    cases aGet ls q.1 with
    | none => rfl
    | some a =>
      dsimp only
      rw [bMt1_eq]
      cases aMt1 ρ a q.2 with
      | false => rfl
      | true =>
        rw [if_pos rfl]
        cases aArL ρ ls t with
        | none => rfl
        | some E =>
          dsimp only
          unfold aPe
          rw [bPn_eq]
          cases aPn q.2 with
          | false => rfl
          | true => rcases a with e | q <;> rfl
noncomputable def bArT (tr : aT) (l : List ((Nat × Nat) × aI)) : List (Option aE) := @List.rec ((Nat × Nat) × aI) (fun _ => List (Option aE)) [] (fun q _ ih => (@Bool.rec (fun _ => List (Option aE)) (ih) (bTrk tr q.1.1 q.1.2 :: ih) (bPn (.inl q.2)))) l
theorem bArT_eq (tr : aT) : ∀ l, bArT tr l = aArT tr l
  | [] => rfl
  | q :: t => by
    show (@Bool.rec (fun _ => List (Option aE)) (bArT tr t) (bTrk tr q.1.1 q.1.2 :: bArT tr t) (bPn (.inl q.2))) = (if aPn (.inl q.2) then [aTrk tr q.1.1 q.1.2] else []) ++ aArT tr t
    rw [bArT_eq tr t, bPn_eq, bTrk_eq]
    cases aPn (.inl q.2) <;> rfl
noncomputable def bArr (x : bWd) (A : aS) (nd : aNd) : Option (List (Option aE)) := (@Bool.rec (fun _ => Option (List (Option aE))) (none) (@Option.rec (List (Option aE)) (fun _ => Option (List (Option aE))) none (fun E => @Option.rec (List (Option aE)) (fun _ => Option (List (Option aE))) none (fun F => (@Bool.rec (fun _ => Option (List (Option aE))) (none) (some (bApp E (bApp F (bArT A.2.2.2.2.1 nd.2.2.2.1)))) (bMp x A.2.2.2.1 A.2.2.2.2.1 A.2.2.2.2.2 (nd.2.2.2.1, nd.2.2.2.2.1)))) (aArS A.2.2.2.1 A.2.2.1 nd.2.2.1)) (bArL A.2.2.2.1 A.2.1 nd.2.1)) (Nat.beq nd.1 A.1))
theorem bArr_eq (hx : bWok w x) (A : aS) (nd : aNd) : bArr x A nd = aArr w A nd := by
  unfold bArr aArr
  rw [bMp_eq hx, bArL_eq]
  simp only [bApp_eq, bArT_eq]
  cases Nat.beq nd.1 A.1 with
  | false => rfl
  | true =>
    cases aMp w A.2.2.2.1 A.2.2.2.2.1 A.2.2.2.2.2 (nd.2.2.2.1, nd.2.2.2.2.1) with
    | false =>
      rw [if_neg (by decide)]
      cases aArL A.2.2.2.1 A.2.1 nd.2.1 with
      | none => rfl
      | some E => cases aArS A.2.2.2.1 A.2.2.1 nd.2.2.1 <;> rfl
    | true =>
      rw [if_pos (by decide)]
      cases aArL A.2.2.2.1 A.2.1 nd.2.1 with
      | none => rfl
      | some E => cases aArS A.2.2.2.1 A.2.2.1 nd.2.2.1 <;> rfl
/-- sums of names' bounds -/
noncomputable def bCo (l : List (Nat × Int)) (j : Nat) : Int := @List.rec (Nat × Int) (fun _ => Int) (.ofNat 0) (fun q _ ih => (@Bool.rec (fun _ => Int) (ih) (badd q.2 ih) (Nat.beq q.1 j))) l
theorem bCo_eq (j : Nat) : ∀ l, bCo l j = aCo l j
  | [] => rfl
  | q :: t => by
    show (@Bool.rec (fun _ => Int) (bCo t j) (badd q.2 (bCo t j)) (Nat.beq q.1 j)) = if Nat.beq q.1 j then q.2 + aCo t j else aCo t j
    rw [bCo_eq j t, badd_eq, ite_b]
noncomputable def bTm (co : Int) (B : aI) : Int := (@Bool.rec (fun _ => Int) ((@Bool.rec (fun _ => Int) (co * (bHull B).2) (co * (bHull B).1) (bile (.ofNat 0) co))) (.ofNat 0) (bieq co (.ofNat 0)))
noncomputable def bSu (l : List (Nat × Int)) (ρ : List aI) : Nat → Int := @List.rec aI (fun _ => Nat → Int) (fun _ => .ofNat 0) (fun B _ ih j => badd (bTm (bCo l j) B) (ih (Nat.succ j))) ρ
theorem aSum_sh (g : Nat → Int) : ∀ n, aSum (n + 1) g = g 0 + aSum n (fun j => g (j + 1))
  | 0 => by
    show 0 + g 0 = g 0 + 0
    omega
  | n + 1 => by
    show aSum (n + 1) g + g (n + 1) = g 0 + (aSum n (fun j => g (j + 1)) + g (n + 1))
    rw [aSum_sh g n]
    omega
theorem bSu_eq (l : List (Nat × Int)) : ∀ (ρ : List aI) (s : Nat) (R : List aI), R.drop s = ρ → bSu l ρ s = aSum ρ.length (fun j => aLw R l (j + s))
  | [], _, _, _ => rfl
  | B :: t, s, R, h => by
    show badd (bTm (bCo l s) B) (bSu l t (s + 1)) = aSum (t.length + 1) _
    have ht : R.drop (s + 1) = t := by
      have := congrArg (List.drop 1) h
      rw [List.drop_drop] at this
      exact this
    have hB : R[s]? = some B := by
      have := congrArg (fun l => l[0]?) h
      rw [List.getElem?_drop] at this
      exact this
    rw [aSum_sh, badd_eq, bSu_eq l t (s + 1) R ht]
    have e1 : bTm (bCo l s) B = aLw R l (0 + s) := by
      unfold bTm aLw
      rw [Nat.zero_add, hB, bCo_eq, bieq_eq, bile_eq, bHull_eq]
      dsimp only
      rw [ite_b, ite_b]
      rfl
    have e2 : (fun j => aLw R l (j + (s + 1))) = fun j => aLw R l (j + 1 + s) := funext (fun j => by rw [show j + (s + 1) = j + 1 + s by omega])
    rw [e1, e2]
noncomputable def bLow (ρ : List aI) (c : Int) (l : List (Nat × Int)) : Option Int := @List.rec (Nat × Int) (fun _ => Option Int) (some c) (fun _ _ _ => (@Bool.rec (fun _ => Option Int) (none) (some (badd c (bSu l ρ 0))) (bAll l (fun q => Nat.ble (Nat.succ q.1) (bLen ρ))))) l
theorem aSum_0 {ρ : List aI} : ∀ n, aSum n (aLw ρ []) = 0
  | 0 => rfl
  | n + 1 => by
    show aSum n (aLw ρ []) + aLw ρ [] n = 0
    rw [aSum_0 n]
    unfold aLw
    cases ρ[n]? with
    | none => rfl
    | some B =>
      dsimp only
      rw [if_pos (show ieq (aCo [] n) 0 = true from rfl)]
      rfl
theorem bLow_eq (ρ : List aI) (c : Int) (l : List (Nat × Int)) : bLow ρ c l = aLow ρ c l := by
  cases l with
  | cons q t =>
    show (@Bool.rec (fun _ => Option Int) (none) (some (badd c (bSu (q :: t) ρ 0))) (bAll (q :: t) (fun q => Nat.ble (Nat.succ q.1) (bLen ρ)))) = if (q :: t).all (fun q => Nat.blt q.1 ρ.length) then some (c + aSum ρ.length (aLw ρ (q :: t))) else none
    rw [bAll_eq, bLen_eq, badd_eq, bSu_eq _ ρ 0 ρ List.drop_zero, ite_b]
    rfl
  | nil =>
    show some c = if true = true then some (c + aSum ρ.length (aLw ρ [])) else none
    rw [if_pos rfl, aSum_0, Int.add_zero]
noncomputable def bRkOk (nd : aNd) : Bool := (@Bool.rec (fun _ => Bool) false (@Option.rec Int (fun _ => Bool) false (fun b => bile 0 b) (bLow (aNr nd) nd.2.2.2.2.2.1 nd.2.2.2.2.2.2)) (bAll nd.2.2.2.2.2.2 (fun q => Nat.ble (Nat.succ q.1) (bLen (aNr nd)))))
theorem bRkOk_eq (nd : aNd) : bRkOk nd = aRkOk nd := by
  unfold bRkOk aRkOk
  rw [bAll_eq, bLen_eq, bLow_eq, ← and_b]
  congr 1
  cases aLow (aNr nd) nd.2.2.2.2.2.1 nd.2.2.2.2.2.2 with
  | none => rfl
  | some b => exact bile_eq 0 b
noncomputable def bGoN (x : bWd) (rk : Int × List (Nat × Int)) (A : aS) (nd : aNd) : Bool := @Option.rec (List (Option aE)) (fun _ => Bool) false (fun E => @Option.rec (Int × List (Nat × Int)) (fun _ => Bool) false (fun p => @Option.rec Int (fun _ => Bool) false (fun b => bile 1 b) (bLow A.2.2.2.1 (bsub (bsub rk.1 nd.2.2.2.2.2.1) p.1) (bApp rk.2 (aNeg p.2)))) (aSb E nd.2.2.2.2.2.2)) (bArr x A nd)
theorem bGoN_eq (hx : bWok w x) (rk : Int × List (Nat × Int)) (A : aS) (nd : aNd) : bGoN x rk A nd = aGoN w rk A nd := by
  unfold bGoN aGoN
  rw [bArr_eq hx]
  cases aArr w A nd with
  | none => rfl
  | some E =>
    dsimp only
    cases aSb E nd.2.2.2.2.2.2 with
    | none => rfl
    | some p =>
      dsimp only
      rw [bLow_eq, bsub_eq, bsub_eq, bApp_eq]
      cases aLow A.2.2.2.1 (rk.1 - nd.2.2.2.2.2.1 - p.1) (rk.2 ++ aNeg p.2) with
      | none => rfl
      | some b => exact bile_eq 1 b
noncomputable def bEnd (x : bWd) (m : zM) (ps : List aPo) (ag : List (Option aE)) (i : Instr) (A : aS) : Bool := match i, A.2.2.1 with
  | .ireturn, [.inl e] => (match m.2.2.2.1 with
      | some .int => true
      | some .boolean => bLe (bset A.2.2.2.1 e) [(0, 1, 1)]
      | _ => false) && bAny ps (fun p => (@Bool.rec (fun _ => Bool) false ((@Bool.rec (fun _ => Bool) false (aAk A.2.2.2.1 ag p.2.1) (bMp x A.2.2.2.1 A.2.2.2.2.1 A.2.2.2.2.2 p.2.2))) (match p.1 with
      | some (.inl B) => bLe (bset A.2.2.2.1 e) B
      | _ => false)))
  | .lreturn, [.inr (.inr _)] => (match m.2.2.2.1 with
      | some .long => true
      | _ => false) && bAny ps (fun p => (@Bool.rec (fun _ => Bool) false ((@Bool.rec (fun _ => Bool) false (aAk A.2.2.2.1 ag p.2.1) (bMp x A.2.2.2.1 A.2.2.2.2.1 A.2.2.2.2.2 p.2.2))) (match p.1 with
      | some (.inr _) => true
      | _ => false)))
  | .return_, [] => m.2.2.2.1.isNone && bAny ps (fun p => (@Bool.rec (fun _ => Bool) false ((@Bool.rec (fun _ => Bool) false (aAk A.2.2.2.1 ag p.2.1) (bMp x A.2.2.2.1 A.2.2.2.2.1 A.2.2.2.2.2 p.2.2))) (p.1.isNone)))
  | _, _ => false
theorem bEnd_eq (hx : bWok w x) (m : zM) (ps : List aPo) (ag : List (Option aE)) (i : Instr) (A : aS) : bEnd x m ps ag i A = aEnd w m ps ag i A := by
  unfold bEnd aEnd
  simp only [bMp_eq hx, bAny_eq, bLe_eq, bset_eq, ← and_b]
  rfl
end BC
