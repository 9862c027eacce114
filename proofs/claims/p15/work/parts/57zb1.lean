section Pk0
/-! THE CHECK ONCE MORE, by bare recursors and tables: what the kernel unfolds is short -/
theorem ite_b {α : Type} {c : Bool} {a b : α} : (if c = true then a else b) = @Bool.rec (fun _ => α) b a c := by cases c <;> rfl
theorem and_b (a b : Bool) : (a && b) = @Bool.rec (fun _ => Bool) false b a := by cases a <;> rfl
theorem or_b (a b : Bool) : (a || b) = @Bool.rec (fun _ => Bool) b true a := by cases a <;> rfl
theorem not_b (a : Bool) : (!a) = @Bool.rec (fun _ => Bool) true false a := by cases a <;> rfl
noncomputable def bAll {α : Type} (l : List α) (p : α → Bool) : Bool := @List.rec α (fun _ => Bool) true (fun a _ ih => (@Bool.rec (fun _ => Bool) false (ih) (p a))) l
noncomputable def bAny {α : Type} (l : List α) (p : α → Bool) : Bool := @List.rec α (fun _ => Bool) false (fun a _ ih => (@Bool.rec (fun _ => Bool) (ih) true (p a))) l
noncomputable def bMap {α β : Type} (l : List α) (f : α → β) : List β := @List.rec α (fun _ => List β) [] (fun a _ ih => f a :: ih) l
noncomputable def bFil {α : Type} (l : List α) (p : α → Bool) : List α := @List.rec α (fun _ => List α) [] (fun a _ ih => (@Bool.rec (fun _ => List α) (ih) (a :: ih) (p a))) l
noncomputable def bApp {α : Type} (l m : List α) : List α := @List.rec α (fun _ => List α) m (fun a _ ih => a :: ih) l
noncomputable def bFlat {α β : Type} (l : List α) (f : α → List β) : List β := @List.rec α (fun _ => List β) [] (fun a _ ih => bApp (f a) ih) l
noncomputable def bFind {α : Type} (l : List α) (p : α → Bool) : Option α := @List.rec α (fun _ => Option α) none (fun a _ ih => (@Bool.rec (fun _ => Option α) (ih) (some a) (p a))) l
noncomputable def bLen {α : Type} (l : List α) : Nat := @List.rec α (fun _ => Nat) 0 (fun _ _ ih => Nat.succ ih) l
noncomputable def bIdx {α : Type} (l : List α) : Nat → Option α := @List.rec α (fun _ => Nat → Option α) (fun _ => none) (fun a _ ih n => @Nat.rec (fun _ => Option α) (some a) (fun n _ => ih n) n) l
noncomputable def bSet {α : Type} (l : List α) : Nat → α → List α := @List.rec α (fun _ => Nat → α → List α) (fun _ _ => []) (fun a t ih n x => @Nat.rec (fun _ => List α) (x :: t) (fun n _ => a :: ih n x) n) l
noncomputable def bTake {α : Type} (l : List α) : Nat → List α := @List.rec α (fun _ => Nat → List α) (fun _ => []) (fun a _ ih n => @Nat.rec (fun _ => List α) [] (fun n _ => a :: ih n) n) l
noncomputable def bDrop {α : Type} (l : List α) : Nat → List α := @List.rec α (fun _ => Nat → List α) (fun _ => []) (fun a t ih n => @Nat.rec (fun _ => List α) (a :: t) (fun n _ => ih n) n) l
section BB
variable {α β : Type}
theorem bAll_eq (l : List α) (p : α → Bool) : bAll l p = l.all p := by
  induction l with
  | nil => rfl
  | cons a t ih =>
    rw [List.all_cons, ← ih, and_b]
    rfl
theorem bAny_eq (l : List α) (p : α → Bool) : bAny l p = l.any p := by
  induction l with
  | nil => rfl
  | cons a t ih =>
    rw [List.any_cons, ← ih, or_b]
    rfl
theorem bMap_eq (l : List α) (f : α → β) : bMap l f = l.map f := by
  induction l with
  | nil => rfl
  | cons a t ih =>
    rw [List.map_cons, ← ih]
    rfl
theorem bFil_eq (l : List α) (p : α → Bool) : bFil l p = l.filter p := by
  induction l with
  | nil => rfl
  | cons a t ih =>
    rw [List.filter_cons, ← ih, ite_b]
    rfl
theorem bApp_eq (l m : List α) : bApp l m = l ++ m := by
  induction l with
  | nil => rfl
  | cons a t ih =>
    rw [List.cons_append, ← ih]
    rfl
theorem bFlat_eq (l : List α) (f : α → List β) : bFlat l f = l.flatMap f := by
  induction l with
  | nil => rfl
  | cons a t ih =>
    rw [List.flatMap_cons, ← ih, ← bApp_eq]
    rfl
theorem bFind_eq (l : List α) (p : α → Bool) : bFind l p = l.find? p := by
  induction l with
  | nil => rfl
  | cons a t ih =>
    rw [List.find?_cons, ← ih]
    show @Bool.rec (fun _ => Option α) (bFind t p) (some a) (p a) = _
    cases p a <;> rfl
theorem bLen_eq (l : List α) : bLen l = l.length := by
  induction l with
  | nil => rfl
  | cons a t ih =>
    rw [List.length_cons, ← ih]
    rfl
theorem bIdx_eq (l : List α) : ∀ n, bIdx l n = l[n]? := by
  induction l with
  | nil => intro n; rfl
  | cons a t ih =>
    intro n
    cases n with
    | zero => rfl
    | succ n => rw [List.getElem?_cons_succ, ← ih]; rfl
theorem bSet_eq (l : List α) : ∀ n x, bSet l n x = l.set n x := by
  induction l with
  | nil => intro n x; rfl
  | cons a t ih =>
    intro n x
    cases n with
    | zero => rfl
    | succ n => rw [List.set_cons_succ, ← ih]; rfl
theorem bTake_eq (l : List α) : ∀ n, bTake l n = l.take n := by
  induction l with
  | nil => intro n; cases n <;> rfl
  | cons a t ih =>
    intro n
    cases n with
    | zero => rfl
    | succ n => rw [List.take_succ_cons, ← ih]; rfl
theorem bDrop_eq (l : List α) : ∀ n, bDrop l n = l.drop n := by
  induction l with
  | nil => intro n; cases n <;> rfl
  | cons a t ih =>
    intro n
    cases n with
    | zero => rfl
    | succ n => rw [List.drop_succ_cons, ← ih]; rfl
end BB
/-! numbers -/
noncomputable def bile (a b : Int) : Bool := @Int.rec (fun _ => Bool) (fun m => @Int.rec (fun _ => Bool) (fun n => Nat.ble m n) (fun _ => false) b) (fun m => @Int.rec (fun _ => Bool) (fun _ => true) (fun n => Nat.ble n m) b) a
noncomputable def bieq (a b : Int) : Bool := @Int.rec (fun _ => Bool) (fun m => @Int.rec (fun _ => Bool) (fun n => Nat.beq m n) (fun _ => false) b) (fun m => @Int.rec (fun _ => Bool) (fun _ => false) (fun n => Nat.beq n m) b) a
noncomputable def bsnn (m n : Nat) : Int := @Nat.rec (fun _ => Int) (.ofNat (Nat.sub m n)) (fun k _ => .negSucc k) (Nat.sub n m)
noncomputable def badd (a b : Int) : Int := @Int.rec (fun _ => Int) (fun m => @Int.rec (fun _ => Int) (fun n => .ofNat (Nat.add m n)) (fun n => bsnn m (Nat.succ n)) b) (fun m => @Int.rec (fun _ => Int) (fun n => bsnn n (Nat.succ m)) (fun n => .negSucc (Nat.succ (Nat.add m n))) b) a
noncomputable def bneg (a : Int) : Int := @Int.rec (fun _ => Int) (fun n => @Nat.rec (fun _ => Int) (.ofNat 0) (fun k _ => .negSucc k) n) (fun n => .ofNat (Nat.succ n)) a
noncomputable def bsub (a b : Int) : Int := badd a (bneg b)
noncomputable def btoN (a : Int) : Nat := @Int.rec (fun _ => Nat) (fun n => n) (fun _ => 0) a
theorem bile_eq (a b : Int) : bile a b = ile a b := by cases a <;> cases b <;> rfl
theorem bieq_eq (a b : Int) : bieq a b = ieq a b := by
  have key : bieq a b = decide (a = b) := by
    cases a with
    | ofNat m =>
      cases b with
      | ofNat n =>
        show Nat.beq m n = _
        rw [Bool.eq_iff_iff]
        simp
        omega
      | negSucc n => rfl
    | negSucc m =>
      cases b with
      | ofNat n => rfl
      | negSucc n =>
        show Nat.beq n m = _
        rw [Bool.eq_iff_iff]
        simp
        omega
  rw [key, Bool.eq_iff_iff, ieq_iff]
  simp
theorem bsnn_eq (m n : Nat) : bsnn m n = Int.subNatNat m n := by
  unfold bsnn Int.subNatNat
  show @Nat.rec (fun _ => Int) (.ofNat (m - n)) (fun k _ => .negSucc k) (n - m) = _
  cases n - m <;> rfl
theorem badd_eq (a b : Int) : badd a b = a + b := by
  cases a with
  | ofNat m =>
    cases b with
    | ofNat n => rfl
    | negSucc n => exact bsnn_eq m (n + 1)
  | negSucc m =>
    cases b with
    | ofNat n => exact bsnn_eq n (m + 1)
    | negSucc n => rfl
theorem bneg_eq (a : Int) : bneg a = -a := by
  cases a with
  | ofNat n => cases n <;> rfl
  | negSucc n => rfl
theorem bsub_eq (a b : Int) : bsub a b = a - b := by
  unfold bsub
  rw [badd_eq, bneg_eq]
  rfl
theorem btoN_eq (a : Int) : btoN a = a.toNat := by cases a <;> rfl
noncomputable def bmin (a b : Int) : Int := (@Bool.rec (fun _ => Int) (b) (a) (bile a b))
noncomputable def bmax (a b : Int) : Int := (@Bool.rec (fun _ => Int) (a) (b) (bile a b))
theorem bmin_eq (a b : Int) : bmin a b = imin a b := by
  unfold bmin imin
  rw [bile_eq, ite_b]
theorem bmax_eq (a b : Int) : bmax a b = imax a b := by
  unfold bmax imax
  rw [bile_eq, ite_b]
/-! ranges -/
noncomputable def bLe1 (p q : aP) : Bool := (@Bool.rec (fun _ => Bool) false ((@Bool.rec (fun _ => Bool) false ((@Bool.rec (fun _ => Bool) ((@Bool.rec (fun _ => Bool) false (Nat.beq (Nat.mod (btoN (bsub p.1 q.1)) q.2.2) 0) (Nat.beq (Nat.mod p.2.2 q.2.2) 0))) true (Nat.beq q.2.2 1))) (bile p.2.1 q.2.1))) (bile q.1 p.1))
theorem bLe1_eq (p q : aP) : bLe1 p q = aLe1 p q := by
  unfold bLe1 aLe1
  rw [bile_eq, bile_eq, btoN_eq, bsub_eq, and_b, and_b, and_b]
  cases e : Nat.beq q.2.2 1 with
  | true =>
    have e2 : q.2.2 = 1 := by simpa using e
    rw [e2, Nat.mod_one, Nat.mod_one]
    rfl
  | false => rfl
noncomputable def bLe (A B : aI) : Bool := bAll A (fun p => bAny B (fun q => bLe1 p q))
theorem bLe_eq (A B : aI) : bLe A B = aLe A B := by
  unfold bLe aLe
  simp only [bAll_eq, bAny_eq, bLe1_eq]
noncomputable def bHull (A : aI) : Int × Int := @List.rec aP (fun _ => Int × Int) (0, 0) (fun p t ih => @List.rec aP (fun _ => Int × Int) (p.1, p.2.1) (fun _ _ _ => (bmin p.1 ih.1, bmax p.2.1 ih.2)) t) A
theorem bHull_eq (A : aI) : bHull A = aHull A := by
  induction A with
  | nil => rfl
  | cons p t ih =>
    cases t with
    | nil => rfl
    | cons q t =>
      show (bmin p.1 (bHull (q :: t)).1, bmax p.2.1 (bHull (q :: t)).2) = _
      rw [ih, bmin_eq, bmax_eq]
      rfl
noncomputable def bSh (A : aI) (o : Int) : aI := bMap A (fun p => (badd p.1 o, badd p.2.1 o, p.2.2))
theorem bSh_eq (A : aI) (o : Int) : bSh A o = aSh A o := by
  unfold bSh aSh
  simp only [bMap_eq, badd_eq]
noncomputable def bCut1 (p : aP) (lo hi : Int) : aI := (@Bool.rec (fun _ => aI) ((@Bool.rec (fun _ => aI) ((@Bool.rec (fun _ => aI) (aCut1 p lo hi) ((@Bool.rec (fun _ => aI) ([]) ([(lo, bmin p.2.1 hi, 1)]) (bile lo (bmin p.2.1 hi)))) (Nat.beq p.2.2 1))) ([]) (Nat.beq p.2.2 0))) ((@Bool.rec (fun _ => aI) ([]) ([(p.1, bmin p.2.1 hi, p.2.2)]) (bile p.1 (bmin p.2.1 hi)))) (bile lo p.1))
theorem bCut1_eq (p : aP) (lo hi : Int) : bCut1 p lo hi = aCut1 p lo hi := by
  unfold bCut1
  simp only [bile_eq, bmin_eq, ← ite_b]
  split
  · next h => unfold aCut1; rw [if_pos h]
  · next h =>
    split
    · next h2 => unfold aCut1; rw [if_neg h, if_pos h2]
    · next h2 =>
      split
      · next h3 =>
        unfold aCut1
        rw [if_neg h, if_neg h2]
        have e : p.2.2 = 1 := by simpa using h3
        rw [e, show p.1 + (lo - p.1 + (1 : Nat) - 1) / ((1 : Nat) : Int) * ((1 : Nat) : Int) = lo by simp; omega]
      · rfl
noncomputable def bCut (A : aI) (lo hi : Int) : aI := bFlat A (fun p => bCut1 p lo hi)
theorem bCut_eq (A : aI) (lo hi : Int) : bCut A lo hi = aCut A lo hi := by
  unfold bCut aCut
  simp only [bFlat_eq, bCut1_eq]
noncomputable def bCutL (A : aI) (lo : Int) : aI := bFlat A (fun p => bCut1 p lo p.2.1)
noncomputable def bCutH (A : aI) (hi : Int) : aI := bFlat A (fun p => bCut1 p p.1 hi)
theorem bCutL_eq (A : aI) (lo : Int) : bCutL A lo = aCutL A lo := by
  unfold bCutL aCutL
  simp only [bFlat_eq, bCut1_eq]
theorem bCutH_eq (A : aI) (hi : Int) : bCutH A hi = aCutH A hi := by
  unfold bCutH aCutH
  simp only [bFlat_eq, bCut1_eq]
noncomputable def bDel (A : aI) (c : Int) : aI := bFlat A (fun p => bApp (bCut1 p p.1 (bsub c 1)) (bCut1 p (badd c 1) p.2.1))
theorem bDel_eq (A : aI) (c : Int) : bDel A c = aDel A c := by
  unfold bDel aDel
  simp only [bFlat_eq, bCut1_eq, bApp_eq, badd_eq, bsub_eq]
noncomputable def bRef (cd : ClassFile.Cond) (A : aI) (lo hi : Int) : aI := @ClassFile.Cond.rec (fun _ => aI) (bCut A lo hi) ((@Bool.rec (fun _ => aI) (A) (bDel A lo) (bieq lo hi))) (bCutH A (bsub hi 1)) (bCutL A lo) (bCutL A (badd lo 1)) (bCutH A hi) cd
theorem bRef_eq (cd : ClassFile.Cond) (A : aI) (lo hi : Int) : bRef cd A lo hi = aRef cd A lo hi := by
  cases cd
  · exact bCut_eq A lo hi
  · show (@Bool.rec (fun _ => aI) (A) (bDel A lo) (bieq lo hi)) = if ieq lo hi then aDel A lo else A
    rw [bieq_eq, bDel_eq, ite_b]
  · show bCutH A (bsub hi 1) = _
    rw [bCutH_eq, bsub_eq]
    rfl
  · exact bCutL_eq A lo
  · show bCutL A (badd lo 1) = _
    rw [bCutL_eq, badd_eq]
    rfl
  · exact bCutH_eq A hi
noncomputable def bFit (A : aI) : Bool := (@Bool.rec (fun _ => Bool) false (bile (bHull A).2 2147483647) (bile (-2147483648) (bHull A).1))
theorem bFit_eq (A : aI) : bFit A = aFit A := by
  unfold bFit aFit
  rw [bile_eq, bile_eq, bHull_eq, and_b]
noncomputable def bClip (A : aI) : aI := (@Bool.rec (fun _ => aI) (aTop) (A) (bFit A))
theorem bClip_eq (A : aI) : bClip A = aClip A := by
  unfold bClip aClip
  rw [bFit_eq, ite_b]
noncomputable def bAdd (A B : aI) : aI := bFlat A (fun p => bMap B (fun q => (badd p.1 q.1, badd p.2.1 q.2.1, Nat.gcd p.2.2 q.2.2)))
theorem bAdd_eq (A B : aI) : bAdd A B = aAdd A B := by
  unfold bAdd aAdd
  simp only [bFlat_eq, bMap_eq, badd_eq]
noncomputable def bSub1 (p q : aP) : aP := (@Bool.rec (fun _ => aP) ((bsub p.1 q.2.1, bsub p.2.1 q.1, 1)) ((bsub p.1 q.1, bsub p.2.1 q.1, p.2.2)) (Nat.beq q.2.2 0))
theorem bSub1_eq (p q : aP) : bSub1 p q = aSub1 p q := by
  unfold bSub1 aSub1
  rw [ite_b]
  simp only [bsub_eq]
noncomputable def bSub (A B : aI) : aI := bFlat A (fun p => bMap B (fun q => bSub1 p q))
theorem bSub_eq (A B : aI) : bSub A B = aSub A B := by
  unfold bSub aSub
  simp only [bFlat_eq, bMap_eq, bSub1_eq]
/-! states -/
noncomputable def bset (ρ : List aI) (e : aE) : aI := @Sum.rec Int (Nat × Int) (fun _ => aI) (fun c => [(c, c, 0)]) (fun p => @Option.rec aI (fun _ => aI) aTop (fun B => (@Bool.rec (fun _ => aI) (bSh B p.2) (B) (bieq p.2 0))) (bIdx ρ p.1)) e
theorem bset_eq (ρ : List aI) (e : aE) : bset ρ e = aset ρ e := by
  cases e with
  | inl c => rfl
  | inr p =>
    obtain ⟨i, o⟩ := p
    show @Option.rec aI (fun _ => aI) aTop (fun B => (@Bool.rec (fun _ => aI) (bSh B o) (B) (bieq o 0))) (bIdx ρ i) = match ρ[i]? with | some B => if ieq o 0 then B else aSh B o | none => aTop
    rw [bIdx_eq]
    cases ρ[i]? with
    | none => rfl
    | some B =>
      show (@Bool.rec (fun _ => aI) (bSh B o) (B) (bieq o 0)) = if ieq o 0 then B else aSh B o
      rw [bieq_eq, bSh_eq, ite_b]
noncomputable def bOne (B : aI) : Option Int := @List.rec aP (fun _ => Option Int) none (fun p t _ => @List.rec aP (fun _ => Option Int) ((@Bool.rec (fun _ => Option Int) (none) (some p.1) (bieq p.1 p.2.1))) (fun _ _ _ => none) t) B
noncomputable def bNew (ρ : List aI) (B : aI) : aE × List aI := @Option.rec Int (fun _ => aE × List aI) (.inr (bLen ρ, 0), bApp ρ [B]) (fun c => (.inl c, ρ)) (bOne B)
theorem bNew_eq (ρ : List aI) (B : aI) : bNew ρ B = aNew ρ B := by
  unfold bNew
  cases B with
  | nil =>
    show (_, _) = (_, _)
    rw [bLen_eq, bApp_eq]
  | cons p t =>
    cases t with
    | nil =>
      show @Option.rec Int (fun _ => aE × List aI) (.inr (bLen ρ, 0), bApp ρ [[p]]) (fun c => (.inl c, ρ)) ((@Bool.rec (fun _ => Option Int) (none) (some p.1) (bieq p.1 p.2.1))) = if ieq p.1 p.2.1 then (.inl p.1, ρ) else (.inr (ρ.length, 0), ρ ++ [[p]])
      rw [bieq_eq, bLen_eq, bApp_eq]
      cases ieq p.1 p.2.1 <;> rfl
    | cons q t =>
      show (_, _) = (_, _)
      rw [bLen_eq, bApp_eq]
noncomputable def bNarr (ρ : List aI) (e : aE) (cd : ClassFile.Cond) (lo hi : Int) : List aI := @Sum.rec Int (Nat × Int) (fun _ => List aI) (fun _ => ρ) (fun p => @Option.rec aI (fun _ => List aI) ρ (fun B => bSet ρ p.1 (bRef cd B (bsub lo p.2) (bsub hi p.2))) (bIdx ρ p.1)) e
theorem bNarr_eq (ρ : List aI) (e : aE) (cd : ClassFile.Cond) (lo hi : Int) : bNarr ρ e cd lo hi = aNarr ρ e cd lo hi := by
  cases e with
  | inl c => rfl
  | inr p =>
    obtain ⟨i, o⟩ := p
    show @Option.rec aI (fun _ => List aI) ρ (fun B => bSet ρ i (bRef cd B (bsub lo o) (bsub hi o))) (bIdx ρ i) = match ρ[i]? with | some B => ρ.set i (aRef cd B (lo - o) (hi - o)) | none => ρ
    rw [bIdx_eq]
    cases ρ[i]? with
    | none => rfl
    | some B =>
      show bSet ρ i (bRef cd B (bsub lo o) (bsub hi o)) = _
      rw [bSet_eq, bRef_eq, bsub_eq, bsub_eq]
noncomputable def bDead (ρ : List aI) : Bool := bAny ρ (fun B => @List.rec aP (fun _ => Bool) true (fun _ _ _ => false) B)
theorem bDead_eq (ρ : List aI) : bDead ρ = aDead ρ := by
  unfold bDead aDead
  rw [bAny_eq]
  congr 1
  funext B
  cases B <;> rfl
noncomputable def bIsL (a : aV) : Bool := @Sum.rec aE (List Nat ⊕ Bool) (fun _ => Bool) (fun _ => false) (fun q => @Sum.rec (List Nat) Bool (fun _ => Bool) (fun _ => false) (fun _ => true) q) a
theorem bIsL_eq (a : aV) : bIsL a = aIsL a := by
  rcases a with e | q | b <;> rfl
noncomputable def bGet (ls : aL) (i : Nat) : Option aV := @List.rec (Nat × aV) (fun _ => Option aV) none (fun q _ ih => (@Bool.rec (fun _ => Option aV) (ih) (some q.2) (Nat.beq q.1 i))) ls
theorem bGet_eq (ls : aL) (i : Nat) : bGet ls i = aGet ls i := by
  induction ls with
  | nil => rfl
  | cons q t ih =>
    show (@Bool.rec (fun _ => Option aV) (bGet t i) (some q.2) (Nat.beq q.1 i)) = if Nat.beq q.1 i then some q.2 else aGet t i
    rw [ih, ite_b]
noncomputable def bSet1 (ls : aL) (i : Nat) (a : aV) : aL := (i, a) :: bFil ls (fun q => (@Bool.rec (fun _ => Bool) ((@Bool.rec (fun _ => Bool) true false ((@Bool.rec (fun _ => Bool) false (bIsL q.2) (Nat.beq (Nat.succ q.1) i))))) (false) (Nat.beq q.1 i)))
theorem bSet1_eq (ls : aL) (i : Nat) (a : aV) : bSet1 ls i a = aSet1 ls i a := by
  unfold bSet1 aSet1
  rw [bFil_eq]
  congr 2
  funext q
  rw [bIsL_eq]
  show (@Bool.rec (fun _ => Bool) ((@Bool.rec (fun _ => Bool) true false ((@Bool.rec (fun _ => Bool) false (aIsL q.2) (Nat.beq (q.1 + 1) i))))) (false) (Nat.beq q.1 i)) = _
  cases Nat.beq q.1 i <;> cases Nat.beq (q.1 + 1) i <;> cases aIsL q.2 <;> rfl
noncomputable def bSetL (ls : aL) (k : Nat) (a : aV) : aL := (@Bool.rec (fun _ => aL) (bSet1 ls k a) (aSet2 ls k a) (bIsL a))
theorem bSetL_eq (ls : aL) (k : Nat) (a : aV) : bSetL ls k a = aSetL ls k a := by
  unfold bSetL aSetL
  rw [bIsL_eq, bSet1_eq, ite_b]
noncomputable def bPlus (ρ : List aI) (e : aE) (k : Int) : Option aE := @Sum.rec Int (Nat × Int) (fun _ => Option aE) (fun c => (@Bool.rec (fun _ => Option aE) (none) (some (.inl (badd c k))) ((@Bool.rec (fun _ => Bool) false (bile (badd c k) 2147483647) (bile (-2147483648) (badd c k)))))) (fun p => (@Bool.rec (fun _ => Option aE) (none) (some (.inr (p.1, badd p.2 k))) (bFit (bSh (bset ρ (.inr p)) k)))) e
theorem bPlus_eq (ρ : List aI) (e : aE) (k : Int) : bPlus ρ e k = aPlus ρ e k := by
  cases e with
  | inl c =>
    show (@Bool.rec (fun _ => Option aE) (none) (some (.inl (badd c k))) ((@Bool.rec (fun _ => Bool) false (bile (badd c k) 2147483647) (bile (-2147483648) (badd c k))))) = if aFt (c + k) then some (.inl (c + k)) else none
    unfold aFt
    rw [badd_eq, bile_eq, bile_eq, ite_b, and_b]
  | inr p =>
    obtain ⟨i, o⟩ := p
    show (@Bool.rec (fun _ => Option aE) (none) (some (.inr (i, badd o k))) (bFit (bSh (bset ρ (.inr (i, o))) k))) = if aFit (aSh (aset ρ (.inr (i, o))) k) then some (.inr (i, o + k)) else none
    rw [bFit_eq, bSh_eq, bset_eq, badd_eq, ite_b]
noncomputable def bKn (ρ : List aI) (e : aE) : Option Int := bOne (bset ρ e)
theorem bKn_eq (ρ : List aI) (e : aE) : bKn ρ e = aKn ρ e := by
  unfold bKn aKn
  rw [bset_eq]
  generalize aset ρ e = B
  cases B with
  | nil => rfl
  | cons p t =>
    cases t with
    | nil =>
      show (@Bool.rec (fun _ => Option Int) (none) (some p.1) (bieq p.1 p.2.1)) = if ieq p.1 p.2.1 then some p.1 else none
      rw [bieq_eq, ite_b]
    | cons q t => rfl
end Pk0
section Pk1
/-! slots -/
noncomputable def bTrk (t : aT) (a k : Nat) : Option aE := @List.rec ((Nat × Nat) × aE) (fun _ => Option aE) none (fun q _ ih => (@Bool.rec (fun _ => Option aE) (ih) ((@Bool.rec (fun _ => Option aE) (ih) (some q.2) (Nat.beq q.1.1 a))) (Nat.beq q.1.2 k))) t
theorem bTrk_eq (t : aT) (a k : Nat) : bTrk t a k = aTrk t a k := by
  induction t with
  | nil => rfl
  | cons q t ih =>
    show (@Bool.rec (fun _ => Option aE) (bTrk t a k) ((@Bool.rec (fun _ => Option aE) (bTrk t a k) (some q.2) (Nat.beq q.1.1 a))) (Nat.beq q.1.2 k)) = if Nat.beq q.1.1 a && Nat.beq q.1.2 k then some q.2 else aTrk t a k
    rw [ih]
    cases Nat.beq q.1.1 a <;> cases Nat.beq q.1.2 k <;> rfl
noncomputable def bTrr (t : aU) (a k : Nat) : Option Nat := @List.rec ((Nat × Nat) × Nat) (fun _ => Option Nat) none (fun q _ ih => (@Bool.rec (fun _ => Option Nat) (ih) ((@Bool.rec (fun _ => Option Nat) (ih) (some q.2) (Nat.beq q.1.1 a))) (Nat.beq q.1.2 k))) t
theorem bTrr_eq (t : aU) (a k : Nat) : bTrr t a k = aTrr t a k := by
  induction t with
  | nil => rfl
  | cons q t ih =>
    show (@Bool.rec (fun _ => Option Nat) (bTrr t a k) ((@Bool.rec (fun _ => Option Nat) (bTrr t a k) (some q.2) (Nat.beq q.1.1 a))) (Nat.beq q.1.2 k)) = if Nat.beq q.1.1 a && Nat.beq q.1.2 k then some q.2 else aTrr t a k
    rw [ih]
    cases Nat.beq q.1.1 a <;> cases Nat.beq q.1.2 k <;> rfl
/-- a world by tables: shapes, ranges (as lists, slot by slot), references, implications by what they give, by what they speak of -/
abbrev bWd : Type := (Nat → Option (Nat × Nat)) × (Nat → List (Nat × aI)) × (Nat → Nat → aI) × (Nat → Nat → Option Nat) × (Nat → Nat → List aM) × (Nat → Nat → List aM)
def bMn (a k : Nat) (i : aM) : Bool := (Nat.beq i.2.1.1 a && Nat.beq i.2.1.2 k) || i.1.any (fun c => Nat.beq c.1.1 a && Nat.beq c.1.2 k)
def bWok (w : aWd) (x : bWd) : Prop := (∀ a, x.1 a = w.1 a) ∧ (∀ a, x.2.1 a = w.2.1 a) ∧ (∀ a k, x.2.2.1 a k = gSeg (w.2.1 a) k) ∧ (∀ a k, x.2.2.2.1 a k = w.2.2.1 a k) ∧ (∀ a k, x.2.2.2.2.1 a k = w.2.2.2.filter (fun i => Nat.beq i.2.1.1 a && Nat.beq i.2.1.2 k)) ∧ ∀ a k, x.2.2.2.2.2 a k = w.2.2.2.filter (bMn a k)
theorem find_fil {α : Type} (l : List α) (p q : α → Bool) : (l.filter p).find? q = l.find? (fun a => p a && q a) := by
  induction l with
  | nil => rfl
  | cons a t ih =>
    rw [List.filter_cons, List.find?_cons]
    cases p a with
    | false => exact ih
    | true =>
      rw [if_pos rfl, List.find?_cons, ih]
      rfl
section BS
variable {w : aWd} {x : bWd}
noncomputable def bRd0 (x : bWd) (ρ : List aI) (tr : aT) (a k : Nat) : aI := @Option.rec aE (fun _ => aI) (x.2.2.1 a k) (fun e => bset ρ e) (bTrk tr a k)
theorem bRd0_eq (hx : bWok w x) (ρ : List aI) (tr : aT) (a k : Nat) : bRd0 x ρ tr a k = aRd0 w ρ tr a k := by
  unfold bRd0 aRd0
  rw [bTrk_eq, hx.2.2.1]
  cases aTrk tr a k with
  | none => rfl
  | some e => exact bset_eq ρ e
noncomputable def bRd (x : bWd) (ρ : List aI) (tr : aT) (a k : Nat) : aI := @Option.rec aE (fun _ => aI) (@Option.rec aM (fun _ => aI) (x.2.2.1 a k) (fun i => i.2.2) (bFind (x.2.2.2.2.1 a k) (fun i => bAll i.1 (fun c => bLe (bRd0 x ρ tr c.1.1 c.1.2) c.2)))) (fun e => bset ρ e) (bTrk tr a k)
theorem bRd_eq (hx : bWok w x) (ρ : List aI) (tr : aT) (a k : Nat) : bRd x ρ tr a k = aRd w ρ tr a k := by
  unfold bRd aRd
  rw [bTrk_eq, hx.2.2.1, hx.2.2.2.2.1, bFind_eq, find_fil]
  simp only [bAll_eq, bLe_eq, bRd0_eq hx, Bool.and_assoc]
  cases aTrk tr a k with
  | some e => exact bset_eq ρ e
  | none =>
    dsimp only
    cases w.2.2.2.find? (fun i => Nat.beq i.2.1.1 a && (Nat.beq i.2.1.2 k && i.1.all (fun c => aLe (aRd0 w ρ tr c.1.1 c.1.2) c.2))) <;> rfl
noncomputable def bRf (x : bWd) (rr : aU) (a k : Nat) : Option Nat := @Option.rec Nat (fun _ => Option Nat) (x.2.2.2.1 a k) (fun b => some b) (bTrr rr a k)
theorem bRf_eq (hx : bWok w x) (rr : aU) (a k : Nat) : bRf x rr a k = aRf w rr a k := by
  unfold bRf aRf
  rw [bTrr_eq, hx.2.2.2.1]
  cases aTrr rr a k <;> rfl
noncomputable def bDis (A B : aI) : Bool := bAll A (fun p => bAll B (fun q => (@Bool.rec (fun _ => Bool) (bile (badd q.2.1 1) p.1) true (bile (badd p.2.1 1) q.1))))
theorem bDis_eq (A B : aI) : bDis A B = aDis A B := by
  unfold bDis aDis
  simp only [bAll_eq, bile_eq, badd_eq, ← or_b]
noncomputable def bHit (as : List Nat) (lo hi : Int) (s : Nat × Nat) : Bool := (@Bool.rec (fun _ => Bool) false ((@Bool.rec (fun _ => Bool) false (bile (.ofNat s.2) hi) (bile lo (.ofNat s.2)))) (bAny as (fun a => Nat.beq a s.1)))
theorem bHit_eq (as : List Nat) (lo hi : Int) (s : Nat × Nat) : bHit as lo hi s = aHit as lo hi s := by
  unfold bHit aHit
  rw [bAny_eq, bile_eq, bile_eq, and_b, and_b]
  rfl
noncomputable def bImpOk (x : bWd) (ρ : List aI) (tr tr' : aT) (as : List Nat) (lo hi : Int) (i : aM) : Bool :=
  (@Bool.rec (fun _ => Bool) ((@Bool.rec (fun _ => Bool) ((@Bool.rec (fun _ => Bool) ((@Bool.rec (fun _ => Bool) false (bAll i.1 (fun c => (@Bool.rec (fun _ => Bool) (bLe (bRd0 x ρ tr c.1.1 c.1.2) c.2) true ((@Bool.rec (fun _ => Bool) true false (bHit as lo hi c.1)))))) ((@Bool.rec (fun _ => Bool) true false (bHit as lo hi i.2.1))))) true (bLe (bRd0 x ρ tr' i.2.1.1 i.2.1.2) i.2.2))) true (bAny i.1 (fun c => bDis (bRd0 x ρ tr' c.1.1 c.1.2) c.2)))) true ((@Bool.rec (fun _ => Bool) false (bAll i.1 (fun c => (@Bool.rec (fun _ => Bool) true false (bHit as lo hi c.1)))) ((@Bool.rec (fun _ => Bool) true false (bHit as lo hi i.2.1))))))
theorem bImpOk_eq (hx : bWok w x) (ρ : List aI) (tr tr' : aT) (as : List Nat) (lo hi : Int) (i : aM) : bImpOk x ρ tr tr' as lo hi i = aImpOk w ρ tr tr' as lo hi i := by
  unfold bImpOk aImpOk
  simp only [bHit_eq, bAll_eq, bAny_eq, bDis_eq, bLe_eq, bRd0_eq hx, ← not_b, ← or_b, ← and_b]
/-- the one place that is written, if it is one -/
noncomputable def bPt (as : List Nat) (I : aI) : Option (Nat × Nat) := @List.rec Nat (fun _ => Option (Nat × Nat)) none (fun a t _ => @List.rec Nat (fun _ => Option (Nat × Nat)) (@List.rec aP (fun _ => Option (Nat × Nat)) none (fun p u _ => @List.rec aP (fun _ => Option (Nat × Nat)) ((@Bool.rec (fun _ => Option (Nat × Nat)) (none) (some (a, btoN p.1)) ((@Bool.rec (fun _ => Bool) false ((@Bool.rec (fun _ => Bool) false (Nat.beq p.2.2 0) (bile 0 p.1))) (bieq p.1 p.2.1))))) (fun _ _ _ => none) u) I) (fun _ _ _ => none) t) as
theorem bPt_in {as : List Nat} {I : aI} {a k : Nat} (h : bPt as I = some (a, k)) : as = [a] ∧ I = [((k : Int), (k : Int), 0)] := by
  unfold bPt at h
  cases as with
  | nil => cases h
  | cons b t =>
    cases t with
    | cons => cases h
    | nil =>
      cases I with
      | nil => cases h
      | cons p u =>
        cases u with
        | cons => cases h
        | nil =>
          obtain ⟨p1, p2, p3⟩ := p
          have h : (@Bool.rec (fun _ => Option (Nat × Nat)) (none) (some (b, btoN p1)) ((@Bool.rec (fun _ => Bool) false ((@Bool.rec (fun _ => Bool) false (Nat.beq p3 0) (bile 0 p1))) (bieq p1 p2)))) = some (a, k) := h
          rw [← and_b, ← and_b, ← ite_b] at h
          split at h
          · next q =>
            simp only [Bool.and_eq_true, bieq_eq, ieq_iff, bile_eq, ile_iff, Nat.beq_eq] at q
            obtain ⟨q1, q2, q3⟩ := q
            rw [btoN_eq] at h
            cases h
            subst q3
            subst q1
            exact ⟨rfl, by rw [Int.toNat_of_nonneg q2]⟩
          · cases h
noncomputable def bImps (w : aWd) (x : bWd) (as : List Nat) (I : aI) : List aM := @Option.rec (Nat × Nat) (fun _ => List aM) w.2.2.2 (fun q => x.2.2.2.2.2 q.1 q.2) (bPt as I)
theorem bImps_eq (hx : bWok w x) {ρ : List aI} {tr tr' : aT} {as : List Nat} {I : aI} : bAll (bImps w x as I) (bImpOk x ρ tr tr' as (bHull I).1 (bHull I).2) = w.2.2.2.all (aImpOk w ρ tr tr' as (aHull I).1 (aHull I).2) := by
  rw [bAll_eq, bHull_eq, show bImpOk x ρ tr tr' as (aHull I).1 (aHull I).2 = aImpOk w ρ tr tr' as (aHull I).1 (aHull I).2 from funext (fun i => bImpOk_eq hx ρ tr tr' as _ _ i)]
  unfold bImps
  cases e : bPt as I with
  | none => rfl
  | some q =>
    obtain ⟨a, k⟩ := q
    obtain ⟨e1, e2⟩ := bPt_in e
    subst e1
    subst e2
    show (x.2.2.2.2.2 a k).all _ = _
    rw [hx.2.2.2.2.2]
    have no : ∀ s : Nat × Nat, (Nat.beq s.1 a && Nat.beq s.2 k) = false → aHit [a] (k : Int) (k : Int) s = false := fun s hs => by
      unfold aHit
      rw [List.any_cons, List.any_nil, Bool.or_false]
      cases z : Nat.beq a s.1 with
      | false => rfl
      | true =>
        have z2 : a = s.1 := by simpa using z
        rw [← z2] at hs
        simp only [show Nat.beq a a = true by simp, Bool.true_and] at hs
        have : s.2 ≠ k := fun q => by rw [q] at hs; simp at hs
        cases z3 : (ile (k : Int) s.2 && ile (s.2 : Int) k) with
        | false => rfl
        | true =>
          simp only [Bool.and_eq_true, ile_iff] at z3
          omega
    have tv : ∀ i, bMn a k i = false → aImpOk w ρ tr tr' [a] (k : Int) (k : Int) i = true := fun i z => by
      unfold bMn at z
      rw [Bool.or_eq_false_iff] at z
      unfold aImpOk
      rw [no i.2.1 z.1, List.all_eq_true.mpr (fun c hc => by
        rw [no c.1 (Bool.eq_false_iff.mpr (List.any_eq_false.mp z.2 c hc))]
        rfl)]
      rfl
    have hh : aHull [((k : Int), (k : Int), 0)] = ((k : Int), (k : Int)) := rfl
    rw [hh]
    dsimp only
    induction w.2.2.2 with
    | nil => rfl
    | cons i l ih =>
      rw [List.filter_cons, List.all_cons]
      cases z : bMn a k i with
      | true =>
        rw [if_pos rfl, List.all_cons, ih]
      | false =>
        rw [if_neg (by decide), ih, tv i z, Bool.true_and]
/-- what is written fits -/
noncomputable def bSegLe (x : bWd) (a : Nat) (I V : aI) : Bool := (@Bool.rec (fun _ => Bool) (aSegLe 0 (x.2.1 a) I V) true (@Option.rec (Nat × Nat) (fun _ => Bool) false (fun q => bLe V (x.2.2.1 q.1 q.2)) (bPt [a] I)))
theorem segLe_pt {V : aI} {k : Nat} : ∀ {l : List (Nat × aI)} {s : Nat}, s ≤ k → aLe V (gSeg l k) = true → aSegLe s l [((k : Int), (k : Int), 0)] V = true
  | [], _, _, _ => rfl
  | p :: t, s, hs, h => by
    unfold gSeg at h
    unfold aSegLe
    by_cases z : k < p.1
    · rw [if_pos (by simpa [Nat.blt_eq] using z)] at h
      rw [h, Bool.or_true, Bool.true_and]
      have e : aCutL [((k : Int), (k : Int), 0)] (p.1 : Int) = [] := by
        unfold aCutL aCut1
        simp only [List.flatMap_cons, List.flatMap_nil, List.append_nil]
        rw [if_neg (fun q => by have := ile_iff.mp q; omega), if_pos (show Nat.beq 0 0 = true from rfl)]
      rw [e]
      rfl
    · rw [if_neg (by simpa [Nat.blt_eq] using z)] at h
      have e : aCut [((k : Int), (k : Int), 0)] (s : Int) ((p.1 : Int) - 1) = [] := by
        unfold aCut aCut1
        simp only [List.flatMap_cons, List.flatMap_nil, List.append_nil]
        rw [if_pos (ile_iff.mpr (by omega)), if_neg (fun q => by
          have := ile_iff.mp q
          have := (@imin_le (k : Int) ((p.1 : Int) - 1)).2
          omega)]
      rw [e, segLe_pt (s := p.1) (by omega) h, Bool.or_true]
      rfl
theorem bSegLe_eq (hx : bWok w x) (a : Nat) (I V : aI) : bSegLe x a I V = aSegLe 0 (w.2.1 a) I V := by
  unfold bSegLe
  rw [hx.2.1]
  cases e : bPt [a] I with
  | none => rfl
  | some q =>
    obtain ⟨b, k⟩ := q
    obtain ⟨e1, e2⟩ := bPt_in e
    cases e1
    subst e2
    show (@Bool.rec (fun _ => Bool) (aSegLe 0 (w.2.1 a) [((k : Int), (k : Int), 0)] V) true (bLe V (x.2.2.1 a k))) = _
    rw [← or_b, bLe_eq, hx.2.2.1]
    cases z : aLe V (gSeg (w.2.1 a) k) with
    | false => rfl
    | true => rw [segLe_pt (Nat.zero_le k) z]; rfl
noncomputable def bTrN (tr : aT) (as : List Nat) (I : aI) (e : aE) : aT := bApp (@List.rec Nat (fun _ => aT) [] (fun a t _ => @List.rec Nat (fun _ => aT) ((@Bool.rec (fun _ => aT) ([]) ([((a, btoN (bHull I).1), e)]) (bieq (bHull I).1 (bHull I).2))) (fun _ _ _ => []) t) as) (bFil tr (fun q => (@Bool.rec (fun _ => Bool) true false (bHit as (bHull I).1 (bHull I).2 q.1))))
theorem bTrN_eq (tr : aT) (as : List Nat) (I : aI) (e : aE) : bTrN tr as I e = aTrN tr as I e := by
  unfold bTrN aTrN
  rw [bApp_eq, bFil_eq, bHull_eq, btoN_eq, bieq_eq]
  congr 1
  · cases as with
    | nil => rfl
    | cons a t =>
      cases t with
      | nil => exact ite_b.symm
      | cons => rfl
  · congr 1
    funext q
    rw [bHit_eq, not_b]
noncomputable def bMono (md : aMd) : Bool := bAny md (fun q => Nat.beq q.1 1000002)
theorem bMono_eq (md : aMd) : bMono md = aMono md := bAny_eq md _
noncomputable def bWr (w : aWd) (x : bWd) (md : aMd) (ρ : List aI) (tr : aT) (as : List Nat) (I : aI) (e : aE) : Option aT :=
  (@Bool.rec (fun _ => Option aT) (none) (some (bTrN tr as I e)) ((@Bool.rec (fun _ => Bool) false ((@Bool.rec (fun _ => Bool) false ((@Bool.rec (fun _ => Bool) ((@Bool.rec (fun _ => Bool) false ((@Bool.rec (fun _ => Bool) true false (bHit as (bHull I).1 (bHull I).2 (196, 6)))) ((@Bool.rec (fun _ => Bool) true false (bHit as (bHull I).1 (bHull I).2 (196, 5)))))) true ((@Bool.rec (fun _ => Bool) true false (bMono md))))) (bAll (bImps w x as I) (bImpOk x ρ tr (bTrN tr as I e) as (bHull I).1 (bHull I).2)))) (bAll as (fun a => (@Bool.rec (fun _ => Bool) false (bAny md (fun q => (@Bool.rec (fun _ => Bool) false ((@Bool.rec (fun _ => Bool) false (bile (badd (bHull I).2 1) (.ofNat q.2.2)) (bile (.ofNat q.2.1) (bHull I).1))) (Nat.beq q.1 a)))) (bSegLe x a I (bset ρ e))))))))
theorem bWr_eq (hx : bWok w x) (md : aMd) (ρ : List aI) (tr : aT) (as : List Nat) (I : aI) (e : aE) : bWr w x md ρ tr as I e = aWr w md ρ tr as I e := by
  unfold bWr aWr
  rw [bTrN_eq, bImps_eq hx, ite_b, Bool.and_assoc, and_b, and_b, or_b, and_b, not_b, not_b, not_b, bMono_eq]
  simp only [bAll_eq, bAny_eq, bSegLe_eq hx, bset_eq, bile_eq, badd_eq, bHull_eq, bHit_eq, and_b]
  rfl
noncomputable def bRdE (x : bWd) (ρ : List aI) (tr : aT) (a k : Nat) : aE × List aI × aT := @Option.rec aE (fun _ => aE × List aI × aT) ((bNew ρ (bRd x ρ tr a k)).1, (bNew ρ (bRd x ρ tr a k)).2, ((a, k), (bNew ρ (bRd x ρ tr a k)).1) :: tr) (fun e => (e, ρ, tr)) (bTrk tr a k)
theorem bRdE_eq (hx : bWok w x) (ρ : List aI) (tr : aT) (a k : Nat) : bRdE x ρ tr a k = aRdE w ρ tr a k := by
  unfold bRdE aRdE
  rw [bTrk_eq, bRd_eq hx, bNew_eq]
  cases aTrk tr a k <;> rfl
noncomputable def bJn (A B : aI) : aI := (@Bool.rec (fun _ => aI) (bApp A B) (B) (bLe A B))
theorem bJn_eq (A B : aI) : bJn A B = aJn A B := by
  unfold bJn aJn
  rw [bLe_eq, bApp_eq, ite_b]
noncomputable def bUni (l : List aI) : aI := @List.rec aI (fun _ => aI) [] (fun B _ ih => bJn B ih) l
theorem bUni_eq : ∀ l : List aI, bUni l = aUni l
  | [] => rfl
  | B :: t => by
    show bJn B (bUni t) = aJn B (aUni t)
    rw [bUni_eq t, bJn_eq]
noncomputable def bGetM (x : bWd) (ρ : List aI) (tr : aT) (as : List Nat) (k : Nat) : aE × List aI × aT := ((bNew ρ (bUni (bMap as (fun a => bRd x ρ tr a k)))).1, (bNew ρ (bUni (bMap as (fun a => bRd x ρ tr a k)))).2, tr)
noncomputable def bGetI (x : bWd) (ρ : List aI) (tr : aT) (as : List Nat) (k : Nat) : aE × List aI × aT := @List.rec Nat (fun _ => aE × List aI × aT) (bGetM x ρ tr as k) (fun a t _ => @List.rec Nat (fun _ => aE × List aI × aT) (bRdE x ρ tr a k) (fun _ _ _ => bGetM x ρ tr as k) t) as
theorem bGetM_eq (hx : bWok w x) (ρ : List aI) (tr : aT) (as : List Nat) (k : Nat) : bGetM x ρ tr as k = ((aNew ρ (aUni (as.map (fun a => aRd w ρ tr a k)))).1, (aNew ρ (aUni (as.map (fun a => aRd w ρ tr a k)))).2, tr) := by
  unfold bGetM
  simp only [bNew_eq, bUni_eq, bMap_eq, bRd_eq hx]
theorem bGetI_eq (hx : bWok w x) (ρ : List aI) (tr : aT) (as : List Nat) (k : Nat) : bGetI x ρ tr as k = aGetI w ρ tr as k := by
  unfold bGetI
  cases as with
  | nil => exact bGetM_eq hx ρ tr [] k
  | cons a t =>
    cases t with
    | nil => exact bRdE_eq hx ρ tr a k
    | cons => exact bGetM_eq hx ρ tr _ k
noncomputable def bKd (x : bWd) (as : List Nat) (kd : Nat) : Bool := bAll as (fun a => @Option.rec (Nat × Nat) (fun _ => Bool) false (fun q => Nat.beq q.1 kd) (x.1 a))
theorem bKd_eq (hx : bWok w x) (as : List Nat) (kd : Nat) : bKd x as kd = aKd w as kd := by
  unfold bKd aKd
  rw [bAll_eq]
  congr 1
  funext a
  rw [hx.1]
  cases w.1 a <;> rfl
noncomputable def bBnd (x : bWd) (as : List Nat) (kd : Nat → Bool) (I : aI) : Bool := bAll as (fun a => @Option.rec (Nat × Nat) (fun _ => Bool) false (fun q => (@Bool.rec (fun _ => Bool) false ((@Bool.rec (fun _ => Bool) false (bile (badd (bHull I).2 1) (.ofNat q.2)) (bile 0 (bHull I).1))) (kd q.1))) (x.1 a))
theorem bBnd_eq (hx : bWok w x) (as : List Nat) (kd : Nat → Bool) (I : aI) : bBnd x as kd I = aBnd w as kd I := by
  unfold bBnd aBnd
  rw [bAll_eq]
  congr 1
  funext a
  rw [hx.1, bHull_eq]
  cases w.1 a with
  | none => rfl
  | some q =>
    show (@Bool.rec (fun _ => Bool) false ((@Bool.rec (fun _ => Bool) false (bile (badd (aHull I).2 1) (.ofNat q.2)) (bile 0 (aHull I).1))) (kd q.1)) = (kd q.1 && (ile 0 (aHull I).1 && ile ((aHull I).2 + 1) q.2))
    rw [bile_eq, bile_eq, badd_eq, and_b, and_b]
    rfl
noncomputable def bEmp (A : aI) : Bool := @List.rec aP (fun _ => Bool) true (fun _ _ _ => false) A
theorem bEmp_eq (A : aI) : bEmp A = A.isEmpty := by cases A <;> rfl
noncomputable def bSegs (I : aI) (l : List (Nat × aI)) : Nat → aI := @List.rec (Nat × aI) (fun _ => Nat → aI) (fun _ => aTop) (fun p _ ih s => (@Bool.rec (fun _ => aI) ((@Bool.rec (fun _ => aI) (bJn p.2 (ih p.1)) (p.2) (bEmp (bCutL I (.ofNat p.1))))) (ih p.1) (bEmp (bCut I (.ofNat s) (bsub (.ofNat p.1) 1))))) l
theorem bSegs_eq (I : aI) : ∀ (l : List (Nat × aI)) (s : Nat), bSegs I l s = aSegs s l I
  | [], _ => rfl
  | p :: t, s => by
    show (@Bool.rec (fun _ => aI) ((@Bool.rec (fun _ => aI) (bJn p.2 (bSegs I t p.1)) (p.2) (bEmp (bCutL I (.ofNat p.1))))) (bSegs I t p.1) (bEmp (bCut I (.ofNat s) (bsub (.ofNat p.1) 1)))) = if (aCut I s ((p.1 : Int) - 1)).isEmpty then aSegs p.1 t I else (if (aCutL I p.1).isEmpty then p.2 else aJn p.2 (aSegs p.1 t I))
    rw [bSegs_eq I t, bEmp_eq, bEmp_eq, bCut_eq, bCutL_eq, bJn_eq, bsub_eq, ite_b, ite_b]
    rfl
noncomputable def bLdM (x : bWd) (ρ : List aI) (tr : aT) (as : List Nat) (I : aI) : aE × List aI × aT := ((bNew ρ (bUni (bMap as (fun a => bSegs I (x.2.1 a) 0)))).1, (bNew ρ (bUni (bMap as (fun a => bSegs I (x.2.1 a) 0)))).2, tr)
noncomputable def bLd1 (x : bWd) (ρ : List aI) (tr : aT) (a : Nat) (I : aI) : aE × List aI × aT := (@Bool.rec (fun _ => aE × List aI × aT) (((bNew ρ (bSegs I (x.2.1 a) 0)).1, (bNew ρ (bSegs I (x.2.1 a) 0)).2, tr)) (bRdE x ρ tr a (btoN (bHull I).1)) (bieq (bHull I).1 (bHull I).2))
noncomputable def bLdI (x : bWd) (ρ : List aI) (tr : aT) (as : List Nat) (I : aI) : aE × List aI × aT := @List.rec Nat (fun _ => aE × List aI × aT) (bLdM x ρ tr as I) (fun a t _ => @List.rec Nat (fun _ => aE × List aI × aT) (bLd1 x ρ tr a I) (fun _ _ _ => bLdM x ρ tr as I) t) as
theorem bLdM_eq (hx : bWok w x) (ρ : List aI) (tr : aT) (as : List Nat) (I : aI) : bLdM x ρ tr as I = ((aNew ρ (aUni (as.map (fun a => aSegs 0 (w.2.1 a) I)))).1, (aNew ρ (aUni (as.map (fun a => aSegs 0 (w.2.1 a) I)))).2, tr) := by
  unfold bLdM
  simp only [bNew_eq, bUni_eq, bMap_eq, bSegs_eq, hx.2.1]
theorem bLdI_eq (hx : bWok w x) (ρ : List aI) (tr : aT) (as : List Nat) (I : aI) : bLdI x ρ tr as I = aLdI w ρ tr as I := by
  unfold bLdI
  cases as with
  | nil => exact bLdM_eq hx ρ tr [] I
  | cons a t =>
    cases t with
    | nil =>
      show bLd1 x ρ tr a I = if ieq (aHull I).1 (aHull I).2 then aRdE w ρ tr a (aHull I).1.toNat else ((aNew ρ (aSegs 0 (w.2.1 a) I)).1, (aNew ρ (aSegs 0 (w.2.1 a) I)).2, tr)
      unfold bLd1
      rw [bieq_eq, bHull_eq, bRdE_eq hx, btoN_eq, bNew_eq, bSegs_eq, hx.2.1, ite_b]
    | cons => exact bLdM_eq hx ρ tr _ I
/-- all that may stand in a place -/
noncomputable def bEra (l : List Nat) : List Nat → List Nat := @List.rec Nat (fun _ => List Nat → List Nat) (fun bs => bs.reverse) (fun a _ ih bs => (@Bool.rec (fun _ => List Nat) (ih (a :: bs)) (ih bs) (bAny bs (fun b => Nat.beq a b)))) l
theorem bEra_lp : ∀ (l bs : List Nat), bEra l bs = List.eraseDupsBy.loop (· == ·) l bs
  | [], bs => rfl
  | a :: t, bs => by
    show (@Bool.rec (fun _ => List Nat) (bEra t (a :: bs)) (bEra t bs) (bAny bs (fun b => Nat.beq a b))) = _
    unfold List.eraseDupsBy.loop
    rw [bAny_eq, bEra_lp t, bEra_lp t]
    have e : (fun b => Nat.beq a b) = fun b => a == b := funext (fun b => by rw [Bool.eq_iff_iff]; simp)
    rw [e]
    cases bs.any (fun b => a == b) <;> rfl
theorem bEra_eq (l : List Nat) : bEra l [] = l.eraseDups := bEra_lp l []
noncomputable def bAllO (l : List (Option Nat)) : Option (List Nat) := (@Bool.rec (fun _ => Option (List Nat)) (none) (some (bEra (@List.rec (Option Nat) (fun _ => List Nat) [] (fun o _ ih => @Option.rec Nat (fun _ => List Nat) ih (fun a => a :: ih) o) l) [])) (bAll l (fun o => @Option.rec Nat (fun _ => Bool) false (fun _ => true) o)))
theorem bAllO_eq (l : List (Option Nat)) : bAllO l = aAll l := by
  unfold bAllO aAll
  have e1 : (fun o => @Option.rec Nat (fun _ => Bool) false (fun _ => true) o) = fun (q : Option Nat) => q.isSome := funext (fun o => by cases o <;> rfl)
  have e2 : ∀ l : List (Option Nat), @List.rec (Option Nat) (fun _ => List Nat) [] (fun o _ ih => @Option.rec Nat (fun _ => List Nat) ih (fun a => a :: ih) o) l = l.filterMap id := fun l => by
    induction l with
    | nil => rfl
    | cons o t ih =>
      cases o with
      | none =>
        rw [List.filterMap_cons_none rfl]
        exact ih
      | some a =>
        rw [List.filterMap_cons_some (show id (some a) = some a from rfl)]
        exact congrArg (a :: ·) ih
  rw [e1, bAll_eq, bEra_eq, e2, ite_b]
noncomputable def bEn1 (hi : Int) (s : Nat) (n : Nat) : Int → List Int := @Nat.rec (fun _ => Int → List Int) (fun _ => []) (fun _ ih lo => (@Bool.rec (fun _ => List Int) ([]) (lo :: (@Bool.rec (fun _ => List Int) (ih (badd lo (.ofNat s))) ([]) (Nat.beq s 0))) (bile lo hi))) n
theorem bEn1_eq (hi : Int) (s : Nat) : ∀ (n : Nat) (lo : Int), bEn1 hi s n lo = aEn1 n lo hi s
  | 0, _ => rfl
  | n + 1, lo => by
    show (@Bool.rec (fun _ => List Int) ([]) (lo :: (@Bool.rec (fun _ => List Int) (bEn1 hi s n (badd lo (.ofNat s))) ([]) (Nat.beq s 0))) (bile lo hi)) = if ile lo hi then lo :: (if Nat.beq s 0 then [] else aEn1 n (lo + s) hi s) else []
    rw [bEn1_eq hi s n, bile_eq, badd_eq, ite_b, ite_b]
    rfl
noncomputable def bEn (A : aI) : List Int := bFlat A (fun p => bEn1 p.2.1 p.2.2 (Nat.succ (btoN (bsub p.2.1 p.1))) p.1)
theorem bEn_eq (A : aI) : bEn A = aEn A := by
  unfold bEn aEn
  simp only [bFlat_eq, bEn1_eq, btoN_eq, bsub_eq]
noncomputable def bLdR (x : bWd) (rr : aU) (as : List Nat) (I : aI) : Option (List Nat) := bAllO (bFlat as (fun a => bMap (bEn I) (fun k => bRf x rr a (btoN k))))
theorem bLdR_eq (hx : bWok w x) (rr : aU) (as : List Nat) (I : aI) : bLdR x rr as I = aLdR w rr as I := by
  unfold bLdR aLdR
  simp only [bAllO_eq, bFlat_eq, bMap_eq, bEn_eq, bRf_eq hx, btoN_eq]
end BS
end Pk1
section Pk2
/-! calls -/
section BC
variable {w : aWd} {x : bWd}
noncomputable def bMt1 (ρ : List aI) (a : aV) (p : aAg) : Bool := @Sum.rec aI (List Nat ⊕ Bool) (fun _ => Bool) (fun A => @Sum.rec aE (List Nat ⊕ Bool) (fun _ => Bool) (fun e => bLe (bset ρ e) A) (fun _ => false) a) (fun q => @Sum.rec (List Nat) Bool (fun _ => Bool) (fun bs => @Sum.rec aE (List Nat ⊕ Bool) (fun _ => Bool) (fun _ => false) (fun r => @Sum.rec (List Nat) Bool (fun _ => Bool) (fun as => bAll as (fun q => bAny bs (fun b => Nat.beq q b))) (fun _ => false) r) a) (fun _ => aMt1 ρ a p) q) p
theorem bMt1_eq (ρ : List aI) (a : aV) (p : aAg) : bMt1 ρ a p = aMt1 ρ a p := by
  rcases p with A | bs | c
  · rcases a with e | as | b
    · show bLe (bset ρ e) A = aLe (aset ρ e) A
      rw [bLe_eq, bset_eq]
    · rfl
    · rfl
  · rcases a with e | as | b
    · rfl
    · show bAll as (fun q => bAny bs (fun b => Nat.beq q b)) = as.all (fun q => bs.any (fun b => Nat.beq q b))
      simp only [bAll_eq, bAny_eq]
    · rfl
  · rfl
noncomputable def bMt (ρ : List aI) (l : List aV) : List aAg → Bool := @List.rec aV (fun _ => List aAg → Bool) (fun ps => @List.rec aAg (fun _ => Bool) true (fun _ _ _ => false) ps) (fun a _ ih ps => @List.rec aAg (fun _ => Bool) false (fun p ps _ => (@Bool.rec (fun _ => Bool) false (ih ps) (bMt1 ρ a p))) ps) l
theorem bMt_eq (ρ : List aI) : ∀ (l : List aV) (ps : List aAg), bMt ρ l ps = aMt ρ l ps
  | [], [] => rfl
  | [], _ :: _ => rfl
  | _ :: _, [] => rfl
  | a :: l, p :: ps => by
    show (@Bool.rec (fun _ => Bool) false (bMt ρ l ps) (bMt1 ρ a p)) = (aMt1 ρ a p && aMt ρ l ps)
    rw [bMt1_eq, bMt_eq ρ l ps, and_b]
noncomputable def bMp (x : bWd) (ρ : List aI) (tr : aT) (rr : aU) (p : List ((Nat × Nat) × aI) × aU) : Bool :=
  (@Bool.rec (fun _ => Bool) false (bAll p.2 (fun q => @Option.rec Nat (fun _ => Bool) false (fun b => Nat.beq b q.2) (bRf x rr q.1.1 q.1.2))) (bAll p.1 (fun q => bLe (bRd x ρ tr q.1.1 q.1.2) q.2)))
theorem bMp_eq (hx : bWok w x) (ρ : List aI) (tr : aT) (rr : aU) (p : List ((Nat × Nat) × aI) × aU) : bMp x ρ tr rr p = aMp w ρ tr rr p := by
  unfold bMp aMp
  rw [← and_b, bAll_eq, bAll_eq]
  simp only [bLe_eq, bRd_eq hx, bRf_eq hx]
  congr 2
  funext q
  cases aRf w rr q.1.1 q.1.2 <;> rfl
noncomputable def bInM (md : aMd) (a k : Nat) : Bool := bAny md (fun q => (@Bool.rec (fun _ => Bool) false ((@Bool.rec (fun _ => Bool) false (Nat.ble (Nat.succ k) q.2.2) (Nat.ble q.2.1 k))) (Nat.beq q.1 a)))
theorem bInM_eq (md : aMd) (a k : Nat) : bInM md a k = inM md a k := by
  unfold bInM inM
  rw [bAny_eq]
  congr 1
  funext q
  rw [and_b, and_b]
  rfl
noncomputable def bMdLe (a b : aMd) : Bool := bAll a (fun p => (@Bool.rec (fun _ => Bool) (bAny b (fun q => (@Bool.rec (fun _ => Bool) false ((@Bool.rec (fun _ => Bool) false (Nat.ble p.2.2 q.2.2) (Nat.ble q.2.1 p.2.1))) (Nat.beq q.1 p.1)))) true ((@Bool.rec (fun _ => Bool) false (Nat.beq p.2.2 0) (Nat.beq p.1 1000002)))))
theorem bMdLe_eq (a b : aMd) : bMdLe a b = aMdLe a b := by
  unfold bMdLe aMdLe
  rw [bAll_eq]
  congr 1
  funext p
  rw [bAny_eq, or_b, and_b]
  simp only [and_b]
noncomputable def bMdOk (a b : aMd) : Bool := (@Bool.rec (fun _ => Bool) false ((@Bool.rec (fun _ => Bool) ((@Bool.rec (fun _ => Bool) ((@Bool.rec (fun _ => Bool) false ((@Bool.rec (fun _ => Bool) true false (bInM a 196 6))) ((@Bool.rec (fun _ => Bool) true false (bInM a 196 5))))) true (bMono a))) true ((@Bool.rec (fun _ => Bool) true false (bMono b))))) (bMdLe a b))
theorem bMdOk_eq (a b : aMd) : bMdOk a b = aMdOk a b := by
  unfold bMdOk aMdOk
  rw [bMdLe_eq, bMono_eq, bMono_eq, bInM_eq, bInM_eq, and_b, or_b, or_b, and_b, not_b, not_b, not_b]
noncomputable def bAd (l : List ((Nat × Nat) × aI)) : List aI → aT → List aI × aT := @List.rec ((Nat × Nat) × aI) (fun _ => List aI → aT → List aI × aT) (fun ρ tr => (ρ, tr)) (fun q _ ih ρ tr => ih (bNew ρ q.2).2 ((q.1, (bNew ρ q.2).1) :: tr)) l
theorem bAd_eq : ∀ (l : List ((Nat × Nat) × aI)) (ρ : List aI) (tr : aT), bAd l ρ tr = aAd ρ tr l
  | [], _, _ => rfl
  | q :: t, ρ, tr => by
    show bAd t (bNew ρ q.2).2 ((q.1, (bNew ρ q.2).1) :: tr) = aAd (aNew ρ q.2).2 ((q.1, (aNew ρ q.2).1) :: tr) t
    rw [bNew_eq, bAd_eq t]
noncomputable def bNa (ρ : List aI) (as : List aV) (os : List (Option aI)) : List aI := @List.rec (Option aI) (fun _ => List aI) ρ (fun _ _ _ => aNa ρ as os) os
theorem bNa_eq (ρ : List aI) (as : List aV) (os : List (Option aI)) : bNa ρ as os = aNa ρ as os := by
  cases os with
  | nil => cases as <;> rfl
  | cons => rfl
noncomputable def bAftR (pc : Nat) (ls : aL) (rest : List aV) (rr : aU) (r : Option (aI ⊕ Unit)) (q : List aI × aT) : aS := @Option.rec (aI ⊕ Unit) (fun _ => aS) (pc, ls, rest, q.1, q.2, rr) (fun s => @Sum.rec aI Unit (fun _ => aS) (fun A => (pc, ls, .inl (bNew q.1 A).1 :: rest, (bNew q.1 A).2, q.2, rr)) (fun _ => (pc, ls, .inr (.inr false) :: rest, q.1, q.2, rr)) s) r
noncomputable def bAft (pc : Nat) (ls : aL) (rest : List aV) (ρ : List aI) (tr : aT) (rr : aU) (as : List aV) (c : aCt) (p : aPo) : aS :=
  bAftR pc ls rest (bApp p.2.2.2 (bFil rr (fun q => (@Bool.rec (fun _ => Bool) true false (bInM c.2.2.2.2.2.1 q.1.1 q.1.2))))) p.1 (bAd p.2.2.1 (bNa ρ as p.2.1) (bFil tr (fun q => (@Bool.rec (fun _ => Bool) true false (bInM c.2.2.2.2.1 q.1.1 q.1.2)))))
theorem bAft_eq (pc : Nat) (ls : aL) (rest : List aV) (ρ : List aI) (tr : aT) (rr : aU) (as : List aV) (c : aCt) (p : aPo) : bAft pc ls rest ρ tr rr as c p = aAft pc ls rest ρ tr rr as c p := by
  unfold bAft aAft
  rw [bApp_eq, bAd_eq, bNa_eq, bFil_eq, bFil_eq]
  simp only [bInM_eq, ← not_b]
  rcases p.1 with _ | A | u
  · rfl
  · unfold bAftR
    dsimp only
    rw [bNew_eq]
  · rfl
noncomputable def bWid (as : List aV) : Nat := @List.rec aV (fun _ => Nat) 0 (fun a _ ih => Nat.add ((@Bool.rec (fun _ => Nat) (1) (2) (bIsL a))) ih) as
theorem bWid_eq : ∀ as : List aV, bWid as = aWid as
  | [] => rfl
  | a :: t => by
    show Nat.add ((@Bool.rec (fun _ => Nat) (1) (2) (bIsL a))) (bWid t) = ((a :: t).map (fun a => if aIsL a then 2 else 1)).sum
    rw [bWid_eq t, List.map_cons, List.sum_cons, bIsL_eq, ite_b]
    rfl
noncomputable def bCallOk (w : aWd) (x : bWd) (md rm : aMd) (ρ : List aI) (tr : aT) (rr : aU) (st : List aV) (kd na : Nat) (c : aCt) : Bool :=
  (@Bool.rec (fun _ => Bool) false ((@Bool.rec (fun _ => Bool) false ((@Bool.rec (fun _ => Bool) false ((@Bool.rec (fun _ => Bool) false ((@Bool.rec (fun _ => Bool) false ((@Bool.rec (fun _ => Bool) false ((@Bool.rec (fun _ => Bool) false ((@Bool.rec (fun _ => Bool) ((@Bool.rec (fun _ => Bool) (match (bTake st na).reverse with
      | .inr (.inl as) :: _ => aKd w as c.1.2.1 && Nat.blt c.1.2.1 13
      | _ => false) true (Nat.beq kd 3))) true (Nat.beq kd 1))) (bMdLe c.2.2.2.2.2.1 rm))) (bMdOk c.2.2.2.2.1 md))) (bMp x ρ tr rr c.2.2.1))) (Nat.ble (bWid (bTake st na)) c.1.2.2.1))) (Nat.ble (bWid (bDrop st na)) 8))) (Nat.ble na (bLen st)))) (bMt ρ (bTake st na).reverse c.2.1))
theorem bCallOk_eq (hx : bWok w x) (md rm : aMd) (ρ : List aI) (tr : aT) (rr : aU) (st : List aV) (kd na : Nat) (c : aCt) : bCallOk w x md rm ρ tr rr st kd na c = aCallOk w md rm ρ tr rr st kd na c := by
  unfold bCallOk aCallOk
  rw [bMt_eq, bTake_eq, bDrop_eq, bLen_eq, bWid_eq, bWid_eq, bMp_eq hx, bMdOk_eq, bMdLe_eq]
  simp only [← and_b, ← or_b]
  cases Nat.ble na st.length <;> cases Nat.ble (aWid (st.drop na)) 8 <;> cases Nat.ble (aWid (st.take na)) c.1.2.2.1 <;> cases aMt ρ (st.take na).reverse c.2.1 <;> rfl
noncomputable def bInv (w : aWd) (x : bWd) (md rm : aMd) (D : Nat) (lk : aLk) (kds : Nat → Bool) (k nx : Nat) (A : aS) : Option (List aS) := @Option.rec (Nat × Nat × Nat × aCt) (fun _ => Option (List aS)) none (fun q => some (bFil (bMap q.2.2.2.2.2.2.1 (fun p => bAft nx A.2.1 (bDrop A.2.2.1 q.2.2.1) A.2.2.2.1 A.2.2.2.2.1 A.2.2.2.2.2 (bTake A.2.2.1 q.2.2.1).reverse q.2.2.2 p)) (fun B => (@Bool.rec (fun _ => Bool) true false (bDead B.2.2.2.1)))))
  (bFind lk (fun q => (@Bool.rec (fun _ => Bool) false ((@Bool.rec (fun _ => Bool) false ((@Bool.rec (fun _ => Bool) false (bCallOk w x md rm A.2.2.2.1 A.2.2.2.2.1 A.2.2.2.2.2 A.2.2.1 q.2.1 q.2.2.1 q.2.2.2) (Nat.ble (Nat.succ q.2.2.2.2.2.2.2.2.2) D))) (kds q.2.1))) (Nat.beq q.1 k))))
theorem bInv_eq (hx : bWok w x) {md rm : aMd} {D : Nat} {lk : aLk} {kds : Nat → Bool} {k : Nat} {A : aS} : bInv w x md rm D lk kds k (A.1 + 3) A = sInv w md rm D lk kds k A := by
  unfold bInv sInv
  rw [bFind_eq]
  simp only [bCallOk_eq hx, ← and_b, bFil_eq, bMap_eq, bAft_eq, bDead_eq, bTake_eq, bDrop_eq, ← not_b]
  show @Option.rec _ _ _ _ (lk.find? (fun q => Nat.beq q.1 k && (kds q.2.1 && (Nat.blt q.2.2.2.2.2.2.2.2.2 D && aCallOk w md rm A.2.2.2.1 A.2.2.2.2.1 A.2.2.2.2.2 A.2.2.1 q.2.1 q.2.2.1 q.2.2.2)))) = _
  cases lk.find? (fun q => Nat.beq q.1 k && (kds q.2.1 && (Nat.blt q.2.2.2.2.2.2.2.2.2 D && aCallOk w md rm A.2.2.2.1 A.2.2.2.2.1 A.2.2.2.2.2 A.2.2.1 q.2.1 q.2.2.1 q.2.2.2))) <;> rfl
/-! nodes -/
noncomputable def bPn (p : aAg) : Bool := @Sum.rec aI (List Nat ⊕ Bool) (fun _ => Bool) (fun A => @Option.rec Int (fun _ => Bool) true (fun _ => false) (bOne A)) (fun _ => false) p
theorem bPn_eq (p : aAg) : bPn p = aPn p := by
  rcases p with A | q
  · cases A with
    | nil => rfl
    | cons p t =>
      cases t with
      | cons => rfl
      | nil =>
        show @Option.rec Int (fun _ => Bool) true (fun _ => false) ((@Bool.rec (fun _ => Option Int) (none) (some p.1) (bieq p.1 p.2.1))) = !(ieq p.1 p.2.1)
        rw [bieq_eq]
        cases ieq p.1 p.2.1 <;> rfl
  · rfl
noncomputable def bArL (ρ : List aI) (ls : aL) (l : List (Nat × aAg)) : Option (List (Option aE)) := @List.rec (Nat × aAg) (fun _ => Option (List (Option aE))) (some []) (fun q _ ih => @Option.rec aV (fun _ => Option (List (Option aE))) none (fun a => (@Bool.rec (fun _ => Option (List (Option aE))) (none) (@Option.rec (List (Option aE)) (fun _ => Option (List (Option aE))) none (fun E => some ((@Bool.rec (fun _ => List (Option aE)) (E) ((@Sum.rec aE (List Nat ⊕ Bool) (fun _ => Option aE) (fun e => some e) (fun _ => none) a) :: E) (bPn q.2)))) ih) (bMt1 ρ a q.2))) (bGet ls q.1)) l
theorem bArL_eq (ρ : List aI) (ls : aL) : ∀ l, bArL ρ ls l = aArL ρ ls l
  | [] => rfl
  | q :: t => by
    show @Option.rec aV (fun _ => Option (List (Option aE))) none (fun a => (@Bool.rec (fun _ => Option (List (Option aE))) (none) (@Option.rec (List (Option aE)) (fun _ => Option (List (Option aE))) none (fun E => some ((@Bool.rec (fun _ => List (Option aE)) (E) ((@Sum.rec aE (List Nat ⊕ Bool) (fun _ => Option aE) (fun e => some e) (fun _ => none) a) :: E) (bPn q.2)))) (bArL ρ ls t)) (bMt1 ρ a q.2))) (bGet ls q.1) = _
    unfold aArL
    rw [bArL_eq ρ ls t, bGet_eq]
    cases aGet ls q.1 with
    | none => rfl
    | some a =>
      dsimp only
      rw [bMt1_eq]
      cases aMt1 ρ a q.2 with
      | false => rfl
      | true =>
        rw [if_pos rfl]
        cases aArL ρ ls t with
        | none => rfl
        | some E =>
          dsimp only
          unfold aPe
          rw [bPn_eq]
          cases aPn q.2 with
          | false => rfl
          | true => rcases a with e | q <;> rfl
noncomputable def bArT (tr : aT) (l : List ((Nat × Nat) × aI)) : List (Option aE) := @List.rec ((Nat × Nat) × aI) (fun _ => List (Option aE)) [] (fun q _ ih => (@Bool.rec (fun _ => List (Option aE)) (ih) (bTrk tr q.1.1 q.1.2 :: ih) (bPn (.inl q.2)))) l
theorem bArT_eq (tr : aT) : ∀ l, bArT tr l = aArT tr l
  | [] => rfl
  | q :: t => by
    show (@Bool.rec (fun _ => List (Option aE)) (bArT tr t) (bTrk tr q.1.1 q.1.2 :: bArT tr t) (bPn (.inl q.2))) = (if aPn (.inl q.2) then [aTrk tr q.1.1 q.1.2] else []) ++ aArT tr t
    rw [bArT_eq tr t, bPn_eq, bTrk_eq]
    cases aPn (.inl q.2) <;> rfl
noncomputable def bArr (x : bWd) (A : aS) (nd : aNd) : Option (List (Option aE)) := (@Bool.rec (fun _ => Option (List (Option aE))) (none) (@Option.rec (List (Option aE)) (fun _ => Option (List (Option aE))) none (fun E => @Option.rec (List (Option aE)) (fun _ => Option (List (Option aE))) none (fun F => (@Bool.rec (fun _ => Option (List (Option aE))) (none) (some (bApp E (bApp F (bArT A.2.2.2.2.1 nd.2.2.2.1)))) (bMp x A.2.2.2.1 A.2.2.2.2.1 A.2.2.2.2.2 (nd.2.2.2.1, nd.2.2.2.2.1)))) (aArS A.2.2.2.1 A.2.2.1 nd.2.2.1)) (bArL A.2.2.2.1 A.2.1 nd.2.1)) (Nat.beq nd.1 A.1))
theorem bArr_eq (hx : bWok w x) (A : aS) (nd : aNd) : bArr x A nd = aArr w A nd := by
  unfold bArr aArr
  rw [bMp_eq hx, bArL_eq]
  simp only [bApp_eq, bArT_eq]
  cases Nat.beq nd.1 A.1 with
  | false => rfl
  | true =>
    cases aMp w A.2.2.2.1 A.2.2.2.2.1 A.2.2.2.2.2 (nd.2.2.2.1, nd.2.2.2.2.1) with
    | false =>
      rw [if_neg (by decide)]
      cases aArL A.2.2.2.1 A.2.1 nd.2.1 with
      | none => rfl
      | some E => cases aArS A.2.2.2.1 A.2.2.1 nd.2.2.1 <;> rfl
    | true =>
      rw [if_pos (by decide)]
      cases aArL A.2.2.2.1 A.2.1 nd.2.1 with
      | none => rfl
      | some E => cases aArS A.2.2.2.1 A.2.2.1 nd.2.2.1 <;> rfl
/-- sums of names' bounds -/
noncomputable def bCo (l : List (Nat × Int)) (j : Nat) : Int := @List.rec (Nat × Int) (fun _ => Int) (.ofNat 0) (fun q _ ih => (@Bool.rec (fun _ => Int) (ih) (badd q.2 ih) (Nat.beq q.1 j))) l
theorem bCo_eq (j : Nat) : ∀ l, bCo l j = aCo l j
  | [] => rfl
  | q :: t => by
    show (@Bool.rec (fun _ => Int) (bCo t j) (badd q.2 (bCo t j)) (Nat.beq q.1 j)) = if Nat.beq q.1 j then q.2 + aCo t j else aCo t j
    rw [bCo_eq j t, badd_eq, ite_b]
noncomputable def bTm (co : Int) (B : aI) : Int := (@Bool.rec (fun _ => Int) ((@Bool.rec (fun _ => Int) (co * (bHull B).2) (co * (bHull B).1) (bile (.ofNat 0) co))) (.ofNat 0) (bieq co (.ofNat 0)))
noncomputable def bSu (l : List (Nat × Int)) (ρ : List aI) : Nat → Int := @List.rec aI (fun _ => Nat → Int) (fun _ => .ofNat 0) (fun B _ ih j => badd (bTm (bCo l j) B) (ih (Nat.succ j))) ρ
theorem aSum_sh (g : Nat → Int) : ∀ n, aSum (n + 1) g = g 0 + aSum n (fun j => g (j + 1))
  | 0 => by
    show 0 + g 0 = g 0 + 0
    omega
  | n + 1 => by
    show aSum (n + 1) g + g (n + 1) = g 0 + (aSum n (fun j => g (j + 1)) + g (n + 1))
    rw [aSum_sh g n]
    omega
theorem bSu_eq (l : List (Nat × Int)) : ∀ (ρ : List aI) (s : Nat) (R : List aI), R.drop s = ρ → bSu l ρ s = aSum ρ.length (fun j => aLw R l (j + s))
  | [], _, _, _ => rfl
  | B :: t, s, R, h => by
    show badd (bTm (bCo l s) B) (bSu l t (s + 1)) = aSum (t.length + 1) _
    have ht : R.drop (s + 1) = t := by
      have := congrArg (List.drop 1) h
      rw [List.drop_drop] at this
      exact this
    have hB : R[s]? = some B := by
      have := congrArg (fun l => l[0]?) h
      rw [List.getElem?_drop] at this
      exact this
    rw [aSum_sh, badd_eq, bSu_eq l t (s + 1) R ht]
    have e1 : bTm (bCo l s) B = aLw R l (0 + s) := by
      unfold bTm aLw
      rw [Nat.zero_add, hB, bCo_eq, bieq_eq, bile_eq, bHull_eq]
      dsimp only
      rw [ite_b, ite_b]
      rfl
    have e2 : (fun j => aLw R l (j + (s + 1))) = fun j => aLw R l (j + 1 + s) := funext (fun j => by rw [show j + (s + 1) = j + 1 + s by omega])
    rw [e1, e2]
noncomputable def bLow (ρ : List aI) (c : Int) (l : List (Nat × Int)) : Option Int := @List.rec (Nat × Int) (fun _ => Option Int) (some c) (fun _ _ _ => (@Bool.rec (fun _ => Option Int) (none) (some (badd c (bSu l ρ 0))) (bAll l (fun q => Nat.ble (Nat.succ q.1) (bLen ρ))))) l
theorem aSum_0 {ρ : List aI} : ∀ n, aSum n (aLw ρ []) = 0
  | 0 => rfl
  | n + 1 => by
    show aSum n (aLw ρ []) + aLw ρ [] n = 0
    rw [aSum_0 n]
    unfold aLw
    cases ρ[n]? with
    | none => rfl
    | some B =>
      dsimp only
      rw [if_pos (show ieq (aCo [] n) 0 = true from rfl)]
      rfl
theorem bLow_eq (ρ : List aI) (c : Int) (l : List (Nat × Int)) : bLow ρ c l = aLow ρ c l := by
  cases l with
  | cons q t =>
    show (@Bool.rec (fun _ => Option Int) (none) (some (badd c (bSu (q :: t) ρ 0))) (bAll (q :: t) (fun q => Nat.ble (Nat.succ q.1) (bLen ρ)))) = if (q :: t).all (fun q => Nat.blt q.1 ρ.length) then some (c + aSum ρ.length (aLw ρ (q :: t))) else none
    rw [bAll_eq, bLen_eq, badd_eq, bSu_eq _ ρ 0 ρ List.drop_zero, ite_b]
    rfl
  | nil =>
    show some c = if true = true then some (c + aSum ρ.length (aLw ρ [])) else none
    rw [if_pos rfl, aSum_0, Int.add_zero]
noncomputable def bRkOk (nd : aNd) : Bool := (@Bool.rec (fun _ => Bool) false (@Option.rec Int (fun _ => Bool) false (fun b => bile 0 b) (bLow (aNr nd) nd.2.2.2.2.2.1 nd.2.2.2.2.2.2)) (bAll nd.2.2.2.2.2.2 (fun q => Nat.ble (Nat.succ q.1) (bLen (aNr nd)))))
theorem bRkOk_eq (nd : aNd) : bRkOk nd = aRkOk nd := by
  unfold bRkOk aRkOk
  rw [bAll_eq, bLen_eq, bLow_eq, ← and_b]
  congr 1
  cases aLow (aNr nd) nd.2.2.2.2.2.1 nd.2.2.2.2.2.2 with
  | none => rfl
  | some b => exact bile_eq 0 b
noncomputable def bGoN (x : bWd) (rk : Int × List (Nat × Int)) (A : aS) (nd : aNd) : Bool := @Option.rec (List (Option aE)) (fun _ => Bool) false (fun E => @Option.rec (Int × List (Nat × Int)) (fun _ => Bool) false (fun p => @Option.rec Int (fun _ => Bool) false (fun b => bile 1 b) (bLow A.2.2.2.1 (bsub (bsub rk.1 nd.2.2.2.2.2.1) p.1) (bApp rk.2 (aNeg p.2)))) (aSb E nd.2.2.2.2.2.2)) (bArr x A nd)
theorem bGoN_eq (hx : bWok w x) (rk : Int × List (Nat × Int)) (A : aS) (nd : aNd) : bGoN x rk A nd = aGoN w rk A nd := by
  unfold bGoN aGoN
  rw [bArr_eq hx]
  cases aArr w A nd with
  | none => rfl
  | some E =>
    dsimp only
    cases aSb E nd.2.2.2.2.2.2 with
    | none => rfl
    | some p =>
      dsimp only
      rw [bLow_eq, bsub_eq, bsub_eq, bApp_eq]
      cases aLow A.2.2.2.1 (rk.1 - nd.2.2.2.2.2.1 - p.1) (rk.2 ++ aNeg p.2) with
      | none => rfl
      | some b => exact bile_eq 1 b
noncomputable def bEnd (x : bWd) (m : zM) (ps : List aPo) (ag : List (Option aE)) (i : Instr) (A : aS) : Bool := match i, A.2.2.1 with
  | .ireturn, [.inl e] => (match m.2.2.2.1 with
      | some .int => true
      | some .boolean => bLe (bset A.2.2.2.1 e) [(0, 1, 1)]
      | _ => false) && bAny ps (fun p => (@Bool.rec (fun _ => Bool) false ((@Bool.rec (fun _ => Bool) false (aAk A.2.2.2.1 ag p.2.1) (bMp x A.2.2.2.1 A.2.2.2.2.1 A.2.2.2.2.2 p.2.2))) (match p.1 with
      | some (.inl B) => bLe (bset A.2.2.2.1 e) B
      | _ => false)))
  | .lreturn, [.inr (.inr _)] => (match m.2.2.2.1 with
      | some .long => true
      | _ => false) && bAny ps (fun p => (@Bool.rec (fun _ => Bool) false ((@Bool.rec (fun _ => Bool) false (aAk A.2.2.2.1 ag p.2.1) (bMp x A.2.2.2.1 A.2.2.2.2.1 A.2.2.2.2.2 p.2.2))) (match p.1 with
      | some (.inr _) => true
      | _ => false)))
  | .return_, [] => m.2.2.2.1.isNone && bAny ps (fun p => (@Bool.rec (fun _ => Bool) false ((@Bool.rec (fun _ => Bool) false (aAk A.2.2.2.1 ag p.2.1) (bMp x A.2.2.2.1 A.2.2.2.2.1 A.2.2.2.2.2 p.2.2))) (p.1.isNone)))
  | _, _ => false
theorem bEnd_eq (hx : bWok w x) (m : zM) (ps : List aPo) (ag : List (Option aE)) (i : Instr) (A : aS) : bEnd x m ps ag i A = aEnd w m ps ag i A := by
  unfold bEnd aEnd
  simp only [bMp_eq hx, bAny_eq, bLe_eq, bset_eq, ← and_b]
  rfl
end BC
end Pk2
section Pk3
/-! steps -/
abbrev bOp : Type := aWd → bWd → aMd → aMd → Nat → aLk → aS → Option (List aS)
section BO
variable {w : aWd} {x : bWd} {md rm : aMd} {D : Nat} {lk : aLk} {m : zM}
noncomputable def bBoth (ρ : List aI) (cd : ClassFile.Cond) (x y : aE) : List aI := bNarr (bNarr ρ x cd (bHull (bset ρ y)).1 (bHull (bset ρ y)).2) y (aSw cd) (bHull (bset ρ x)).1 (bHull (bset ρ x)).2
theorem bBoth_eq (ρ : List aI) (cd : ClassFile.Cond) (x y : aE) : bBoth ρ cd x y = aBoth ρ cd x y := by
  unfold bBoth aBoth
  simp only [bNarr_eq, bHull_eq, bset_eq]
noncomputable def bCan (cd : ClassFile.Cond) (x y : Int × Int) : Bool := @ClassFile.Cond.rec (fun _ => Bool) ((@Bool.rec (fun _ => Bool) false (bile y.1 x.2) (bile x.1 y.2))) ((@Bool.rec (fun _ => Bool) true false ((@Bool.rec (fun _ => Bool) false ((@Bool.rec (fun _ => Bool) false (bieq x.1 y.1) (bieq y.1 y.2))) (bieq x.1 x.2))))) (bile (badd x.1 1) y.2) (bile y.1 x.2) (bile (badd y.1 1) x.2) (bile x.1 y.2) cd
theorem bCan_eq (cd : ClassFile.Cond) (x y : Int × Int) : bCan cd x y = aCan cd x y := by
  cases cd
  · show (@Bool.rec (fun _ => Bool) false (bile y.1 x.2) (bile x.1 y.2)) = _
    rw [bile_eq, bile_eq, ← and_b]
    rfl
  · show (@Bool.rec (fun _ => Bool) true false ((@Bool.rec (fun _ => Bool) false ((@Bool.rec (fun _ => Bool) false (bieq x.1 y.1) (bieq y.1 y.2))) (bieq x.1 x.2)))) = _
    rw [bieq_eq, bieq_eq, bieq_eq, ← and_b, ← and_b, ← not_b]
    rfl
  · show bile (badd x.1 1) y.2 = _
    rw [bile_eq, badd_eq]
    rfl
  · exact bile_eq _ _
  · show bile (badd y.1 1) x.2 = _
    rw [bile_eq, badd_eq]
    rfl
  · exact bile_eq _ _
noncomputable def bNone (ρ : List aI) (cd : ClassFile.Cond) (x y : aE) : Bool := (@Bool.rec (fun _ => Bool) (bDead (bBoth ρ cd x y)) true ((@Bool.rec (fun _ => Bool) true false (bCan cd (bHull (bset ρ x)) (bHull (bset ρ y))))))
theorem bNone_eq (ρ : List aI) (cd : ClassFile.Cond) (x y : aE) : bNone ρ cd x y = aNone ρ cd x y := by
  unfold bNone aNone
  rw [bCan_eq, bDead_eq, bBoth_eq, bHull_eq, bHull_eq, bset_eq, bset_eq, ← or_b, ← not_b]
noncomputable def bIf (cd : ClassFile.Cond) (tg : Option Nat) (nx : Nat) (x y : aE) (st : List aV) (A : aS) : Option (List aS) := @Option.rec Nat (fun _ => Option (List aS)) none (fun t => some (bApp ((@Bool.rec (fun _ => List aS) ([(t, A.2.1, st, bBoth A.2.2.2.1 cd x y, A.2.2.2.2)]) ([]) (bNone A.2.2.2.1 cd x y))) ((@Bool.rec (fun _ => List aS) ([(nx, A.2.1, st, bBoth A.2.2.2.1 (aNo cd) x y, A.2.2.2.2)]) ([]) (bNone A.2.2.2.1 (aNo cd) x y))))) tg
theorem bIf_eq {cd : ClassFile.Cond} {off : Int} {len : Nat} {x y : aE} {st : List aV} {A : aS} : bIf cd (aTg A.1 off) (A.1 + len) x y st A = sIf cd off len x y st A := by
  unfold bIf sIf
  simp only [bNone_eq, bBoth_eq, bApp_eq, ← ite_b]
  cases aTg A.1 off <;> rfl
noncomputable def qLoad (so k nx : Nat) (A : aS) : Option (List aS) := @Option.rec aV (fun _ => Option (List aS)) none (fun a => (@Bool.rec (fun _ => Option (List aS)) (none) (some [(nx, A.2.1, a :: A.2.2.1, A.2.2.2)]) (aSort so a))) (bGet A.2.1 k)
theorem qLoad_eq {so k len : Nat} {A : aS} : qLoad so k (A.1 + len) A = match aGet A.2.1 k with | some a => if aSort so a then some [(A.1 + len, A.2.1, a :: A.2.2.1, A.2.2.2)] else none | none => none := by
  unfold qLoad
  rw [bGet_eq]
  simp only [← ite_b]
  cases aGet A.2.1 k <;> rfl
noncomputable def qStore (m : zM) (so k nx : Nat) (A : aS) : Option (List aS) := @List.rec aV (fun _ => Option (List aS)) none (fun a st _ => (@Bool.rec (fun _ => Option (List aS)) (none) (some [(nx, bSetL A.2.1 k a, st, A.2.2.2)]) ((@Bool.rec (fun _ => Bool) false (Nat.ble (Nat.succ ((@Bool.rec (fun _ => Nat) (k) (Nat.succ k) (bIsL a)))) m.2.2.1) (aSort so a))))) A.2.2.1
theorem qStore_eq {so k len : Nat} {A : aS} : qStore m so k (A.1 + len) A = match A.2.2.1 with | a :: st => if aSort so a && Nat.blt (aKx a k) m.2.2.1 then some [(A.1 + len, aSetL A.2.1 k a, st, A.2.2.2)] else none | _ => none := by
  unfold qStore
  simp only [bIsL_eq, bSetL_eq, aKx, ite_b, and_b]
  cases A.2.2.1 <;> rfl
noncomputable def qIinc (m : zM) (k : Nat) (n : Int) (nx : Nat) (A : aS) : Option (List aS) := match bGet A.2.1 k with
  | some (.inl e) => (@Bool.rec (fun _ => Option (List aS)) (none) (@Option.rec aE (fun _ => Option (List aS)) (some [(nx, bSet1 A.2.1 k (.inl (bNew A.2.2.2.1 aTop).1), A.2.2.1, (bNew A.2.2.2.1 aTop).2, A.2.2.2.2)]) (fun e' => some [(nx, bSet1 A.2.1 k (.inl e'), A.2.2.1, A.2.2.2)]) (bPlus A.2.2.2.1 e n)) ((@Bool.rec (fun _ => Bool) false ((@Bool.rec (fun _ => Bool) false (bile n 2147483647) (bile (-2147483648) n))) (Nat.ble (Nat.succ k) m.2.2.1))))
  | _ => none
theorem qIinc_eq {k : Nat} {n : Int} {len : Nat} {A : aS} : qIinc m k n (A.1 + len) A = sIinc m k n len A := by
  unfold qIinc sIinc
  rw [bGet_eq]
  rcases aGet A.2.1 k with _ | e | q
  · rfl
  · dsimp only
    rw [bPlus_eq, bile_eq, bile_eq]
    simp only [bSet1_eq, bNew_eq, aFt, ite_b, and_b]
    cases aPlus A.2.2.2.1 e n <;> rfl
  · rfl
noncomputable def qArS (nx : Nat) (q : aE × List aI) (st : List aV) (A : aS) : Option (List aS) := some [(nx, A.2.1, .inl q.1 :: st, q.2, A.2.2.2.2)]
noncomputable def qAri (sg : Bool) (nx : Nat) (A : aS) : Option (List aS) := match A.2.2.1 with
  | .inl y :: .inl x :: st => @Option.rec Int (fun _ => Option (List aS)) (qArS nx (bNew A.2.2.2.1 (bClip ((@Bool.rec (fun _ => aI) (bAdd (bset A.2.2.2.1 x) (bset A.2.2.2.1 y)) (bSub (bset A.2.2.2.1 x) (bset A.2.2.2.1 y)) (sg))))) st A) (fun k => @Option.rec aE (fun _ => Option (List aS)) (qArS nx (bNew A.2.2.2.1 (bClip ((@Bool.rec (fun _ => aI) (bAdd (bset A.2.2.2.1 x) (bset A.2.2.2.1 y)) (bSub (bset A.2.2.2.1 x) (bset A.2.2.2.1 y)) (sg))))) st A) (fun e => qArS nx (e, A.2.2.2.1) st A) (bPlus A.2.2.2.1 x ((@Bool.rec (fun _ => Int) (k) (bneg k) (sg))))) (bKn A.2.2.2.1 y)
  | _ => none
theorem sAri_ii {i : Instr} {len : Nat} {A : aS} {y x : aE} {S : List aV} (h : A.2.2.1 = .inl y :: .inl x :: S) (hu : aUn i (aset A.2.2.2.1 y) = none) : sAri i len A = match aAri A.2.2.2.1 i x y with | some q => some [(A.1 + len, A.2.1, .inl q.1 :: S, q.2, A.2.2.2.2)] | none => none := by
  unfold sAri
  rw [h]
  dsimp only
  rw [hu]
  rfl
theorem aAri_sub {ρ : List aI} {x y : aE} : aAri ρ .isub x y = match aKn ρ y with | some k => (match aPlus ρ x (-k) with | some e => some (e, ρ) | none => some (aNew ρ (aClip (aSub (aset ρ x) (aset ρ y))))) | none => some (aNew ρ (aClip (aSub (aset ρ x) (aset ρ y)))) := by
  cases hk : aKn ρ y with
  | none => simp [aAri, aBin, hk]
  | some k => cases hp : aPlus ρ x (-k) <;> simp [aAri, aBin, hk, hp]
theorem aAri_add {ρ : List aI} {x y : aE} : aAri ρ .iadd x y = match aKn ρ y with | some k => (match aPlus ρ x k with | some e => some (e, ρ) | none => some (aNew ρ (aClip (aAdd (aset ρ x) (aset ρ y))))) | none => some (aNew ρ (aClip (aAdd (aset ρ x) (aset ρ y)))) := by
  cases hk : aKn ρ y with
  | none => simp [aAri, aBin, hk]
  | some k => cases hp : aPlus ρ x k <;> simp [aAri, aBin, hk, hp]
theorem qAri_eq {sg : Bool} {len : Nat} {A : aS} : qAri sg (A.1 + len) A = sAri (if sg then .isub else .iadd) len A := by
  obtain ⟨pc, ls, S, ρ, tt⟩ := A
  rcases S with _ | ⟨y | y, S⟩
  · cases sg <;> rfl
  · rcases S with _ | ⟨x | x, S⟩
    · cases sg <;> rfl
    · unfold qAri
      dsimp only
      simp only [bClip_eq, bSub_eq, bAdd_eq, bset_eq, bNew_eq, bKn_eq, bPlus_eq, bneg_eq]
      cases sg with
      | true =>
        rw [if_pos rfl, sAri_ii (A := (pc, ls, .inl y :: .inl x :: S, ρ, tt)) rfl rfl, aAri_sub]
        dsimp only
        cases aKn ρ y with
        | none => rfl
        | some k =>
          dsimp only
          cases aPlus ρ x (-k) <;> rfl
      | false =>
        rw [if_neg (by decide), sAri_ii (A := (pc, ls, .inl y :: .inl x :: S, ρ, tt)) rfl rfl, aAri_add]
        dsimp only
        cases aKn ρ y with
        | none => rfl
        | some k =>
          dsimp only
          cases aPlus ρ x k <;> rfl
    · cases sg <;> rfl
  · cases sg <;> rfl
noncomputable def bLoo {α : Type} (l : List (Nat × α)) (i : Nat) : Option α := @List.rec (Nat × α) (fun _ => Option α) none (fun q _ ih => (@Bool.rec (fun _ => Option α) (ih) (some q.2) (Nat.beq q.1 i))) l
theorem bLoo_eq {α : Type} (l : List (Nat × α)) (i : Nat) : bLoo l i = zlook l i := by
  induction l with
  | nil => rfl
  | cons q t ih =>
    show (@Bool.rec (fun _ => Option α) (bLoo t i) (some q.2) (Nat.beq q.1 i)) = zlook (q :: t) i
    unfold zlook
    rw [ih]
    by_cases e : q.1 = i
    · rw [if_pos e, show Nat.beq q.1 i = true by simpa using e]
    · rw [if_neg e, show Nat.beq q.1 i = false from Bool.eq_false_iff.mpr (fun z => e (by simpa using z))]
/-- a field, and is it a reference -/
noncomputable def bFld (o k : Nat) : Option (Nat × Nat × Bool) := @Option.rec (Nat × Nat × Nat) (fun _ => Option (Nat × Nat × Bool)) none (fun q => some (q.1, q.2.1, Nat.beq ((zft q.1).getD q.2.1 0) 3)) (bLoo (zfldTT.getD o []) k)
theorem bFld_eq (o k : Nat) : bFld o k = match zfld o k with | some q => some (q.1, q.2, Nat.beq ((zft q.1).getD q.2 0) 3) | none => none := by
  unfold bFld zfld
  rw [bLoo_eq]
  cases zlook (zfldTT.getD o []) k <;> rfl
noncomputable def qGetf (f : Option (Nat × Nat × Bool)) (w : aWd) (x : bWd) (nx : Nat) (A : aS) : Option (List aS) := match A.2.2.1 with
  | .inr (.inl as) :: st => @Option.rec (Nat × Nat × Bool) (fun _ => Option (List aS)) none (fun q => (@Bool.rec (fun _ => Option (List aS)) (none) ((@Bool.rec (fun _ => Option (List aS)) (some [(nx, A.2.1, .inl (bGetI x A.2.2.2.1 A.2.2.2.2.1 as q.2.1).1 :: st, (bGetI x A.2.2.2.1 A.2.2.2.2.1 as q.2.1).2.1, (bGetI x A.2.2.2.1 A.2.2.2.2.1 as q.2.1).2.2, A.2.2.2.2.2)]) (@Option.rec (List Nat) (fun _ => Option (List aS)) none (fun bs => some [(nx, A.2.1, .inr (.inl bs) :: st, A.2.2.2)]) (bAllO (bMap as (fun a => bRf x A.2.2.2.2.2 a q.2.1)))) (q.2.2))) (bKd x as q.1))) f
  | _ => none
theorem qGetf_eq (hx : bWok w x) {k len : Nat} {A : aS} : qGetf (bFld m.2.1 k) w x (A.1 + len) A = match A.2.2.1 with | .inr (.inl as) :: st => sGet w m k len as st A | _ => none := by
  unfold qGetf
  generalize A.2.2.1 = S
  rcases S with _ | ⟨e | as | b, S⟩
  · rfl
  · rfl
  · dsimp only
    unfold sGet
    rw [bFld_eq]
    cases zfld m.2.1 k with
    | none => rfl
    | some q =>
      obtain ⟨ci, fl⟩ := q
      dsimp only
      simp only [bKd_eq hx, bMap_eq, bAllO_eq, bRf_eq hx, bGetI_eq hx, ← ite_b]
      cases aAll (as.map (fun a => aRf w A.2.2.2.2.2 a fl)) <;> rfl
  · rfl
noncomputable def qPutf (w : aWd) (x : bWd) (md rm : aMd) (m : zM) (k nx len : Nat) (A : aS) : Option (List aS) := match A.2.2.1 with
  | .inl e :: .inr (.inl as) :: st => (match zfld m.2.1 k with
    | some (ci, fl) => (@Bool.rec (fun _ => Option (List aS)) (none) (@Option.rec aT (fun _ => Option (List aS)) none (fun tr => some [(nx, A.2.1, st, A.2.2.2.1, tr, A.2.2.2.2.2)]) (bWr w x md A.2.2.2.1 A.2.2.2.2.1 as [((fl : Int), (fl : Int), 0)] e)) ((@Bool.rec (fun _ => Bool) false ((@Bool.rec (fun _ => Bool) false ((@Bool.rec (fun _ => Bool) ((@Bool.rec (fun _ => Bool) false (bLe (bset A.2.2.2.1 e) [(0, 1, 1)]) (Nat.beq ((zft ci).getD fl 9) 1))) true (Nat.beq ((zft ci).getD fl 9) 0))) ((@Bool.rec (fun _ => Bool) true false (zfin ci fl))))) (bKd x as ci))))
    | none => none)
  | .inr (.inl [b]) :: .inr (.inl [a]) :: st => sPutR w rm m k len b a st A
  | _ => none
theorem qPutf_eq (hx : bWok w x) {k len : Nat} {A : aS} : qPutf w x md rm m k (A.1 + len) len A = aStp w md rm m D lk (.putfield k) len A := by
  show qPutf w x md rm m k (A.1 + len) len A = match A.2.2.1 with
    | .inl e :: .inr (.inl as) :: st => sPutI w md m k len e as st A
    | .inr (.inl [b]) :: .inr (.inl [a]) :: st => sPutR w rm m k len b a st A
    | _ => none
  unfold qPutf
  have key : ∀ (e : aE) (as : List Nat) (st : List aV), (match zfld m.2.1 k with
    | some (ci, fl) => (@Bool.rec (fun _ => Option (List aS)) (none) (@Option.rec aT (fun _ => Option (List aS)) none (fun tr => some [(A.1 + len, A.2.1, st, A.2.2.2.1, tr, A.2.2.2.2.2)]) (bWr w x md A.2.2.2.1 A.2.2.2.2.1 as [((fl : Int), (fl : Int), 0)] e)) ((@Bool.rec (fun _ => Bool) false ((@Bool.rec (fun _ => Bool) false ((@Bool.rec (fun _ => Bool) ((@Bool.rec (fun _ => Bool) false (bLe (bset A.2.2.2.1 e) [(0, 1, 1)]) (Nat.beq ((zft ci).getD fl 9) 1))) true (Nat.beq ((zft ci).getD fl 9) 0))) ((@Bool.rec (fun _ => Bool) true false (zfin ci fl))))) (bKd x as ci))))
    | none => none) = sPutI w md m k len e as st A := fun e as st => by
    unfold sPutI
    cases zfld m.2.1 k with
    | none => rfl
    | some q =>
      obtain ⟨ci, fl⟩ := q
      dsimp only
      simp only [bKd_eq hx, bLe_eq, bset_eq, bWr_eq hx, ite_b, and_b, or_b, not_b]
      cases aWr w md A.2.2.2.1 A.2.2.2.2.1 as [((fl : Int), (fl : Int), 0)] e <;> rfl
  split
  · next e as st q => rw [key]
  · rfl
  · next h1 h2 => rfl
noncomputable def qIald (w : aWd) (x : bWd) (md rm : aMd) (m : zM) (D : Nat) (lk : aLk) (nx len : Nat) (A : aS) : Option (List aS) := match A.2.2.1 with
  | .inl e :: .inr (.inl as) :: st => (@Bool.rec (fun _ => Option (List aS)) ((@Bool.rec (fun _ => Option (List aS)) (none) (some [(nx, A.2.1, .inl (bLdI x A.2.2.2.1 A.2.2.2.2.1 as (bset A.2.2.2.1 e)).1 :: st, (bLdI x A.2.2.2.1 A.2.2.2.2.1 as (bset A.2.2.2.1 e)).2.1, (bLdI x A.2.2.2.1 A.2.2.2.2.1 as (bset A.2.2.2.1 e)).2.2, A.2.2.2.2.2)]) (bBnd x as (fun k => Nat.beq k 14) (bset A.2.2.2.1 e)))) (aStp w md rm m D lk .iaload len A) (bAny as (fun a => Nat.beq a 1000001)))
  | _ => none
theorem iald_no {len pc : Nat} {ls : aL} {ρ : List aI} {tr : aT} {rr : aU} {e : aE} {as : List Nat} {st : List aV} (z : as.any (fun a => Nat.beq a 1000001) = false) {R : Option (List aS)} (hR : (if aBnd w as (fun k => Nat.beq k 14) (aset ρ e) then some [(pc + len, ls, .inl (aLdI w ρ tr as (aset ρ e)).1 :: st, (aLdI w ρ tr as (aset ρ e)).2.1, (aLdI w ρ tr as (aset ρ e)).2.2, rr)] else none) = R) : aStp w md rm m D lk .iaload len (pc, ls, .inl e :: .inr (.inl as) :: st, ρ, tr, rr) = R := by
  unfold aStp
  dsimp only
  split
  · next e2 st2 q =>
    cases q
    simp at z
  · next e2 as2 st2 _ q =>
    cases q
    exact hR
  · next h1 h2 => exact absurd rfl (h2 e as st)
theorem iald_ot {len pc : Nat} {ls : aL} {S : List aV} {ρ : List aI} {tr : aT} {rr : aU} (h : ∀ e as st, S = .inl e :: .inr (.inl as) :: st → False) : aStp w md rm m D lk .iaload len (pc, ls, S, ρ, tr, rr) = none := by
  unfold aStp
  dsimp only
  split
  · next e2 st2 => exact absurd rfl (h e2 [1000001] st2)
  · next e2 as2 st2 _ => exact absurd rfl (h e2 as2 st2)
  · rfl
theorem qIald_eq (hx : bWok w x) {len : Nat} {A : aS} : qIald w x md rm m D lk (A.1 + len) len A = aStp w md rm m D lk .iaload len A := by
  obtain ⟨pc, ls, S, ρ, tr, rr⟩ := A
  unfold qIald
  dsimp only
  split
  · next e as st =>
    rw [bAny_eq]
    cases z : as.any (fun a => Nat.beq a 1000001) with
    | true => rfl
    | false =>
      refine Eq.symm (iald_no z ?_)
      simp only [bBnd_eq hx, bLdI_eq hx, bset_eq, ite_b]
  · next h => exact (iald_ot h).symm
noncomputable def qIast (w : aWd) (x : bWd) (md : aMd) (nx : Nat) (A : aS) : Option (List aS) := match A.2.2.1 with
  | .inl e :: .inl j :: .inr (.inl as) :: st => (@Bool.rec (fun _ => Option (List aS)) (none) (@Option.rec aT (fun _ => Option (List aS)) none (fun tr => some [(nx, A.2.1, st, A.2.2.2.1, tr, A.2.2.2.2.2)]) (bWr w x md A.2.2.2.1 A.2.2.2.2.1 as (bset A.2.2.2.1 j) e)) (bBnd x as (fun k => Nat.beq k 14) (bset A.2.2.2.1 j)))
  | _ => none
theorem qIast_eq (hx : bWok w x) {len : Nat} {A : aS} : qIast w x md (A.1 + len) A = aStp w md rm m D lk .iastore len A := by
  obtain ⟨pc, ls, S, ρ, tr, rr⟩ := A
  unfold qIast aStp
  dsimp only
  simp only [bBnd_eq hx, bset_eq, bWr_eq hx, ← ite_b]
  split
  · next e j as st =>
    dsimp only
    cases aWr w md ρ tr as (aset ρ j) e <;> rfl
  · next h =>
    split
    · next e j as st => exact absurd rfl (h e j as st)
    · rfl
noncomputable def qAald (x : bWd) (nx : Nat) (A : aS) : Option (List aS) := match A.2.2.1 with
  | .inl e :: .inr (.inl as) :: st => (@Bool.rec (fun _ => Option (List aS)) (none) (@Option.rec (List Nat) (fun _ => Option (List aS)) none (fun bs => some [(nx, A.2.1, .inr (.inl bs) :: st, A.2.2.2)]) (bLdR x A.2.2.2.2.2 as (bset A.2.2.2.1 e))) (bBnd x as (fun k => (@Bool.rec (fun _ => Bool) false (Nat.ble k 20) (Nat.ble 16 k))) (bset A.2.2.2.1 e)))
  | _ => none
theorem qAald_eq (hx : bWok w x) {len : Nat} {A : aS} : qAald x (A.1 + len) A = aStp w md rm m D lk .aaload len A := by
  obtain ⟨pc, ls, S, ρ, tr, rr⟩ := A
  unfold qAald aStp
  dsimp only
  simp only [bBnd_eq hx, bset_eq, bLdR_eq hx, ← and_b]
  simp only [← ite_b]
  split
  · next e as st =>
    dsimp only
    cases aLdR w rr as (aset ρ e) <;> rfl
  · next h =>
    split
    · next e as st => exact absurd rfl (h e as st)
    · rfl
/-- an instruction, prepared -/
noncomputable def bOpOf (m : zM) (pc : Nat) (i : Instr) (len : Nat) : bOp := match i with
  | .iconst n => fun _ _ _ _ _ _ A => (@Bool.rec (fun _ => Option (List aS)) (none) (some [(Nat.add pc len, A.2.1, .inl (.inl n) :: A.2.2.1, A.2.2.2)]) ((@Bool.rec (fun _ => Bool) false (bile n 2147483647) (bile (-2147483648) n))))
  | .bipush n => fun _ _ _ _ _ _ A => (@Bool.rec (fun _ => Option (List aS)) (none) (some [(Nat.add pc len, A.2.1, .inl (.inl n) :: A.2.2.1, A.2.2.2)]) ((@Bool.rec (fun _ => Bool) false (bile n 127) (bile (-128) n))))
  | .sipush n => fun _ _ _ _ _ _ A => (@Bool.rec (fun _ => Option (List aS)) (none) (some [(Nat.add pc len, A.2.1, .inl (.inl n) :: A.2.2.1, A.2.2.2)]) ((@Bool.rec (fun _ => Bool) false (bile n 32767) (bile (-32768) n))))
  | .iload k => fun _ _ _ _ _ _ A => qLoad 0 k (Nat.add pc len) A
  | .iload_n k => fun _ _ _ _ _ _ A => qLoad 0 k (Nat.add pc len) A
  | .lload k => fun _ _ _ _ _ _ A => qLoad 1 k (Nat.add pc len) A
  | .lload_n k => fun _ _ _ _ _ _ A => qLoad 1 k (Nat.add pc len) A
  | .aload k => fun _ _ _ _ _ _ A => qLoad 2 k (Nat.add pc len) A
  | .aload_n k => fun _ _ _ _ _ _ A => qLoad 2 k (Nat.add pc len) A
  | .istore k => fun _ _ _ _ _ _ A => qStore m 0 k (Nat.add pc len) A
  | .istore_n k => fun _ _ _ _ _ _ A => qStore m 0 k (Nat.add pc len) A
  | .astore k => fun _ _ _ _ _ _ A => qStore m 2 k (Nat.add pc len) A
  | .astore_n k => fun _ _ _ _ _ _ A => qStore m 2 k (Nat.add pc len) A
  | .iinc k n => fun _ _ _ _ _ _ A => qIinc m k n (Nat.add pc len) A
  | .goto off => fun _ _ _ _ _ _ A => @Option.rec Nat (fun _ => Option (List aS)) none (fun t => some [(t, A.2)]) (aTg pc off)
  | .ifCond cd off => fun _ _ _ _ _ _ A => match A.2.2.1 with
    | .inl x :: st => bIf cd (aTg pc off) (Nat.add pc len) x (.inl 0) st A
    | _ => none
  | .if_icmp cd off => fun _ _ _ _ _ _ A => match A.2.2.1 with
    | .inl y :: .inl x :: st => bIf cd (aTg pc off) (Nat.add pc len) x y st A
    | _ => none
  | .getfield k => fun w x _ _ _ _ A => qGetf (bFld m.2.1 k) w x (Nat.add pc len) A
  | .putfield k => fun w x md rm _ _ A => qPutf w x md rm m k (Nat.add pc len) len A
  | .iaload => fun w x md rm D lk A => qIald w x md rm m D lk (Nat.add pc len) len A
  | .iastore => fun w x md _ _ _ A => qIast w x md (Nat.add pc len) A
  | .aaload => fun _ x _ _ _ _ A => qAald x (Nat.add pc len) A
  | .iadd => fun _ _ _ _ _ _ A => qAri false (Nat.add pc len) A
  | .isub => fun _ _ _ _ _ _ A => qAri true (Nat.add pc len) A
  | .invokevirtual k => fun w x md rm D lk A => (@Bool.rec (fun _ => Option (List aS)) (none) (bInv w x md rm D lk (fun kd => Nat.beq kd 0) k (Nat.add pc 3) A) (Nat.beq len 3))
  | .invokespecial k => fun w x md rm D lk A => (@Bool.rec (fun _ => Option (List aS)) (none) (bInv w x md rm D lk (fun kd => (@Bool.rec (fun _ => Bool) (Nat.beq kd 4) true (Nat.beq kd 2))) k (Nat.add pc 3) A) (Nat.beq len 3))
  | .invokestatic k => fun w x md rm D lk A => (@Bool.rec (fun _ => Option (List aS)) (none) (@Option.rec (List aS) (fun _ => Option (List aS)) (sPrim w md m D k A) (fun Bs => some Bs) (bInv w x md rm D lk (fun kd => (@Bool.rec (fun _ => Bool) (Nat.beq kd 3) true (Nat.beq kd 1))) k (Nat.add pc 3) A)) (Nat.beq len 3))
  | i => fun w _ md rm D lk A => aStp w md rm m D lk i len A
theorem bOpOf_eq (hx : bWok w x) {i : Instr} {len : Nat} {A : aS} : bOpOf m A.1 i len w x md rm D lk A = aStp w md rm m D lk i len A := by
  have con : ∀ (lo hi n : Int), ((@Bool.rec (fun _ => Option (List aS)) (none) (some [(A.1 + len, A.2.1, .inl (.inl n) :: A.2.2.1, A.2.2.2)]) ((@Bool.rec (fun _ => Bool) false (bile n hi) (bile lo n)))) : Option (List aS)) = sCon (ile lo n && ile n hi) n len A := fun lo hi n => by
    unfold sCon
    rw [bile_eq, bile_eq, ite_b, and_b]
  cases i with
  | iconst n => exact con _ _ n
  | bipush n => exact con _ _ n
  | sipush n => exact con _ _ n
  | iload k => exact qLoad_eq
  | iload_n k => exact qLoad_eq
  | lload k => exact qLoad_eq
  | lload_n k => exact qLoad_eq
  | aload k => exact qLoad_eq
  | aload_n k => exact qLoad_eq
  | istore k => exact qStore_eq
  | istore_n k => exact qStore_eq
  | astore k => exact qStore_eq
  | astore_n k => exact qStore_eq
  | iinc k n => exact qIinc_eq
  | goto off =>
    show @Option.rec Nat (fun _ => Option (List aS)) none (fun t => some [(t, A.2)]) (aTg A.1 off) = match aTg A.1 off with | some t => some [(t, A.2)] | none => none
    cases aTg A.1 off <;> rfl
  | ifCond cd off =>
    show (match A.2.2.1 with | .inl x :: st => bIf cd (aTg A.1 off) (A.1 + len) x (.inl 0) st A | _ => none) = (match A.2.2.1 with | .inl x :: st => sIf cd off len x (.inl 0) st A | _ => none)
    simp only [bIf_eq]
  | if_icmp cd off =>
    show (match A.2.2.1 with | .inl y :: .inl x :: st => bIf cd (aTg A.1 off) (A.1 + len) x y st A | _ => none) = (match A.2.2.1 with | .inl y :: .inl x :: st => sIf cd off len x y st A | _ => none)
    simp only [bIf_eq]
  | getfield k => exact qGetf_eq hx
  | putfield k => exact qPutf_eq hx
  | iaload => exact qIald_eq hx
  | iastore => exact qIast_eq hx
  | aaload => exact qAald_eq hx
  | iadd => exact qAri_eq (sg := false)
  | isub => exact qAri_eq (sg := true)
  | invokevirtual k =>
    show (@Bool.rec (fun _ => Option (List aS)) (none) (bInv w x md rm D lk (fun kd => Nat.beq kd 0) k (A.1 + 3) A) (Nat.beq len 3)) = if Nat.beq len 3 then sInv w md rm D lk (fun kd => Nat.beq kd 0) k A else none
    rw [bInv_eq hx, ite_b]
  | invokespecial k =>
    show (@Bool.rec (fun _ => Option (List aS)) (none) (bInv w x md rm D lk (fun kd => (@Bool.rec (fun _ => Bool) (Nat.beq kd 4) true (Nat.beq kd 2))) k (A.1 + 3) A) (Nat.beq len 3)) = if Nat.beq len 3 then sInv w md rm D lk (fun kd => Nat.beq kd 2 || Nat.beq kd 4) k A else none
    rw [bInv_eq hx, ite_b]
    simp only [or_b]
  | invokestatic k =>
    show (@Bool.rec (fun _ => Option (List aS)) (none) (@Option.rec (List aS) (fun _ => Option (List aS)) (sPrim w md m D k A) (fun Bs => some Bs) (bInv w x md rm D lk (fun kd => (@Bool.rec (fun _ => Bool) (Nat.beq kd 3) true (Nat.beq kd 1))) k (A.1 + 3) A)) (Nat.beq len 3)) = if Nat.beq len 3 then (match sInv w md rm D lk (fun kd => Nat.beq kd 1 || Nat.beq kd 3) k A with | some Bs => some Bs | none => sPrim w md m D k A) else none
    rw [bInv_eq hx, ite_b]
    simp only [or_b]
    cases sInv w md rm D lk (fun kd => @Bool.rec (fun _ => Bool) (Nat.beq kd 3) true (Nat.beq kd 1)) k A <;> rfl
  | _ => rfl
end BO
end Pk3
section Pk4
/-! the run -/
abbrev bLf : Type := Nat × Instr × Nat
/-- a leaf: a step or an end -/
noncomputable def bGo (m : zM) (q : bLf) : Option (bOp ⊕ Instr) := match q.2.1 with
  | .ireturn => (@Bool.rec (fun _ => Option (bOp ⊕ Instr)) (none) (some (.inr .ireturn)) (Nat.beq q.2.2 1))
  | .lreturn => (@Bool.rec (fun _ => Option (bOp ⊕ Instr)) (none) (some (.inr .lreturn)) (Nat.beq q.2.2 1))
  | .return_ => (@Bool.rec (fun _ => Option (bOp ⊕ Instr)) (none) (some (.inr .return_)) (Nat.beq q.2.2 1))
  | i => (@Bool.rec (fun _ => Option (bOp ⊕ Instr)) (none) (some (.inl (bOpOf m q.1 i q.2.2))) ((@Bool.rec (fun _ => Bool) (Nat.beq q.2.2 (zilen i)) true (Nat.beq (zilen i) 0))))
noncomputable def bFlt (t : Lean.RArray bLf) : List bLf := @Lean.RArray.rec bLf (fun _ => List bLf) (fun q => [q]) (fun _ _ _ l r => l ++ r) t
theorem bFlt_mem (pc : Nat) : ∀ t : Lean.RArray bLf, t.get pc ∈ bFlt t
  | .leaf q => List.mem_singleton.mpr rfl
  | .branch p l r => by
    show @Bool.rec (fun _ => bLf) (l.get pc) (r.get pc) (Nat.ble p pc) ∈ bFlt l ++ bFlt r
    cases Nat.ble p pc with
    | false => exact List.mem_append_left _ (bFlt_mem pc l)
    | true => exact List.mem_append_right _ (bFlt_mem pc r)
def bSrt : List bLf → Bool
  | [] => true
  | [_] => true
  | q :: p :: t => Nat.blt q.1 p.1 && bSrt (p :: t)
/-- a method's code as a tree -/
def bTab (cd : aCd) (t : Lean.RArray bLf) : Prop := bFlt t = cd ∧ bSrt cd = true
theorem bSrt_lt : ∀ {q : bLf} {t : List bLf}, bSrt (q :: t) = true → ∀ p ∈ t, q.1 < p.1
  | _, [], _, p, hp => by cases hp
  | q, r :: t, h, p, hp => by
    have h : (Nat.blt q.1 r.1 && bSrt (r :: t)) = true := h
    simp only [Bool.and_eq_true, Nat.blt_eq] at h
    rcases List.mem_cons.mp hp with rfl | hp
    · exact h.1
    · exact Nat.lt_trans h.1 (bSrt_lt h.2 p hp)
theorem bSrt_tl : ∀ {q : bLf} {t : List bLf}, bSrt (q :: t) = true → bSrt t = true
  | _, [], _ => rfl
  | q, r :: t, h => by
    have h : (Nat.blt q.1 r.1 && bSrt (r :: t)) = true := h
    simp only [Bool.and_eq_true] at h
    exact h.2
theorem bLook_in : ∀ {cd : aCd} {q : bLf}, bSrt cd = true → q ∈ cd → aLook cd q.1 = some q.2
  | [], _, _, h => by cases h
  | r :: t, q, hs, h => by
    unfold aLook
    rcases List.mem_cons.mp h with rfl | h
    · rw [if_pos (by simp)]
    · have := bSrt_lt hs q h
      rw [if_neg (by simp; omega)]
      exact bLook_in (bSrt_tl hs) h
theorem bTab.at {cd : aCd} {t : Lean.RArray bLf} (h : bTab cd t) {pc : Nat} (e : (t.get pc).1 = pc) : aLook cd pc = some (t.get pc).2 := by
  have := bLook_in h.2 (by rw [← h.1]; exact bFlt_mem pc t)
  rw [e] at this
  exact this
noncomputable def bBit (s k : Nat) : Bool := Nat.beq (Nat.land (Nat.shiftRight s k) 1) 1
/-- what stands at a place, handed on as it stands there: the kernel keeps what it made of it -/
noncomputable def bGt {α β : Type} (t : Lean.RArray α) (n : Nat) (f : α → β) : β := @Lean.RArray.rec α (fun _ => β) f (fun p _ _ l r => @Bool.rec (fun _ => β) l r (Nat.ble p n)) t
theorem bGt_eq {α β : Type} (n : Nat) (f : α → β) : ∀ t : Lean.RArray α, bGt t n f = f (t.get n)
  | .leaf q => rfl
  | .branch p l r => by
    show @Bool.rec (fun _ => β) (bGt l n f) (bGt r n f) (Nat.ble p n) = f (@Bool.rec (fun _ => α) (l.get n) (r.get n) (Nat.ble p n))
    cases Nat.ble p n with
    | false => exact bGt_eq n f l
    | true => exact bGt_eq n f r
noncomputable def bRun (w : aWd) (x : bWd) (md rm : aMd) (m : zM) (D : Nat) (lk : aLk) (t : Lean.RArray bLf) (nds : List aNd) (ps : List aPo) (fk : List Nat) (ag : List (Option aE)) (rk : Int × List (Nat × Int)) (sp : Nat) (fuel : Nat) : Bool → aS → Bool :=
  @Nat.rec (fun _ => Bool → aS → Bool) (fun _ _ => false) (fun _ ih fst A => (@Bool.rec (fun _ => Bool) (bAll ((@Bool.rec (fun _ => List aS) ([A]) (aFk A) (bAny fk (fun p => Nat.beq p A.1)))) (fun B => bGt t B.1 (fun q => (@Bool.rec (fun _ => Bool) false (@Option.rec (bOp ⊕ Instr) (fun _ => Bool) false (fun s => @Sum.rec bOp Instr (fun _ => Bool) (fun op => @Option.rec (List aS) (fun _ => Bool) false (fun Bs => bAll Bs (fun C => ih false C)) (op w x md rm D lk B)) (fun i => bEnd x m ps ag i B) s) (bGo m q)) (Nat.beq q.1 B.1))))) (bAny nds (fun nd => (@Bool.rec (fun _ => Bool) (false) (bGoN x rk A nd) (Nat.beq nd.1 A.1)))) ((@Bool.rec (fun _ => Bool) false (bBit sp A.1) ((@Bool.rec (fun _ => Bool) true false (fst))))))) fuel
section BR
variable {w : aWd} {x : bWd} {md rm : aMd} {D : Nat} {lk : aLk} {m : zM} {t : Lean.RArray bLf} {cd : aCd} {nds : List aNd} {ps : List aPo} {fk : List Nat} {ag : List (Option aE)} {rk : Int × List (Nat × Int)} {sp : Nat}
theorem bGo_in (hx : bWok w x) {q : bLf} {B : aS} (hB : q.1 = B.1) {K : aS → Bool} (h : @Option.rec (bOp ⊕ Instr) (fun _ => Bool) false (fun s => @Sum.rec bOp Instr (fun _ => Bool) (fun op => @Option.rec (List aS) (fun _ => Bool) false (fun Bs => bAll Bs K) (op w x md rm D lk B)) (fun i => bEnd x m ps ag i B) s) (bGo m q) = true) : ((Nat.beq (zilen q.2.1) 0 || Nat.beq q.2.2 (zilen q.2.1)) && (if aIsR q.2.1 then aEnd w m ps ag q.2.1 B else (match aStp w md rm m D lk q.2.1 q.2.2 B with
        | none => false
        | some Bs => Bs.all K))) = true := by
  obtain ⟨pc, i, len⟩ := q
  dsimp only at hB h ⊢
  subst hB
  have oth : aIsR i = false → @Option.rec (bOp ⊕ Instr) (fun _ => Bool) false (fun s => @Sum.rec bOp Instr (fun _ => Bool) (fun op => @Option.rec (List aS) (fun _ => Bool) false (fun Bs => bAll Bs K) (op w x md rm D lk B)) (fun i => bEnd x m ps ag i B) s) ((@Bool.rec (fun _ => Option (bOp ⊕ Instr)) (none) (some (.inl (bOpOf m B.1 i len))) ((@Bool.rec (fun _ => Bool) (Nat.beq len (zilen i)) true (Nat.beq (zilen i) 0))))) = true → ((Nat.beq (zilen i) 0 || Nat.beq len (zilen i)) && (if aIsR i then aEnd w m ps ag i B else (match aStp w md rm m D lk i len B with
        | none => false
        | some Bs => Bs.all K))) = true := fun hi h => by
    rw [hi, if_neg (by decide), or_b]
    cases e : @Bool.rec (fun _ => Bool) (Nat.beq len (zilen i)) true (Nat.beq (zilen i) 0) with
    | false =>
      rw [e] at h
      cases h
    | true =>
      rw [e] at h
      rw [Bool.true_and, ← bOpOf_eq hx]
      have h : @Option.rec (List aS) (fun _ => Bool) false (fun Bs => bAll Bs K) (bOpOf m B.1 i len w x md rm D lk B) = true := h
      cases q : bOpOf m B.1 i len w x md rm D lk B with
      | none =>
        rw [q] at h
        cases h
      | some Bs =>
        rw [q] at h
        exact (bAll_eq Bs K).symm.trans h
  have ret : ∀ i, zilen i = 1 → aIsR i = true → @Option.rec (bOp ⊕ Instr) (fun _ => Bool) false (fun s => @Sum.rec bOp Instr (fun _ => Bool) (fun op => @Option.rec (List aS) (fun _ => Bool) false (fun Bs => bAll Bs K) (op w x md rm D lk B)) (fun i => bEnd x m ps ag i B) s) ((@Bool.rec (fun _ => Option (bOp ⊕ Instr)) (none) (some (.inr i)) (Nat.beq len 1))) = true → ((Nat.beq (zilen i) 0 || Nat.beq len (zilen i)) && (if aIsR i then aEnd w m ps ag i B else (match aStp w md rm m D lk i len B with
        | none => false
        | some Bs => Bs.all K))) = true := fun i hz hi h => by
    rw [hi, if_pos rfl, hz, ← bEnd_eq hx]
    cases e : Nat.beq len 1 with
    | false =>
      rw [e] at h
      cases h
    | true =>
      rw [e] at h
      exact h
  cases i with
  | ireturn => exact ret _ rfl rfl h
  | lreturn => exact ret _ rfl rfl h
  | return_ => exact ret _ rfl rfl h
  | _ => exact oth rfl h
/-- what runs so, runs as before -/
theorem bRun_in (hx : bWok w x) (ht : bTab cd t) (hsp : ∀ nd ∈ nds, bBit sp nd.1 = true) : ∀ (n : Nat) (fst : Bool) (A : aS), bRun w x md rm m D lk t nds ps fk ag rk sp n fst A = true → aRun w md rm m D lk cd nds ps fk ag rk n fst A = true := by
  intro n
  induction n with
  | zero => intro fst A h; cases h
  | succ n ih =>
    intro fst A h
    unfold aRun
    have h : (@Bool.rec (fun _ => Bool) (bAll ((@Bool.rec (fun _ => List aS) ([A]) (aFk A) (bAny fk (fun p => Nat.beq p A.1)))) (fun B => bGt t B.1 (fun q => (@Bool.rec (fun _ => Bool) false (@Option.rec (bOp ⊕ Instr) (fun _ => Bool) false (fun s => @Sum.rec bOp Instr (fun _ => Bool) (fun op => @Option.rec (List aS) (fun _ => Bool) false (fun Bs => bAll Bs (fun C => bRun w x md rm m D lk t nds ps fk ag rk sp n false C)) (op w x md rm D lk B)) (fun i => bEnd x m ps ag i B) s) (bGo m q)) (Nat.beq q.1 B.1))))) (bAny nds (fun nd => (@Bool.rec (fun _ => Bool) (false) (bGoN x rk A nd) (Nat.beq nd.1 A.1)))) ((@Bool.rec (fun _ => Bool) false (bBit sp A.1) ((@Bool.rec (fun _ => Bool) true false (fst)))))) = true := h
    rw [← ite_b] at h
    have go : nds.any (fun nd => aGoN w rk A nd) = true → nds.any (fun nd => Nat.beq nd.1 A.1) = true := fun q => by
      obtain ⟨nd, hm, hg⟩ := List.any_eq_true.mp q
      refine List.any_eq_true.mpr ⟨nd, hm, ?_⟩
      unfold aGoN aArr at hg
      cases z : Nat.beq nd.1 A.1 with
      | true => rfl
      | false =>
        rw [z] at hg
        cases hg
    split at h
    · next q =>
      have q1 : fst = false := by cases fst with | false => rfl | true => cases q
      have h2 : nds.any (fun nd => aGoN w rk A nd) = true := by
        rw [bAny_eq] at h
        obtain ⟨nd, hm, hg⟩ := List.any_eq_true.mp h
        have hg : (@Bool.rec (fun _ => Bool) (false) (bGoN x rk A nd) (Nat.beq nd.1 A.1)) = true := hg
        refine List.any_eq_true.mpr ⟨nd, hm, ?_⟩
        show aGoN w rk A nd = true
        rw [← bGoN_eq hx rk A nd]
        cases z : Nat.beq nd.1 A.1 with
        | false =>
          rw [z] at hg
          exact absurd (show false = true from hg) (by decide)
        | true =>
          rw [z] at hg
          exact hg
      rw [if_pos (by rw [q1, go h2]; rfl)]
      exact h2
    · next q =>
      have no : (!fst && nds.any (fun nd => Nat.beq nd.1 A.1)) = false := by
        cases fst with
        | true => rfl
        | false =>
          cases z : nds.any (fun nd => Nat.beq nd.1 A.1) with
          | false => rfl
          | true =>
            obtain ⟨nd, hm, hb⟩ := List.any_eq_true.mp z
            have e : nd.1 = A.1 := by simpa using hb
            have := hsp nd hm
            rw [e] at this
            exact absurd this q
      rw [no, if_neg (by decide)]
      rw [bAll_eq, bAny_eq, ← ite_b] at h
      rw [List.all_eq_true] at h ⊢
      intro B hB
      have hb0 := h B hB
      rw [show ∀ f : bLf → Bool, bGt t B.1 f = f (t.get B.1) from fun f => bGt_eq B.1 f t] at hb0
      have hb : (@Bool.rec (fun _ => Bool) false (@Option.rec (bOp ⊕ Instr) (fun _ => Bool) false (fun s => @Sum.rec bOp Instr (fun _ => Bool) (fun op => @Option.rec (List aS) (fun _ => Bool) false (fun Bs => bAll Bs (fun C => bRun w x md rm m D lk t nds ps fk ag rk sp n false C)) (op w x md rm D lk B)) (fun i => bEnd x m ps ag i B) s) (bGo m (t.get B.1))) (Nat.beq (t.get B.1).1 B.1)) = true := hb0
      rw [← and_b, Bool.and_eq_true] at hb
      have e : (t.get B.1).1 = B.1 := by simpa using hb.1
      have hl := ht.at e
      rw [hl]
      have fin := bGo_in hx e hb.2
      generalize (t.get B.1).2 = p at fin ⊢
      obtain ⟨i, len⟩ := p
      dsimp only at fin ⊢
      rw [Bool.and_eq_true] at fin ⊢
      refine ⟨fin.1, ?_⟩
      have f2 := fin.2
      by_cases z : aIsR i = true
      · rw [if_pos z] at f2 ⊢
        exact f2
      · rw [if_neg z] at f2 ⊢
        cases e2 : aStp w md rm m D lk i len B with
        | none =>
          rw [e2] at f2
          cases f2
        | some Bs =>
          rw [e2] at f2
          exact List.all_eq_true.mpr (fun C hC => ih false C (List.all_eq_true.mp f2 C hC))
/-- the check, the segment, the entry: as before, if they are so -/
noncomputable def bChk (w : aWd) (x : bWd) (c : aCt) (lk : aLk) (t : Lean.RArray bLf) (nds : List aNd) (fk : List Nat) (rk : Int × List (Nat × Int)) (sp fuel : Nat) : Bool :=
  (@Bool.rec (fun _ => Bool) false ((@Bool.rec (fun _ => Bool) false ((@Bool.rec (fun _ => Bool) false (bAll nds (fun nd => (@Bool.rec (fun _ => Bool) false (bRun w x c.2.2.2.2.1 c.2.2.2.2.2.1 c.1 c.2.2.2.2.2.2 lk t nds c.2.2.2.1 fk [] nd.2.2.2.2.2 sp fuel true (aNs nd)) (bRkOk nd)))) (bRun w x c.2.2.2.2.1 c.2.2.2.2.2.1 c.1 c.2.2.2.2.2.2 lk t nds c.2.2.2.1 fk ((aPvl 0 (aPos 0 c.2.1)).map (fun q => aXp q.2)) rk sp fuel true (aNs (aEnt c rk))))) (bAll nds (fun nd => bBit sp nd.1)))) (bRkOk (aEnt c rk)))
theorem bChk_in (hx : bWok w x) (ht : bTab cd t) {c : aCt} {fuel : Nat} (h : bChk w x c lk t nds fk rk sp fuel = true) : aChk w c lk cd nds fk rk fuel = true := by
  unfold bChk at h
  simp only [bRkOk_eq] at h
  unfold aChk
  rw [← and_b, ← and_b, ← and_b, bAll_eq, bAll_eq] at h
  simp only [Bool.and_eq_true, List.all_eq_true] at h ⊢
  obtain ⟨h1, h2, h3, h4⟩ := h
  refine ⟨h1, bRun_in hx ht h2 _ _ _ h3, fun nd hm => ?_⟩
  have := h4 nd hm
  rw [← and_b, Bool.and_eq_true] at this
  exact ⟨this.1, bRun_in hx ht h2 _ _ _ this.2⟩
theorem bChk_ok (hx : bWok w x) (ht : bTab cd t) {c : aCt} {fuel : Nat} (hck : bChk w x c lk t nds fk rk sp fuel = true) (hlk : ∀ q ∈ lk, zmth c.1.2.1 q.1 = some (q.2.1, q.2.2.1, q.2.2.2.1) ∧ aSpec w q.2.2.2) (hcd : ∀ q ∈ cd, decode c.1.1 q.1 = .ok (q.2.1, q.2.2)) : aSpec w c :=
  aChk_ok (bChk_in hx ht hck) hlk hcd
noncomputable def bSgk (w : aWd) (x : bWd) (c : aCt) (lk : aLk) (t : Lean.RArray bLf) (fk : List Nat) (sp fuel : Nat) (tg : List aNd) (nd : aNd) : Bool := (@Bool.rec (fun _ => Bool) false ((@Bool.rec (fun _ => Bool) false (bRun w x c.2.2.2.2.1 c.2.2.2.2.2.1 c.1 c.2.2.2.2.2.2 lk t tg c.2.2.2.1 fk [] nd.2.2.2.2.2 sp fuel true (aNs nd)) (bAll tg (fun nd => bBit sp nd.1)))) (bRkOk nd))
theorem bSgk_in (hx : bWok w x) (ht : bTab cd t) {c : aCt} {fuel : Nat} {tg : List aNd} {nd : aNd} (h : bSgk w x c lk t fk sp fuel tg nd = true) : aSgk w c lk cd fk fuel tg nd = true := by
  unfold bSgk at h
  simp only [bRkOk_eq] at h
  unfold aSgk
  rw [← and_b, ← and_b, bAll_eq] at h
  simp only [Bool.and_eq_true, List.all_eq_true] at h ⊢
  exact ⟨h.1, bRun_in hx ht h.2.1 _ _ _ h.2.2⟩
theorem bTk_in (hx : bWok w x) (ht : bTab cd t) {c : aCt} {fuel : Nat} {tg : List aNd} {nd : aNd} {a : Bool} (h : (a && bSgk w x c lk t fk sp fuel tg nd) = true) : (a && aSgk w c lk cd fk fuel tg nd) = true := by
  rw [Bool.and_eq_true] at h ⊢
  exact ⟨h.1, bSgk_in hx ht h.2⟩
noncomputable def bEtk (w : aWd) (x : bWd) (c : aCt) (lk : aLk) (t : Lean.RArray bLf) (nds : List aNd) (fk : List Nat) (rk : Int × List (Nat × Int)) (sp fuel : Nat) : Bool := (@Bool.rec (fun _ => Bool) false ((@Bool.rec (fun _ => Bool) false (bRun w x c.2.2.2.2.1 c.2.2.2.2.2.1 c.1 c.2.2.2.2.2.2 lk t nds c.2.2.2.1 fk ((aPvl 0 (aPos 0 c.2.1)).map (fun q => aXp q.2)) rk sp fuel true (aNs (aEnt c rk))) (bAll nds (fun nd => bBit sp nd.1)))) (bRkOk (aEnt c rk)))
theorem bEtk_in (hx : bWok w x) (ht : bTab cd t) {c : aCt} {fuel : Nat} (h : bEtk w x c lk t nds fk rk sp fuel = true) : (aRkOk (aEnt c rk) && aRun w c.2.2.2.2.1 c.2.2.2.2.2.1 c.1 c.2.2.2.2.2.2 lk cd nds c.2.2.2.1 fk ((aPvl 0 (aPos 0 c.2.1)).map (fun q => aXp q.2)) rk fuel true (aNs (aEnt c rk))) = true := by
  unfold bEtk at h
  simp only [bRkOk_eq] at h
  rw [← and_b, ← and_b, bAll_eq] at h
  simp only [Bool.and_eq_true, List.all_eq_true] at h ⊢
  exact ⟨h.1, bRun_in hx ht h.2.1 _ _ _ h.2.2⟩
end BR
end Pk4
section Pk5
/-! a world's tables -/
noncomputable def bOatQ {α : Type} (a : Nat) (q : Nat × α) : Option α := (@Bool.rec (fun _ => Option α) (none) (some q.2) (Nat.beq q.1 a))
noncomputable def bOat {α : Type} (t : Lean.RArray (Nat × α)) (a : Nat) : Option α := bOatQ a (t.get a)
noncomputable def bLat {α : Type} (t : Lean.RArray (Nat × List α)) (a : Nat) : List α := @Option.rec (List α) (fun _ => List α) [] (fun l => l) (bOat t a)
noncomputable def bSat (t : Lean.RArray (Nat × Lean.RArray aI)) (a k : Nat) : aI := @Option.rec (Lean.RArray aI) (fun _ => aI) aTop (fun u => u.get k) (bOat t a)
noncomputable def bRat (t : Lean.RArray (Nat × List (Option Nat))) (a k : Nat) : Option Nat := @Option.rec (Option Nat) (fun _ => Option Nat) none (fun q => q) (bIdx (bLat t a) k)
noncomputable def bKlQ (a k : Nat) (q : (Nat × Nat) × List aM) : Option (List aM) := (@Bool.rec (fun _ => Option (List aM)) (none) (some q.2) ((@Bool.rec (fun _ => Bool) false (Nat.beq q.1.1 a) (Nat.beq q.1.2 k))))
noncomputable def bKlO (t : Lean.RArray ((Nat × Nat) × List aM)) (a k : Nat) : Option (List aM) := bKlQ a k (t.get (Nat.add (Nat.mul a 4096) k))
noncomputable def bKlk (t : Lean.RArray ((Nat × Nat) × List aM)) (a k : Nat) : List aM := @Option.rec (List aM) (fun _ => List aM) [] (fun l => l) (bKlO t a k)
noncomputable def bFl {α : Type} (t : Lean.RArray α) : List α := @Lean.RArray.rec α (fun _ => List α) (fun q => [q]) (fun _ _ _ l r => l ++ r) t
def dSl : DecidableEq ((Nat × Nat) × aI) := inferInstance
def dIm : DecidableEq aM := fun a b => @instDecidableEqProd (List ((Nat × Nat) × aI)) ((Nat × Nat) × aI) (@instDecidableEqList _ dSl) dSl a b
def dIl : DecidableEq (List aM) := @instDecidableEqList _ dIm
section BW
theorem bFl_mem {α : Type} (k : Nat) : ∀ t : Lean.RArray α, t.get k ∈ bFl t
  | .leaf q => List.mem_singleton.mpr rfl
  | .branch p l r => by
    show @Bool.rec (fun _ => α) (l.get k) (r.get k) (Nat.ble p k) ∈ bFl l ++ bFl r
    cases Nat.ble p k with
    | false => exact List.mem_append_left _ (bFl_mem k l)
    | true => exact List.mem_append_right _ (bFl_mem k r)
theorem bOat_in {α : Type} {t : Lean.RArray (Nat × α)} {a : Nat} {v : α} (h : bOat t a = some v) : (a, v) ∈ bFl t := by
  have := bFl_mem a t
  unfold bOat bOatQ at h
  generalize t.get a = q at this h
  obtain ⟨b, u⟩ := q
  rw [← ite_b] at h
  split at h
  · next z =>
    cases h
    have e2 : b = a := by simpa using z
    rw [← e2]
    exact this
  · cases h
/-- beyond n a table says nothing -/
theorem bOat_no {α : Type} {t : Lean.RArray (Nat × α)} {n : Nat} (h : (bFl t).all (fun q => Nat.blt q.1 n) = true) {a : Nat} (ha : n ≤ a) : bOat t a = none := by
  cases e : bOat t a with
  | none => rfl
  | some v =>
    have := List.all_eq_true.mp h _ (bOat_in e)
    simp only [Nat.blt_eq] at this
    omega
theorem bOat_all {α : Type} {t : Lean.RArray (Nat × α)} {n : Nat} {f : Nat → Option α} (h : (bFl t).all (fun q => Nat.blt q.1 n) = true) (hf : ∀ a, n ≤ a → f a = none) (ht : ∀ a, a < n → bOat t a = f a) (a : Nat) : bOat t a = f a := by
  rcases Nat.lt_or_ge a n with q | q
  · exact ht a q
  · rw [bOat_no h q, hf a q]
/-- segments as a tree -/
def gO : List (Option Nat × aI) → Nat → aI
  | [], _ => aTop
  | (none, v) :: _, _ => v
  | (some e, v) :: t, k => if Nat.blt k e then v else gO t k
def bTl : Lean.RArray aI → Option Nat → List (Option Nat × aI)
  | .leaf v, hi => [(hi, v)]
  | .branch p l r, hi => bTl l (some p) ++ bTl r hi
def bBd : Lean.RArray aI → Option Nat → Bool
  | .leaf _, _ => true
  | .branch p l r, hi => (match hi with | none => true | some h => Nat.ble p h) && (bBd l (some p) && bBd r hi)
theorem gO_skip {k : Nat} : ∀ {t : Lean.RArray aI} {p : Nat} {X : List (Option Nat × aI)}, bBd t (some p) = true → p ≤ k → gO (bTl t (some p) ++ X) k = gO X k
  | .leaf v, p, X, _, hk => by
    show (if Nat.blt k p then v else gO X k) = gO X k
    rw [if_neg (by simp only [Nat.blt_eq]; omega)]
  | .branch q l r, p, X, h, hk => by
    have h : (Nat.ble q p && (bBd l (some q) && bBd r (some p))) = true := h
    simp only [Bool.and_eq_true, Nat.ble_eq] at h
    show gO ((bTl l (some q) ++ bTl r (some p)) ++ X) k = gO X k
    rw [List.append_assoc, gO_skip h.2.1 (by omega), gO_skip h.2.2 hk]
theorem gO_get {k : Nat} : ∀ {t : Lean.RArray aI} {hi : Option Nat} {X : List (Option Nat × aI)}, bBd t hi = true → (∀ h, hi = some h → k < h) → gO (bTl t hi ++ X) k = t.get k
  | .leaf v, hi, X, _, hk => by
    cases hi with
    | none => rfl
    | some h =>
      show (if Nat.blt k h then v else gO X k) = v
      rw [if_pos (by simp only [Nat.blt_eq]; exact hk h rfl)]
  | .branch q l r, hi, X, h, hk => by
    unfold bBd at h
    simp only [Bool.and_eq_true] at h
    show gO ((bTl l (some q) ++ bTl r hi) ++ X) k = @Bool.rec (fun _ => aI) (l.get k) (r.get k) (Nat.ble q k)
    rw [List.append_assoc]
    cases e : Nat.ble q k with
    | false =>
      have : ¬ q ≤ k := fun z => by rw [Nat.ble_eq_true_of_le z] at e; cases e
      exact gO_get h.2.1 (fun h e => by cases e; omega)
    | true =>
      rw [gO_skip h.2.1 (Nat.le_of_ble_eq_true e)]
      exact gO_get h.2.2 hk
theorem gO_seg {k : Nat} : ∀ l : List (Nat × aI), gO (l.map (fun q => (some q.1, q.2)) ++ [(none, aTop)]) k = gSeg l k
  | [] => rfl
  | q :: t => by
    show (if Nat.blt k q.1 then q.2 else gO (t.map (fun q => (some q.1, q.2)) ++ [(none, aTop)]) k) = if Nat.blt k q.1 then q.2 else gSeg t k
    rw [gO_seg t]
theorem seg_tree {t : Lean.RArray aI} {l : List (Nat × aI)} (h : (bBd t none && decide (bTl t none = l.map (fun q => (some q.1, q.2)) ++ [(none, aTop)])) = true) (k : Nat) : t.get k = gSeg l k := by
  simp only [Bool.and_eq_true, decide_eq_true_eq] at h
  rw [← gO_seg, ← h.2, ← gO_get (X := []) h.1 (fun h e => by cases e), List.append_nil]
/-- implications by a key -/
theorem bKlO_in {t : Lean.RArray ((Nat × Nat) × List aM)} {a k : Nat} {l : List aM} (h : bKlO t a k = some l) : ((a, k), l) ∈ bFl t := by
  have := bFl_mem (Nat.add (Nat.mul a 4096) k) t
  unfold bKlO at h
  generalize t.get (Nat.add (Nat.mul a 4096) k) = q at this h
  obtain ⟨⟨b, j⟩, m⟩ := q
  have h : (@Bool.rec (fun _ => Option (List aM)) (none) (some m) ((@Bool.rec (fun _ => Bool) false (Nat.beq b a) (Nat.beq j k)))) = some l := h
  rw [← and_b, ← ite_b] at h
  split at h
  · next z =>
    simp only [Bool.and_eq_true, Nat.beq_eq] at z
    cases h
    rw [← z.1, ← z.2]
    exact this
  · cases h
theorem bKlk_all {t : Lean.RArray ((Nat × Nat) × List aM)} {I : List aM} {P : Nat → Nat → aM → Bool} (h1 : (bFl t).all (fun q => @decide (q.2 = I.filter (P q.1.1 q.1.2)) (dIl _ _)) = true) (h2 : ∀ i ∈ I, ∀ a k, P a k i = true → (bKlO t a k).isSome = true) (a k : Nat) : bKlk t a k = I.filter (P a k) := by
  unfold bKlk
  cases e : bKlO t a k with
  | some l => exact @of_decide_eq_true _ (dIl _ _) (List.all_eq_true.mp h1 _ (bKlO_in e))
  | none =>
    symm
    refine List.filter_eq_nil_iff.mpr (fun i hi z => ?_)
    have := h2 i hi a k z
    rw [e] at this
    cases this
/-- all of it -/
theorem bWok_of {sh : List (Nat × Nat)} {G : List (List (Nat × aI))} {R : List (List (Option Nat))} {I : List aM} {S : Lean.RArray (Nat × (Nat × Nat))} {TG : Lean.RArray (Nat × List (Nat × aI))} {TT : Lean.RArray (Nat × Lean.RArray aI)} {TR : Lean.RArray (Nat × List (Option Nat))} {TI TJ : Lean.RArray ((Nat × Nat) × List aM)}
    (s1 : (bFl S).all (fun q => Nat.blt q.1 sh.length) = true) (s2 : (List.range sh.length).all (fun a => decide (bOat S a = sh[a]?)) = true)
    (g1 : (bFl TG).all (fun q => Nat.blt q.1 G.length) = true) (g2 : (List.range G.length).all (fun a => decide (bOat TG a = G[a]?)) = true)
    (t1 : (bFl TT).all (fun q => Nat.blt q.1 G.length) = true) (t2 : (List.range G.length).all (fun a => match bOat TT a, G[a]? with | some t, some l => bBd t none && decide (bTl t none = l.map (fun q => (some q.1, q.2)) ++ [(none, aTop)]) | _, _ => false) = true)
    (r1 : (bFl TR).all (fun q => Nat.blt q.1 R.length) = true) (r2 : (List.range R.length).all (fun a => decide (bOat TR a = R[a]?)) = true)
    (i1 : (bFl TI).all (fun q => @decide (q.2 = I.filter (fun i => Nat.beq i.2.1.1 q.1.1 && Nat.beq i.2.1.2 q.1.2)) (dIl _ _)) = true) (i2 : I.all (fun i => (bKlO TI i.2.1.1 i.2.1.2).isSome) = true)
    (j1 : (bFl TJ).all (fun q => @decide (q.2 = I.filter (bMn q.1.1 q.1.2)) (dIl _ _)) = true) (j2 : I.all (fun i => (bKlO TJ i.2.1.1 i.2.1.2).isSome && i.1.all (fun c => (bKlO TJ c.1.1 c.1.2).isSome)) = true) :
    bWok (fun a => sh[a]?, fun a => G.getD a [], fun a k => (R.getD a []).getD k none, I) (bOat S, fun a => bLat TG a, fun a k => bSat TT a k, fun a k => bRat TR a k, fun a k => bKlk TI a k, fun a k => bKlk TJ a k) := by
  have tab : ∀ {α : Type} [DecidableEq α] {t : Lean.RArray (Nat × α)} {l : List α}, (bFl t).all (fun q => Nat.blt q.1 l.length) = true → (List.range l.length).all (fun a => decide (bOat t a = l[a]?)) = true → ∀ a, bOat t a = l[a]? := fun {α} _ {t} {l} h1 h2 a => bOat_all h1 (fun a ha => List.getElem?_eq_none ha) (fun a ha => of_decide_eq_true (List.all_eq_true.mp h2 a (List.mem_range.mpr ha))) a
  have lat : ∀ {α : Type} {t : Lean.RArray (Nat × List α)} {l : List (List α)}, (∀ a, bOat t a = l[a]?) → ∀ a, bLat t a = l.getD a [] := fun {α} {t} {l} h a => by
    unfold bLat
    rw [h a, List.getD_eq_getElem?_getD]
    cases l[a]? <;> rfl
  refine ⟨tab s1 s2, lat (tab g1 g2), fun a k => ?_, fun a k => ?_, fun a k => bKlk_all (t := TI) (I := I) (P := fun a k i => Nat.beq i.2.1.1 a && Nat.beq i.2.1.2 k) i1 (fun i hi a k z => ?_) a k, fun a k => bKlk_all (t := TJ) (I := I) (P := bMn) j1 (fun i hi a k z => ?_) a k⟩
  · show bSat TT a k = gSeg (G.getD a []) k
    unfold bSat
    rcases Nat.lt_or_ge a G.length with q | q
    · have := List.all_eq_true.mp t2 a (List.mem_range.mpr q)
      rw [List.getD_eq_getElem?_getD]
      split at this
      · next t l e1 e2 =>
        rw [e1, e2]
        exact seg_tree this k
      · cases this
    · rw [bOat_no t1 q, List.getD_eq_getElem?_getD, List.getElem?_eq_none q]
      rfl
  · show bRat TR a k = (R.getD a []).getD k none
    unfold bRat
    rw [lat (tab r1 r2), bIdx_eq, List.getD_eq_getElem?_getD (l := R.getD a [])]
    cases (R.getD a [])[k]? <;> rfl
  · simp only [Bool.and_eq_true, Nat.beq_eq] at z
    rw [← z.1, ← z.2]
    exact List.all_eq_true.mp i2 i hi
  · have := List.all_eq_true.mp j2 i hi
    simp only [Bool.and_eq_true, List.all_eq_true] at this
    unfold bMn at z
    simp only [Bool.or_eq_true, Bool.and_eq_true, Nat.beq_eq, List.any_eq_true] at z
    rcases z with z | ⟨c, hc, z⟩
    · rw [← z.1, ← z.2]
      exact this.1
    · rw [← z.1, ← z.2]
      exact this.2 c hc
end BW
end Pk5
