/-! THE CHECK ONCE MORE, by bare recursors and tables: what the kernel unfolds is short -/
theorem ite_b {α : Type} {c : Bool} {a b : α} : (if c = true then a else b) = @Bool.rec (fun _ => α) b a c := by cases c <;> rfl
theorem and_b (a b : Bool) : (a && b) = @Bool.rec (fun _ => Bool) false b a := by cases a <;> rfl
theorem or_b (a b : Bool) : (a || b) = @Bool.rec (fun _ => Bool) b true a := by cases a <;> rfl
theorem not_b (a : Bool) : (!a) = @Bool.rec (fun _ => Bool) true false a := by cases a <;> rfl
noncomputable def bAll {α : Type} (l : List α) (p : α → Bool) : Bool := @List.rec α (fun _ => Bool) true (fun a _ ih => (@Bool.rec (fun _ => Bool) false (ih) (p a))) l
noncomputable def bAny {α : Type} (l : List α) (p : α → Bool) : Bool := @List.rec α (fun _ => Bool) false (fun a _ ih => (@Bool.rec (fun _ => Bool) (ih) true (p a))) l
noncomputable def bMap {α β : Type} (l : List α) (f : α → β) : List β := @List.rec α (fun _ => List β) [] (fun a _ ih => f a :: ih) l
noncomputable def bFil {α : Type} (l : List α) (p : α → Bool) : List α := @List.rec α (fun _ => List α) [] (fun a _ ih => (@Bool.rec (fun _ => List α) (ih) (a :: ih) (p a))) l
noncomputable def bApp {α : Type} (l m : List α) : List α := @List.rec α (fun _ => List α) m (fun a _ ih => a :: ih) l
noncomputable def bFlat {α β : Type} (l : List α) (f : α → List β) : List β := @List.rec α (fun _ => List β) [] (fun a _ ih => bApp (f a) ih) l
noncomputable def bFind {α : Type} (l : List α) (p : α → Bool) : Option α := @List.rec α (fun _ => Option α) none (fun a _ ih => (@Bool.rec (fun _ => Option α) (ih) (some a) (p a))) l
noncomputable def bLen {α : Type} (l : List α) : Nat := @List.rec α (fun _ => Nat) 0 (fun _ _ ih => Nat.succ ih) l
noncomputable def bIdx {α : Type} (l : List α) : Nat → Option α := @List.rec α (fun _ => Nat → Option α) (fun _ => none) (fun a _ ih n => @Nat.rec (fun _ => Option α) (some a) (fun n _ => ih n) n) l
noncomputable def bSet {α : Type} (l : List α) : Nat → α → List α := @List.rec α (fun _ => Nat → α → List α) (fun _ _ => []) (fun a t ih n x => @Nat.rec (fun _ => List α) (x :: t) (fun n _ => a :: ih n x) n) l
noncomputable def bTake {α : Type} (l : List α) : Nat → List α := @List.rec α (fun _ => Nat → List α) (fun _ => []) (fun a _ ih n => @Nat.rec (fun _ => List α) [] (fun n _ => a :: ih n) n) l
noncomputable def bDrop {α : Type} (l : List α) : Nat → List α := @List.rec α (fun _ => Nat → List α) (fun _ => []) (fun a t ih n => @Nat.rec (fun _ => List α) (a :: t) (fun n _ => ih n) n) l
section BB
variable {α β : Type}
theorem bAll_eq (l : List α) (p : α → Bool) : bAll l p = l.all p := by
  induction l with
  | nil => rfl
  | cons a t ih =>
    rw [List.all_cons, ← ih, and_b]
    rfl
theorem bAny_eq (l : List α) (p : α → Bool) : bAny l p = l.any p := by
  induction l with
  | nil => rfl
  | cons a t ih =>
    rw [List.any_cons, ← ih, or_b]
    rfl
theorem bMap_eq (l : List α) (f : α → β) : bMap l f = l.map f := by
  induction l with
  | nil => rfl
  | cons a t ih =>
    rw [List.map_cons, ← ih]
    rfl
theorem bFil_eq (l : List α) (p : α → Bool) : bFil l p = l.filter p := by
  induction l with
  | nil => rfl
  | cons a t ih =>
    rw [List.filter_cons, ← ih, ite_b]
    rfl
theorem bApp_eq (l m : List α) : bApp l m = l ++ m := by
  induction l with
  | nil => rfl
  | cons a t ih =>
    rw [List.cons_append, ← ih]
    rfl
theorem bFlat_eq (l : List α) (f : α → List β) : bFlat l f = l.flatMap f := by
  induction l with
  | nil => rfl
  | cons a t ih =>
    rw [List.flatMap_cons, ← ih, ← bApp_eq]
    rfl
theorem bFind_eq (l : List α) (p : α → Bool) : bFind l p = l.find? p := by
  induction l with
  | nil => rfl
  | cons a t ih =>
    rw [List.find?_cons, ← ih]
    show @Bool.rec (fun _ => Option α) (bFind t p) (some a) (p a) = _
    cases p a <;> rfl
theorem bLen_eq (l : List α) : bLen l = l.length := by
  induction l with
  | nil => rfl
  | cons a t ih =>
    rw [List.length_cons, ← ih]
    rfl
theorem bIdx_eq (l : List α) : ∀ n, bIdx l n = l[n]? := by
  induction l with
  | nil => intro n; rfl
  | cons a t ih =>
    intro n
    cases n with
    | zero => rfl
    | succ n => rw [List.getElem?_cons_succ, ← ih]; rfl
theorem bSet_eq (l : List α) : ∀ n x, bSet l n x = l.set n x := by
  induction l with
  | nil => intro n x; rfl
  | cons a t ih =>
    intro n x
    cases n with
    | zero => rfl
    | succ n => rw [List.set_cons_succ, ← ih]; rfl
theorem bTake_eq (l : List α) : ∀ n, bTake l n = l.take n := by
  induction l with
  | nil => intro n; cases n <;> rfl
  | cons a t ih =>
    intro n
    cases n with
    | zero => rfl
    | succ n => rw [List.take_succ_cons, ← ih]; rfl
theorem bDrop_eq (l : List α) : ∀ n, bDrop l n = l.drop n := by
  induction l with
  | nil => intro n; cases n <;> rfl
  | cons a t ih =>
    intro n
    cases n with
    | zero => rfl
    | succ n => rw [List.drop_succ_cons, ← ih]; rfl
end BB
/-! numbers -/
noncomputable def bile (a b : Int) : Bool := @Int.rec (fun _ => Bool) (fun m => @Int.rec (fun _ => Bool) (fun n => Nat.ble m n) (fun _ => false) b) (fun m => @Int.rec (fun _ => Bool) (fun _ => true) (fun n => Nat.ble n m) b) a
noncomputable def bieq (a b : Int) : Bool := @Int.rec (fun _ => Bool) (fun m => @Int.rec (fun _ => Bool) (fun n => Nat.beq m n) (fun _ => false) b) (fun m => @Int.rec (fun _ => Bool) (fun _ => false) (fun n => Nat.beq n m) b) a
noncomputable def bsnn (m n : Nat) : Int := @Nat.rec (fun _ => Int) (.ofNat (Nat.sub m n)) (fun k _ => .negSucc k) (Nat.sub n m)
noncomputable def badd (a b : Int) : Int := @Int.rec (fun _ => Int) (fun m => @Int.rec (fun _ => Int) (fun n => .ofNat (Nat.add m n)) (fun n => bsnn m (Nat.succ n)) b) (fun m => @Int.rec (fun _ => Int) (fun n => bsnn n (Nat.succ m)) (fun n => .negSucc (Nat.succ (Nat.add m n))) b) a
noncomputable def bneg (a : Int) : Int := @Int.rec (fun _ => Int) (fun n => @Nat.rec (fun _ => Int) (.ofNat 0) (fun k _ => .negSucc k) n) (fun n => .ofNat (Nat.succ n)) a
noncomputable def bsub (a b : Int) : Int := badd a (bneg b)
noncomputable def btoN (a : Int) : Nat := @Int.rec (fun _ => Nat) (fun n => n) (fun _ => 0) a
theorem bile_eq (a b : Int) : bile a b = ile a b := by cases a <;> cases b <;> rfl
theorem bieq_eq (a b : Int) : bieq a b = ieq a b := by
  have key : bieq a b = decide (a = b) := by
    cases a with
    | ofNat m =>
      cases b with
      | ofNat n =>
        show Nat.beq m n = _
        rw [Bool.eq_iff_iff]
        simp
        omega
      | negSucc n => rfl
    | negSucc m =>
      cases b with
      | ofNat n => rfl
      | negSucc n =>
        show Nat.beq n m = _
        rw [Bool.eq_iff_iff]
        simp
        omega
  rw [key, Bool.eq_iff_iff, ieq_iff]
  simp
theorem bsnn_eq (m n : Nat) : bsnn m n = Int.subNatNat m n := by
  unfold bsnn Int.subNatNat
  show @Nat.rec (fun _ => Int) (.ofNat (m - n)) (fun k _ => .negSucc k) (n - m) = _
  cases n - m <;> rfl
theorem badd_eq (a b : Int) : badd a b = a + b := by
  cases a with
  | ofNat m =>
    cases b with
    | ofNat n => rfl
    | negSucc n => exact bsnn_eq m (n + 1)
  | negSucc m =>
    cases b with
    | ofNat n => exact bsnn_eq n (m + 1)
    | negSucc n => rfl
theorem bneg_eq (a : Int) : bneg a = -a := by
  cases a with
  | ofNat n => cases n <;> rfl
  | negSucc n => rfl
theorem bsub_eq (a b : Int) : bsub a b = a - b := by
  unfold bsub
  rw [badd_eq, bneg_eq]
  rfl
theorem btoN_eq (a : Int) : btoN a = a.toNat := by cases a <;> rfl
noncomputable def bmin (a b : Int) : Int := (@Bool.rec (fun _ => Int) (b) (a) (bile a b))
noncomputable def bmax (a b : Int) : Int := (@Bool.rec (fun _ => Int) (a) (b) (bile a b))
theorem bmin_eq (a b : Int) : bmin a b = imin a b := by
  unfold bmin imin
  rw [bile_eq, ite_b]
theorem bmax_eq (a b : Int) : bmax a b = imax a b := by
  unfold bmax imax
  rw [bile_eq, ite_b]
/-! ranges -/
noncomputable def bLe1 (p q : aP) : Bool := (@Bool.rec (fun _ => Bool) false ((@Bool.rec (fun _ => Bool) false ((@Bool.rec (fun _ => Bool) ((@Bool.rec (fun _ => Bool) false (Nat.beq (Nat.mod (btoN (bsub p.1 q.1)) q.2.2) 0) (Nat.beq (Nat.mod p.2.2 q.2.2) 0))) true (Nat.beq q.2.2 1))) (bile p.2.1 q.2.1))) (bile q.1 p.1))
theorem bLe1_eq (p q : aP) : bLe1 p q = aLe1 p q := by
  unfold bLe1 aLe1
  rw [bile_eq, bile_eq, btoN_eq, bsub_eq, and_b, and_b, and_b]
  cases e : Nat.beq q.2.2 1 with
  | true =>
    have e2 : q.2.2 = 1 := by simpa using e
    rw [e2, Nat.mod_one, Nat.mod_one]
    rfl
  | false => rfl
noncomputable def bLe (A B : aI) : Bool := bAll A (fun p => bAny B (fun q => bLe1 p q))
theorem bLe_eq (A B : aI) : bLe A B = aLe A B := by
  unfold bLe aLe
  simp only [bAll_eq, bAny_eq, bLe1_eq]
noncomputable def bHull (A : aI) : Int × Int := @List.rec aP (fun _ => Int × Int) (0, 0) (fun p t ih => @List.rec aP (fun _ => Int × Int) (p.1, p.2.1) (fun _ _ _ => (bmin p.1 ih.1, bmax p.2.1 ih.2)) t) A
theorem bHull_eq (A : aI) : bHull A = aHull A := by
  induction A with
  | nil => rfl
  | cons p t ih =>
    cases t with
    | nil => rfl
    | cons q t =>
      show (bmin p.1 (bHull (q :: t)).1, bmax p.2.1 (bHull (q :: t)).2) = _
      rw [ih, bmin_eq, bmax_eq]
      rfl
noncomputable def bSh (A : aI) (o : Int) : aI := bMap A (fun p => (badd p.1 o, badd p.2.1 o, p.2.2))
theorem bSh_eq (A : aI) (o : Int) : bSh A o = aSh A o := by
  unfold bSh aSh
  simp only [bMap_eq, badd_eq]
noncomputable def bCut1 (p : aP) (lo hi : Int) : aI := (@Bool.rec (fun _ => aI) ((@Bool.rec (fun _ => aI) ((@Bool.rec (fun _ => aI) (aCut1 p lo hi) ((@Bool.rec (fun _ => aI) ([]) ([(lo, bmin p.2.1 hi, 1)]) (bile lo (bmin p.2.1 hi)))) (Nat.beq p.2.2 1))) ([]) (Nat.beq p.2.2 0))) ((@Bool.rec (fun _ => aI) ([]) ([(p.1, bmin p.2.1 hi, p.2.2)]) (bile p.1 (bmin p.2.1 hi)))) (bile lo p.1))
theorem bCut1_eq (p : aP) (lo hi : Int) : bCut1 p lo hi = aCut1 p lo hi := by
  unfold bCut1
  simp only [bile_eq, bmin_eq, ← ite_b]
  split
  · next h => unfold aCut1; rw [if_pos h]
  · next h =>
    split
    · next h2 => unfold aCut1; rw [if_neg h, if_pos h2]
    · next h2 =>
      split
      · next h3 =>
        unfold aCut1
        rw [if_neg h, if_neg h2]
        have e : p.2.2 = 1 := by simpa using h3
        rw [e, show p.1 + (lo - p.1 + (1 : Nat) - 1) / ((1 : Nat) : Int) * ((1 : Nat) : Int) = lo by simp; omega]
      · rfl
noncomputable def bCut (A : aI) (lo hi : Int) : aI := bFlat A (fun p => bCut1 p lo hi)
theorem bCut_eq (A : aI) (lo hi : Int) : bCut A lo hi = aCut A lo hi := by
  unfold bCut aCut
  simp only [bFlat_eq, bCut1_eq]
noncomputable def bCutL (A : aI) (lo : Int) : aI := bFlat A (fun p => bCut1 p lo p.2.1)
noncomputable def bCutH (A : aI) (hi : Int) : aI := bFlat A (fun p => bCut1 p p.1 hi)
theorem bCutL_eq (A : aI) (lo : Int) : bCutL A lo = aCutL A lo := by
  unfold bCutL aCutL
  simp only [bFlat_eq, bCut1_eq]
theorem bCutH_eq (A : aI) (hi : Int) : bCutH A hi = aCutH A hi := by
  unfold bCutH aCutH
  simp only [bFlat_eq, bCut1_eq]
noncomputable def bDel (A : aI) (c : Int) : aI := bFlat A (fun p => bApp (bCut1 p p.1 (bsub c 1)) (bCut1 p (badd c 1) p.2.1))
theorem bDel_eq (A : aI) (c : Int) : bDel A c = aDel A c := by
  unfold bDel aDel
  simp only [bFlat_eq, bCut1_eq, bApp_eq, badd_eq, bsub_eq]
noncomputable def bRef (cd : ClassFile.Cond) (A : aI) (lo hi : Int) : aI := @ClassFile.Cond.rec (fun _ => aI) (bCut A lo hi) ((@Bool.rec (fun _ => aI) (A) (bDel A lo) (bieq lo hi))) (bCutH A (bsub hi 1)) (bCutL A lo) (bCutL A (badd lo 1)) (bCutH A hi) cd
theorem bRef_eq (cd : ClassFile.Cond) (A : aI) (lo hi : Int) : bRef cd A lo hi = aRef cd A lo hi := by
  cases cd
  · exact bCut_eq A lo hi
  · show (@Bool.rec (fun _ => aI) (A) (bDel A lo) (bieq lo hi)) = if ieq lo hi then aDel A lo else A
    rw [bieq_eq, bDel_eq, ite_b]
  · show bCutH A (bsub hi 1) = _
    rw [bCutH_eq, bsub_eq]
    rfl
  · exact bCutL_eq A lo
  · show bCutL A (badd lo 1) = _
    rw [bCutL_eq, badd_eq]
    rfl
  · exact bCutH_eq A hi
noncomputable def bFit (A : aI) : Bool := (@Bool.rec (fun _ => Bool) false (bile (bHull A).2 2147483647) (bile (-2147483648) (bHull A).1))
theorem bFit_eq (A : aI) : bFit A = aFit A := by
  unfold bFit aFit
  rw [bile_eq, bile_eq, bHull_eq, and_b]
noncomputable def bClip (A : aI) : aI := (@Bool.rec (fun _ => aI) (aTop) (A) (bFit A))
theorem bClip_eq (A : aI) : bClip A = aClip A := by
  unfold bClip aClip
  rw [bFit_eq, ite_b]
noncomputable def bAdd (A B : aI) : aI := bFlat A (fun p => bMap B (fun q => (badd p.1 q.1, badd p.2.1 q.2.1, Nat.gcd p.2.2 q.2.2)))
theorem bAdd_eq (A B : aI) : bAdd A B = aAdd A B := by
  unfold bAdd aAdd
  simp only [bFlat_eq, bMap_eq, badd_eq]
noncomputable def bSub1 (p q : aP) : aP := (@Bool.rec (fun _ => aP) ((bsub p.1 q.2.1, bsub p.2.1 q.1, 1)) ((bsub p.1 q.1, bsub p.2.1 q.1, p.2.2)) (Nat.beq q.2.2 0))
theorem bSub1_eq (p q : aP) : bSub1 p q = aSub1 p q := by
  unfold bSub1 aSub1
  rw [ite_b]
  simp only [bsub_eq]
noncomputable def bSub (A B : aI) : aI := bFlat A (fun p => bMap B (fun q => bSub1 p q))
theorem bSub_eq (A B : aI) : bSub A B = aSub A B := by
  unfold bSub aSub
  simp only [bFlat_eq, bMap_eq, bSub1_eq]
/-! states -/
noncomputable def bset (ρ : List aI) (e : aE) : aI := @Sum.rec Int (Nat × Int) (fun _ => aI) (fun c => [(c, c, 0)]) (fun p => @Option.rec aI (fun _ => aI) aTop (fun B => (@Bool.rec (fun _ => aI) (bSh B p.2) (B) (bieq p.2 0))) (bIdx ρ p.1)) e
theorem bset_eq (ρ : List aI) (e : aE) : bset ρ e = aset ρ e := by
  cases e with
  | inl c => rfl
  | inr p =>
    obtain ⟨i, o⟩ := p
    show @Option.rec aI (fun _ => aI) aTop (fun B => (@Bool.rec (fun _ => aI) (bSh B o) (B) (bieq o 0))) (bIdx ρ i) = match ρ[i]? with | some B => if ieq o 0 then B else aSh B o | none => aTop
    rw [bIdx_eq]
    cases ρ[i]? with
    | none => rfl
    | some B =>
      show (@Bool.rec (fun _ => aI) (bSh B o) (B) (bieq o 0)) = if ieq o 0 then B else aSh B o
      rw [bieq_eq, bSh_eq, ite_b]
noncomputable def bOne (B : aI) : Option Int := @List.rec aP (fun _ => Option Int) none (fun p t _ => @List.rec aP (fun _ => Option Int) ((@Bool.rec (fun _ => Option Int) (none) (some p.1) (bieq p.1 p.2.1))) (fun _ _ _ => none) t) B
noncomputable def bNew (ρ : List aI) (B : aI) : aE × List aI := @Option.rec Int (fun _ => aE × List aI) (.inr (bLen ρ, 0), bApp ρ [B]) (fun c => (.inl c, ρ)) (bOne B)
theorem bNew_eq (ρ : List aI) (B : aI) : bNew ρ B = aNew ρ B := by
  unfold bNew
  cases B with
  | nil =>
    show (_, _) = (_, _)
    rw [bLen_eq, bApp_eq]
  | cons p t =>
    cases t with
    | nil =>
      show @Option.rec Int (fun _ => aE × List aI) (.inr (bLen ρ, 0), bApp ρ [[p]]) (fun c => (.inl c, ρ)) ((@Bool.rec (fun _ => Option Int) (none) (some p.1) (bieq p.1 p.2.1))) = if ieq p.1 p.2.1 then (.inl p.1, ρ) else (.inr (ρ.length, 0), ρ ++ [[p]])
      rw [bieq_eq, bLen_eq, bApp_eq]
      cases ieq p.1 p.2.1 <;> rfl
    | cons q t =>
      show (_, _) = (_, _)
      rw [bLen_eq, bApp_eq]
noncomputable def bNarr (ρ : List aI) (e : aE) (cd : ClassFile.Cond) (lo hi : Int) : List aI := @Sum.rec Int (Nat × Int) (fun _ => List aI) (fun _ => ρ) (fun p => @Option.rec aI (fun _ => List aI) ρ (fun B => bSet ρ p.1 (bRef cd B (bsub lo p.2) (bsub hi p.2))) (bIdx ρ p.1)) e
theorem bNarr_eq (ρ : List aI) (e : aE) (cd : ClassFile.Cond) (lo hi : Int) : bNarr ρ e cd lo hi = aNarr ρ e cd lo hi := by
  cases e with
  | inl c => rfl
  | inr p =>
    obtain ⟨i, o⟩ := p
    show @Option.rec aI (fun _ => List aI) ρ (fun B => bSet ρ i (bRef cd B (bsub lo o) (bsub hi o))) (bIdx ρ i) = match ρ[i]? with | some B => ρ.set i (aRef cd B (lo - o) (hi - o)) | none => ρ
    rw [bIdx_eq]
    cases ρ[i]? with
    | none => rfl
    | some B =>
      show bSet ρ i (bRef cd B (bsub lo o) (bsub hi o)) = _
      rw [bSet_eq, bRef_eq, bsub_eq, bsub_eq]
noncomputable def bDead (ρ : List aI) : Bool := bAny ρ (fun B => @List.rec aP (fun _ => Bool) true (fun _ _ _ => false) B)
theorem bDead_eq (ρ : List aI) : bDead ρ = aDead ρ := by
  unfold bDead aDead
  rw [bAny_eq]
  congr 1
  funext B
  cases B <;> rfl
noncomputable def bIsL (a : aV) : Bool := @Sum.rec aE (List Nat ⊕ Bool) (fun _ => Bool) (fun _ => false) (fun q => @Sum.rec (List Nat) Bool (fun _ => Bool) (fun _ => false) (fun _ => true) q) a
theorem bIsL_eq (a : aV) : bIsL a = aIsL a := by
  rcases a with e | q | b <;> rfl
noncomputable def bGet (ls : aL) (i : Nat) : Option aV := @List.rec (Nat × aV) (fun _ => Option aV) none (fun q _ ih => (@Bool.rec (fun _ => Option aV) (ih) (some q.2) (Nat.beq q.1 i))) ls
theorem bGet_eq (ls : aL) (i : Nat) : bGet ls i = aGet ls i := by
  induction ls with
  | nil => rfl
  | cons q t ih =>
    show (@Bool.rec (fun _ => Option aV) (bGet t i) (some q.2) (Nat.beq q.1 i)) = if Nat.beq q.1 i then some q.2 else aGet t i
    rw [ih, ite_b]
noncomputable def bSet1 (ls : aL) (i : Nat) (a : aV) : aL := (i, a) :: bFil ls (fun q => (@Bool.rec (fun _ => Bool) ((@Bool.rec (fun _ => Bool) true false ((@Bool.rec (fun _ => Bool) false (bIsL q.2) (Nat.beq (Nat.succ q.1) i))))) (false) (Nat.beq q.1 i)))
theorem bSet1_eq (ls : aL) (i : Nat) (a : aV) : bSet1 ls i a = aSet1 ls i a := by
  unfold bSet1 aSet1
  rw [bFil_eq]
  congr 2
  funext q
  rw [bIsL_eq]
  show (@Bool.rec (fun _ => Bool) ((@Bool.rec (fun _ => Bool) true false ((@Bool.rec (fun _ => Bool) false (aIsL q.2) (Nat.beq (q.1 + 1) i))))) (false) (Nat.beq q.1 i)) = _
  cases Nat.beq q.1 i <;> cases Nat.beq (q.1 + 1) i <;> cases aIsL q.2 <;> rfl
noncomputable def bSetL (ls : aL) (k : Nat) (a : aV) : aL := (@Bool.rec (fun _ => aL) (bSet1 ls k a) (aSet2 ls k a) (bIsL a))
theorem bSetL_eq (ls : aL) (k : Nat) (a : aV) : bSetL ls k a = aSetL ls k a := by
  unfold bSetL aSetL
  rw [bIsL_eq, bSet1_eq, ite_b]
noncomputable def bPlus (ρ : List aI) (e : aE) (k : Int) : Option aE := @Sum.rec Int (Nat × Int) (fun _ => Option aE) (fun c => (@Bool.rec (fun _ => Option aE) (none) (some (.inl (badd c k))) ((@Bool.rec (fun _ => Bool) false (bile (badd c k) 2147483647) (bile (-2147483648) (badd c k)))))) (fun p => (@Bool.rec (fun _ => Option aE) (none) (some (.inr (p.1, badd p.2 k))) (bFit (bSh (bset ρ (.inr p)) k)))) e
theorem bPlus_eq (ρ : List aI) (e : aE) (k : Int) : bPlus ρ e k = aPlus ρ e k := by
  cases e with
  | inl c =>
    show (@Bool.rec (fun _ => Option aE) (none) (some (.inl (badd c k))) ((@Bool.rec (fun _ => Bool) false (bile (badd c k) 2147483647) (bile (-2147483648) (badd c k))))) = if aFt (c + k) then some (.inl (c + k)) else none
    unfold aFt
    rw [badd_eq, bile_eq, bile_eq, ite_b, and_b]
  | inr p =>
    obtain ⟨i, o⟩ := p
    show (@Bool.rec (fun _ => Option aE) (none) (some (.inr (i, badd o k))) (bFit (bSh (bset ρ (.inr (i, o))) k))) = if aFit (aSh (aset ρ (.inr (i, o))) k) then some (.inr (i, o + k)) else none
    rw [bFit_eq, bSh_eq, bset_eq, badd_eq, ite_b]
noncomputable def bKn (ρ : List aI) (e : aE) : Option Int := bOne (bset ρ e)
theorem bKn_eq (ρ : List aI) (e : aE) : bKn ρ e = aKn ρ e := by
  unfold bKn aKn
  rw [bset_eq]
  generalize aset ρ e = B
  cases B with
  | nil => rfl
  | cons p t =>
    cases t with
    | nil =>
      show (@Bool.rec (fun _ => Option Int) (none) (some p.1) (bieq p.1 p.2.1)) = if ieq p.1 p.2.1 then some p.1 else none
      rw [bieq_eq, ite_b]
    | cons q t => rfl
