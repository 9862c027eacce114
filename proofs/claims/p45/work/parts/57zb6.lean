/-! a world's tables -/
noncomputable def bOatQ {α : Type} (a : Nat) (q : Nat × α) : Option α := (@Bool.rec (fun _ => Option α) (none) (some q.2) (Nat.beq q.1 a))
noncomputable def bOat {α : Type} (t : Lean.RArray (Nat × α)) (a : Nat) : Option α := bOatQ a (t.get a)
noncomputable def bLat {α : Type} (t : Lean.RArray (Nat × List α)) (a : Nat) : List α := @Option.rec (List α) (fun _ => List α) [] (fun l => l) (bOat t a)
noncomputable def bSat (t : Lean.RArray (Nat × Lean.RArray aI)) (a k : Nat) : aI := @Option.rec (Lean.RArray aI) (fun _ => aI) aTop (fun u => u.get k) (bOat t a)
noncomputable def bRat (t : Lean.RArray (Nat × List (Option Nat))) (a k : Nat) : Option Nat := @Option.rec (Option Nat) (fun _ => Option Nat) none (fun q => q) (bIdx (bLat t a) k)
noncomputable def bKlQ (a k : Nat) (q : (Nat × Nat) × List aM) : Option (List aM) := (@Bool.rec (fun _ => Option (List aM)) (none) (some q.2) ((@Bool.rec (fun _ => Bool) false (Nat.beq q.1.1 a) (Nat.beq q.1.2 k))))
noncomputable def bKlO (t : Lean.RArray ((Nat × Nat) × List aM)) (a k : Nat) : Option (List aM) := bKlQ a k (t.get (Nat.add (Nat.mul a 4096) k))
noncomputable def bKlk (t : Lean.RArray ((Nat × Nat) × List aM)) (a k : Nat) : List aM := @Option.rec (List aM) (fun _ => List aM) [] (fun l => l) (bKlO t a k)
noncomputable def bFl {α : Type} (t : Lean.RArray α) : List α := @Lean.RArray.rec α (fun _ => List α) (fun q => [q]) (fun _ _ _ l r => l ++ r) t
def dSl : DecidableEq ((Nat × Nat) × aI) := inferInstance
def dIm : DecidableEq aM := fun a b => @instDecidableEqProd (List ((Nat × Nat) × aI)) ((Nat × Nat) × aI) (@instDecidableEqList _ dSl) dSl a b
def dIl : DecidableEq (List aM) := @instDecidableEqList _ dIm
section BW
theorem bFl_mem {α : Type} (k : Nat) : ∀ t : Lean.RArray α, t.get k ∈ bFl t
  | .leaf q => List.mem_singleton.mpr rfl
  | .branch p l r => by
    show @Bool.rec (fun _ => α) (l.get k) (r.get k) (Nat.ble p k) ∈ bFl l ++ bFl r
    cases Nat.ble p k with
    | false => exact List.mem_append_left _ (bFl_mem k l)
    | true => exact List.mem_append_right _ (bFl_mem k r)
theorem bOat_in {α : Type} {t : Lean.RArray (Nat × α)} {a : Nat} {v : α} (h : bOat t a = some v) : (a, v) ∈ bFl t := by
  have := bFl_mem a t
  unfold bOat bOatQ at h
  generalize t.get a = q at this h
  obtain ⟨b, u⟩ := q
  rw [← ite_b] at h
  split at h
  · next z =>
    cases h
    have e2 : b = a := by simpa using z
    rw [← e2]
    exact this
  · cases h
/-- beyond n a table says nothing -/
theorem bOat_no {α : Type} {t : Lean.RArray (Nat × α)} {n : Nat} (h : (bFl t).all (fun q => Nat.blt q.1 n) = true) {a : Nat} (ha : n ≤ a) : bOat t a = none := by
  cases e : bOat t a with
  | none => rfl
  | some v =>
    have := List.all_eq_true.mp h _ (bOat_in e)
    simp only [Nat.blt_eq] at this
    omega
theorem bOat_all {α : Type} {t : Lean.RArray (Nat × α)} {n : Nat} {f : Nat → Option α} (h : (bFl t).all (fun q => Nat.blt q.1 n) = true) (hf : ∀ a, n ≤ a → f a = none) (ht : ∀ a, a < n → bOat t a = f a) (a : Nat) : bOat t a = f a := by
  rcases Nat.lt_or_ge a n with q | q
  · exact ht a q
  · rw [bOat_no h q, hf a q]
/-- segments as a tree -/
def gO : List (Option Nat × aI) → Nat → aI
  | [], _ => aTop
  | (none, v) :: _, _ => v
  | (some e, v) :: t, k => if Nat.blt k e then v else gO t k
def bTl : Lean.RArray aI → Option Nat → List (Option Nat × aI)
  | .leaf v, hi => [(hi, v)]
  | .branch p l r, hi => bTl l (some p) ++ bTl r hi
def bBd : Lean.RArray aI → Option Nat → Bool
  | .leaf _, _ => true
  | .branch p l r, hi => (match hi with | none => true | some h => Nat.ble p h) && (bBd l (some p) && bBd r hi)
theorem gO_skip {k : Nat} : ∀ {t : Lean.RArray aI} {p : Nat} {X : List (Option Nat × aI)}, bBd t (some p) = true → p ≤ k → gO (bTl t (some p) ++ X) k = gO X k
  | .leaf v, p, X, _, hk => by
    show (if Nat.blt k p then v else gO X k) = gO X k
    rw [if_neg (by simp only [Nat.blt_eq]; omega)]
  | .branch q l r, p, X, h, hk => by
    have h : (Nat.ble q p && (bBd l (some q) && bBd r (some p))) = true := h
    simp only [Bool.and_eq_true, Nat.ble_eq] at h
    show gO ((bTl l (some q) ++ bTl r (some p)) ++ X) k = gO X k
    rw [List.append_assoc, gO_skip h.2.1 (by omega), gO_skip h.2.2 hk]
theorem gO_get {k : Nat} : ∀ {t : Lean.RArray aI} {hi : Option Nat} {X : List (Option Nat × aI)}, bBd t hi = true → (∀ h, hi = some h → k < h) → gO (bTl t hi ++ X) k = t.get k
  | .leaf v, hi, X, _, hk => by
    cases hi with
    | none => rfl
    | some h =>
      show (if Nat.blt k h then v else gO X k) = v
      rw [if_pos (by simp only [Nat.blt_eq]; exact hk h rfl)]
  | .branch q l r, hi, X, h, hk => by
    unfold bBd at h
    simp only [Bool.and_eq_true] at h
    show gO ((bTl l (some q) ++ bTl r hi) ++ X) k = @Bool.rec (fun _ => aI) (l.get k) (r.get k) (Nat.ble q k)
    rw [List.append_assoc]
    cases e : Nat.ble q k with
    | false =>
      have : ¬ q ≤ k := fun z => by rw [Nat.ble_eq_true_of_le z] at e; cases e
      exact gO_get h.2.1 (fun h e => by cases e; omega)
    | true =>
      rw [gO_skip h.2.1 (Nat.le_of_ble_eq_true e)]
      exact gO_get h.2.2 hk
theorem gO_seg {k : Nat} : ∀ l : List (Nat × aI), gO (l.map (fun q => (some q.1, q.2)) ++ [(none, aTop)]) k = gSeg l k
  | [] => rfl
  | q :: t => by
    show (if Nat.blt k q.1 then q.2 else gO (t.map (fun q => (some q.1, q.2)) ++ [(none, aTop)]) k) = if Nat.blt k q.1 then q.2 else gSeg t k
    rw [gO_seg t]
theorem seg_tree {t : Lean.RArray aI} {l : List (Nat × aI)} (h : (bBd t none && decide (bTl t none = l.map (fun q => (some q.1, q.2)) ++ [(none, aTop)])) = true) (k : Nat) : t.get k = gSeg l k := by
  simp only [Bool.and_eq_true, decide_eq_true_eq] at h
  rw [← gO_seg, ← h.2, ← gO_get (X := []) h.1 (fun h e => by cases e), List.append_nil]
/-- implications by a key -/
theorem bKlO_in {t : Lean.RArray ((Nat × Nat) × List aM)} {a k : Nat} {l : List aM} (h : bKlO t a k = some l) : ((a, k), l) ∈ bFl t := by
  have := bFl_mem (Nat.add (Nat.mul a 4096) k) t
  unfold bKlO at h
  generalize t.get (Nat.add (Nat.mul a 4096) k) = q at this h
  obtain ⟨⟨b, j⟩, m⟩ := q
  have h : (@Bool.rec (fun _ => Option (List aM)) (none) (some m) ((@Bool.rec (fun _ => Bool) false (Nat.beq b a) (Nat.beq j k)))) = some l := h
  rw [← and_b, ← ite_b] at h
  split at h
  · next z =>
    simp only [Bool.and_eq_true, Nat.beq_eq] at z
    cases h
    rw [← z.1, ← z.2]
    exact this
  · cases h
theorem bKlk_all {t : Lean.RArray ((Nat × Nat) × List aM)} {I : List aM} {P : Nat → Nat → aM → Bool} (h1 : (bFl t).all (fun q => @decide (q.2 = I.filter (P q.1.1 q.1.2)) (dIl _ _)) = true) (h2 : ∀ i ∈ I, ∀ a k, P a k i = true → (bKlO t a k).isSome = true) (a k : Nat) : bKlk t a k = I.filter (P a k) := by
  unfold bKlk
  cases e : bKlO t a k with
  | some l => exact @of_decide_eq_true _ (dIl _ _) (List.all_eq_true.mp h1 _ (bKlO_in e))
  | none =>
    symm
    refine List.filter_eq_nil_iff.mpr (fun i hi z => ?_)
    have := h2 i hi a k z
    rw [e] at this
    cases this
/-- all of it -/
theorem bWok_of {sh : List (Nat × Nat)} {G : List (List (Nat × aI))} {R : List (List (Option Nat))} {I : List aM} {S : Lean.RArray (Nat × (Nat × Nat))} {TG : Lean.RArray (Nat × List (Nat × aI))} {TT : Lean.RArray (Nat × Lean.RArray aI)} {TR : Lean.RArray (Nat × List (Option Nat))} {TI TJ : Lean.RArray ((Nat × Nat) × List aM)}
    (s1 : (bFl S).all (fun q => Nat.blt q.1 sh.length) = true) (s2 : (List.range sh.length).all (fun a => decide (bOat S a = sh[a]?)) = true)
    (g1 : (bFl TG).all (fun q => Nat.blt q.1 G.length) = true) (g2 : (List.range G.length).all (fun a => decide (bOat TG a = G[a]?)) = true)
    (t1 : (bFl TT).all (fun q => Nat.blt q.1 G.length) = true) (t2 : (List.range G.length).all (fun a => match bOat TT a, G[a]? with | some t, some l => bBd t none && decide (bTl t none = l.map (fun q => (some q.1, q.2)) ++ [(none, aTop)]) | _, _ => false) = true)
    (r1 : (bFl TR).all (fun q => Nat.blt q.1 R.length) = true) (r2 : (List.range R.length).all (fun a => decide (bOat TR a = R[a]?)) = true)
    (i1 : (bFl TI).all (fun q => @decide (q.2 = I.filter (fun i => Nat.beq i.2.1.1 q.1.1 && Nat.beq i.2.1.2 q.1.2)) (dIl _ _)) = true) (i2 : I.all (fun i => (bKlO TI i.2.1.1 i.2.1.2).isSome) = true)
    (j1 : (bFl TJ).all (fun q => @decide (q.2 = I.filter (bMn q.1.1 q.1.2)) (dIl _ _)) = true) (j2 : I.all (fun i => (bKlO TJ i.2.1.1 i.2.1.2).isSome && i.1.all (fun c => (bKlO TJ c.1.1 c.1.2).isSome)) = true) :
    bWok (fun a => sh[a]?, fun a => G.getD a [], fun a k => (R.getD a []).getD k none, I) (bOat S, fun a => bLat TG a, fun a k => bSat TT a k, fun a k => bRat TR a k, fun a k => bKlk TI a k, fun a k => bKlk TJ a k) := by
  have tab : ∀ {α : Type} [DecidableEq α] {t : Lean.RArray (Nat × α)} {l : List α}, (bFl t).all (fun q => Nat.blt q.1 l.length) = true → (List.range l.length).all (fun a => decide (bOat t a = l[a]?)) = true → ∀ a, bOat t a = l[a]? := fun {α} _ {t} {l} h1 h2 a => bOat_all h1 (fun a ha => List.getElem?_eq_none ha) (fun a ha => of_decide_eq_true (List.all_eq_true.mp h2 a (List.mem_range.mpr ha))) a
  have lat : ∀ {α : Type} {t : Lean.RArray (Nat × List α)} {l : List (List α)}, (∀ a, bOat t a = l[a]?) → ∀ a, bLat t a = l.getD a [] := fun {α} {t} {l} h a => by
    unfold bLat
    rw [h a, List.getD_eq_getElem?_getD]
    cases l[a]? <;> rfl
  refine ⟨tab s1 s2, lat (tab g1 g2), fun a k => ?_, fun a k => ?_, fun a k => bKlk_all (t := TI) (I := I) (P := fun a k i => Nat.beq i.2.1.1 a && Nat.beq i.2.1.2 k) i1 (fun i hi a k z => ?_) a k, fun a k => bKlk_all (t := TJ) (I := I) (P := bMn) j1 (fun i hi a k z => ?_) a k⟩
  · show bSat TT a k = gSeg (G.getD a []) k
    unfold bSat
    rcases Nat.lt_or_ge a G.length with q | q
    · have := List.all_eq_true.mp t2 a (List.mem_range.mpr q)
      rw [List.getD_eq_getElem?_getD]
      split at this
      · next t l e1 e2 =>
        rw [e1, e2]
        exact seg_tree this k
      · cases this
    · rw [bOat_no t1 q, List.getD_eq_getElem?_getD, List.getElem?_eq_none q]
      rfl
  · show bRat TR a k = (R.getD a []).getD k none
    unfold bRat
    rw [lat (tab r1 r2), bIdx_eq, List.getD_eq_getElem?_getD (l := R.getD a [])]
    cases (R.getD a [])[k]? <;> rfl
  · simp only [Bool.and_eq_true, Nat.beq_eq] at z
    rw [← z.1, ← z.2]
    exact List.all_eq_true.mp i2 i hi
  · have := List.all_eq_true.mp j2 i hi
    simp only [Bool.and_eq_true, List.all_eq_true] at this
    unfold bMn at z
    simp only [Bool.or_eq_true, Bool.and_eq_true, Nat.beq_eq, List.any_eq_true] at z
    rcases z with z | ⟨c, hc, z⟩
    · rw [← z.1, ← z.2]
      exact this.1
    · rw [← z.1, ← z.2]
      exact this.2 c hc
end BW
