/-! sums that fall; nodes; ends; whole methods -/
def aSum : Nat → (Nat → Int) → Int
  | 0, _ => 0
  | n + 1, g => aSum n g + g n
def aCo : List (Nat × Int) → Nat → Int
  | [], _ => 0
  | q :: t, i => if Nat.beq q.1 i then q.2 + aCo t i else aCo t i
theorem aSum_one {σ g : Nat → Int} {k : Nat} {c : Int} : ∀ {n : Nat}, aSum n (fun j => (if Nat.beq k j then c + g j else g j) * σ j) = (if k < n then c * σ k else 0) + aSum n (fun j => g j * σ j)
  | 0 => by simp [aSum]
  | n + 1 => by
    show aSum n _ + (if Nat.beq k n then c + g n else g n) * σ n = _ + (aSum n _ + g n * σ n)
    rw [aSum_one (n := n)]
    by_cases e : k = n
    · subst e
      have b1 : Nat.beq k k = true := by simp
      have h1 : ¬ k < k := by omega
      have h2 : k < k + 1 := by omega
      rw [if_neg h1, if_pos h2, if_pos b1, Int.add_mul]
      omega
    · have b1 : ¬ Nat.beq k n = true := by simp [e]
      rw [if_neg b1]
      by_cases q : k < n
      · have q2 : k < n + 1 := by omega
        rw [if_pos q, if_pos q2]; omega
      · have q2 : ¬ k < n + 1 := by omega
        rw [if_neg q, if_neg q2]; omega
theorem aLv_sum {σ : Nat → Int} {n : Nat} : ∀ {l : List (Nat × Int)}, (∀ q ∈ l, q.1 < n) → aLv σ l = aSum n (fun j => aCo l j * σ j)
  | [], _ => by
    show (0 : Int) = aSum n (fun j => 0 * σ j)
    induction n with
    | zero => rfl
    | succ n ih => show (0 : Int) = aSum n _ + 0 * σ n; rw [← ih (fun q hq => by cases hq)]; simp
  | q :: t, h => by
    show q.2 * σ q.1 + aLv σ t = aSum n (fun j => (if Nat.beq q.1 j then q.2 + aCo t j else aCo t j) * σ j)
    rw [aSum_one, if_pos (h q List.mem_cons_self), aLv_sum (fun p hp => h p (List.mem_cons_of_mem _ hp))]
def aLw (ρ : List aI) (l : List (Nat × Int)) (j : Nat) : Int := match ρ[j]? with
  | some B => if ieq (aCo l j) 0 then 0 else if ile 0 (aCo l j) then aCo l j * (aHull B).1 else aCo l j * (aHull B).2
  | none => 0
theorem aLw_le {ρ : List aI} {σ : Nat → Int} {l : List (Nat × Int)} (he : aEnv ρ σ) : ∀ {n : Nat}, n ≤ ρ.length → aSum n (aLw ρ l) ≤ aSum n (fun j => aCo l j * σ j)
  | 0, _ => Int.le_refl _
  | n + 1, hn => by
    show aSum n _ + aLw ρ l n ≤ aSum n _ + aCo l n * σ n
    have ih := aLw_le (l := l) he (n := n) (by omega)
    have : aLw ρ l n ≤ aCo l n * σ n := by
      unfold aLw
      rw [List.getElem?_eq_getElem (show n < ρ.length by omega)]
      dsimp only
      have hh := aHull_in (he n _ (List.getElem?_eq_getElem (show n < ρ.length by omega)))
      split
      · next q => rw [ieq_iff.mp q]; omega
      · split
        · next q => exact Int.mul_le_mul_of_nonneg_left hh.1 (ile_iff.mp q)
        · next q => exact Int.mul_le_mul_of_nonpos_left (Int.le_of_lt (ile_f (Bool.eq_false_iff.mpr q))) hh.2
    omega
/-- the least that a sum can be -/
def aLow (ρ : List aI) (c : Int) (l : List (Nat × Int)) : Option Int := if l.all (fun q => Nat.blt q.1 ρ.length) then some (c + aSum ρ.length (aLw ρ l)) else none
theorem aLow_in {ρ : List aI} {σ : Nat → Int} {c b : Int} {l : List (Nat × Int)} (he : aEnv ρ σ) (h : aLow ρ c l = some b) : b ≤ c + aLv σ l := by
  unfold aLow at h
  split at h
  · next q =>
    cases h
    rw [aLv_sum (n := ρ.length) (fun p hp => by simpa [Nat.blt_eq] using List.all_eq_true.mp q p hp)]
    have := aLw_le (l := l) he (Nat.le_refl _)
    omega
  · cases h
/-- a node: place, locals, stack, slots, references, rank -/
abbrev aNd : Type := Nat × List (Nat × aAg) × List aAg × List ((Nat × Nat) × aI) × aU × (Int × List (Nat × Int))
def aOne (A : aI) : Bool := match A with
  | [p] => ieq p.1 p.2.1
  | _ => false
def aFst (A : aI) : Int := match A with
  | p :: _ => p.1
  | [] => 0
theorem aOne_in {A : aI} {x : Int} (h : aOne A = true) (hx : aIn x A) : x = aFst A := by
  unfold aOne at h
  split at h
  · next p =>
    obtain ⟨a, b, c⟩ := p
    have h := ieq_iff.mp h
    dsimp only at h
    subst h
    exact aIn_eq hx
  · cases h
/-- a pattern as a value, the next name being n; is it a name -/
def aPv (n : Nat) (p : aAg) : aV := match p with
  | .inl A => if aOne A then .inl (.inl (aFst A)) else .inl (.inr (n, 0))
  | .inr q => .inr q
def aPn (p : aAg) : Bool := match p with
  | .inl A => !(aOne A)
  | .inr _ => false
def aPr (p : aAg) : List aI := match p with
  | .inl A => if aOne A then [] else [A]
  | .inr _ => []
def aVal (v : zV) : Int := match v with
  | .inl x => x.toInt
  | _ => 0
def aPx (v : zV) (p : aAg) : List Int := if aPn p then [aVal v] else []
/-- the numbers that the names of a node stand for -/
def aNx (nd : aNd) (g : zC) : List Int :=
  nd.2.1.flatMap (fun q => aPx ((zget g.2.1 q.1).getD (.inl 0)) q.2) ++ ((g.2.2.1.zip nd.2.2.1).flatMap (fun q => aPx q.1 q.2) ++ nd.2.2.2.1.flatMap (fun q => aPx (.inl (g.2.2.2.2.1 q.1.1 q.1.2)) (.inl q.2)))
def aNr (nd : aNd) : List aI := nd.2.1.flatMap (fun q => aPr q.2) ++ (nd.2.2.1.flatMap aPr ++ nd.2.2.2.1.flatMap (fun q => aPr (.inl q.2)))
def aPvs : Nat → List aAg → List aV
  | _, [] => []
  | n, p :: t => aPv n p :: aPvs (n + (aPr p).length) t
def aPvl : Nat → List (Nat × aAg) → aL
  | _, [] => []
  | n, q :: t => (q.1, aPv n q.2) :: aPvl (n + (aPr q.2).length) t
def aPvt : Nat → List ((Nat × Nat) × aI) → aT
  | _, [] => []
  | n, q :: t => (q.1, match aPv n (.inl q.2) with
    | .inl e => e
    | _ => .inl 0) :: aPvt (n + (aPr (.inl q.2)).length) t
def aNs (nd : aNd) : aS :=
  (nd.1, aPvl 0 nd.2.1, aPvs (nd.2.1.flatMap (fun q => aPr q.2)).length nd.2.2.1, aNr nd, aPvt ((nd.2.1.flatMap (fun q => aPr q.2)).length + (nd.2.2.1.flatMap aPr).length) nd.2.2.2.1, nd.2.2.2.2.1)
/-- a node holds -/
def aNH (w : aWd) (md rm : aMd) (h0 : zH) (nd : aNd) (g : zC) : Prop :=
  nd.1 = g.1 ∧ (∀ q ∈ nd.2.1, ∃ v, zget g.2.1 q.1 = some v ∧ aAgR v q.2) ∧ aArgs g.2.2.1 nd.2.2.1 ∧ aPre g.2.2.2 (nd.2.2.2.1, nd.2.2.2.2.1) ∧ hOK w g.2.2.2 ∧ hFr md rm h0 g.2.2.2
def aGd (X : List Int) (i : Nat) : Int := X.getD i 0
section A14
variable {X Y : List Int} {n : Nat}
/-- numbers beside ranges -/
def aPw : List Int → List aI → Prop
  | [], [] => True
  | x :: xs, A :: As => aIn x A ∧ aPw xs As
  | _, _ => False
theorem aPw_len : ∀ {xs : List Int} {As : List aI}, aPw xs As → xs.length = As.length
  | [], [], _ => rfl
  | x :: xs, A :: As, h => by simp [aPw_len h.2]
  | [], _ :: _, h => h.elim
  | _ :: _, [], h => h.elim
theorem aPw_app : ∀ {xs ys : List Int} {As Bs : List aI}, aPw xs As → aPw ys Bs → aPw (xs ++ ys) (As ++ Bs)
  | [], ys, [], Bs, _, h => h
  | x :: xs, ys, A :: As, Bs, h1, h2 => ⟨h1.1, aPw_app h1.2 h2⟩
  | [], _, _ :: _, _, h, _ => h.elim
  | _ :: _, _, [], _, h, _ => h.elim
theorem aPw_env : ∀ {xs : List Int} {As : List aI}, aPw xs As → aEnv As (aGd xs)
  | [], [], _, i, B, h => by cases h
  | x :: xs, A :: As, h, i, B, hB => by
    cases i with
    | zero => cases hB; exact h.1
    | succ i => exact aPw_env h.2 i B (by simpa using hB)
  | [], _ :: _, h, _, _, _ => h.elim
  | _ :: _, [], h, _, _, _ => h.elim
theorem aPx_pw {v : zV} {p : aAg} (h : aAgR v p) : aPw (aPx v p) (aPr p) ∧ (aPx v p).length = (aPr p).length := by
  match p, h with
  | .inl A, ⟨x, e1, e2⟩ =>
    subst e1
    by_cases hA : aOne A = true
    · simp [aPx, aPn, aPr, hA, aPw]
    · have hA : aOne A = false := Bool.eq_false_iff.mpr hA
      simp [aPx, aPn, aPr, hA, aPw, aVal]
      exact e2
  | .inr q, _ => simp [aPx, aPn, aPr, aPw]
/-- a value beside its pattern, the names counted from n, X all numbers -/
theorem aPv_in {v : zV} {p : aAg} {N : Nat} (h : aAgR v p) (hX : ∀ j : Nat, j < (aPx v p).length → X[n + j]? = (aPx v p)[j]?) (hN : n + (aPr p).length ≤ N) : aVR N (aGd X) v (aPv n p) := by
  match p, h with
  | .inl A, ⟨x, e1, e2⟩ =>
    subst e1
    unfold aPv
    dsimp only
    cases hA : aOne A with
    | true => exact ⟨x, rfl, aOne_in hA e2⟩
    | false =>
      have e3 : aPx (.inl x) (.inl A) = [x.toInt] := by simp [aPx, aPn, hA, aVal]
      have e4 : aPr (.inl A) = [A] := by simp [aPr, hA]
      rw [e4] at hN
      rw [e3] at hX
      have := hX 0 (by simp)
      simp only [List.length_cons, List.length_nil] at hN
      refine ⟨x, rfl, by omega, ?_⟩
      simp only [Nat.add_zero] at this
      unfold aGd
      rw [List.getD_eq_getElem?_getD, this]
      simp
  | .inr (.inl as), h => exact h
  | .inr (.inr u), h => exact h
theorem sub_at {A B C : List Int} {j : Nat} (hX : X = A ++ (B ++ C)) (hj : j < B.length) : X[A.length + j]? = B[j]? := by
  rw [hX, List.getElem?_append_right (by omega), List.getElem?_append_left (by omega)]
  congr 1
  omega
theorem aPvl_in {lc : zL} {N : Nat} : ∀ {l : List (Nat × aAg)} {A C : List Int}, (∀ q ∈ l, ∃ v, zget lc q.1 = some v ∧ aAgR v q.2) → X = A ++ (l.flatMap (fun q => aPx ((zget lc q.1).getD (.inl 0)) q.2) ++ C) → A.length + (l.flatMap (fun q => aPr q.2)).length ≤ N →
    (∀ q ∈ aPvl A.length l, ∃ v, zget lc q.1 = some v ∧ aVR N (aGd X) v q.2) ∧ aPw (l.flatMap (fun q => aPx ((zget lc q.1).getD (.inl 0)) q.2)) (l.flatMap (fun q => aPr q.2))
  | [], A, C, _, _, _ => ⟨fun q hq => (by cases hq), trivial⟩
  | q :: t, A, C, h, hX, hN => by
    obtain ⟨v, e1, e2⟩ := h q List.mem_cons_self
    have e3 : (zget lc q.1).getD (.inl 0) = v := by rw [e1]; rfl
    obtain ⟨p1, p2⟩ := aPx_pw e2
    rw [List.flatMap_cons, e3, List.append_assoc] at hX
    rw [List.flatMap_cons, List.length_append] at hN
    have hl : (A ++ aPx v q.2).length = A.length + (aPr q.2).length := by rw [List.length_append, p2]
    obtain ⟨i1, i2⟩ := aPvl_in (N := N) (l := t) (A := A ++ aPx v q.2) (C := C) (fun p hp => h p (List.mem_cons_of_mem _ hp)) (by rw [hX, List.append_assoc]) (by rw [hl]; omega)
    rw [hl] at i1
    refine ⟨fun p hp => ?_, ?_⟩
    · rcases List.mem_cons.mp hp with rfl | hp
      · exact ⟨v, e1, aPv_in e2 (fun j hj => sub_at hX hj) (by omega)⟩
      · exact i1 p hp
    · rw [List.flatMap_cons, List.flatMap_cons, e3]
      exact aPw_app p1 i2
theorem aPvs_in {N : Nat} : ∀ {vs : List zV} {ps : List aAg} {A C : List Int}, aArgs vs ps → X = A ++ ((vs.zip ps).flatMap (fun q => aPx q.1 q.2) ++ C) → A.length + (ps.flatMap aPr).length ≤ N →
    aSt N (aGd X) vs (aPvs A.length ps) ∧ aPw ((vs.zip ps).flatMap (fun q => aPx q.1 q.2)) (ps.flatMap aPr)
  | [], [], A, C, _, _, _ => ⟨trivial, trivial⟩
  | v :: vs, p :: ps, A, C, h, hX, hN => by
    obtain ⟨p1, p2⟩ := aPx_pw h.1
    rw [List.zip_cons_cons, List.flatMap_cons, List.append_assoc] at hX
    rw [List.flatMap_cons, List.length_append] at hN
    have hl : (A ++ aPx v p).length = A.length + (aPr p).length := by rw [List.length_append, p2]
    obtain ⟨i1, i2⟩ := aPvs_in (N := N) (vs := vs) (ps := ps) (A := A ++ aPx v p) (C := C) h.2 (by rw [hX, List.append_assoc]) (by rw [hl]; omega)
    rw [hl] at i1
    refine ⟨⟨aPv_in h.1 (fun j hj => sub_at hX hj) (by omega), i1⟩, ?_⟩
    rw [List.zip_cons_cons, List.flatMap_cons, List.flatMap_cons]
    exact aPw_app p1 i2
  | [], _ :: _, _, _, h, _, _ => h.elim
  | _ :: _, [], _, _, h, _, _ => h.elim
theorem aPvt_in {h : zH} {N : Nat} : ∀ {l : List ((Nat × Nat) × aI)} {A C : List Int}, (∀ q ∈ l, aIn (h.2.1 q.1.1 q.1.2).toInt q.2) → X = A ++ (l.flatMap (fun q => aPx (.inl (h.2.1 q.1.1 q.1.2)) (.inl q.2)) ++ C) → A.length + (l.flatMap (fun q => aPr (.inl q.2))).length ≤ N →
    (∀ q ∈ aPvt A.length l, aEq N (aGd X) (h.2.1 q.1.1 q.1.2).toInt q.2) ∧ aPw (l.flatMap (fun q => aPx (.inl (h.2.1 q.1.1 q.1.2)) (.inl q.2))) (l.flatMap (fun q => aPr (.inl q.2)))
  | [], A, C, _, _, _ => ⟨fun q hq => (by cases hq), trivial⟩
  | q :: t, A, C, hh, hX, hN => by
    have e2 : aAgR (.inl (h.2.1 q.1.1 q.1.2)) (.inl q.2) := ⟨_, rfl, hh q List.mem_cons_self⟩
    obtain ⟨p1, p2⟩ := aPx_pw e2
    rw [List.flatMap_cons, List.append_assoc] at hX
    rw [List.flatMap_cons, List.length_append] at hN
    have hl : (A ++ aPx (.inl (h.2.1 q.1.1 q.1.2)) (.inl q.2)).length = A.length + (aPr (.inl q.2)).length := by rw [List.length_append, p2]
    obtain ⟨i1, i2⟩ := aPvt_in (N := N) (l := t) (A := A ++ aPx (.inl (h.2.1 q.1.1 q.1.2)) (.inl q.2)) (C := C) (fun p hp => hh p (List.mem_cons_of_mem _ hp)) (by rw [hX, List.append_assoc]) (by rw [hl]; omega)
    rw [hl] at i1
    refine ⟨fun p hp => ?_, ?_⟩
    · rcases List.mem_cons.mp hp with rfl | hp
      · have := aPv_in (N := N) (n := A.length) (X := X) e2 (fun j hj => sub_at hX hj) (by omega)
        cases hv : aPv A.length (.inl q.2) with
        | inl e =>
          rw [hv] at this
          obtain ⟨x, z1, z2⟩ := this
          cases z1
          exact z2
        | inr e =>
          exfalso
          unfold aPv at hv
          dsimp only at hv
          split at hv <;> cases hv
      · exact i1 p hp
    · rw [List.flatMap_cons, List.flatMap_cons]
      exact aPw_app p1 i2
end A14
