/-! STATES OF RANGES: numbers by names (n named, σ what they are), what is known of slots -/
abbrev aE : Type := Int ⊕ (Nat × Int)
abbrev aV : Type := aE ⊕ (List Nat ⊕ Bool)
abbrev aT : Type := List ((Nat × Nat) × aE)
abbrev aU : Type := List ((Nat × Nat) × Nat)
abbrev aL : Type := List (Nat × aV)
/-- place, locals, stack, ranges of the names, slots that are known: ints, references -/
abbrev aS : Type := Nat × aL × List aV × List aI × aT × aU
/-- an implication between slots -/
abbrev aM : Type := List ((Nat × Nat) × aI) × ((Nat × Nat) × aI)
/-- a world: shapes, ranges of the slots of a cell by ends, references that stand, implications -/
abbrev aWd : Type := (Nat → Option (Nat × Nat)) × (Nat → List (Nat × aI)) × (Nat → Nat → Option Nat) × List aM
abbrev aMd : Type := List (Nat × Nat × Nat)
def aEq (n : Nat) (σ : Nat → Int) (x : Int) (e : aE) : Prop := match e with
  | .inl c => x = c
  | .inr (i, o) => i < n ∧ x = σ i + o
def aVR (n : Nat) (σ : Nat → Int) (v : zV) (a : aV) : Prop := match a with
  | .inl e => ∃ x : Int32, v = .inl x ∧ aEq n σ x.toInt e
  | .inr (.inl as) => ∃ q ∈ as, v = .inr (.inr (some q))
  | .inr (.inr b) => ∃ x : Int64, v = .inr (.inl x) ∧ (b = true → x ≠ 0)
def aSt (n : Nat) (σ : Nat → Int) : List zV → List aV → Prop
  | [], [] => True
  | v :: vs, a :: as => aVR n σ v a ∧ aSt n σ vs as
  | _, _ => False
def gSeg : List (Nat × aI) → Nat → aI
  | [], _ => aTop
  | p :: t, k => if Nat.blt k p.1 then p.2 else gSeg t k
def aImp (h : zH) (i : aM) : Prop := (∀ c ∈ i.1, aIn (h.2.1 c.1.1 c.1.2).toInt c.2) → aIn (h.2.1 i.2.1.1 i.2.1.2).toInt i.2.2
def hOK (w : aWd) (h : zH) : Prop := (∀ a q, w.1 a = some q → zsh h a = some q) ∧ (∀ a k, aIn (h.2.1 a k).toInt (gSeg (w.2.1 a) k)) ∧ (∀ a k b, w.2.2.1 a k = some b → h.2.2.2.1 a k = some b) ∧ (∀ i ∈ w.2.2.2, aImp h i) ∧ h.1.1 ≤ 900000
def inM (md : aMd) (a k : Nat) : Bool := md.any (fun q => Nat.beq q.1 a && (Nat.ble q.2.1 k && Nat.blt k q.2.2))
/-- the model's 'end' never falls; where it doesn't grow, its token is the old one or 0 -/
def hMn (h0 h : zH) : Prop := (h0.2.1 196 5).toInt ≤ (h.2.1 196 5).toInt ∧ ((h0.2.1 196 5).toInt < (h.2.1 196 5).toInt ∨ h.2.1 196 6 = 0 ∨ h.2.1 196 6 = h0.2.1 196 6)
theorem hMn.rf {h : zH} : hMn h h := ⟨Int.le_refl _, .inr (.inr rfl)⟩
theorem hMn.eq {h0 h : zH} (h5 : h.2.1 196 5 = h0.2.1 196 5) (h6 : h.2.1 196 6 = h0.2.1 196 6) : hMn h0 h := ⟨by rw [h5]; exact Int.le_refl _, .inr (.inr h6)⟩
theorem hMn.tr {h0 h h' : zH} (h1 : hMn h0 h) (h2 : hMn h h') : hMn h0 h' := by
  obtain ⟨a, b⟩ := h1
  obtain ⟨c, d⟩ := h2
  refine ⟨by omega, ?_⟩
  rcases d with d | d | d
  · exact .inl (by omega)
  · exact .inr (.inl d)
  · rcases b with b | b | b
    · exact .inl (by omega)
    · exact .inr (.inl (d.trans b))
    · exact .inr (.inr (d.trans b))
/-- a mark among what may change: hMn -/
def aMono (md : aMd) : Bool := md.any (fun q => Nat.beq q.1 1000002)
def hFr (md rm : aMd) (h0 h : zH) : Prop := h.1 = h0.1 ∧ h.2.2.2.2 = h0.2.2.2.2 ∧ (∀ a k, inM md a k = false → h.2.1 a k = h0.2.1 a k) ∧ (∀ a k, inM rm a k = false → h.2.2.2.1 a k = h0.2.2.2.1 a k) ∧ (aMono md = true → hMn h0 h)
/-- sums of names that are known (ranks, arguments) -/
abbrev aLf : Type := List (Int × List (Nat × Int))
def aLv (σ : Nat → Int) : List (Nat × Int) → Int
  | [] => 0
  | q :: t => q.2 * σ q.1 + aLv σ t
def aLq (n : Nat) (σ : Nat → Int) : aLf → List Int → Prop
  | [], [] => True
  | f :: fs, r :: rs => ((∀ q ∈ f.2, q.1 < n) ∧ f.1 + aLv σ f.2 = r) ∧ aLq n σ fs rs
  | _, _ => False
def aEnv (ρ : List aI) (σ : Nat → Int) : Prop := ∀ i B, ρ[i]? = some B → aIn (σ i) B
/-- what a state of ranges says, but for place and stack -/
def aC (w : aWd) (md rm : aMd) (h0 : zH) (f : aLf) (r : List Int) (σ : Nat → Int) (ls : aL) (ρ : List aI) (tr : aT) (rr : aU) (lc : zL) (h : zH) : Prop :=
  aEnv ρ σ ∧ (∀ q ∈ ls, ∃ v, zget lc q.1 = some v ∧ aVR ρ.length σ v q.2) ∧ (∀ q ∈ tr, aEq ρ.length σ (h.2.1 q.1.1 q.1.2).toInt q.2) ∧ (∀ q ∈ rr, h.2.2.2.1 q.1.1 q.1.2 = some q.2) ∧ hOK w h ∧ hFr md rm h0 h ∧ aLq ρ.length σ f r
def aG (w : aWd) (md rm : aMd) (h0 : zH) (f : aLf) (r : List Int) (σ : Nat → Int) (A : aS) (g : zC) : Prop :=
  A.1 = g.1 ∧ aC w md rm h0 f r σ A.2.1 A.2.2.2.1 A.2.2.2.2.1 A.2.2.2.2.2 g.2.1 g.2.2.2 ∧ aSt A.2.2.2.1.length σ g.2.2.1 A.2.2.1
section A4
variable {n n' : Nat} {σ σ' : Nat → Int} {w : aWd} {md rm : aMd} {h0 h : zH} {f : aLf} {r : List Int} {ls : aL} {ρ ρ' : List aI} {tr : aT} {rr : aU} {lc : zL}
/-- more names -/
def aX (n n' : Nat) (σ σ' : Nat → Int) : Prop := n ≤ n' ∧ ∀ i, i < n → σ' i = σ i
theorem aX.rf : aX n n σ σ := ⟨Nat.le_refl _, fun _ _ => rfl⟩
theorem aEq.x {x : Int} {e : aE} (h : aEq n σ x e) (hx : aX n n' σ σ') : aEq n' σ' x e := by
  match e, h with
  | .inl c, h => exact h
  | .inr (i, o), h => exact ⟨Nat.lt_of_lt_of_le h.1 hx.1, by rw [hx.2 i h.1]; exact h.2⟩
theorem aVR.x {v : zV} {a : aV} (h : aVR n σ v a) (hx : aX n n' σ σ') : aVR n' σ' v a := by
  match a, h with
  | .inl e, ⟨x, h1, h2⟩ => exact ⟨x, h1, h2.x hx⟩
  | .inr (.inl as), h => exact h
  | .inr (.inr _), h => exact h
theorem aSt.x : ∀ {vs : List zV} {as : List aV}, aSt n σ vs as → aX n n' σ σ' → aSt n' σ' vs as
  | [], [], _, _ => trivial
  | v :: vs, a :: as, h, hx => ⟨h.1.x hx, aSt.x h.2 hx⟩
  | [], _ :: _, h, _ => h.elim
  | _ :: _, [], h, _ => h.elim
theorem aLv_x {l : List (Nat × Int)} (hl : ∀ q ∈ l, q.1 < n) (hx : aX n n' σ σ') : aLv σ' l = aLv σ l := by
  induction l with
  | nil => rfl
  | cons q t ih =>
    show q.2 * σ' q.1 + aLv σ' t = q.2 * σ q.1 + aLv σ t
    rw [hx.2 q.1 (hl q List.mem_cons_self), ih (fun p hp => hl p (List.mem_cons_of_mem _ hp))]
theorem aLq.x : ∀ {f : aLf} {r : List Int}, aLq n σ f r → aX n n' σ σ' → aLq n' σ' f r
  | [], [], _, _ => trivial
  | f :: fs, r :: rs, h, hx => ⟨⟨fun q hq => Nat.lt_of_lt_of_le (h.1.1 q hq) hx.1, by rw [aLv_x h.1.1 hx]; exact h.1.2⟩, aLq.x h.2 hx⟩
  | [], _ :: _, h, _ => h.elim
  | _ :: _, [], h, _ => h.elim
theorem aC.x (hc : aC w md rm h0 f r σ ls ρ tr rr lc h) (hx : aX ρ.length ρ'.length σ σ') (he : aEnv ρ' σ') : aC w md rm h0 f r σ' ls ρ' tr rr lc h := by
  obtain ⟨h1, h2, h3, h4, h5, h6, h7⟩ := hc
  exact ⟨he, fun q hq => by obtain ⟨v, a, b⟩ := h2 q hq; exact ⟨v, a, b.x hx⟩, fun q hq => (h3 q hq).x hx, h4, h5, h6, h7.x hx⟩
/-- the range of an expression -/
def aset (ρ : List aI) (e : aE) : aI := match e with
  | .inl c => [(c, c, 0)]
  | .inr (i, o) => match ρ[i]? with
    | some B => if ieq o 0 then B else aSh B o
    | none => aTop
theorem aset_in {x : Int} {e : aE} (he : aEnv ρ σ) (h : aEq ρ.length σ x e) : aIn x (aset ρ e) := by
  match e, h with
  | .inl c, h =>
    have h : x = c := h
    subst h
    exact aIn_one
  | .inr (i, o), h =>
    obtain ⟨h1, h2⟩ := h
    obtain ⟨B, hB⟩ : ∃ B, ρ[i]? = some B := ⟨_, List.getElem?_eq_getElem h1⟩
    simp only [aset, hB]
    have := he i B hB
    split
    · next q => rw [h2, ieq_iff.mp q, Int.add_zero]; exact this
    · rw [h2]; exact aSh_in this
/-- a new name for a number of this range (none where the range is one number) -/
def aNew (ρ : List aI) (B : aI) : aE × List aI := match B with
  | [p] => if ieq p.1 p.2.1 then (.inl p.1, ρ) else (.inr (ρ.length, 0), ρ ++ [B])
  | _ => (.inr (ρ.length, 0), ρ ++ [B])
theorem aNew_i {x : Int} {B : aI} (he : aEnv ρ σ) (hx : aIn x B) : ∃ σ', aX ρ.length (ρ ++ [B]).length σ σ' ∧ aEnv (ρ ++ [B]) σ' ∧ aEq (ρ ++ [B]).length σ' x (.inr (ρ.length, 0)) := by
  refine ⟨fun i => if i = ρ.length then x else σ i, ⟨by simp, fun i hi => by dsimp only; rw [if_neg (by omega)]⟩, ?_, ?_⟩
  · intro i C hC
    by_cases e : i = ρ.length
    · subst e
      rw [List.getElem?_append_right (Nat.le_refl _)] at hC
      simp at hC
      subst hC
      simpa using hx
    · have hl : i < ρ.length := by
        have := (List.getElem?_eq_some_iff.mp hC).1
        simp at this
        omega
      rw [List.getElem?_append_left hl] at hC
      dsimp only
      rw [if_neg e]
      exact he i C hC
  · refine ⟨by simp, ?_⟩
    simp
theorem aNew_in {x : Int} {B : aI} {q : aE × List aI} (hq : aNew ρ B = q) (he : aEnv ρ σ) (hx : aIn x B) : ∃ σ', aX ρ.length q.2.length σ σ' ∧ aEnv q.2 σ' ∧ aEq q.2.length σ' x q.1 := by
  subst hq
  unfold aNew
  split
  · next p =>
    split
    · next e =>
      have e := ieq_iff.mp e
      refine ⟨σ, aX.rf, he, ?_⟩
      obtain ⟨a, b, c⟩ := p
      dsimp only at e ⊢
      subst e
      exact aIn_eq hx
    · exact aNew_i he hx
  · exact aNew_i he hx
/-- a name's range made narrower -/
theorem aC.nar {i : Nat} {B : aI} (hc : aC w md rm h0 f r σ ls ρ tr rr lc h) (hB : aIn (σ i) B) : aC w md rm h0 f r σ ls (ρ.set i B) tr rr lc h := by
  have hl : (ρ.set i B).length = ρ.length := List.length_set ..
  obtain ⟨h1, h2, h3, h4, h5, h6, h7⟩ := hc
  refine ⟨?_, by rw [hl]; exact h2, by rw [hl]; exact h3, h4, h5, h6, by rw [hl]; exact h7⟩
  intro j C hC
  by_cases e : i = j
  · subst e
    rw [List.getElem?_set] at hC
    simp only [if_true] at hC
    split at hC
    · cases hC; exact hB
    · cases hC
  · rw [List.getElem?_set_ne e] at hC
    exact h1 j C hC
/-- narrower by a condition -/
def aNarr (ρ : List aI) (e : aE) (cd : ClassFile.Cond) (lo hi : Int) : List aI := match e with
  | .inl _ => ρ
  | .inr (i, o) => match ρ[i]? with
    | some B => ρ.set i (aRef cd B (lo - o) (hi - o))
    | none => ρ
theorem aNarr_len {e : aE} {cd : ClassFile.Cond} {lo hi : Int} : (aNarr ρ e cd lo hi).length = ρ.length := by
  unfold aNarr
  split
  · rfl
  · split
    · exact List.length_set ..
    · rfl
theorem aC.narr {e : aE} {cd : ClassFile.Cond} {x y : Int32} {lo hi : Int} (hc : aC w md rm h0 f r σ ls ρ tr rr lc h) (he : aEq ρ.length σ x.toInt e) (h1 : lo ≤ y.toInt) (h2 : y.toInt ≤ hi) (hz : zcond cd x y = true) : aC w md rm h0 f r σ ls (aNarr ρ e cd lo hi) tr rr lc h := by
  unfold aNarr
  split
  · exact hc
  · next i o =>
    split
    · next B hB => exact hc.nar (aRef_in (hc.1 i B hB) he.2 h1 h2 hz)
    · exact hc
/-- nobody is here: a name without a number -/
def aDead (ρ : List aI) : Bool := ρ.any (fun B => B.isEmpty)
theorem aDead_no (he : aEnv ρ σ) (hd : aDead ρ = true) : False := by
  obtain ⟨B, hB, h1⟩ := List.any_eq_true.mp hd
  obtain ⟨i, hi⟩ := List.getElem?_of_mem hB
  have h2 := he i B hi
  have h1 : B = [] := List.isEmpty_iff.mp h1
  rw [h1] at h2
  exact aIn_no h2
end A4
