/-! steps that touch no heap -/
def aOK (w : aWd) (md rm : aMd) (h0 : zH) (f : aLf) (r : List Int) (scr : Option (Nat × (Nat → Int32))) (d : Nat) (m : zM) (Q : Option zV → zH → Prop) (B : aS) : Prop := ∀ σ g, aG w md rm h0 f r σ B g → zEx scr d m g Q
section A5
variable {n : Nat} {σ : Nat → Int} {w : aWd} {md rm : aMd} {h0 h : zH} {f : aLf} {r : List Int} {ls : aL} {ρ : List aI} {tr : aT} {rr : aU} {lc : zL}
variable {scr : Option (Nat × (Nat → Int32))} {d : Nat} {m : zM} {Q : Option zV → zH → Prop} {pc len : Nat} {st : List aV} {i : Instr}
theorem zget_f {P : Nat × zV → Bool} : ∀ {l : zL} {j : Nat} {v : zV}, zget l j = some v → P (j, v) = true → zget (l.filter P) j = some v
  | [], j, v, h, _ => by cases h
  | q :: t, j, v, h, hp => by
    unfold zget at h
    split at h
    · next e =>
      cases h
      have : q = (j, q.2) := by rw [← e]
      rw [List.filter_cons, if_pos (by rw [this]; exact hp)]
      unfold zget
      rw [if_pos e]
    · next e =>
      rw [List.filter_cons]
      split
      · unfold zget
        rw [if_neg e]
        exact zget_f h hp
      · exact zget_f h hp
theorem zget_s1 {l : zL} {k j : Nat} {v v' : zV} (h : zget l j = some v') (hj : j ≠ k) (hc : ¬ (j + 1 = k ∧ zcat v' = 2)) : zget (zset1 l k v) j = some v' := by
  unfold zset1 zget
  rw [if_neg (Ne.symm hj)]
  refine zget_f h ?_
  have e1 : (j == k) = false := by simpa using hj
  simp only [e1, Bool.not_false, Bool.true_and]
  by_cases q : j + 1 = k
  · have : zcat v' ≠ 2 := fun e => hc ⟨q, e⟩
    simp [this]
  · simp [q]
theorem zget_s1e {l : zL} {k : Nat} {v : zV} : zget (zset1 l k v) k = some v := by
  unfold zset1 zget
  rw [if_pos rfl]
theorem zget_s2 {l : zL} {k j : Nat} {v v' : zV} (h : zget l j = some v') (hj : j ≠ k) (hj2 : j ≠ k + 1) (hc : ¬ (j + 1 = k ∧ zcat v' = 2)) : zget (zset2 l k v) j = some v' := by
  unfold zset2 zget
  rw [if_neg (Ne.symm hj)]
  refine zget_f h ?_
  have e1 : (j == k) = false := by simpa using hj
  have e2 : (j == k + 1) = false := by simpa using hj2
  simp only [e1, e2, Bool.not_false, Bool.true_and]
  by_cases q : j + 1 = k
  · have : zcat v' ≠ 2 := fun e => hc ⟨q, e⟩
    simp [this]
  · simp [q]
theorem zget_s2e {l : zL} {k : Nat} {v : zV} : zget (zset2 l k v) k = some v := by
  unfold zset2 zget
  rw [if_pos rfl]
theorem nbeq_f {a b : Nat} (h : Nat.beq a b = false) : a ≠ b := fun e => by rw [e] at h; simp at h
def aIsL (a : aV) : Bool := match a with
  | .inr (.inr _) => true
  | _ => false
theorem aVR_cat {v : zV} {a : aV} (h : aVR n σ v a) : zcat v = if aIsL a then 2 else 1 := by
  match a, h with
  | .inl e, ⟨x, h1, _⟩ => rw [h1]; rfl
  | .inr (.inl as), ⟨q, _, h1⟩ => rw [h1]; rfl
  | .inr (.inr _), ⟨x, h1, _⟩ => rw [h1]; rfl
def aGet : aL → Nat → Option aV
  | [], _ => none
  | q :: t, i => if Nat.beq q.1 i then some q.2 else aGet t i
theorem aGet_mem : ∀ {ls : aL} {i : Nat} {a : aV}, aGet ls i = some a → (i, a) ∈ ls
  | [], i, a, h => by cases h
  | q :: t, i, a, h => by
    unfold aGet at h
    split at h
    · next e =>
      cases h
      have e : q.1 = i := by simpa using e
      rw [← e]
      exact List.mem_cons_self
    · exact List.mem_cons_of_mem _ (aGet_mem h)
def aSet1 (ls : aL) (i : Nat) (a : aV) : aL := (i, a) :: ls.filter (fun q => !(Nat.beq q.1 i) && !(Nat.beq (q.1 + 1) i && aIsL q.2))
def aSet2 (ls : aL) (i : Nat) (a : aV) : aL := (i, a) :: ls.filter (fun q => !(Nat.beq q.1 i) && (!(Nat.beq q.1 (i + 1)) && !(Nat.beq (q.1 + 1) i && aIsL q.2)))
theorem aC.set1 {k : Nat} {v : zV} {a : aV} (hc : aC w md rm h0 f r σ ls ρ tr rr lc h) (hv : aVR ρ.length σ v a) : aC w md rm h0 f r σ (aSet1 ls k a) ρ tr rr (zset1 lc k v) h := by
  obtain ⟨h1, h2, h3⟩ := hc
  refine ⟨h1, fun q hq => ?_, h3⟩
  rcases List.mem_cons.mp hq with rfl | hq
  · exact ⟨v, zget_s1e, hv⟩
  · obtain ⟨hm, hp⟩ := List.mem_filter.mp hq
    obtain ⟨v', g1, g2⟩ := h2 q hm
    simp only [Bool.and_eq_true, Bool.not_eq_true', Bool.and_eq_false_iff] at hp
    refine ⟨v', zget_s1 g1 (nbeq_f hp.1) (fun e => ?_), g2⟩
    have hcat := aVR_cat g2
    rw [e.2] at hcat
    rcases hp.2 with p | p
    · exact nbeq_f p e.1
    · rw [p] at hcat; simp at hcat
theorem aC.set2 {k : Nat} {v : zV} {a : aV} (hc : aC w md rm h0 f r σ ls ρ tr rr lc h) (hv : aVR ρ.length σ v a) : aC w md rm h0 f r σ (aSet2 ls k a) ρ tr rr (zset2 lc k v) h := by
  obtain ⟨h1, h2, h3⟩ := hc
  refine ⟨h1, fun q hq => ?_, h3⟩
  rcases List.mem_cons.mp hq with rfl | hq
  · exact ⟨v, zget_s2e, hv⟩
  · obtain ⟨hm, hp⟩ := List.mem_filter.mp hq
    obtain ⟨v', g1, g2⟩ := h2 q hm
    simp only [Bool.and_eq_true, Bool.not_eq_true', Bool.and_eq_false_iff] at hp
    refine ⟨v', zget_s2 g1 (nbeq_f hp.1) (nbeq_f hp.2.1) (fun e => ?_), g2⟩
    have hcat := aVR_cat g2
    rw [e.2] at hcat
    rcases hp.2.2 with p | p
    · exact nbeq_f p e.1
    · rw [p] at hcat; simp at hcat
/-- a stack with something on it -/
theorem aSt_i {vs : List zV} {e : aE} {as : List aV} (hs : aSt n σ vs (.inl e :: as)) : ∃ (x : Int32) (vs' : List zV), vs = .inl x :: vs' ∧ aEq n σ x.toInt e ∧ aSt n σ vs' as := by
  match vs, hs with
  | v :: vs', ⟨⟨x, e1, e2⟩, h2⟩ => exact ⟨x, vs', by rw [e1], e2, h2⟩
theorem aSt_r {vs : List zV} {l : List Nat} {as : List aV} (hs : aSt n σ vs (.inr (.inl l) :: as)) : ∃ (q : Nat) (vs' : List zV), vs = .inr (.inr (some q)) :: vs' ∧ q ∈ l ∧ aSt n σ vs' as := by
  match vs, hs with
  | v :: vs', ⟨⟨x, e1, e2⟩, h2⟩ => exact ⟨x, vs', by rw [e2], e1, h2⟩
theorem aSt_l {vs : List zV} {u : Bool} {as : List aV} (hs : aSt n σ vs (.inr (.inr u) :: as)) : ∃ (x : Int64) (vs' : List zV), vs = .inr (.inl x) :: vs' ∧ aSt n σ vs' as ∧ (u = true → x ≠ 0) := by
  match vs, hs with
  | v :: vs', ⟨⟨x, e1, e2⟩, h2⟩ => exact ⟨x, vs', by rw [e1], h2, e2⟩
theorem aSt_c {vs : List zV} {a : aV} {as : List aV} (hs : aSt n σ vs (a :: as)) : ∃ (v : zV) (vs' : List zV), vs = v :: vs' ∧ aVR n σ v a ∧ aSt n σ vs' as := by
  match vs, hs with
  | v :: vs', h2 => exact ⟨v, vs', rfl, h2.1, h2.2⟩
theorem aSt_0 {vs : List zV} (hs : aSt n σ vs []) : vs = [] := by
  match vs, hs with
  | [], _ => rfl
def aFt (n : Int) : Bool := ile (-2147483648) n && ile n 2147483647
theorem ofInt_ft {n : Int} (h : aFt n = true) : (Int32.ofInt n).toInt = n := by
  simp only [aFt, Bool.and_eq_true, ile_iff] at h
  rw [Int32.toInt_ofInt]
  exact bmod_fit h.1 h.2
theorem ofInt8_ft {n : Int} (h1 : -128 ≤ n) (h2 : n ≤ 127) : ((Int8.ofInt n).toInt32).toInt = n := by
  have e : Int8.size = 256 := rfl
  rw [Int8.toInt_toInt32, Int8.toInt_ofInt, e, Int.bmod_eq_of_le] <;> omega
theorem ofInt16_ft {n : Int} (h1 : -32768 ≤ n) (h2 : n ≤ 32767) : ((Int16.ofInt n).toInt32).toInt = n := by
  have e : Int16.size = 65536 := rfl
  rw [Int16.toInt_toInt32, Int16.toInt_ofInt, e, Int.bmod_eq_of_le] <;> omega
/-- an expression and a number more -/
def aPlus (ρ : List aI) (e : aE) (k : Int) : Option aE := match e with
  | .inl c => if aFt (c + k) then some (.inl (c + k)) else none
  | .inr (i, o) => if aFit (aSh (aset ρ (.inr (i, o))) k) then some (.inr (i, o + k)) else none
theorem aPlus_in {e e' : aE} {k : Int} {x : Int} {v : Int32} (he : aEnv ρ σ) (hx : aEq ρ.length σ x e) (h : aPlus ρ e k = some e') (hv : v.toInt = (x + k).bmod (2 ^ 32)) : aEq ρ.length σ v.toInt e' := by
  unfold aPlus at h
  split at h
  · next c =>
    have hx : x = c := hx
    subst hx
    split at h
    · next q =>
      cases h
      simp only [aFt, Bool.and_eq_true, ile_iff] at q
      rw [bmod_fit q.1 q.2] at hv
      exact hv
    · cases h
  · next i o =>
    split at h
    · next q =>
      cases h
      have hin := aset_in he hx
      have hf := aFit_in q (aSh_in (o := k) hin)
      rw [bmod_fit hf.1 hf.2] at hv
      exact ⟨hx.1, by rw [hv, hx.2]; omega⟩
    · cases h
/-- the one number that it can be -/
def aKn (ρ : List aI) (e : aE) : Option Int := match aset ρ e with
  | [p] => if ieq p.1 p.2.1 then some p.1 else none
  | _ => none
theorem aKn_in {e : aE} {x k : Int} (he : aEnv ρ σ) (hx : aEq ρ.length σ x e) (h : aKn ρ e = some k) : x = k := by
  have hin := aset_in he hx
  unfold aKn at h
  split at h
  · next p hp =>
    split at h
    · next q =>
      cases h
      rw [hp] at hin
      obtain ⟨a, b, c⟩ := p
      have q := ieq_iff.mp q
      dsimp only at q
      subst q
      exact aIn_eq hin
    · cases h
  · cases h
/-- two ints: a name and a number, or a new name -/
def aAri (ρ : List aI) (i : Instr) (x y : aE) : Option (aE × List aI) := match aBin i (aset ρ x) (aset ρ y) with
  | none => none
  | some C => match i, aKn ρ y with
    | .iadd, some k => (match aPlus ρ x k with
      | some e => some (e, ρ)
      | none => some (aNew ρ C))
    | .isub, some k => (match aPlus ρ x (-k) with
      | some e => some (e, ρ)
      | none => some (aNew ρ C))
    | _, _ => some (aNew ρ C)
theorem aAri_in {x y : aE} {a b : Int32} {q : aE × List aI} (he : aEnv ρ σ) (hx : aEq ρ.length σ a.toInt x) (hy : aEq ρ.length σ b.toInt y) (h : aAri ρ i x y = some q) : ∃ v σ', zbin i a b = some v ∧ aX ρ.length q.2.length σ σ' ∧ aEnv q.2 σ' ∧ aEq q.2.length σ' v.toInt q.1 := by
  unfold aAri at h
  split at h
  · cases h
  · next C hC =>
    obtain ⟨v, hv, hin⟩ := aBin_in (aset_in he hx) (aset_in he hy) hC
    have hnew : ∀ {q}, some (aNew ρ C) = some q → ∃ v σ', zbin i a b = some v ∧ aX ρ.length q.2.length σ σ' ∧ aEnv q.2 σ' ∧ aEq q.2.length σ' v.toInt q.1 := by
      intro q hq
      obtain ⟨σ', s1, s2, s3⟩ := aNew_in (Option.some.inj hq) he hin
      exact ⟨v, σ', hv, s1, s2, s3⟩
    split at h
    · next k hkn =>
      have hk : b.toInt = k := aKn_in he hy hkn
      split at h
      · next e hp =>
        cases h
        exact ⟨a + b, σ, rfl, aX.rf, he, aPlus_in he hx hp (by rw [Int32.toInt_add, hk])⟩
      · exact hnew h
    · next k hkn =>
      have hk : b.toInt = k := aKn_in he hy hkn
      split at h
      · next e hp =>
        cases h
        exact ⟨a - b, σ, rfl, aX.rf, he, aPlus_in he hx hp (by rw [Int32.toInt_sub, hk]; congr 1)⟩
      · exact hnew h
    · exact hnew h
end A5
