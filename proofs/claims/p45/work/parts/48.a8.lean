/-! what is known of slots: reading, writing -/
def aTrk : aT → Nat → Nat → Option aE
  | [], _, _ => none
  | q :: t, a, k => if Nat.beq q.1.1 a && Nat.beq q.1.2 k then some q.2 else aTrk t a k
theorem aTrk_mem : ∀ {t : aT} {a k : Nat} {e : aE}, aTrk t a k = some e → ((a, k), e) ∈ t
  | [], _, _, _, h => by cases h
  | q :: t, a, k, e, h => by
    unfold aTrk at h
    split at h
    · next p =>
      cases h
      simp only [Bool.and_eq_true, Nat.beq_eq] at p
      rw [← p.1, ← p.2]
      exact List.mem_cons_self
    · exact List.mem_cons_of_mem _ (aTrk_mem h)
def aTrr : aU → Nat → Nat → Option Nat
  | [], _, _ => none
  | q :: t, a, k => if Nat.beq q.1.1 a && Nat.beq q.1.2 k then some q.2 else aTrr t a k
theorem aTrr_mem : ∀ {t : aU} {a k e : Nat}, aTrr t a k = some e → ((a, k), e) ∈ t
  | [], _, _, _, h => by cases h
  | q :: t, a, k, e, h => by
    unfold aTrr at h
    split at h
    · next p =>
      cases h
      simp only [Bool.and_eq_true, Nat.beq_eq] at p
      rw [← p.1, ← p.2]
      exact List.mem_cons_self
    · exact List.mem_cons_of_mem _ (aTrr_mem h)
/-- the range of a slot -/
def aRd0 (w : aWd) (ρ : List aI) (tr : aT) (a k : Nat) : aI := match aTrk tr a k with
  | some e => aset ρ e
  | none => gSeg (w.2.1 a) k
/-- .. with the implications -/
def aRd (w : aWd) (ρ : List aI) (tr : aT) (a k : Nat) : aI := match aTrk tr a k with
  | some e => aset ρ e
  | none => match w.2.2.2.find? (fun i => Nat.beq i.2.1.1 a && (Nat.beq i.2.1.2 k && i.1.all (fun c => aLe (aRd0 w ρ tr c.1.1 c.1.2) c.2))) with
    | some i => i.2.2
    | none => gSeg (w.2.1 a) k
def aRf (w : aWd) (rr : aU) (a k : Nat) : Option Nat := match aTrr rr a k with
  | some b => some b
  | none => w.2.2.1 a k
/-- two ranges apart -/
def aDis (A B : aI) : Bool := A.all (fun p => B.all (fun q => ile (p.2.1 + 1) q.1 || ile (q.2.1 + 1) p.1))
theorem aDis_no {A B : aI} {x : Int} (h : aDis A B = true) (h1 : aIn x A) (h2 : aIn x B) : False := by
  obtain ⟨p, hp, a1, a2, -⟩ := h1
  obtain ⟨q, hq, b1, b2, -⟩ := h2
  have := List.all_eq_true.mp (List.all_eq_true.mp h p hp) q hq
  simp only [Bool.or_eq_true, ile_iff] at this
  omega
/-- ranges joined -/
def aJn (A B : aI) : aI := if aLe A B then B else A ++ B
theorem aJn_l {A B : aI} {x : Int} (h : aIn x A) : aIn x (aJn A B) := by
  unfold aJn
  split
  · next q => exact aLe_in q h
  · obtain ⟨p, hp, hx⟩ := h
    exact ⟨p, List.mem_append_left _ hp, hx⟩
theorem aJn_r {A B : aI} {x : Int} (h : aIn x B) : aIn x (aJn A B) := by
  unfold aJn
  split
  · exact h
  · obtain ⟨p, hp, hx⟩ := h
    exact ⟨p, List.mem_append_right _ hp, hx⟩
def aUni : List aI → aI
  | [] => []
  | B :: t => aJn B (aUni t)
theorem aUni_in {B : aI} {x : Int} (hx : aIn x B) : ∀ {l : List aI}, B ∈ l → aIn x (aUni l)
  | [], h => by cases h
  | C :: t, h => by
    rcases List.mem_cons.mp h with rfl | h
    · exact aJn_l hx
    · exact aJn_r (aUni_in hx h)
/-- the ranges of the slots of a cell at these places -/
def aSegs : Nat → List (Nat × aI) → aI → aI
  | _, [], _ => aTop
  | s, p :: t, I => if (aCut I s ((p.1 : Int) - 1)).isEmpty then aSegs p.1 t I else (if (aCutL I p.1).isEmpty then p.2 else aJn p.2 (aSegs p.1 t I))
theorem aSegs_in {I : aI} {k : Nat} (hk : aIn k I) {x : Int} : ∀ {l : List (Nat × aI)} {s : Nat}, s ≤ k → aIn x (gSeg l k) → aIn x (aSegs s l I)
  | [], s, _, h => h
  | p :: t, s, hs, h => by
    unfold gSeg at h
    unfold aSegs
    split at h
    · next q =>
      have q : k < p.1 := by simpa [Nat.blt_eq] using q
      have hcut : aIn k (aCut I s ((p.1 : Int) - 1)) := aCut_in hk (by omega) (by omega)
      split
      · next e =>
        rw [List.isEmpty_iff.mp e] at hcut
        exact (aIn_no hcut).elim
      · split
        · exact h
        · exact aJn_l h
    · next q =>
      have q : p.1 ≤ k := by
        have : ¬ k < p.1 := fun z => q (by simpa [Nat.blt_eq] using z)
        omega
      split
      · exact aSegs_in hk q h
      · split
        · next e =>
          have hcut : aIn k (aCutL I p.1) := aCutL_in hk (by omega)
          rw [List.isEmpty_iff.mp e] at hcut
          exact (aIn_no hcut).elim
        · exact aJn_r (aSegs_in hk q h)
/-- a value of range V may lie at any of these places -/
def aSegLe : Nat → List (Nat × aI) → aI → aI → Bool
  | _, [], _, _ => true
  | s, p :: t, I, V => ((aCut I s ((p.1 : Int) - 1)).isEmpty || aLe V p.2) && ((aCutL I p.1).isEmpty || aSegLe p.1 t I V)
theorem aSegLe_in {I V : aI} {k : Nat} (hk : aIn k I) {x : Int32} (hx : aIn x.toInt V) : ∀ {l : List (Nat × aI)} {s : Nat}, s ≤ k → aSegLe s l I V = true → aIn x.toInt (gSeg l k)
  | [], s, _, _ => aIn_top x
  | p :: t, s, hs, h => by
    unfold aSegLe at h
    simp only [Bool.and_eq_true, Bool.or_eq_true] at h
    unfold gSeg
    split
    · next q =>
      have q : k < p.1 := by simpa [Nat.blt_eq] using q
      rcases h.1 with e | e
      · have hcut : aIn k (aCut I s ((p.1 : Int) - 1)) := aCut_in hk (by omega) (by omega)
        rw [List.isEmpty_iff.mp e] at hcut
        exact (aIn_no hcut).elim
      · exact aLe_in e hx
    · next q =>
      have q : p.1 ≤ k := by
        have : ¬ k < p.1 := fun z => q (by simpa [Nat.blt_eq] using z)
        omega
      rcases h.2 with e | e
      · have hcut : aIn k (aCutL I p.1) := aCutL_in hk (by omega)
        rw [List.isEmpty_iff.mp e] at hcut
        exact (aIn_no hcut).elim
      · exact aSegLe_in hk hx q e
section A8
variable {σ : Nat → Int} {w : aWd} {md rm : aMd} {h0 h : zH} {f : aLf} {r : List Int} {ls : aL} {ρ : List aI} {tr tr' : aT} {rr : aU} {lc : zL}
theorem aRd0_h (he : aEnv ρ σ) (ht : ∀ q ∈ tr, aEq ρ.length σ (h.2.1 q.1.1 q.1.2).toInt q.2) (hg : ∀ a k, aIn (h.2.1 a k).toInt (gSeg (w.2.1 a) k)) (a k : Nat) : aIn (h.2.1 a k).toInt (aRd0 w ρ tr a k) := by
  unfold aRd0
  split
  · next e q => exact aset_in he (ht _ (aTrk_mem q))
  · exact hg a k
theorem aRd0_in (hc : aC w md rm h0 f r σ ls ρ tr rr lc h) (a k : Nat) : aIn (h.2.1 a k).toInt (aRd0 w ρ tr a k) := aRd0_h hc.1 hc.2.2.1 hc.2.2.2.2.1.2.1 a k
theorem aRd_in (hc : aC w md rm h0 f r σ ls ρ tr rr lc h) (a k : Nat) : aIn (h.2.1 a k).toInt (aRd w ρ tr a k) := by
  unfold aRd
  split
  · next e q => exact aset_in hc.1 (hc.2.2.1 _ (aTrk_mem q))
  · split
    · next i q =>
      have hm := List.mem_of_find?_eq_some q
      have hp := List.find?_some q
      simp only [Bool.and_eq_true, Nat.beq_eq] at hp
      have := hc.2.2.2.2.1.2.2.2.1 i hm (fun c hcm => aLe_in (List.all_eq_true.mp hp.2.2 c hcm) (aRd0_in hc c.1.1 c.1.2))
      rw [hp.1, hp.2.1] at this
      exact this
    · exact hc.2.2.2.2.1.2.1 a k
theorem aRf_in {a k b : Nat} (hc : aC w md rm h0 f r σ ls ρ tr rr lc h) (hb : aRf w rr a k = some b) : h.2.2.2.1 a k = some b := by
  unfold aRf at hb
  split at hb
  · next q => cases hb; exact hc.2.2.2.1 _ (aTrr_mem q)
  · exact hc.2.2.2.2.1.2.2.1 a k b hb
/-- is the slot one of those that are written -/
def aHit (as : List Nat) (lo hi : Int) (s : Nat × Nat) : Bool := as.any (fun a => Nat.beq a s.1) && (ile lo s.2 && ile s.2 hi)
theorem aHit_no {as : List Nat} {lo hi : Int} {a k : Nat} {s : Nat × Nat} (ha : a ∈ as) (h1 : lo ≤ k) (h2 : (k : Int) ≤ hi) (h : aHit as lo hi s = false) : ¬ (s.1 = a ∧ s.2 = k) := by
  intro e
  have : aHit as lo hi s = true := by
    simp only [aHit, Bool.and_eq_true, ile_iff, List.any_eq_true, Nat.beq_eq]
    exact ⟨⟨a, ha, e.1.symm⟩, by rw [e.2]; exact h1, by rw [e.2]; exact h2⟩
  rw [this] at h
  cases h
def aImpOk (w : aWd) (ρ : List aI) (tr tr' : aT) (as : List Nat) (lo hi : Int) (i : aM) : Bool :=
  (!(aHit as lo hi i.2.1) && i.1.all (fun c => !(aHit as lo hi c.1))) || (i.1.any (fun c => aDis (aRd0 w ρ tr' c.1.1 c.1.2) c.2) || (aLe (aRd0 w ρ tr' i.2.1.1 i.2.1.2) i.2.2
    || (!(aHit as lo hi i.2.1) && i.1.all (fun c => !(aHit as lo hi c.1) || aLe (aRd0 w ρ tr c.1.1 c.1.2) c.2))))
/-- what is known behind a write of e at these places of these cells -/
def aTrN (tr : aT) (as : List Nat) (I : aI) (e : aE) : aT := (match as with
    | [a] => if ieq (aHull I).1 (aHull I).2 then [((a, (aHull I).1.toNat), e)] else []
    | _ => []) ++ tr.filter (fun q => !(aHit as (aHull I).1 (aHull I).2 q.1))
def aWr (w : aWd) (md : aMd) (ρ : List aI) (tr : aT) (as : List Nat) (I : aI) (e : aE) : Option aT :=
  if as.all (fun a => aSegLe 0 (w.2.1 a) I (aset ρ e) && md.any (fun q => Nat.beq q.1 a && (ile q.2.1 (aHull I).1 && ile ((aHull I).2 + 1) q.2.2))) && w.2.2.2.all (aImpOk w ρ tr (aTrN tr as I e) as (aHull I).1 (aHull I).2) && (!(aMono md) || (!(aHit as (aHull I).1 (aHull I).2 (196, 5)) && !(aHit as (aHull I).1 (aHull I).2 (196, 6)))) then some (aTrN tr as I e) else none
theorem zsI_at {a k b j : Nat} {x : Int32} : (zsI h a k x).2.1 b j = if b = a ∧ j = k then x else h.2.1 b j := by
  show zup h.2.1 a k x b j = _
  unfold zup
  by_cases e : b = a
  · by_cases e2 : j = k <;> simp [e, e2]
  · simp [e]
theorem zsI_no {a k b j : Nat} {x : Int32} (hn : ¬ (b = a ∧ j = k)) : (zsI h a k x).2.1 b j = h.2.1 b j := by rw [zsI_at, if_neg hn]
theorem aWr_in {as : List Nat} {I : aI} {e : aE} {a k : Nat} {x : Int32} (hc : aC w md rm h0 f r σ ls ρ tr rr lc h) (hw : aWr w md ρ tr as I e = some tr') (ha : a ∈ as) (hk : aIn k I) (hx : aEq ρ.length σ x.toInt e) : aC w md rm h0 f r σ ls ρ tr' rr lc (zsI h a k x) := by
  have hu := aHull_in hk
  unfold aWr at hw
  split at hw
  · next q =>
    have e1 : aTrN tr as I e = tr' := Option.some.inj hw
    simp only [Bool.and_eq_true] at q
    obtain ⟨⟨q1, q2⟩, q3⟩ := q
    obtain ⟨c1, c2, c3, c4, ⟨c5, c6, c7, c8, c80⟩, ⟨c9, c10, c11, c12, c120⟩, c13⟩ := hc
    have qa := List.all_eq_true.mp q1 a ha
    simp only [Bool.and_eq_true] at qa
    have hxin := aset_in c1 hx
    have g6 : ∀ b j, aIn ((zsI h a k x).2.1 b j).toInt (gSeg (w.2.1 b) j) := by
      intro b j
      rw [zsI_at]
      split
      · next z => rw [z.1, z.2]; exact aSegLe_in hk hxin (Nat.zero_le _) qa.1
      · exact c6 b j
    have g3 : ∀ q ∈ tr', aEq ρ.length σ ((zsI h a k x).2.1 q.1.1 q.1.2).toInt q.2 := by
      intro p hp
      rw [← e1] at hp
      unfold aTrN at hp
      rcases List.mem_append.mp hp with hp | hp
      · split at hp
        · next a' =>
          split at hp
          · next z =>
            have z := ieq_iff.mp z
            simp only [List.mem_cons, List.not_mem_nil, or_false] at hp ha
            subst hp; subst ha
            have : (aHull I).1.toNat = k := by omega
            dsimp only
            rw [this, zsI_at, if_pos ⟨rfl, rfl⟩]
            exact hx
          · cases hp
        · cases hp
      · obtain ⟨m1, m2⟩ := List.mem_filter.mp hp
        have m2 : aHit as (aHull I).1 (aHull I).2 p.1 = false := by simpa using m2
        rw [zsI_no (aHit_no ha hu.1 hu.2 m2)]
        exact c3 p m1
    refine ⟨c1, c2, g3, c4, ⟨c5, g6, c7, fun i hi => ?_, c80⟩, ⟨c9, c10, fun b j hb => ?_, c12, fun hm => ?_⟩, c13⟩
    · have hi1 := List.all_eq_true.mp q2 i hi
      rw [e1] at hi1
      have hold := c8 i hi
      have rd := aRd0_h (w := w) (h := zsI h a k x) c1 g3 g6
      have rd0 := aRd0_h (w := w) (h := h) c1 c3 c6
      simp only [aImpOk, Bool.or_eq_true, Bool.and_eq_true, Bool.not_eq_true', List.all_eq_true, List.any_eq_true] at hi1
      intro hcond
      rcases hi1 with ⟨n1, n2⟩ | ⟨c, hcm, hd⟩ | hle | ⟨n1, n2⟩
      · rw [zsI_no (aHit_no ha hu.1 hu.2 n1)]
        refine hold (fun c hcm => ?_)
        have := hcond c hcm
        rw [zsI_no (aHit_no ha hu.1 hu.2 (n2 c hcm))] at this
        exact this
      · exact (aDis_no hd (rd c.1.1 c.1.2) (hcond c hcm)).elim
      · exact aLe_in hle (rd i.2.1.1 i.2.1.2)
      · rw [zsI_no (aHit_no ha hu.1 hu.2 n1)]
        refine hold (fun c hcm => ?_)
        rcases n2 c hcm with z | z
        · have := hcond c hcm
          rw [zsI_no (aHit_no ha hu.1 hu.2 z)] at this
          exact this
        · exact aLe_in z (rd0 c.1.1 c.1.2)
    · rw [zsI_no, c11 b j hb]
      intro z
      obtain ⟨p, hp, hq⟩ := List.any_eq_true.mp qa.2
      simp only [Bool.and_eq_true, ile_iff, Nat.beq_eq] at hq
      have : inM md b j = true := by
        refine List.any_eq_true.mpr ⟨p, hp, ?_⟩
        simp only [Bool.and_eq_true, Nat.beq_eq, Nat.ble_eq, Nat.blt_eq]
        rw [z.1, z.2]
        exact ⟨hq.1, by omega, by omega⟩
      rw [this] at hb
      cases hb
    · rw [hm] at q3
      have hn : aHit as (aHull I).1 (aHull I).2 (196, 5) = false ∧ aHit as (aHull I).1 (aHull I).2 (196, 6) = false := by simpa using q3
      exact (c120 hm).tr (hMn.eq (zsI_no (aHit_no ha hu.1 hu.2 hn.1)) (zsI_no (aHit_no ha hu.1 hu.2 hn.2)))
  · cases hw
end A8
