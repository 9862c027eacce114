/-! contracts of methods in ranges, and their calls -/
abbrev aAg : Type := aI ⊕ (List Nat ⊕ Bool)
/-- an end: what comes back, what the arguments were, slots, references -/
abbrev aPo : Type := Option (aI ⊕ Unit) × List (Option aI) × List ((Nat × Nat) × aI) × aU
/-- a contract: method, arguments, what must be known of slots and references, ends, what may change (ints, references), depth -/
abbrev aCt : Type := zM × List aAg × (List ((Nat × Nat) × aI) × aU) × List aPo × aMd × aMd × Nat
def aAgR (v : zV) (p : aAg) : Prop := match p with
  | .inl A => ∃ x : Int32, v = .inl x ∧ aIn x.toInt A
  | .inr (.inl as) => ∃ q ∈ as, v = .inr (.inr (some q))
  | .inr (.inr b) => ∃ x : Int64, v = .inr (.inl x) ∧ (b = true → x ≠ 0)
def aArgs : List zV → List aAg → Prop
  | [], [] => True
  | v :: vs, p :: ps => aAgR v p ∧ aArgs vs ps
  | _, _ => False
def aPre (h : zH) (p : List ((Nat × Nat) × aI) × aU) : Prop := (∀ q ∈ p.1, aIn (h.2.1 q.1.1 q.1.2).toInt q.2) ∧ (∀ q ∈ p.2, h.2.2.2.1 q.1.1 q.1.2 = some q.2)
def aRet (v : Option zV) (p : Option (aI ⊕ Unit)) : Prop := match p with
  | none => v = none
  | some (.inl A) => ∃ x : Int32, v = some (.inl x) ∧ aIn x.toInt A
  | some (.inr _) => ∃ x : Int64, v = some (.inr (.inl x))
def aArf : List zV → List (Option aI) → Prop
  | [], _ => True
  | _, [] => True
  | v :: vs, o :: os => (match o with
    | none => True
    | some A => ∀ x : Int32, v = .inl x → aIn x.toInt A) ∧ aArf vs os
def aPst (vs : List zV) (v : Option zV) (h : zH) (p : aPo) : Prop := aRet v p.1 ∧ aArf vs p.2.1 ∧ aPre h p.2.2
def aSpec (w : aWd) (c : aCt) : Prop := ∀ d, c.2.2.2.2.2.2 ≤ d → ∀ vs h, aArgs vs c.2.1 → hOK w h → aPre h c.2.2.1 → zCt d c.1 vs h (fun v h' => hOK w h' ∧ hFr c.2.2.2.2.1 c.2.2.2.2.2.1 h h' ∧ ∃ p ∈ c.2.2.2.1, aPst vs v h' p)
/-- does it match -/
def aMt1 (ρ : List aI) (a : aV) (p : aAg) : Bool := match a, p with
  | .inl e, .inl A => aLe (aset ρ e) A
  | .inr (.inl as), .inr (.inl bs) => as.all (fun q => bs.any (fun b => Nat.beq q b))
  | .inr (.inr b), .inr (.inr c) => !c || b
  | _, _ => false
def aMt : List aI → List aV → List aAg → Bool
  | _, [], [] => true
  | ρ, a :: as, p :: ps => aMt1 ρ a p && aMt ρ as ps
  | _, _, _ => false
def aMp (w : aWd) (ρ : List aI) (tr : aT) (rr : aU) (p : List ((Nat × Nat) × aI) × aU) : Bool :=
  p.1.all (fun q => aLe (aRd w ρ tr q.1.1 q.1.2) q.2) && p.2.all (fun q => match aRf w rr q.1.1 q.1.2 with
    | some b => Nat.beq b q.2
    | none => false)
/-- regions inside regions -/
def aMdLe (a b : aMd) : Bool := a.all (fun p => (Nat.beq p.1 1000002 && Nat.beq p.2.2 0) || b.any (fun q => Nat.beq q.1 p.1 && (Nat.ble q.2.1 p.2.1 && Nat.ble p.2.2 q.2.2)))
def aMdOk (a b : aMd) : Bool := aMdLe a b && (!(aMono b) || (aMono a || (!(inM a 196 5) && !(inM a 196 6))))
theorem aMdLe_in {a b : aMd} {x k : Nat} (h : aMdLe a b = true) (hn : inM b x k = false) : inM a x k = false := by
  refine Bool.eq_false_iff.mpr (fun z => ?_)
  obtain ⟨p, hp, hz⟩ := List.any_eq_true.mp z
  have hp2 := List.all_eq_true.mp h p hp
  rcases Bool.or_eq_true_iff.mp hp2 with hp3 | hp3
  · simp only [Bool.and_eq_true, Nat.beq_eq, Nat.ble_eq, Nat.blt_eq] at hz hp3
    omega
  obtain ⟨q, hq, hpq⟩ := List.any_eq_true.mp hp3
  simp only [Bool.and_eq_true, Nat.beq_eq, Nat.ble_eq, Nat.blt_eq] at hz hpq
  have : inM b x k = true := by
    refine List.any_eq_true.mpr ⟨q, hq, ?_⟩
    simp only [Bool.and_eq_true, Nat.beq_eq, Nat.ble_eq, Nat.blt_eq]
    exact ⟨by omega, by omega, by omega⟩
  rw [this] at hn
  cases hn
theorem hFr.tr {md rm md' rm' : aMd} {h0 h h' : zH} (h1 : hFr md rm h0 h) (h2 : hFr md' rm' h h') (hm : aMdOk md' md = true) (hr : aMdLe rm' rm = true) : hFr md rm h0 h' := by
  simp only [aMdOk, Bool.and_eq_true] at hm
  refine ⟨h2.1.trans h1.1, h2.2.1.trans h1.2.1, fun a k q => (h2.2.2.1 a k (aMdLe_in hm.1 q)).trans (h1.2.2.1 a k q), fun a k q => (h2.2.2.2.1 a k (aMdLe_in hr q)).trans (h1.2.2.2.1 a k q), fun q => ?_⟩
  have hm2 := hm.2
  rw [q] at hm2
  simp only [Bool.not_true, Bool.false_or, Bool.or_eq_true, Bool.and_eq_true, Bool.not_eq_true'] at hm2
  rcases hm2 with z | z
  · exact (h1.2.2.2.2 q).tr (h2.2.2.2.2 z)
  · exact (h1.2.2.2.2 q).tr (hMn.eq (h2.2.2.1 196 5 z.1) (h2.2.2.1 196 6 z.2))
section A10
variable {σ : Nat → Int} {w : aWd} {md rm : aMd} {h0 h : zH} {f : aLf} {r : List Int} {ls : aL} {ρ : List aI} {tr tr' : aT} {rr : aU} {lc : zL}
theorem aMt1_in {v : zV} {a : aV} {p : aAg} (he : aEnv ρ σ) (hv : aVR ρ.length σ v a) (hm : aMt1 ρ a p = true) : aAgR v p := by
  match a, p, hv, hm with
  | .inl e, .inl A, ⟨x, h1, h2⟩, hm => exact ⟨x, h1, aLe_in hm (aset_in he h2)⟩
  | .inr (.inl as), .inr (.inl bs), ⟨q, h1, h2⟩, hm =>
    obtain ⟨b, hb, e⟩ := List.any_eq_true.mp (List.all_eq_true.mp hm q h1)
    have e : q = b := by simpa using e
    exact ⟨b, hb, by rw [h2, e]⟩
  | .inr (.inr b), .inr (.inr c), ⟨x, h1, h2⟩, hm =>
    refine ⟨x, h1, fun q => h2 ?_⟩
    subst q
    simpa [aMt1] using hm
theorem aMt_in : ∀ {vs : List zV} {as : List aV} {ps : List aAg}, aEnv ρ σ → aSt ρ.length σ vs as → aMt ρ as ps = true → aArgs vs ps
  | [], [], [], _, _, _ => trivial
  | v :: vs, a :: as, p :: ps, he, hs, hm => by
    unfold aMt at hm
    simp only [Bool.and_eq_true] at hm
    exact ⟨aMt1_in he hs.1 hm.1, aMt_in he hs.2 hm.2⟩
  | [], _ :: _, _, _, hs, _ => hs.elim
  | _ :: _, [], _, _, hs, _ => hs.elim
  | [], [], _ :: _, _, _, hm => by cases hm
  | _ :: _, _ :: _, [], _, _, hm => by cases hm
theorem aMp_in {p : List ((Nat × Nat) × aI) × aU} (hc : aC w md rm h0 f r σ ls ρ tr rr lc h) (hm : aMp w ρ tr rr p = true) : aPre h p := by
  simp only [aMp, Bool.and_eq_true] at hm
  refine ⟨fun q hq => aLe_in (List.all_eq_true.mp hm.1 q hq) (aRd_in hc _ _), fun q hq => ?_⟩
  have := List.all_eq_true.mp hm.2 q hq
  split at this
  · next b e =>
    have e2 : b = q.2 := by simpa using this
    rw [← e2]
    exact aRf_in hc e
  · cases this
/-- arguments made narrower by an end -/
def aNa1 (ρ : List aI) (a : aV) (o : Option aI) : List aI := match a, o with
  | .inl (.inr (i, p)), some A => (match ρ[i]? with
    | some B => ρ.set i (aCut B ((aHull A).1 - p) ((aHull A).2 - p))
    | none => ρ)
  | _, _ => ρ
def aNa : List aI → List aV → List (Option aI) → List aI
  | ρ, [], _ => ρ
  | ρ, _ :: _, [] => ρ
  | ρ, a :: as, o :: os => aNa (aNa1 ρ a o) as os
theorem aNa1_len {a : aV} {o : Option aI} {ρ : List aI} : (aNa1 ρ a o).length = ρ.length := by
  unfold aNa1
  split
  · split
    · exact List.length_set ..
    · rfl
  · rfl
theorem aNa_len : ∀ {as : List aV} {os : List (Option aI)} {ρ : List aI}, (aNa ρ as os).length = ρ.length
  | [], _, _ => rfl
  | _ :: _, [], _ => rfl
  | a :: as, o :: os, ρ => by
    show (aNa (aNa1 ρ a o) as os).length = ρ.length
    rw [aNa_len (as := as) (os := os), aNa1_len]
theorem aC.na1 {a : aV} {o : Option aI} {v : zV} {ρ : List aI} (hc : aC w md rm h0 f r σ ls ρ tr rr lc h) (hs : aVR ρ.length σ v a) (ha : match o with
    | none => True
    | some A => ∀ x : Int32, v = .inl x → aIn x.toInt A) : aC w md rm h0 f r σ ls (aNa1 ρ a o) tr rr lc h := by
  unfold aNa1
  split
  · next i p A =>
    split
    · next B hB =>
      obtain ⟨x, hx1, hx2⟩ := hs
      have hh := aHull_in (ha x hx1)
      have hx3 := hx2.2
      exact hc.nar (aCut_in (hc.1 i B hB) (by omega) (by omega))
    · exact hc
  · exact hc
theorem aC.na : ∀ {as : List aV} {os : List (Option aI)} {vs : List zV} {ρ : List aI}, aC w md rm h0 f r σ ls ρ tr rr lc h → aSt ρ.length σ vs as → aArf vs os → aC w md rm h0 f r σ ls (aNa ρ as os) tr rr lc h
  | [], _, _, _, hc, _, _ => hc
  | _ :: _, [], _, _, hc, _, _ => hc
  | a :: as, o :: os, [], ρ, hc, hs, ha => hs.elim
  | a :: as, o :: os, v :: vs, ρ, hc, hs, ha => by
    show aC w md rm h0 f r σ ls (aNa (aNa1 ρ a o) as os) tr rr lc h
    exact aC.na (as := as) (os := os) (hc.na1 hs.1 ha.1) (by rw [aNa1_len]; exact hs.2) ha.2
/-- slots that an end names -/
def aAd : List aI → aT → List ((Nat × Nat) × aI) → List aI × aT
  | ρ, tr, [] => (ρ, tr)
  | ρ, tr, q :: t => aAd (aNew ρ q.2).2 ((q.1, (aNew ρ q.2).1) :: tr) t
theorem aC.ad : ∀ {l : List ((Nat × Nat) × aI)} {ρ : List aI} {tr : aT} {σ : Nat → Int}, aC w md rm h0 f r σ ls ρ tr rr lc h → (∀ q ∈ l, aIn (h.2.1 q.1.1 q.1.2).toInt q.2) → ∃ σ', aX ρ.length (aAd ρ tr l).1.length σ σ' ∧ aC w md rm h0 f r σ' ls (aAd ρ tr l).1 (aAd ρ tr l).2 rr lc h
  | [], ρ, tr, σ, hc, _ => ⟨σ, aX.rf, hc⟩
  | q :: t, ρ, tr, σ, hc, hl => by
    obtain ⟨σ1, s1, s2, s3⟩ := aNew_in rfl hc.1 (hl q List.mem_cons_self)
    obtain ⟨σ2, t1, t2⟩ := aC.ad (l := t) ((hc.x s1 s2).trk (a := q.1.1) (k := q.1.2) s3) (fun p hp => hl p (List.mem_cons_of_mem _ hp))
    exact ⟨σ2, ⟨Nat.le_trans s1.1 t1.1, fun i hi => (t1.2 i (Nat.lt_of_lt_of_le hi s1.1)).trans (s1.2 i hi)⟩, t2⟩
/-- the state behind a call, by one end -/
def aAft (pc : Nat) (ls : aL) (rest : List aV) (ρ : List aI) (tr : aT) (rr : aU) (as : List aV) (c : aCt) (p : aPo) : aS :=
  let q := aAd (aNa ρ as p.2.1) (tr.filter (fun q => !(inM c.2.2.2.2.1 q.1.1 q.1.2))) p.2.2.1
  let rr' := p.2.2.2 ++ rr.filter (fun q => !(inM c.2.2.2.2.2.1 q.1.1 q.1.2))
  match p.1 with
  | none => (pc, ls, rest, q.1, q.2, rr')
  | some (.inl A) => (pc, ls, .inl (aNew q.1 A).1 :: rest, (aNew q.1 A).2, q.2, rr')
  | some (.inr _) => (pc, ls, .inr (.inr false) :: rest, q.1, q.2, rr')
theorem aAft_in {c : aCt} {p : aPo} {pc : Nat} {rest : List aV} {as : List aV} {vs sc : List zV} {v : Option zV} {h' : zH} (hc : aC w md rm h0 f r σ ls ρ tr rr lc h) (has : aSt ρ.length σ vs as) (hrs : aSt ρ.length σ sc rest) (ho : hOK w h') (hf : hFr c.2.2.2.2.1 c.2.2.2.2.2.1 h h') (hm : aMdOk c.2.2.2.2.1 md = true) (hr : aMdLe c.2.2.2.2.2.1 rm = true) (hp : aPst vs v h' p) :
    ∃ σ', aG w md rm h0 f r σ' (aAft pc ls rest ρ tr rr as c p) (pc, lc, v.toList ++ sc, h') := by
  obtain ⟨p1, p2, p3, p4⟩ := hp
  have hc1 : aC w md rm h0 f r σ ls ρ (tr.filter (fun q => !(inM c.2.2.2.2.1 q.1.1 q.1.2))) (p.2.2.2 ++ rr.filter (fun q => !(inM c.2.2.2.2.2.1 q.1.1 q.1.2))) lc h' := by
    obtain ⟨c1, c2, c3, c4, c5, c6, c7⟩ := hc
    refine ⟨c1, c2, fun q hq => ?_, fun q hq => ?_, ho, c6.tr hf hm hr, c7⟩
    · obtain ⟨m1, m2⟩ := List.mem_filter.mp hq
      rw [hf.2.2.1 _ _ (by simpa using m2)]
      exact c3 q m1
    · rcases List.mem_append.mp hq with m | m
      · exact p4 q m
      · obtain ⟨m1, m2⟩ := List.mem_filter.mp m
        rw [hf.2.2.2.1 _ _ (by simpa using m2)]
        exact c4 q m1
  have hl : (aNa ρ as p.2.1).length = ρ.length := aNa_len
  obtain ⟨σ1, s1, s2⟩ := (hc1.na has p2).ad p3
  rw [hl] at s1
  match hp1 : p.1, p1 with
  | none, p1 =>
    have p1 : v = none := p1
    subst p1
    exact ⟨σ1, by unfold aAft; rw [hp1]; exact ⟨rfl, s2, hrs.x s1⟩⟩
  | some (.inl A), p1 =>
    obtain ⟨x, rfl, hx⟩ := p1
    obtain ⟨σ2, t1, t2, t3⟩ := aNew_in rfl s2.1 hx
    exact ⟨σ2, by unfold aAft; rw [hp1]; exact ⟨rfl, s2.x t1 t2, ⟨x, rfl, t3⟩, (hrs.x s1).x t1⟩⟩
  | some (.inr _), p1 =>
    obtain ⟨x, rfl⟩ := p1
    exact ⟨σ1, by unfold aAft; rw [hp1]; exact ⟨rfl, s2, ⟨x, rfl, nofun⟩, hrs.x s1⟩⟩
def aWid (as : List aV) : Nat := (as.map (fun a => if aIsL a then 2 else 1)).sum
theorem aWid_in : ∀ {n : Nat} {vs : List zV} {as : List aV}, aSt n σ vs as → zwd vs = aWid as
  | n, [], [], _ => rfl
  | n, v :: vs, a :: as, hs => by
    have e1 : zwd (v :: vs) = zcat v + zwd vs := by simp [zwd]
    have e2 : aWid (a :: as) = (if aIsL a then 2 else 1) + aWid as := by simp [aWid]
    rw [e1, e2, aWid_in hs.2, aVR_cat hs.1]
  | n, [], _ :: _, hs => hs.elim
  | n, _ :: _, [], hs => hs.elim
theorem aSt_split {n : Nat} : ∀ {k : Nat} {vs : List zV} {as : List aV}, aSt n σ vs as → aSt n σ (vs.take k) (as.take k) ∧ aSt n σ (vs.drop k) (as.drop k) ∧ vs.length = as.length
  | 0, vs, as, hs => ⟨by simp [aSt], by simpa using hs, by
      induction vs generalizing as with
      | nil => match as, hs with
        | [], _ => rfl
      | cons v vs ih => match as, hs with
        | a :: as, hs => simp [ih as hs.2]⟩
  | k + 1, [], [], _ => ⟨trivial, trivial, rfl⟩
  | k + 1, v :: vs, a :: as, hs => by
    obtain ⟨h1, h2, h3⟩ := aSt_split (k := k) hs.2
    exact ⟨⟨hs.1, h1⟩, h2, by simp [h3]⟩
  | k + 1, [], _ :: _, hs => hs.elim
  | k + 1, _ :: _, [], hs => hs.elim
theorem aSt_app {n : Nat} : ∀ {vs us : List zV} {as bs : List aV}, aSt n σ vs as → aSt n σ us bs → aSt n σ (vs ++ us) (as ++ bs)
  | [], us, [], bs, _, h => h
  | v :: vs, us, a :: as, bs, h1, h2 => ⟨h1.1, aSt_app h1.2 h2⟩
  | [], _, _ :: _, _, h, _ => h.elim
  | _ :: _, _, [], _, h, _ => h.elim
theorem aSt_rev {n : Nat} : ∀ {vs : List zV} {as : List aV}, aSt n σ vs as → aSt n σ vs.reverse as.reverse
  | [], [], _ => trivial
  | v :: vs, a :: as, h => by
    rw [List.reverse_cons, List.reverse_cons]
    exact aSt_app (aSt_rev h.2) ⟨h.1, trivial⟩
  | [], _ :: _, h => h.elim
  | _ :: _, [], h => h.elim
variable {scr : Option (Nat × (Nat → Int32))} {d : Nat} {m : zM} {Q : Option zV → zH → Prop} {pc len : Nat} {st : List aV} {i : Instr}
/-- a call, of any kind -/
def aCallOk (w : aWd) (md rm : aMd) (ρ : List aI) (tr : aT) (rr : aU) (st : List aV) (kd na : Nat) (c : aCt) : Bool :=
  Nat.ble na st.length && (Nat.ble (aWid (st.drop na)) 8 && (Nat.ble (aWid (st.take na)) c.1.2.2.1 && (aMt ρ (st.take na).reverse c.2.1 && (aMp w ρ tr rr c.2.2.1 && (aMdOk c.2.2.2.2.1 md && (aMdLe c.2.2.2.2.2.1 rm
    && (Nat.beq kd 1 || (Nat.beq kd 3 || (match (st.take na).reverse with
      | .inr (.inl as) :: _ => aKd w as c.1.2.1 && Nat.blt c.1.2.1 13
      | _ => false))))))))) 
theorem ok_call {k kd na D : Nat} {c : aCt} (hi : (i = .invokevirtual k ∧ kd = 0) ∨ (i = .invokestatic k ∧ (kd = 1 ∨ kd = 3)) ∨ (i = .invokespecial k ∧ (kd = 2 ∨ kd = 4))) (hd : decode m.1 pc = .ok (i, 3)) (hz : zmth m.2.1 k = some (kd, na, c.1)) (hs : aSpec w c) (hD : c.2.2.2.2.2.2 < D) (hDd : D ≤ d) (hok : aCallOk w md rm ρ tr rr st kd na c = true)
    (kk : ∀ p ∈ c.2.2.2.1, aDead (aAft (pc + 3) ls (st.drop na) ρ tr rr (st.take na).reverse c p).2.2.2.1 = true ∨ aOK w md rm h0 f r scr d m Q (aAft (pc + 3) ls (st.drop na) ρ tr rr (st.take na).reverse c p)) : aOK w md rm h0 f r scr d m Q (pc, ls, st, ρ, tr, rr) := by
  intro σ g hg
  obtain ⟨pc', lc, sc, h⟩ := g
  obtain ⟨rfl, hc, hst⟩ := hg
  dsimp only at hc hst
  simp only [aCallOk, Bool.and_eq_true, Nat.ble_eq] at hok
  obtain ⟨o1, o2, o3, o4, o5, o6, o7, o8⟩ := hok
  obtain ⟨d', rfl⟩ : ∃ d', d = d' + 1 := ⟨d - 1, by omega⟩
  obtain ⟨t1, t2, t3⟩ := aSt_split (k := na) hst
  have tr1 := aSt_rev t1
  have hargs := aMt_in hc.1 tr1 o4
  have hrun := hs d' (by omega) (sc.take na).reverse h hargs hc.2.2.2.2.1 (aMp_in hc o5)
  have hwr : zwd (sc.drop na) ≤ 8 := by rw [aWid_in t2]; exact o2
  have hlen : na ≤ sc.length := by rw [t3]; exact o1
  have hrevw : zwd (sc.take na).reverse ≤ c.1.2.2.1 := by
    have e : zwd (sc.take na).reverse = zwd (sc.take na) := by simp [zwd, List.sum_reverse]
    rw [e, aWid_in t1]
    exact o3
  have go : ∀ (v : Option zV) (h' : zH), (hOK w h' ∧ hFr c.2.2.2.2.1 c.2.2.2.2.2.1 h h' ∧ ∃ p ∈ c.2.2.2.1, aPst (sc.take na).reverse v h' p) → zEx scr (d' + 1) m (pc + 3, lc, v.toList ++ sc.drop na, h') Q := by
    intro v h' hq
    obtain ⟨q1, q2, p, hp, q3⟩ := hq
    obtain ⟨σ', hG⟩ := aAft_in (pc := pc + 3) (c := c) (rest := st.drop na) hc tr1 t2 q1 q2 o6 o7 q3
    rcases kk p hp with z | z
    · exact (aDead_no hG.2.1.1 z).elim
    · exact z σ' _ hG
  by_cases hst2 : kd = 1 ∨ kd = 3
  · have hi' : i = .invokestatic k := by
      rcases hi with ⟨-, q⟩ | ⟨q, -⟩ | ⟨-, q⟩
      · omega
      · exact q
      · omega
    subst hi'
    exact ex_calls hd hz hst2 ⟨hlen, hwr⟩ rfl rfl hrevw rfl hrun go
  · simp only [Bool.or_eq_true, Nat.beq_eq] at o8
    rcases o8 with q | q | q
    · exact (hst2 (Or.inl q)).elim
    · exact (hst2 (Or.inr q)).elim
    · split at q
      · next as t e =>
        simp only [Bool.and_eq_true, Nat.blt_eq] at q
        rw [e] at tr1
        obtain ⟨a, vs, e1, ha, hs1⟩ := aSt_r tr1
        obtain ⟨n, hn⟩ := aKd_in q.1 ha
        have hsh := hc.2.2.2.2.1.1 a _ hn
        rw [e1] at hrun hrevw
        rcases hi with ⟨rfl, rfl⟩ | ⟨-, q2⟩ | ⟨rfl, q2⟩
        · exact ex_callv hd hz ⟨hlen, hwr⟩ e1 rfl hsh q.2 hrevw rfl hrun (fun v h' hq => go v h' (by rw [e1]; exact hq))
        · exact (hst2 q2).elim
        · exact ex_calli hd hz q2 ⟨hlen, hwr⟩ e1 rfl hsh q.2 hrevw rfl hrun (fun v h' hq => go v h' (by rw [e1]; exact hq))
      · cases q
end A10
