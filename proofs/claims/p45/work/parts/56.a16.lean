/-! whole methods in ranges -/
abbrev aCd : Type := List (Nat × Instr × Nat)
def aLook : aCd → Nat → Option (Instr × Nat)
  | [], _ => none
  | q :: t, pc => if Nat.beq q.1 pc then some q.2 else aLook t pc
theorem aLook_mem : ∀ {l : aCd} {pc : Nat} {q : Instr × Nat}, aLook l pc = some q → (pc, q) ∈ l
  | [], _, _, h => by cases h
  | p :: t, pc, q, h => by
    unfold aLook at h
    split at h
    · next e =>
      cases h
      have e : p.1 = pc := by simpa using e
      rw [← e]
      exact List.mem_cons_self
    · exact List.mem_cons_of_mem _ (aLook_mem h)
/-- the name on top is split into its numbers -/
def aFk (A : aS) : List aS := match A.2.2.1 with
  | .inl (.inr (i, _)) :: _ => (match A.2.2.2.1[i]? with
    | some B => (aEn B).map (fun v => (A.1, A.2.1, A.2.2.1, A.2.2.2.1.set i [(v, v, 0)], A.2.2.2.2))
    | none => [A])
  | _ => [A]
/-- arguments at an end -/
def aAk (ρ : List aI) : List (Option aE) → List (Option aI) → Bool
  | _, [] => true
  | [], o :: os => o.isNone && aAk ρ [] os
  | e :: es, o :: os => (match e, o with
    | _, none => true
    | some e, some B => aLe (aset ρ e) B
    | none, some _ => false) && aAk ρ es os
def aEnd (w : aWd) (m : zM) (ps : List aPo) (ag : List (Option aE)) (i : Instr) (A : aS) : Bool := match i, A.2.2.1 with
  | .ireturn, [.inl e] => (match m.2.2.2.1 with
      | some .int => true
      | some .boolean => aLe (aset A.2.2.2.1 e) [(0, 1, 1)]
      | _ => false) && ps.any (fun p => (match p.1 with
      | some (.inl B) => aLe (aset A.2.2.2.1 e) B
      | _ => false) && (aMp w A.2.2.2.1 A.2.2.2.2.1 A.2.2.2.2.2 p.2.2 && aAk A.2.2.2.1 ag p.2.1))
  | .lreturn, [.inr (.inr _)] => (match m.2.2.2.1 with
      | some .long => true
      | _ => false) && ps.any (fun p => (match p.1 with
      | some (.inr _) => true
      | _ => false) && (aMp w A.2.2.2.1 A.2.2.2.2.1 A.2.2.2.2.2 p.2.2 && aAk A.2.2.2.1 ag p.2.1))
  | .return_, [] => m.2.2.2.1.isNone && ps.any (fun p => p.1.isNone && (aMp w A.2.2.2.1 A.2.2.2.2.1 A.2.2.2.2.2 p.2.2 && aAk A.2.2.2.1 ag p.2.1))
  | _, _ => false
def aIsR (i : Instr) : Bool := match i with
  | .ireturn => true
  | .lreturn => true
  | .return_ => true
  | _ => false
/-- world, what may change, method, depth, links, code, nodes, ends, places to split at, arguments, rank -/
def aRun (w : aWd) (md rm : aMd) (m : zM) (D : Nat) (lk : aLk) (cd : aCd) (nds : List aNd) (ps : List aPo) (fk : List Nat) (ag : List (Option aE)) (rk : Int × List (Nat × Int)) : Nat → Bool → aS → Bool
  | 0, _, _ => false
  | n + 1, fst, A => if !fst && nds.any (fun nd => Nat.beq nd.1 A.1) then nds.any (fun nd => aGoN w rk A nd)
    else (if fk.any (fun p => Nat.beq p A.1) then aFk A else [A]).all (fun B => match aLook cd B.1 with
      | none => false
      | some (i, len) => (Nat.beq (zilen i) 0 || Nat.beq len (zilen i)) && (if aIsR i then aEnd w m ps ag i B else (match aStp w md rm m D lk i len B with
        | none => false
        | some Bs => Bs.all (fun C => aRun w md rm m D lk cd nds ps fk ag rk n false C))))
/-- arguments, their expressions -/
def aAgF (n : Nat) (σ : Nat → Int) : List zV → List (Option aE) → Prop
  | _, [] => True
  | [], _ => True
  | v :: vs, o :: os => (∀ e, o = some e → ∀ x : Int32, v = .inl x → aEq n σ x.toInt e) ∧ aAgF n σ vs os
section A16
variable {w : aWd} {md rm : aMd} {h0 : zH} {f : aLf} {r : List Int} {σ : Nat → Int} {n n' : Nat}
variable {d D : Nat} {m : zM} {Q : Option zV → zH → Prop} {A : aS}
theorem aAgF.x {σ' : Nat → Int} : ∀ {vs : List zV} {ag : List (Option aE)}, aAgF n σ vs ag → aX n n' σ σ' → aAgF n' σ' vs ag
  | [], [], _, _ => trivial
  | _ :: _, [], _, _ => trivial
  | [], _ :: _, _, _ => trivial
  | v :: vs, o :: os, h, hx => ⟨fun e he x hv => (h.1 e he x hv).x hx, aAgF.x h.2 hx⟩
theorem aAk_0 {ρ : List aI} {vs : List zV} : ∀ {os : List (Option aI)}, aAk ρ [] os = true → aArf vs os := by
  intro os
  induction os generalizing vs with
  | nil => intro _; cases vs <;> trivial
  | cons o os ih =>
    intro h
    simp only [aAk, Bool.and_eq_true] at h
    cases vs with
    | nil => trivial
    | cons v vs =>
      refine ⟨?_, ih h.2⟩
      have : o = none := by simpa using h.1
      rw [this]
      trivial
theorem aAk_in {ρ : List aI} (he : aEnv ρ σ) : ∀ {vs : List zV} {ag : List (Option aE)} {os : List (Option aI)}, aAgF ρ.length σ vs ag → aAk ρ ag os = true → aArf vs os
  | [], _, _, _, _ => trivial
  | _ :: _, _, [], _, _ => trivial
  | v :: vs, [], o :: os, _, h => aAk_0 h
  | v :: vs, e :: es, o :: os, ha, h => by
    unfold aAk at h
    simp only [Bool.and_eq_true] at h
    refine ⟨?_, aAk_in he ha.2 h.2⟩
    match e, o, h.1, ha.1 with
    | _, none, _, _ => trivial
    | some e, some B, h1, h2 => exact fun x hx => aLe_in h1 (aset_in he (h2 e rfl x hx))
theorem aFk_ok (kk : ∀ B ∈ aFk A, aOK w md rm h0 f r none d m Q B) : aOK w md rm h0 f r none d m Q A := by
  obtain ⟨pc, ls, st, ρ, tr, rr⟩ := A
  unfold aFk at kk
  dsimp only at kk
  split at kk
  · next i o t =>
    split at kk
    · next B hB =>
      intro σ g hg
      obtain ⟨h1, h2, h3⟩ := hg
      have hin := aEn_in (h2.1 i B hB)
      refine kk _ (List.mem_map.mpr ⟨σ i, hin, rfl⟩) σ g ⟨h1, h2.nar aIn_one, ?_⟩
      show aSt (ρ.set i [(σ i, σ i, 0)]).length σ _ _
      rw [List.length_set]
      exact h3
    · exact kk _ List.mem_cons_self
  · exact kk _ List.mem_cons_self
theorem narrow_b {x : Int32} (h : x.toInt = 0 ∨ x.toInt = 1) : narrow .boolean (.int x) = .int x := by
  have : x = 0 ∨ x = 1 := by
    rcases h with e | e
    · exact Or.inl (Int32.toInt_inj.mp e)
    · exact Or.inr (Int32.toInt_inj.mp e)
  rcases this with rfl | rfl <;> decide
theorem aEnd_ok {ps : List aPo} {ag : List (Option aE)} {i : Instr} {len : Nat} {vs : List zV} (he : aEnd w m ps ag i A = true) (hag : ∀ n σ, aLq n σ f r → aAgF n σ vs ag) (hd : decode m.1 A.1 = .ok (i, len)) (hl : zilen i = 0 ∨ len = zilen i) :
    aOK w md rm h0 f r none d m (fun v h' => hOK w h' ∧ hFr md rm h0 h' ∧ ∃ p ∈ ps, aPst vs v h' p) A := by
  intro σ g hg
  obtain ⟨pc, ls, st, ρ, tr, rr⟩ := A
  obtain ⟨pc', lc, sc, h⟩ := g
  obtain ⟨rfl, hc, hst⟩ := hg
  have hF := hag _ _ hc.2.2.2.2.2.2
  unfold aEnd at he
  dsimp only at he
  split at he
  · next e =>
    obtain ⟨x, vs', e1, hx, hs1⟩ := aSt_i hst
    have e2 := aSt_0 hs1
    dsimp only at e1
    subst e2; subst e1
    simp only [Bool.and_eq_true, List.any_eq_true] at he
    obtain ⟨h1, p, hp, h2, h3, h4⟩ := he
    have hlen : len = 1 := by rcases hl with q | q; cases q; exact q
    subst hlen
    have hxin := aset_in hc.1 hx
    have hpost : aPst vs (some (.inl x)) h p := by
      refine ⟨?_, aAk_in hc.1 hF h4, aMp_in hc h3⟩
      split at h2
      · next B hB => rw [hB]; exact ⟨x, rfl, aLe_in h2 hxin⟩
      · cases h2
    split at h1
    · next ht => exact ex_iret hd ht rfl ⟨hc.2.2.2.2.1, hc.2.2.2.2.2.1, p, hp, hpost⟩
    · next ht =>
      have hb := aHull_in (aLe_in h1 hxin)
      have b1 : (0 : Int) ≤ x.toInt := hb.1
      have b2 : x.toInt ≤ (1 : Int) := hb.2
      exact ex_iret hd ht (narrow_b (by omega)) ⟨hc.2.2.2.2.1, hc.2.2.2.2.2.1, p, hp, hpost⟩
    · cases h1
  · next u =>
    obtain ⟨x, vs', e1, hs1⟩ := aSt_l hst
    have e2 := aSt_0 hs1.1
    dsimp only at e1
    subst e2; subst e1
    simp only [Bool.and_eq_true, List.any_eq_true] at he
    obtain ⟨h1, p, hp, h2, h3, h4⟩ := he
    have hlen : len = 1 := by rcases hl with q | q; cases q; exact q
    subst hlen
    have hpost : aPst vs (some (.inr (.inl x))) h p := by
      refine ⟨?_, aAk_in hc.1 hF h4, aMp_in hc h3⟩
      split at h2
      · next B hB => rw [hB]; exact ⟨x, rfl⟩
      · cases h2
    split at h1
    · next ht => exact ex_lret hd ht ⟨hc.2.2.2.2.1, hc.2.2.2.2.2.1, p, hp, hpost⟩
    · cases h1
  · have e2 := aSt_0 hst
    dsimp only at e2
    subst e2
    simp only [Bool.and_eq_true, List.any_eq_true] at he
    obtain ⟨h1, p, hp, h2, h3, h4⟩ := he
    have hlen : len = 1 := by rcases hl with q | q; cases q; exact q
    subst hlen
    have hpost : aPst vs none h p := by
      refine ⟨?_, aAk_in hc.1 hF h4, aMp_in hc h3⟩
      have : p.1 = none := by simpa using h2
      rw [this]
      rfl
    exact ex_vret hd (by simpa using h1) ⟨hc.2.2.2.2.1, hc.2.2.2.2.2.1, p, hp, hpost⟩
  · cases he
theorem aRun_ok {lk : aLk} {cd : aCd} {nds : List aNd} {ps : List aPo} {fk : List Nat} {ag : List (Option aE)} {rk : Int × List (Nat × Int)} {vs : List zV} {X : List Int}
    (hlk : ∀ q ∈ lk, zmth m.2.1 q.1 = some (q.2.1, q.2.2.1, q.2.2.2.1) ∧ aSpec w q.2.2.2) (hcd : ∀ q ∈ cd, decode m.1 q.1 = .ok (q.2.1, q.2.2)) (hDd : D ≤ d) (hr : ∀ q ∈ rk.2, q.1 < X.length) (hag : aAgF X.length (aGd X) vs ag)
    (hnd : ∀ nd ∈ nds, ∀ g, aNH w md rm h0 nd g → aRank nd g < rk.1 + aLv (aGd X) rk.2 → zEx none d m g (fun v h' => hOK w h' ∧ hFr md rm h0 h' ∧ ∃ p ∈ ps, aPst vs v h' p)) :
    ∀ (n : Nat) (fst : Bool) (A : aS), aRun w md rm m D lk cd nds ps fk ag rk n fst A = true → aOK w md rm h0 (aFI 0 X.length) X none d m (fun v h' => hOK w h' ∧ hFr md rm h0 h' ∧ ∃ p ∈ ps, aPst vs v h' p) A := by
  intro n
  induction n with
  | zero => intro fst A h; cases h
  | succ n ih =>
    intro fst A h
    unfold aRun at h
    split at h
    · obtain ⟨nd, hm, hgo⟩ := List.any_eq_true.mp h
      intro σ g hg
      obtain ⟨g1, g2⟩ := aGoN_in hg hr hgo
      exact hnd nd hm g g1 g2
    · have key : ∀ B, (match aLook cd B.1 with
          | none => false
          | some (i, len) => (Nat.beq (zilen i) 0 || Nat.beq len (zilen i)) && (if aIsR i then aEnd w m ps ag i B else (match aStp w md rm m D lk i len B with
            | none => false
            | some Bs => Bs.all (fun C => aRun w md rm m D lk cd nds ps fk ag rk n false C)))) = true → aOK w md rm h0 (aFI 0 X.length) X none d m (fun v h' => hOK w h' ∧ hFr md rm h0 h' ∧ ∃ p ∈ ps, aPst vs v h' p) B := by
        intro B hB
        split at hB
        · cases hB
        · next i len hlo =>
          simp only [Bool.and_eq_true, Bool.or_eq_true, Nat.beq_eq] at hB
          have hdec := hcd _ (aLook_mem hlo)
          dsimp only at hdec
          split at hB
          · exact aEnd_ok hB.2 (fun n σ hq => hag.x (aFI_x hq)) hdec hB.1
          · obtain ⟨hl, hB⟩ := hB
            split at hB
            · cases hB
            · next Bs hs => exact aStp_ok hs (fun C hC => ih false C (List.all_eq_true.mp hB C hC)) hlk hDd hdec hl
      split at h
      · exact aFk_ok (fun B hB => key B (List.all_eq_true.mp h B hB))
      · exact key A (List.all_eq_true.mp h A List.mem_cons_self)
end A16
/-- the places of arguments -/
def aNxt (p : aAg) (n : Nat) : Nat := match p with
  | .inr (.inr _) => n + 2
  | _ => n + 1
def aPos : Nat → List aAg → List (Nat × aAg)
  | _, [] => []
  | n, p :: t => (n, p) :: aPos (aNxt p n) t
theorem aNxt_in {v : zV} {p : aAg} {n : Nat} (h : aAgR v p) : aNxt p n = (if zcat v = 2 then n + 2 else n + 1) := by
  match p, h with
  | .inl A, ⟨x, e, _⟩ => subst e; rfl
  | .inr (.inl as), ⟨x, _, e⟩ => subst e; rfl
  | .inr (.inr u), ⟨x, e, _⟩ => subst e; rfl
theorem zargs_ge : ∀ {vs : List zV} {n k : Nat} {v : zV}, zget (zargs n vs) k = some v → n ≤ k
  | [], n, k, v, h => by cases h
  | u :: vs, n, k, v, h => by
    unfold zargs zget at h
    split at h
    · next e => exact Nat.le_of_eq e
    · have := zargs_ge h
      split at this <;> omega
theorem aPos_in : ∀ {vs : List zV} {ps : List aAg} {n : Nat}, aArgs vs ps → ∀ q ∈ aPos n ps, ∃ v, zget (zargs n vs) q.1 = some v ∧ aAgR v q.2
  | [], [], n, _, q, hq => by cases hq
  | v :: vs, p :: ps, n, h, q, hq => by
    rcases List.mem_cons.mp hq with rfl | hq
    · exact ⟨v, by unfold zargs zget; rw [if_pos rfl], h.1⟩
    · rw [aNxt_in h.1] at hq
      obtain ⟨u, g1, g2⟩ := aPos_in h.2 q hq
      have hge := zargs_ge g1
      refine ⟨u, ?_, g2⟩
      unfold zargs zget
      rw [if_neg (by split at hge <;> omega)]
      exact g1
  | [], _ :: _, _, h, _, _ => h.elim
  | _ :: _, [], _, h, _, _ => h.elim
def aRkOk (nd : aNd) : Bool := nd.2.2.2.2.2.2.all (fun q => Nat.blt q.1 (aNr nd).length) && (match aLow (aNr nd) nd.2.2.2.2.2.1 nd.2.2.2.2.2.2 with
  | some b => ile 0 b
  | none => false)
def aXp (a : aV) : Option aE := match a with
  | .inl e => some e
  | _ => none
/-- the entry of a method as a node -/
def aEnt (c : aCt) (rk : Int × List (Nat × Int)) : aNd := (0, aPos 0 c.2.1, [], c.2.2.1.1, c.2.2.1.2, rk)
/-- a method holds to its contract -/
def aChk (w : aWd) (c : aCt) (lk : aLk) (cd : aCd) (nds : List aNd) (fk : List Nat) (rk : Int × List (Nat × Int)) (fuel : Nat) : Bool :=
  aRkOk (aEnt c rk) && (aRun w c.2.2.2.2.1 c.2.2.2.2.2.1 c.1 c.2.2.2.2.2.2 lk cd nds c.2.2.2.1 fk ((aPvl 0 (aPos 0 c.2.1)).map (fun q => aXp q.2)) rk fuel true (aNs (aEnt c rk))
    && nds.all (fun nd => aRkOk nd && aRun w c.2.2.2.2.1 c.2.2.2.2.2.1 c.1 c.2.2.2.2.2.2 lk cd nds c.2.2.2.1 fk [] nd.2.2.2.2.2 fuel true (aNs nd)))
section A16b
variable {w : aWd} {c : aCt} {lk : aLk} {cd : aCd} {nds : List aNd} {fk : List Nat} {rk : Int × List (Nat × Int)} {fuel : Nat}
theorem aAg0 {lc : zL} {N : Nat} {σ : Nat → Int} : ∀ {vs : List zV} {ps : List aAg} {k n : Nat}, aArgs vs ps → (∀ q ∈ aPvl n (aPos k ps), ∃ v, zget lc q.1 = some v ∧ aVR N σ v q.2) → (∀ j v, zget (zargs k vs) j = some v → zget lc j = some v) → aAgF N σ vs ((aPvl n (aPos k ps)).map (fun q => aXp q.2))
  | [], [], k, n, _, _, _ => trivial
  | v :: vs, p :: ps, k, n, h, hl, hz => by
    have e := aNxt_in (n := k) h.1
    show aAgF N σ (v :: vs) ((aPvl n ((k, p) :: aPos (aNxt p k) ps)).map _)
    rw [e]
    refine ⟨fun e' he x hv => ?_, aAg0 (vs := vs) (ps := ps) (k := if zcat v = 2 then k + 2 else k + 1) (n := n + (aPr p).length) h.2 (fun q hq => hl q ?_) (fun j u hj => hz j u ?_)⟩
    · obtain ⟨u, g1, g2⟩ := hl (k, aPv n p) (by unfold aPos aPvl; exact List.mem_cons_self)
      have e3 : zget lc k = some v := hz k v (by unfold zargs zget; rw [if_pos rfl])
      have e4 : u = v := Option.some.inj (g1.symm.trans e3)
      rw [e4] at g2
      have he : aXp (aPv n p) = some e' := he
      unfold aXp at he
      split at he
      · next e5 he5 =>
        cases he
        rw [he5] at g2
        obtain ⟨y, y1, y2⟩ := g2
        rw [hv] at y1
        cases y1
        exact y2
      · cases he
    · unfold aPos aPvl
      rw [e]
      exact List.mem_cons_of_mem _ hq
    · have hge := zargs_ge hj
      unfold zargs zget
      rw [if_neg (by split at hge <;> omega)]
      exact hj
  | [], _ :: _, _, _, h, _, _ => h.elim
  | _ :: _, [], _, _, h, _, _ => h.elim
theorem aRkOk_in {nd : aNd} {md rm : aMd} {h0 : zH} {g : zC} (h : aRkOk nd = true) (hn : aNH w md rm h0 nd g) : (∀ q ∈ nd.2.2.2.2.2.2, q.1 < (aNx nd g).length) ∧ 0 ≤ aRank nd g := by
  obtain ⟨hg, hl⟩ := aNs_in hn
  simp only [aRkOk, Bool.and_eq_true] at h
  refine ⟨fun q hq => ?_, ?_⟩
  · rw [hl]
    simpa [Nat.blt_eq] using List.all_eq_true.mp h.1 q hq
  · have h2 := h.2
    split at h2
    · next b hb =>
      have e1 := aLow_in hg.2.1.1 hb
      have e2 := ile_iff.mp h2
      unfold aRank
      omega
    · cases h2
/-- THE CHECK IS SOUND -/
theorem aChk_ok (hck : aChk w c lk cd nds fk rk fuel = true) (hlk : ∀ q ∈ lk, zmth c.1.2.1 q.1 = some (q.2.1, q.2.2.1, q.2.2.2.1) ∧ aSpec w q.2.2.2) (hcd : ∀ q ∈ cd, decode c.1.1 q.1 = .ok (q.2.1, q.2.2)) : aSpec w c := by
  intro d hd vs h hargs hok hpre
  simp only [aChk, Bool.and_eq_true, List.all_eq_true] at hck
  obtain ⟨k1, k2, k3⟩ := hck
  have nodes : ∀ (N : Nat) (nd : aNd), nd ∈ nds → ∀ g, aNH w c.2.2.2.2.1 c.2.2.2.2.2.1 h nd g → aRank nd g < (N : Int) → zEx none d c.1 g (fun v h' => hOK w h' ∧ hFr c.2.2.2.2.1 c.2.2.2.2.2.1 h h' ∧ ∃ p ∈ c.2.2.2.1, aPst vs v h' p) := by
    intro N
    induction N with
    | zero =>
      intro nd hm g hn hlt
      have := (aRkOk_in (k3 nd hm).1 hn).2
      exact absurd hlt (by omega)
    | succ N ih =>
      intro nd hm g hn hlt
      obtain ⟨r1, r2⟩ := aRkOk_in (k3 nd hm).1 hn
      obtain ⟨hg, -⟩ := aNs_in hn
      refine aRun_ok (X := aNx nd g) hlk hcd hd r1 (by cases vs <;> trivial) (fun nd' hm' g' hn' hlt' => ih nd' hm' g' hn' ?_) fuel true (aNs nd) (k3 nd hm).2 _ g hg
      have : aRank nd g = nd.2.2.2.2.2.1 + aLv (aGd (aNx nd g)) nd.2.2.2.2.2.2 := rfl
      omega
  have hn : aNH w c.2.2.2.2.1 c.2.2.2.2.2.1 h (aEnt c rk) (0, zargs 0 vs, [], h) := ⟨rfl, aPos_in hargs, trivial, hpre, hok, rfl, rfl, fun _ _ _ => rfl, fun _ _ _ => rfl, fun _ => hMn.rf⟩
  obtain ⟨r1, r2⟩ := aRkOk_in k1 hn
  obtain ⟨hg, hlen⟩ := aNs_in hn
  have hag : aAgF (aNx (aEnt c rk) (0, zargs 0 vs, [], h)).length (aGd (aNx (aEnt c rk) (0, zargs 0 vs, [], h))) vs ((aPvl 0 (aPos 0 c.2.1)).map (fun q => aXp q.2)) := by
    rw [hlen]
    exact aAg0 (lc := zargs 0 vs) hargs hg.2.1.2.1 (fun j v hj => hj)
  exact aRun_ok (X := aNx (aEnt c rk) (0, zargs 0 vs, [], h)) hlk hcd hd r1 hag (fun nd' hm' g' hn' hlt' => nodes (aRank nd' g' + 1).toNat nd' hm' g' hn' (by have := (aRkOk_in (k3 nd' hm').1 hn').2; omega)) fuel true (aNs (aEnt c rk)) k2 _ _ hg
end A16b
