/-! the run -/
abbrev bLf : Type := Nat × Instr × Nat
/-- a leaf: a step or an end -/
noncomputable def bGo (m : zM) (q : bLf) : Option (bOp ⊕ Instr) := match q.2.1 with
  | .ireturn => (@Bool.rec (fun _ => Option (bOp ⊕ Instr)) (none) (some (.inr .ireturn)) (Nat.beq q.2.2 1))
  | .lreturn => (@Bool.rec (fun _ => Option (bOp ⊕ Instr)) (none) (some (.inr .lreturn)) (Nat.beq q.2.2 1))
  | .return_ => (@Bool.rec (fun _ => Option (bOp ⊕ Instr)) (none) (some (.inr .return_)) (Nat.beq q.2.2 1))
  | i => (@Bool.rec (fun _ => Option (bOp ⊕ Instr)) (none) (some (.inl (bOpOf m q.1 i q.2.2))) ((@Bool.rec (fun _ => Bool) (Nat.beq q.2.2 (zilen i)) true (Nat.beq (zilen i) 0))))
noncomputable def bFlt (t : Lean.RArray bLf) : List bLf := @Lean.RArray.rec bLf (fun _ => List bLf) (fun q => [q]) (fun _ _ _ l r => l ++ r) t
theorem bFlt_mem (pc : Nat) : ∀ t : Lean.RArray bLf, t.get pc ∈ bFlt t
  | .leaf q => List.mem_singleton.mpr rfl
  | .branch p l r => by
    show @Bool.rec (fun _ => bLf) (l.get pc) (r.get pc) (Nat.ble p pc) ∈ bFlt l ++ bFlt r
    cases Nat.ble p pc with
    | false => exact List.mem_append_left _ (bFlt_mem pc l)
    | true => exact List.mem_append_right _ (bFlt_mem pc r)
def bSrt : List bLf → Bool
  | [] => true
  | [_] => true
  | q :: p :: t => Nat.blt q.1 p.1 && bSrt (p :: t)
/-- a method's code as a tree -/
def bTab (cd : aCd) (t : Lean.RArray bLf) : Prop := bFlt t = cd ∧ bSrt cd = true
theorem bSrt_lt : ∀ {q : bLf} {t : List bLf}, bSrt (q :: t) = true → ∀ p ∈ t, q.1 < p.1
  | _, [], _, p, hp => by cases hp
  | q, r :: t, h, p, hp => by
    have h : (Nat.blt q.1 r.1 && bSrt (r :: t)) = true := h
    simp only [Bool.and_eq_true, Nat.blt_eq] at h
    rcases List.mem_cons.mp hp with rfl | hp
    · exact h.1
    · exact Nat.lt_trans h.1 (bSrt_lt h.2 p hp)
theorem bSrt_tl : ∀ {q : bLf} {t : List bLf}, bSrt (q :: t) = true → bSrt t = true
  | _, [], _ => rfl
  | q, r :: t, h => by
    have h : (Nat.blt q.1 r.1 && bSrt (r :: t)) = true := h
    simp only [Bool.and_eq_true] at h
    exact h.2
theorem bLook_in : ∀ {cd : aCd} {q : bLf}, bSrt cd = true → q ∈ cd → aLook cd q.1 = some q.2
  | [], _, _, h => by cases h
  | r :: t, q, hs, h => by
    unfold aLook
    rcases List.mem_cons.mp h with rfl | h
    · rw [if_pos (by simp)]
    · have := bSrt_lt hs q h
      rw [if_neg (by simp; omega)]
      exact bLook_in (bSrt_tl hs) h
theorem bTab.at {cd : aCd} {t : Lean.RArray bLf} (h : bTab cd t) {pc : Nat} (e : (t.get pc).1 = pc) : aLook cd pc = some (t.get pc).2 := by
  have := bLook_in h.2 (by rw [← h.1]; exact bFlt_mem pc t)
  rw [e] at this
  exact this
noncomputable def bBit (s k : Nat) : Bool := Nat.beq (Nat.land (Nat.shiftRight s k) 1) 1
noncomputable def bRun (w : aWd) (x : bWd) (md rm : aMd) (m : zM) (D : Nat) (lk : aLk) (t : Lean.RArray bLf) (nds : List aNd) (ps : List aPo) (fk : List Nat) (ag : List (Option aE)) (rk : Int × List (Nat × Int)) (sp : Nat) (fuel : Nat) : Bool → aS → Bool :=
  @Nat.rec (fun _ => Bool → aS → Bool) (fun _ _ => false) (fun _ ih fst A => (@Bool.rec (fun _ => Bool) (bAll ((@Bool.rec (fun _ => List aS) ([A]) (aFk A) (bAny fk (fun p => Nat.beq p A.1)))) (fun B => (@Bool.rec (fun _ => Bool) false (@Option.rec (bOp ⊕ Instr) (fun _ => Bool) false (fun s => @Sum.rec bOp Instr (fun _ => Bool) (fun op => @Option.rec (List aS) (fun _ => Bool) false (fun Bs => bAll Bs (fun C => ih false C)) (op w x md rm D lk B)) (fun i => bEnd x m ps ag i B) s) (bGo m (t.get B.1))) (Nat.beq (t.get B.1).1 B.1)))) (bAny nds (fun nd => bGoN x rk A nd)) ((@Bool.rec (fun _ => Bool) false (bBit sp A.1) ((@Bool.rec (fun _ => Bool) true false (fst))))))) fuel
section BR
variable {w : aWd} {x : bWd} {md rm : aMd} {D : Nat} {lk : aLk} {m : zM} {t : Lean.RArray bLf} {cd : aCd} {nds : List aNd} {ps : List aPo} {fk : List Nat} {ag : List (Option aE)} {rk : Int × List (Nat × Int)} {sp : Nat}
theorem bGo_in (hx : bWok w x) {q : bLf} {B : aS} (hB : q.1 = B.1) {K : aS → Bool} (h : @Option.rec (bOp ⊕ Instr) (fun _ => Bool) false (fun s => @Sum.rec bOp Instr (fun _ => Bool) (fun op => @Option.rec (List aS) (fun _ => Bool) false (fun Bs => bAll Bs K) (op w x md rm D lk B)) (fun i => bEnd x m ps ag i B) s) (bGo m q) = true) : ((Nat.beq (zilen q.2.1) 0 || Nat.beq q.2.2 (zilen q.2.1)) && (if aIsR q.2.1 then aEnd w m ps ag q.2.1 B else (match aStp w md rm m D lk q.2.1 q.2.2 B with
        | none => false
        | some Bs => Bs.all K))) = true := by
  obtain ⟨pc, i, len⟩ := q
  dsimp only at hB h ⊢
  subst hB
  have oth : aIsR i = false → @Option.rec (bOp ⊕ Instr) (fun _ => Bool) false (fun s => @Sum.rec bOp Instr (fun _ => Bool) (fun op => @Option.rec (List aS) (fun _ => Bool) false (fun Bs => bAll Bs K) (op w x md rm D lk B)) (fun i => bEnd x m ps ag i B) s) ((@Bool.rec (fun _ => Option (bOp ⊕ Instr)) (none) (some (.inl (bOpOf m B.1 i len))) ((@Bool.rec (fun _ => Bool) (Nat.beq len (zilen i)) true (Nat.beq (zilen i) 0))))) = true → ((Nat.beq (zilen i) 0 || Nat.beq len (zilen i)) && (if aIsR i then aEnd w m ps ag i B else (match aStp w md rm m D lk i len B with
        | none => false
        | some Bs => Bs.all K))) = true := fun hi h => by
    rw [hi, if_neg (by decide), or_b]
    cases e : @Bool.rec (fun _ => Bool) (Nat.beq len (zilen i)) true (Nat.beq (zilen i) 0) with
    | false =>
      rw [e] at h
      cases h
    | true =>
      rw [e] at h
      rw [Bool.true_and, ← bOpOf_eq hx]
      have h : @Option.rec (List aS) (fun _ => Bool) false (fun Bs => bAll Bs K) (bOpOf m B.1 i len w x md rm D lk B) = true := h
      cases q : bOpOf m B.1 i len w x md rm D lk B with
      | none =>
        rw [q] at h
        cases h
      | some Bs =>
        rw [q] at h
        exact (bAll_eq Bs K).symm.trans h
  have ret : ∀ i, zilen i = 1 → aIsR i = true → @Option.rec (bOp ⊕ Instr) (fun _ => Bool) false (fun s => @Sum.rec bOp Instr (fun _ => Bool) (fun op => @Option.rec (List aS) (fun _ => Bool) false (fun Bs => bAll Bs K) (op w x md rm D lk B)) (fun i => bEnd x m ps ag i B) s) ((@Bool.rec (fun _ => Option (bOp ⊕ Instr)) (none) (some (.inr i)) (Nat.beq len 1))) = true → ((Nat.beq (zilen i) 0 || Nat.beq len (zilen i)) && (if aIsR i then aEnd w m ps ag i B else (match aStp w md rm m D lk i len B with
        | none => false
        | some Bs => Bs.all K))) = true := fun i hz hi h => by
    rw [hi, if_pos rfl, hz, ← bEnd_eq hx]
    cases e : Nat.beq len 1 with
    | false =>
      rw [e] at h
      cases h
    | true =>
      rw [e] at h
      exact h
  cases i with
  | ireturn => exact ret _ rfl rfl h
  | lreturn => exact ret _ rfl rfl h
  | return_ => exact ret _ rfl rfl h
  | _ => exact oth rfl h
/-- what runs so, runs as before -/
theorem bRun_in (hx : bWok w x) (ht : bTab cd t) (hsp : ∀ nd ∈ nds, bBit sp nd.1 = true) : ∀ (n : Nat) (fst : Bool) (A : aS), bRun w x md rm m D lk t nds ps fk ag rk sp n fst A = true → aRun w md rm m D lk cd nds ps fk ag rk n fst A = true := by
  intro n
  induction n with
  | zero => intro fst A h; cases h
  | succ n ih =>
    intro fst A h
    unfold aRun
    have h : (@Bool.rec (fun _ => Bool) (bAll ((@Bool.rec (fun _ => List aS) ([A]) (aFk A) (bAny fk (fun p => Nat.beq p A.1)))) (fun B => (@Bool.rec (fun _ => Bool) false (@Option.rec (bOp ⊕ Instr) (fun _ => Bool) false (fun s => @Sum.rec bOp Instr (fun _ => Bool) (fun op => @Option.rec (List aS) (fun _ => Bool) false (fun Bs => bAll Bs (fun C => bRun w x md rm m D lk t nds ps fk ag rk sp n false C)) (op w x md rm D lk B)) (fun i => bEnd x m ps ag i B) s) (bGo m (t.get B.1))) (Nat.beq (t.get B.1).1 B.1)))) (bAny nds (fun nd => bGoN x rk A nd)) ((@Bool.rec (fun _ => Bool) false (bBit sp A.1) ((@Bool.rec (fun _ => Bool) true false (fst)))))) = true := h
    rw [← ite_b] at h
    have go : nds.any (fun nd => aGoN w rk A nd) = true → nds.any (fun nd => Nat.beq nd.1 A.1) = true := fun q => by
      obtain ⟨nd, hm, hg⟩ := List.any_eq_true.mp q
      refine List.any_eq_true.mpr ⟨nd, hm, ?_⟩
      unfold aGoN aArr at hg
      cases z : Nat.beq nd.1 A.1 with
      | true => rfl
      | false =>
        rw [z] at hg
        cases hg
    split at h
    · next q =>
      have q1 : fst = false := by cases fst with | false => rfl | true => cases q
      rw [bAny_eq, show (fun nd => bGoN x rk A nd) = fun nd => aGoN w rk A nd from funext (fun nd => bGoN_eq hx rk A nd)] at h
      rw [if_pos (by rw [q1, go h]; rfl)]
      exact h
    · next q =>
      have no : (!fst && nds.any (fun nd => Nat.beq nd.1 A.1)) = false := by
        cases fst with
        | true => rfl
        | false =>
          cases z : nds.any (fun nd => Nat.beq nd.1 A.1) with
          | false => rfl
          | true =>
            obtain ⟨nd, hm, hb⟩ := List.any_eq_true.mp z
            have e : nd.1 = A.1 := by simpa using hb
            have := hsp nd hm
            rw [e] at this
            exact absurd this q
      rw [no, if_neg (by decide)]
      rw [bAll_eq, bAny_eq, ← ite_b] at h
      rw [List.all_eq_true] at h ⊢
      intro B hB
      have hb := h B hB
      rw [← and_b, Bool.and_eq_true] at hb
      have e : (t.get B.1).1 = B.1 := by simpa using hb.1
      have hl := ht.at e
      rw [hl]
      have fin := bGo_in hx e hb.2
      generalize (t.get B.1).2 = p at fin ⊢
      obtain ⟨i, len⟩ := p
      dsimp only at fin ⊢
      rw [Bool.and_eq_true] at fin ⊢
      refine ⟨fin.1, ?_⟩
      have f2 := fin.2
      by_cases z : aIsR i = true
      · rw [if_pos z] at f2 ⊢
        exact f2
      · rw [if_neg z] at f2 ⊢
        cases e2 : aStp w md rm m D lk i len B with
        | none =>
          rw [e2] at f2
          cases f2
        | some Bs =>
          rw [e2] at f2
          exact List.all_eq_true.mpr (fun C hC => ih false C (List.all_eq_true.mp f2 C hC))
/-- the check, the segment, the entry: as before, if they are so -/
noncomputable def bChk (w : aWd) (x : bWd) (c : aCt) (lk : aLk) (t : Lean.RArray bLf) (nds : List aNd) (fk : List Nat) (rk : Int × List (Nat × Int)) (sp fuel : Nat) : Bool :=
  (@Bool.rec (fun _ => Bool) false ((@Bool.rec (fun _ => Bool) false ((@Bool.rec (fun _ => Bool) false (bAll nds (fun nd => (@Bool.rec (fun _ => Bool) false (bRun w x c.2.2.2.2.1 c.2.2.2.2.2.1 c.1 c.2.2.2.2.2.2 lk t nds c.2.2.2.1 fk [] nd.2.2.2.2.2 sp fuel true (aNs nd)) (bRkOk nd)))) (bRun w x c.2.2.2.2.1 c.2.2.2.2.2.1 c.1 c.2.2.2.2.2.2 lk t nds c.2.2.2.1 fk ((aPvl 0 (aPos 0 c.2.1)).map (fun q => aXp q.2)) rk sp fuel true (aNs (aEnt c rk))))) (bAll nds (fun nd => bBit sp nd.1)))) (bRkOk (aEnt c rk)))
theorem bChk_in (hx : bWok w x) (ht : bTab cd t) {c : aCt} {fuel : Nat} (h : bChk w x c lk t nds fk rk sp fuel = true) : aChk w c lk cd nds fk rk fuel = true := by
  unfold bChk at h
  simp only [bRkOk_eq] at h
  unfold aChk
  rw [← and_b, ← and_b, ← and_b, bAll_eq, bAll_eq] at h
  simp only [Bool.and_eq_true, List.all_eq_true] at h ⊢
  obtain ⟨h1, h2, h3, h4⟩ := h
  refine ⟨h1, bRun_in hx ht h2 _ _ _ h3, fun nd hm => ?_⟩
  have := h4 nd hm
  rw [← and_b, Bool.and_eq_true] at this
  exact ⟨this.1, bRun_in hx ht h2 _ _ _ this.2⟩
theorem bChk_ok (hx : bWok w x) (ht : bTab cd t) {c : aCt} {fuel : Nat} (hck : bChk w x c lk t nds fk rk sp fuel = true) (hlk : ∀ q ∈ lk, zmth c.1.2.1 q.1 = some (q.2.1, q.2.2.1, q.2.2.2.1) ∧ aSpec w q.2.2.2) (hcd : ∀ q ∈ cd, decode c.1.1 q.1 = .ok (q.2.1, q.2.2)) : aSpec w c :=
  aChk_ok (bChk_in hx ht hck) hlk hcd
noncomputable def bSgk (w : aWd) (x : bWd) (c : aCt) (lk : aLk) (t : Lean.RArray bLf) (fk : List Nat) (sp fuel : Nat) (tg : List aNd) (nd : aNd) : Bool := (@Bool.rec (fun _ => Bool) false ((@Bool.rec (fun _ => Bool) false (bRun w x c.2.2.2.2.1 c.2.2.2.2.2.1 c.1 c.2.2.2.2.2.2 lk t tg c.2.2.2.1 fk [] nd.2.2.2.2.2 sp fuel true (aNs nd)) (bAll tg (fun nd => bBit sp nd.1)))) (bRkOk nd))
theorem bSgk_in (hx : bWok w x) (ht : bTab cd t) {c : aCt} {fuel : Nat} {tg : List aNd} {nd : aNd} (h : bSgk w x c lk t fk sp fuel tg nd = true) : aSgk w c lk cd fk fuel tg nd = true := by
  unfold bSgk at h
  simp only [bRkOk_eq] at h
  unfold aSgk
  rw [← and_b, ← and_b, bAll_eq] at h
  simp only [Bool.and_eq_true, List.all_eq_true] at h ⊢
  exact ⟨h.1, bRun_in hx ht h.2.1 _ _ _ h.2.2⟩
theorem bTk_in (hx : bWok w x) (ht : bTab cd t) {c : aCt} {fuel : Nat} {tg : List aNd} {nd : aNd} {a : Bool} (h : (a && bSgk w x c lk t fk sp fuel tg nd) = true) : (a && aSgk w c lk cd fk fuel tg nd) = true := by
  rw [Bool.and_eq_true] at h ⊢
  exact ⟨h.1, bSgk_in hx ht h.2⟩
noncomputable def bEtk (w : aWd) (x : bWd) (c : aCt) (lk : aLk) (t : Lean.RArray bLf) (nds : List aNd) (fk : List Nat) (rk : Int × List (Nat × Int)) (sp fuel : Nat) : Bool := (@Bool.rec (fun _ => Bool) false ((@Bool.rec (fun _ => Bool) false (bRun w x c.2.2.2.2.1 c.2.2.2.2.2.1 c.1 c.2.2.2.2.2.2 lk t nds c.2.2.2.1 fk ((aPvl 0 (aPos 0 c.2.1)).map (fun q => aXp q.2)) rk sp fuel true (aNs (aEnt c rk))) (bAll nds (fun nd => bBit sp nd.1)))) (bRkOk (aEnt c rk)))
theorem bEtk_in (hx : bWok w x) (ht : bTab cd t) {c : aCt} {fuel : Nat} (h : bEtk w x c lk t nds fk rk sp fuel = true) : (aRkOk (aEnt c rk) && aRun w c.2.2.2.2.1 c.2.2.2.2.2.1 c.1 c.2.2.2.2.2.2 lk cd nds c.2.2.2.1 fk ((aPvl 0 (aPos 0 c.2.1)).map (fun q => aXp q.2)) rk fuel true (aNs (aEnt c rk))) = true := by
  unfold bEtk at h
  simp only [bRkOk_eq] at h
  rw [← and_b, ← and_b, bAll_eq] at h
  simp only [Bool.and_eq_true, List.all_eq_true] at h ⊢
  exact ⟨h.1, bRun_in hx ht h.2.1 _ _ _ h.2.2⟩
end BR
