/-! one step as a program: the states behind it, or none where it can't be told -/
abbrev aLk : Type := List (Nat × Nat × Nat × aCt)
def sCon (ok : Bool) (c : Int) (len : Nat) (A : aS) : Option (List aS) := if ok then some [(A.1 + len, A.2.1, .inl (.inl c) :: A.2.2.1, A.2.2.2)] else none
def sLdc (m : zM) (two k len : Nat) (A : aS) : Option (List aS) := match zcst m.2.1 k with
  | some v => if Nat.beq (zcat v) two then (match aCst v with
    | some a => some [(A.1 + len, A.2.1, a :: A.2.2.1, A.2.2.2)]
    | none => none) else none
  | none => none
def sIinc (m : zM) (k : Nat) (n : Int) (len : Nat) (A : aS) : Option (List aS) := match aGet A.2.1 k with
  | some (.inl e) => if Nat.blt k m.2.2.1 && aFt n then (match aPlus A.2.2.2.1 e n with
    | some e' => some [(A.1 + len, aSet1 A.2.1 k (.inl e'), A.2.2.1, A.2.2.2)]
    | none => some [(A.1 + len, aSet1 A.2.1 k (.inl (aNew A.2.2.2.1 aTop).1), A.2.2.1, (aNew A.2.2.2.1 aTop).2, A.2.2.2.2)]) else none
  | _ => none
def sIf (cd : ClassFile.Cond) (off : Int) (len : Nat) (x y : aE) (st : List aV) (A : aS) : Option (List aS) := match aTg A.1 off with
  | some t => some ((if aNone A.2.2.2.1 cd x y then [] else [(t, A.2.1, st, aBoth A.2.2.2.1 cd x y, A.2.2.2.2)]) ++ (if aNone A.2.2.2.1 (aNo cd) x y then [] else [(A.1 + len, A.2.1, st, aBoth A.2.2.2.1 (aNo cd) x y, A.2.2.2.2)]))
  | none => none
def sSwL (lo : Int) (x : aE) (st : List aV) (A : aS) : Nat → List Int → Option (List aS)
  | _, [] => some []
  | j, o :: os => match sSwL lo x st A (j + 1) os with
    | none => none
    | some Bs => if aNone A.2.2.2.1 .eq x (.inl (lo + j)) then some Bs else (match aTg A.1 o with
      | some t => some ((t, A.2.1, st, aBoth A.2.2.2.1 .eq x (.inl (lo + j)), A.2.2.2.2) :: Bs)
      | none => none)
def sSw (df lo hi : Int) (offs : Array Int) (x : aE) (st : List aV) (A : aS) : Option (List aS) :=
  if aFt lo && (aFt hi && ile (hi - lo + 1) offs.size) then (match aTg A.1 df, sSwL lo x st A 0 offs.toList with
    | some t, some Bs => some ((if aNone A.2.2.2.1 .lt x (.inl lo) then [] else [(t, A.2.1, st, aBoth A.2.2.2.1 .lt x (.inl lo), A.2.2.2.2)]) ++ ((if aNone A.2.2.2.1 .gt x (.inl hi) then [] else [(t, A.2.1, st, aBoth A.2.2.2.1 .gt x (.inl hi), A.2.2.2.2)]) ++ Bs))
    | _, _ => none) else none
def sGet (w : aWd) (m : zM) (k len : Nat) (as : List Nat) (st : List aV) (A : aS) : Option (List aS) := match zfld m.2.1 k with
  | some (ci, fl) => if aKd w as ci then (if Nat.beq ((zft ci).getD fl 0) 3 then (match aAll (as.map (fun a => aRf w A.2.2.2.2.2 a fl)) with
      | some bs => some [(A.1 + len, A.2.1, .inr (.inl bs) :: st, A.2.2.2)]
      | none => none)
    else some [(A.1 + len, A.2.1, .inl (aGetI w A.2.2.2.1 A.2.2.2.2.1 as fl).1 :: st, (aGetI w A.2.2.2.1 A.2.2.2.2.1 as fl).2.1, (aGetI w A.2.2.2.1 A.2.2.2.2.1 as fl).2.2, A.2.2.2.2.2)]) else none
  | none => none
def sPutI (w : aWd) (md : aMd) (m : zM) (k len : Nat) (e : aE) (as : List Nat) (st : List aV) (A : aS) : Option (List aS) := match zfld m.2.1 k with
  | some (ci, fl) => if aKd w as ci && (!(zfin ci fl) && (Nat.beq ((zft ci).getD fl 9) 0 || (Nat.beq ((zft ci).getD fl 9) 1 && aLe (aset A.2.2.2.1 e) [(0, 1, 1)]))) then (match aWr w md A.2.2.2.1 A.2.2.2.2.1 as [((fl : Int), (fl : Int), 0)] e with
    | some tr => some [(A.1 + len, A.2.1, st, A.2.2.2.1, tr, A.2.2.2.2.2)]
    | none => none) else none
  | none => none
def sPutR (w : aWd) (rm : aMd) (m : zM) (k len b a : Nat) (st : List aV) (A : aS) : Option (List aS) := match zfld m.2.1 k with
  | some (ci, fl) => if aKd w [a] ci && (!(zfin ci fl) && (Nat.beq ((zft ci).getD fl 9) 3 && ((w.2.2.1 a fl).isNone && inM rm a fl))) then some [(A.1 + len, A.2.1, st, A.2.2.2.1, A.2.2.2.2.1, ((a, fl), b) :: A.2.2.2.2.2.filter (fun q => !(Nat.beq q.1.1 a && Nat.beq q.1.2 fl)))] else none
  | none => none
def sInv (w : aWd) (md rm : aMd) (D : Nat) (lk : aLk) (kds : Nat → Bool) (k : Nat) (A : aS) : Option (List aS) := match lk.find? (fun q => Nat.beq q.1 k && (kds q.2.1 && (Nat.blt q.2.2.2.2.2.2.2.2.2 D && aCallOk w md rm A.2.2.2.1 A.2.2.2.2.1 A.2.2.2.2.2 A.2.2.1 q.2.1 q.2.2.1 q.2.2.2))) with
  | some q => some ((q.2.2.2.2.2.2.1.map (fun p => aAft (A.1 + 3) A.2.1 (A.2.2.1.drop q.2.2.1) A.2.2.2.1 A.2.2.2.2.1 A.2.2.2.2.2 (A.2.2.1.take q.2.2.1).reverse q.2.2.2 p)).filter (fun B => !(aDead B.2.2.2.1)))
  | none => none
def sPrim (w : aWd) (md : aMd) (m : zM) (D k : Nat) (A : aS) : Option (List aS) := match zmth m.2.1 k with
  | some (kd, _, _) => if Nat.blt 0 D then (match A.2.2.1 with
    | .inl y :: .inl x :: st => if (Nat.beq kd 11 || Nat.beq kd 12) && Nat.ble (aWid st) 8 then some [(A.1 + 3, A.2.1, .inl (aNew A.2.2.2.1 (if Nat.beq kd 11 then aMax (aset A.2.2.2.1 x) (aset A.2.2.2.1 y) else aMin (aset A.2.2.2.1 x) (aset A.2.2.2.1 y))).1 :: st, (aNew A.2.2.2.1 (if Nat.beq kd 11 then aMax (aset A.2.2.2.1 x) (aset A.2.2.2.1 y) else aMin (aset A.2.2.2.1 x) (aset A.2.2.2.1 y))).2, A.2.2.2.2)]
      else if Nat.beq kd 13 && Nat.ble (aWid (.inl x :: st)) 8 then some [(A.1 + 3, A.2.1, .inl (.inr (A.2.2.2.1.length, 0)) :: .inl x :: st, A.2.2.2.1 ++ [aTop], A.2.2.2.2)]
      else (match y, x, st with
        | .inl (.ofNat n), .inl (.ofNat 0), .inr (.inl as) :: .inl (.inl (.ofNat 0)) :: .inr (.inl bs) :: st' => if Nat.beq kd 14 && (Nat.ble (aWid st') 8 && (Nat.blt n 100000 && (Nat.ble 1 n && (aBnd w bs (fun k => Nat.beq k 14) (aR1 0 ((n : Int) - 1)) && aBnd w as (fun k => Nat.beq k 14) (aR1 0 ((n : Int) - 1)))))) then (match aWm w md A.2.2.2.1 A.2.2.2.2.1 as 0 ((n : Int) - 1) (aUni (bs.map (fun b => aSegs 0 (w.2.1 b) (aR1 0 ((n : Int) - 1))))) with
            | some tr => some [(A.1 + 3, A.2.1, st', A.2.2.2.1, tr, A.2.2.2.2.2)]
            | none => none) else none
        | _, _, _ => none)
    | .inl _ :: st => if Nat.beq kd 13 && Nat.ble (aWid st) 8 then some [(A.1 + 3, A.2.1, .inl (.inr (A.2.2.2.1.length, 0)) :: st, A.2.2.2.1 ++ [aTop], A.2.2.2.2)] else none
    | _ => none) else none
  | none => none
def sAri (i : Instr) (len : Nat) (A : aS) : Option (List aS) := match A.2.2.1 with
  | .inl y :: st => (match aUn i (aset A.2.2.2.1 y) with
    | some C => some [(A.1 + len, A.2.1, .inl (aNew A.2.2.2.1 C).1 :: st, (aNew A.2.2.2.1 C).2, A.2.2.2.2)]
    | none => (match st with
      | .inl x :: st' => (match aAri A.2.2.2.1 i x y with
        | some q => some [(A.1 + len, A.2.1, .inl q.1 :: st', q.2, A.2.2.2.2)]
        | none => none)
      | _ => none))
  | _ => none
section A12
variable {w : aWd} {md rm : aMd} {h0 : zH} {f : aLf} {r : List Int}
variable {scr : Option (Nat × (Nat → Int32))} {d D : Nat} {m : zM} {Q : Option zV → zH → Prop} {len : Nat} {i : Instr} {A : aS} {Bs : List aS}
theorem ok_sCon {ok : Bool} {c : Int} {v : Int32} (hs : sCon ok c len A = some Bs) (kk : ∀ B ∈ Bs, aOK w md rm h0 f r scr d m Q B) (hd : decode m.1 A.1 = .ok (i, len)) (hl : zilen i = 0 ∨ len = zilen i) (hv : ok = true → v.toInt = c) (hx : ∀ call ls st h, zexec scr call (decide (0 < d)) m i len A.1 ls st h = some (.inl (A.1 + len, ls, .inl v :: st, h))) : aOK w md rm h0 f r scr d m Q A := by
  unfold sCon at hs
  split at hs
  · next q => cases hs; exact ok_const (hv q) hd hl hx (kk _ List.mem_cons_self)
  · cases hs
theorem ok_sLdc {two k : Nat} (hs : sLdc m two k len A = some Bs) (kk : ∀ B ∈ Bs, aOK w md rm h0 f r scr d m Q B) (hi : (two = 1 ∧ (i = .ldc k ∨ i = .ldc_w k)) ∨ (two = 2 ∧ i = .ldc2_w k)) (hd : decode m.1 A.1 = .ok (i, len)) (hl : zilen i = 0 ∨ len = zilen i) : aOK w md rm h0 f r scr d m Q A := by
  unfold sLdc at hs
  split at hs
  · next v hv =>
    split at hs
    · next q =>
      split at hs
      · next a ha =>
        cases hs
        refine ok_ldc (k := k) (v := v) ?_ hd hl hv ha (kk _ List.mem_cons_self)
        rcases hi with ⟨rfl, hi⟩ | ⟨rfl, hi⟩
        · exact Or.inl ⟨hi, by simpa using q⟩
        · exact Or.inr ⟨hi, by simpa using q⟩
      · cases hs
    · cases hs
  · cases hs
theorem ok_sIinc {k : Nat} {n : Int} (hs : sIinc m k n len A = some Bs) (kk : ∀ B ∈ Bs, aOK w md rm h0 f r scr d m Q B) (hd : decode m.1 A.1 = .ok (.iinc k n, len)) (hl : zilen (.iinc k n) = 0 ∨ len = zilen (.iinc k n)) : aOK w md rm h0 f r scr d m Q A := by
  unfold sIinc at hs
  split at hs
  · next e he =>
    split at hs
    · next q =>
      simp only [Bool.and_eq_true] at q
      split at hs
      · next e' hp => cases hs; exact ok_iinc hd hl he q.1 q.2 (Or.inl ⟨hp, rfl⟩) (kk _ List.mem_cons_self)
      · cases hs; exact ok_iinc hd hl he q.1 q.2 (Or.inr rfl) (kk _ List.mem_cons_self)
    · cases hs
  · cases hs
theorem if_mem {b : Bool} {P : aS → Prop} {B : aS} (h : ∀ C ∈ (if b then [] else [B]), P C) : b = true ∨ P B := by
  cases b with
  | true => exact Or.inl rfl
  | false => exact Or.inr (h B List.mem_cons_self)
theorem ok_sSwL {lo : Int} {x : aE} {st : List aV} : ∀ {os : List Int} {j : Nat} {Bs : List aS}, sSwL lo x st A j os = some Bs → (∀ B ∈ Bs, aOK w md rm h0 f r scr d m Q B) → ∀ (k : Nat) (o : Int), os[k]? = some o → aNone A.2.2.2.1 .eq x (.inl (lo + ((j + k : Nat) : Int))) = true ∨ ∃ t, aTg A.1 o = some t ∧ aOK w md rm h0 f r scr d m Q (t, A.2.1, st, aBoth A.2.2.2.1 .eq x (.inl (lo + ((j + k : Nat) : Int))), A.2.2.2.2)
  | [], j, Bs, hs, kk, k, o, hk => by cases hk
  | o :: os, j, Bs, hs, kk, k, o', hk => by
    unfold sSwL at hs
    split at hs
    · cases hs
    · next Cs hC =>
      have sub : (∀ B ∈ Cs, aOK w md rm h0 f r scr d m Q B) ∧ (aNone A.2.2.2.1 .eq x (.inl (lo + (j : Int))) = true ∨ ∃ t, aTg A.1 o = some t ∧ aOK w md rm h0 f r scr d m Q (t, A.2.1, st, aBoth A.2.2.2.1 .eq x (.inl (lo + (j : Int))), A.2.2.2.2)) := by
        split at hs
        · next q => cases hs; exact ⟨kk, Or.inl q⟩
        · split at hs
          · next t ht => cases hs; exact ⟨fun B hB => kk B (List.mem_cons_of_mem _ hB), Or.inr ⟨t, ht, kk _ List.mem_cons_self⟩⟩
          · cases hs
      cases k with
      | zero => cases hk; exact sub.2
      | succ k =>
        have := ok_sSwL hC sub.1 k o' (by simpa using hk)
        have e : j + 1 + k = j + (k + 1) := by omega
        rw [e] at this
        exact this
theorem ok_sSw {df lo hi : Int} {offs : Array Int} {x : aE} {st : List aV} {p : Nat} {ls : aL} {R : List aI × aT × aU} (hs : sSw df lo hi offs x st (p, ls, .inl x :: st, R) = some Bs) (kk : ∀ B ∈ Bs, aOK w md rm h0 f r scr d m Q B) (hd : decode m.1 p = .ok (.tableswitch df lo hi offs, len)) (hl : zilen (.tableswitch df lo hi offs) = 0 ∨ len = zilen (.tableswitch df lo hi offs)) : aOK w md rm h0 f r scr d m Q (p, ls, .inl x :: st, R) := by
  obtain ⟨ρ, tr, rr⟩ := R
  unfold sSw at hs
  split at hs
  · next q =>
    simp only [Bool.and_eq_true, ile_iff] at q
    split at hs
    · next t Cs ht hC =>
      cases hs
      refine ok_sw hd hl (by omega) q.1 q.2.1 ht (if_mem (fun C hC => kk C (List.mem_append_left _ hC))) (if_mem (fun C hC => kk C (List.mem_append_right _ (List.mem_append_left _ hC)))) (fun j hj _ => ?_)
      have := ok_sSwL hC (fun B hB => kk B (List.mem_append_right _ (List.mem_append_right _ hB))) j offs[j] (by simp [hj])
      rw [Nat.zero_add] at this
      exact this
    · cases hs
  · cases hs
theorem ok_sGet {k p : Nat} {as : List Nat} {st : List aV} {ls : aL} {R : List aI × aT × aU} (hs : sGet w m k len as st (p, ls, .inr (.inl as) :: st, R) = some Bs) (kk : ∀ B ∈ Bs, aOK w md rm h0 f r scr d m Q B) (hd : decode m.1 p = .ok (.getfield k, len)) (hl : zilen (.getfield k) = 0 ∨ len = zilen (.getfield k)) : aOK w md rm h0 f r scr d m Q (p, ls, .inr (.inl as) :: st, R) := by
  obtain ⟨ρ, tr, rr⟩ := R
  unfold sGet at hs
  split at hs
  · next ci fl hz =>
    split at hs
    · next q =>
      split at hs
      · next q3 =>
        split at hs
        · next bs hb => cases hs; exact ok_getR hd hl hz q q3 hb (kk _ List.mem_cons_self)
        · cases hs
      · next q3 => cases hs; exact ok_getI hd hl hz q (Bool.eq_false_iff.mpr q3) (kk _ List.mem_cons_self)
    · cases hs
  · cases hs
theorem ok_sPutI {k p : Nat} {e : aE} {as : List Nat} {st : List aV} {ls : aL} {R : List aI × aT × aU} (hs : sPutI w md m k len e as st (p, ls, .inl e :: .inr (.inl as) :: st, R) = some Bs) (kk : ∀ B ∈ Bs, aOK w md rm h0 f r scr d m Q B) (hd : decode m.1 p = .ok (.putfield k, len)) (hl : zilen (.putfield k) = 0 ∨ len = zilen (.putfield k)) : aOK w md rm h0 f r scr d m Q (p, ls, .inl e :: .inr (.inl as) :: st, R) := by
  obtain ⟨ρ, tr, rr⟩ := R
  unfold sPutI at hs
  split at hs
  · next ci fl hz =>
    split at hs
    · next q =>
      simp only [Bool.and_eq_true, Bool.not_eq_true'] at q
      split at hs
      · next tr' hw => cases hs; exact ok_putI hd hl hz q.1 q.2.1 q.2.2 hw (kk _ List.mem_cons_self)
      · cases hs
    · cases hs
  · cases hs
theorem ok_sPutR {k p a b : Nat} {st : List aV} {ls : aL} {R : List aI × aT × aU} (hs : sPutR w rm m k len b a st (p, ls, .inr (.inl [b]) :: .inr (.inl [a]) :: st, R) = some Bs) (kk : ∀ B ∈ Bs, aOK w md rm h0 f r scr d m Q B) (hd : decode m.1 p = .ok (.putfield k, len)) (hl : zilen (.putfield k) = 0 ∨ len = zilen (.putfield k)) : aOK w md rm h0 f r scr d m Q (p, ls, .inr (.inl [b]) :: .inr (.inl [a]) :: st, R) := by
  obtain ⟨ρ, tr, rr⟩ := R
  unfold sPutR at hs
  split at hs
  · next ci fl hz =>
    split at hs
    · next q =>
      simp only [Bool.and_eq_true, Bool.not_eq_true'] at q
      cases hs
      exact ok_putR hd hl hz q.1 q.2.1 q.2.2.1 q.2.2.2.1 q.2.2.2.2 (kk _ List.mem_cons_self)
    · cases hs
  · cases hs
theorem ok_sInv {lk : aLk} {kds : Nat → Bool} {k : Nat} (hs : sInv w md rm D lk kds k A = some Bs) (kk : ∀ B ∈ Bs, aOK w md rm h0 f r scr d m Q B) (hlk : ∀ q ∈ lk, zmth m.2.1 q.1 = some (q.2.1, q.2.2.1, q.2.2.2.1) ∧ aSpec w q.2.2.2) (hDd : D ≤ d) (hi : ∀ kd, kds kd = true → (i = .invokevirtual k ∧ kd = 0) ∨ (i = .invokestatic k ∧ (kd = 1 ∨ kd = 3)) ∨ (i = .invokespecial k ∧ (kd = 2 ∨ kd = 4))) (hd : decode m.1 A.1 = .ok (i, 3)) : aOK w md rm h0 f r scr d m Q A := by
  unfold sInv at hs
  split at hs
  · next q hq =>
    cases hs
    have hm := List.mem_of_find?_eq_some hq
    have hp := List.find?_some hq
    simp only [Bool.and_eq_true, Nat.beq_eq, Nat.blt_eq] at hp
    obtain ⟨p1, p2, p3, p4⟩ := hp
    obtain ⟨l1, l2⟩ := hlk q hm
    rw [p1] at l1
    obtain ⟨pc, ls, st, ρ, tr, rr⟩ := A
    refine ok_call (hi _ p2) hd l1 l2 p3 hDd p4 (fun p hp => ?_)
    by_cases hde : aDead (aAft (pc + 3) ls (st.drop q.2.2.1) ρ tr rr (st.take q.2.2.1).reverse q.2.2.2 p).2.2.2.1 = true
    · exact Or.inl hde
    · exact Or.inr (kk _ (List.mem_filter.mpr ⟨List.mem_map.mpr ⟨p, hp, rfl⟩, by simpa using hde⟩))
  · cases hs
theorem ok_sPrim {k : Nat} (hs : sPrim w md m D k A = some Bs) (kk : ∀ B ∈ Bs, aOK w md rm h0 f r scr d m Q B) (hDd : D ≤ d) (hd : decode m.1 A.1 = .ok (.invokestatic k, 3)) : aOK w md rm h0 f r scr d m Q A := by
  obtain ⟨pc, ls, st, ρ, tr, rr⟩ := A
  unfold sPrim at hs
  split at hs
  · next kd na cm hz =>
    split at hs
    · next hD =>
      have hd0 : 0 < d := by
        have : 0 < D := by simpa [Nat.blt_eq] using hD
        omega
      split at hs
      · next y x st' e =>
        dsimp only at e
        subst e
        split at hs
        · next q =>
          simp only [Bool.and_eq_true, Bool.or_eq_true, Nat.beq_eq] at q
          cases hs
          exact ok_mm q.1 hd hz hd0 q.2 (kk _ List.mem_cons_self)
        · split at hs
          · next q =>
            simp only [Bool.and_eq_true, Nat.beq_eq] at q
            cases hs
            rw [q.1] at hz
            exact ok_abs hd hz hd0 q.2 (kk _ List.mem_cons_self)
          · split at hs
            · next n as bs st'' _ _ =>
              split at hs
              · next q =>
                simp only [Bool.and_eq_true, Nat.beq_eq] at q
                obtain ⟨q1, q2, q3, q4, q5, q6⟩ := q
                rw [q1] at hz
                split at hs
                · next tr' hw => cases hs; exact ok_copy (n := n) hd hz hd0 q2 q3 q5 q6 q4 hw (kk _ List.mem_cons_self)
                · cases hs
              · cases hs
            · cases hs
      · next y st' _ e =>
        dsimp only at e
        subst e
        split at hs
        · next q =>
          simp only [Bool.and_eq_true, Nat.beq_eq] at q
          cases hs
          rw [q.1] at hz
          exact ok_abs hd hz hd0 q.2 (kk _ List.mem_cons_self)
        · cases hs
      · cases hs
    · cases hs
  · cases hs
theorem ok_sAri (hs : sAri i len A = some Bs) (kk : ∀ B ∈ Bs, aOK w md rm h0 f r scr d m Q B) (hi : aIsA i = true) (hd : decode m.1 A.1 = .ok (i, len)) (hl : zilen i = 0 ∨ len = zilen i) : aOK w md rm h0 f r scr d m Q A := by
  obtain ⟨pc, ls, st, ρ, tr, rr⟩ := A
  unfold sAri at hs
  split at hs
  · next y st' e =>
    dsimp only at e
    subst e
    split at hs
    · next C hC => cases hs; exact ok_un hi hd hl hC (kk _ List.mem_cons_self)
    · split at hs
      · next x st'' =>
        split at hs
        · next q hq => cases hs; exact ok_bin hi hd hl hq (kk _ List.mem_cons_self)
        · cases hs
      · cases hs
  · cases hs
end A12
