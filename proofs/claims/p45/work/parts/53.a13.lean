/-! the step of any instruction; ends; sums that fall -/
def aKx (a : aV) (k : Nat) : Nat := if aIsL a then k + 1 else k
def aSetL (ls : aL) (k : Nat) (a : aV) : aL := if aIsL a then aSet2 ls k a else aSet1 ls k a
def aStp (w : aWd) (md rm : aMd) (m : zM) (D : Nat) (lk : aLk) (i : Instr) (len : Nat) (A : aS) : Option (List aS) := match i with
  | .iconst n => sCon (aFt n) n len A
  | .bipush n => sCon (ile (-128) n && ile n 127) n len A
  | .sipush n => sCon (ile (-32768) n && ile n 32767) n len A
  | .lconst _ => some [(A.1 + len, A.2.1, .inr (.inr false) :: A.2.2.1, A.2.2.2)]
  | .ldc k => sLdc m 1 k len A
  | .ldc_w k => sLdc m 1 k len A
  | .ldc2_w k => sLdc m 2 k len A
  | .iinc k n => sIinc m k n len A
  | .goto off => (match aTg A.1 off with
    | some t => some [(t, A.2)]
    | none => none)
  | .ifCond cd off => (match A.2.2.1 with
    | .inl x :: st => sIf cd off len x (.inl 0) st A
    | _ => none)
  | .if_icmp cd off => (match A.2.2.1 with
    | .inl y :: .inl x :: st => sIf cd off len x y st A
    | _ => none)
  | .tableswitch df lo hi offs => (match A.2.2.1 with
    | .inl x :: st => sSw df lo hi offs x st A
    | _ => none)
  | .getfield k => (match A.2.2.1 with
    | .inr (.inl as) :: st => sGet w m k len as st A
    | _ => none)
  | .putfield k => (match A.2.2.1 with
    | .inl e :: .inr (.inl as) :: st => sPutI w md m k len e as st A
    | .inr (.inl [b]) :: .inr (.inl [a]) :: st => sPutR w rm m k len b a st A
    | _ => none)
  | .getstatic k => if Nat.beq k zgsk && Nat.beq m.2.1 6 then some [(A.1 + len, A.2.1, .inr (.inl [1000001]) :: A.2.2.1, A.2.2.2)] else none
  | .iaload => (match A.2.2.1 with
    | .inl e :: .inr (.inl [1000001]) :: st => if aLe (aset A.2.2.2.1 e) [(0, 3, 1)] then some [(A.1 + len, A.2.1, .inl (.inr (A.2.2.2.1.length, 0)) :: st, A.2.2.2.1 ++ [aTop], A.2.2.2.2)] else none
    | .inl e :: .inr (.inl as) :: st => if aBnd w as (fun k => Nat.beq k 14) (aset A.2.2.2.1 e) then some [(A.1 + len, A.2.1, .inl (aLdI w A.2.2.2.1 A.2.2.2.2.1 as (aset A.2.2.2.1 e)).1 :: st, (aLdI w A.2.2.2.1 A.2.2.2.2.1 as (aset A.2.2.2.1 e)).2.1, (aLdI w A.2.2.2.1 A.2.2.2.2.1 as (aset A.2.2.2.1 e)).2.2, A.2.2.2.2.2)] else none
    | _ => none)
  | .baload => (match A.2.2.1 with
    | .inl e :: .inr (.inl as) :: st => if aBnd w as (fun k => Nat.beq k 13) (aset A.2.2.2.1 e) then some [(A.1 + len, A.2.1, .inl (aLdI w A.2.2.2.1 A.2.2.2.2.1 as (aset A.2.2.2.1 e)).1 :: st, (aLdI w A.2.2.2.1 A.2.2.2.2.1 as (aset A.2.2.2.1 e)).2.1, (aLdI w A.2.2.2.1 A.2.2.2.2.1 as (aset A.2.2.2.1 e)).2.2, A.2.2.2.2.2)] else none
    | _ => none)
  | .laload => (match A.2.2.1 with
    | .inl e :: .inr (.inl as) :: st => if aBnd w as (fun k => Nat.beq k 15) (aset A.2.2.2.1 e) then some [(A.1 + len, A.2.1, .inr (.inr false) :: st, A.2.2.2)] else none
    | _ => none)
  | .aaload => (match A.2.2.1 with
    | .inl e :: .inr (.inl as) :: st => if aBnd w as (fun k => Nat.ble 16 k && Nat.ble k 20) (aset A.2.2.2.1 e) then (match aLdR w A.2.2.2.2.2 as (aset A.2.2.2.1 e) with
      | some bs => some [(A.1 + len, A.2.1, .inr (.inl bs) :: st, A.2.2.2)]
      | none => none) else none
    | _ => none)
  | .iastore => (match A.2.2.1 with
    | .inl e :: .inl j :: .inr (.inl as) :: st => if aBnd w as (fun k => Nat.beq k 14) (aset A.2.2.2.1 j) then (match aWr w md A.2.2.2.1 A.2.2.2.2.1 as (aset A.2.2.2.1 j) e with
      | some tr => some [(A.1 + len, A.2.1, st, A.2.2.2.1, tr, A.2.2.2.2.2)]
      | none => none) else none
    | _ => none)
  | .bastore => (match A.2.2.1 with
    | .inl _ :: .inl j :: .inr (.inl as) :: st => if aBnd w as (fun k => Nat.beq k 13) (aset A.2.2.2.1 j) then (match aWr w md (A.2.2.2.1 ++ [aR1 (-128) 127]) A.2.2.2.2.1 as (aset A.2.2.2.1 j) (.inr (A.2.2.2.1.length, 0)) with
      | some tr => some [(A.1 + len, A.2.1, st, A.2.2.2.1 ++ [aR1 (-128) 127], tr, A.2.2.2.2.2)]
      | none => none) else none
    | _ => none)
  | .lastore => (match A.2.2.1 with
    | .inr (.inr _) :: .inl j :: .inr (.inl as) :: st => if aBnd w as (fun k => Nat.beq k 15) (aset A.2.2.2.1 j) then some [(A.1 + len, A.2.1, st, A.2.2.2)] else none
    | _ => none)
  | .arraylength => (match A.2.2.1 with
    | .inr (.inl (a :: as)) :: st => (match w.1 a with
      | some q => if (a :: as).all (fun a => match w.1 a with
          | some p => Nat.ble 13 p.1 && Nat.beq p.2 q.2
          | none => false) && Nat.blt q.2 2147483648 then some [(A.1 + len, A.2.1, .inl (.inl (q.2 : Int)) :: st, A.2.2.2)] else none
      | none => none)
    | _ => none)
  | .dup => (match A.2.2.1 with
    | a :: st => if aIsL a then none else some [(A.1 + len, A.2.1, a :: a :: st, A.2.2.2)]
    | _ => none)
  | .dup2 => (match A.2.2.1 with
    | a :: b :: st => if aIsL a || aIsL b then none else some [(A.1 + len, A.2.1, a :: b :: a :: b :: st, A.2.2.2)]
    | _ => none)
  | .pop => (match A.2.2.1 with
    | a :: st => if aIsL a then none else some [(A.1 + len, A.2.1, st, A.2.2.2)]
    | _ => none)
  | .pop2 => (match A.2.2.1 with
    | a :: st => if aIsL a then some [(A.1 + len, A.2.1, st, A.2.2.2)] else none
    | _ => none)
  | .lshl => (match A.2.2.1 with
    | .inl _ :: .inr (.inr _) :: st => some [(A.1 + len, A.2.1, .inr (.inr false) :: st, A.2.2.2)]
    | _ => none)
  | .i2l => (match A.2.2.1 with
    | .inl _ :: st => some [(A.1 + len, A.2.1, .inr (.inr false) :: st, A.2.2.2)]
    | _ => none)
  | .lor => (match A.2.2.1 with
    | .inr (.inr _) :: .inr (.inr _) :: st => some [(A.1 + len, A.2.1, .inr (.inr false) :: st, A.2.2.2)]
    | _ => none)
  | .lcmp => (match A.2.2.1 with
    | .inr (.inr _) :: .inr (.inr _) :: st => some [(A.1 + len, A.2.1, .inl (aNew A.2.2.2.1 (aR1 (-1) 1)).1 :: st, (aNew A.2.2.2.1 (aR1 (-1) 1)).2, A.2.2.2.2)]
    | _ => none)
  | .invokevirtual k => if Nat.beq len 3 then sInv w md rm D lk (fun kd => Nat.beq kd 0) k A else none
  | .invokespecial k => if Nat.beq len 3 then sInv w md rm D lk (fun kd => Nat.beq kd 2 || Nat.beq kd 4) k A else none
  | .invokestatic k => if Nat.beq len 3 then (match sInv w md rm D lk (fun kd => Nat.beq kd 1 || Nat.beq kd 3) k A with
    | some Bs => some Bs
    | none => sPrim w md m D k A) else none
  | i => (match aLoadOf i with
    | some q => (match aGet A.2.1 q.2.1 with
      | some a => if aSort q.1 a then some [(A.1 + len, A.2.1, a :: A.2.2.1, A.2.2.2)] else none
      | none => none)
    | none => (match aStoreOf i with
      | some q => (match A.2.2.1 with
        | a :: st => if aSort q.1 a && Nat.blt (aKx a q.2.1) m.2.2.1 then some [(A.1 + len, aSetL A.2.1 q.2.1 a, st, A.2.2.2)] else none
        | _ => none)
      | none => if aIsA i then sAri i len A else none))
section A13
variable {w : aWd} {md rm : aMd} {h0 : zH} {f : aLf} {r : List Int}
variable {scr : Option (Nat × (Nat → Int32))} {d D : Nat} {m : zM} {Q : Option zV → zH → Prop} {len : Nat} {i : Instr} {A : aS} {Bs : List aS} {lk : aLk}
theorem ok_sIf {cd : ClassFile.Cond} {off : Int} {x y : aE} {st : List aV} {p : Nat} {ls : aL} {stf : List aV} {R : List aI × aT × aU} (hs : sIf cd off len x y st (p, ls, stf, R) = some Bs) (kk : ∀ B ∈ Bs, aOK w md rm h0 f r scr d m Q B)
    (fin : ∀ t, aTg p off = some t → (aNone R.1 cd x y = true ∨ aOK w md rm h0 f r scr d m Q (t, ls, st, aBoth R.1 cd x y, R.2)) → (aNone R.1 (aNo cd) x y = true ∨ aOK w md rm h0 f r scr d m Q (p + len, ls, st, aBoth R.1 (aNo cd) x y, R.2)) → aOK w md rm h0 f r scr d m Q (p, ls, stf, R)) : aOK w md rm h0 f r scr d m Q (p, ls, stf, R) := by
  unfold sIf at hs
  split at hs
  · next t ht =>
    cases hs
    exact fin t ht (if_mem (fun C hC => kk C (List.mem_append_left _ hC))) (if_mem (fun C hC => kk C (List.mem_append_right _ hC)))
  · cases hs
set_option maxHeartbeats 4000000 in
theorem aStp_ok (hs : aStp w md rm m D lk i len A = some Bs) (kk : ∀ B ∈ Bs, aOK w md rm h0 f r scr d m Q B) (hlk : ∀ q ∈ lk, zmth m.2.1 q.1 = some (q.2.1, q.2.2.1, q.2.2.2.1) ∧ aSpec w q.2.2.2) (hDd : D ≤ d) (hd : decode m.1 A.1 = .ok (i, len)) (hl : zilen i = 0 ∨ len = zilen i) : aOK w md rm h0 f r scr d m Q A := by
  obtain ⟨pc, ls, st0, ρ, tr, rr⟩ := A
  unfold aStp at hs
  dsimp only at hs hd
  split at hs
  · next n => exact ok_sCon hs kk hd hl (fun q => ofInt_ft q) (fun _ _ _ _ => rfl)
  · next n => exact ok_sCon hs kk hd hl (fun q => by simp only [Bool.and_eq_true, ile_iff] at q; exact ofInt8_ft q.1 q.2) (fun _ _ _ _ => rfl)
  · next n => exact ok_sCon hs kk hd hl (fun q => by simp only [Bool.and_eq_true, ile_iff] at q; exact ofInt16_ft q.1 q.2) (fun _ _ _ _ => rfl)
  · next n => cases hs; exact ok_push (a := .inr (.inr false)) hd hl (fun σ lc sc h hc => ⟨.inr (.inl (Int64.ofNat (n : Nat))), ⟨_, rfl, nofun⟩, fun call => rfl⟩) (kk _ List.mem_cons_self)
  · next k => exact ok_sLdc hs kk (Or.inl ⟨rfl, Or.inl rfl⟩) hd hl
  · next k => exact ok_sLdc hs kk (Or.inl ⟨rfl, Or.inr rfl⟩) hd hl
  · next k => exact ok_sLdc hs kk (Or.inr ⟨rfl, rfl⟩) hd hl
  · next k n => exact ok_sIinc hs kk hd hl
  · next off =>
    split at hs
    · next t ht => cases hs; exact ok_goto hd hl ht (kk _ List.mem_cons_self)
    · cases hs
  · next cd off =>
    split at hs
    · next x st => exact ok_sIf hs kk (fun t ht k1 k2 => ok_if hd hl ht k1 k2)
    · cases hs
  · next cd off =>
    split at hs
    · next y x st => exact ok_sIf hs kk (fun t ht k1 k2 => ok_icmp hd hl ht k1 k2)
    · cases hs
  · next df lo hi offs =>
    split at hs
    · next x st => exact ok_sSw hs kk hd hl
    · cases hs
  · next k =>
    split at hs
    · next as st => exact ok_sGet hs kk hd hl
    · cases hs
  · next k =>
    split at hs
    · next e as st => exact ok_sPutI hs kk hd hl
    · next b a st => exact ok_sPutR hs kk hd hl
    · cases hs
  · next k =>
    split at hs
    · next q =>
      simp only [Bool.and_eq_true, Nat.beq_eq] at q
      obtain ⟨q1, q2⟩ := q
      subst q1
      cases hs
      exact ok_getst hd hl q2 (kk _ List.mem_cons_self)
    · cases hs
  · split at hs
    · next e st =>
      split at hs
      · next q => cases hs; exact ok_carry hd hl q (kk _ List.mem_cons_self)
      · cases hs
    · next e as st _ =>
      split at hs
      · next q => cases hs; exact ok_ald (Or.inl ⟨rfl, rfl⟩) hd hl q (kk _ List.mem_cons_self)
      · cases hs
    · cases hs
  · split at hs
    · next e as st =>
      split at hs
      · next q => cases hs; exact ok_ald (Or.inr ⟨rfl, rfl⟩) hd hl q (kk _ List.mem_cons_self)
      · cases hs
    · cases hs
  · split at hs
    · next e as st =>
      split at hs
      · next q => cases hs; exact ok_laload hd hl q (kk _ List.mem_cons_self)
      · cases hs
    · cases hs
  · split at hs
    · next e as st =>
      split at hs
      · next q =>
        split at hs
        · next bs hb => cases hs; exact ok_aald hd hl q hb (kk _ List.mem_cons_self)
        · cases hs
      · cases hs
    · cases hs
  · split at hs
    · next e j as st =>
      split at hs
      · next q =>
        split at hs
        · next tr' hw => cases hs; exact ok_ast hd hl q hw (kk _ List.mem_cons_self)
        · cases hs
      · cases hs
    · cases hs
  · split at hs
    · next e j as st =>
      split at hs
      · next q =>
        split at hs
        · next tr' hw => cases hs; exact ok_bast hd hl q hw (kk _ List.mem_cons_self)
        · cases hs
      · cases hs
    · cases hs
  · split at hs
    · next u j as st =>
      split at hs
      · next q => cases hs; exact ok_lastore hd hl q (kk _ List.mem_cons_self)
      · cases hs
    · cases hs
  · split at hs
    · next a as st =>
      split at hs
      · next q hq =>
        split at hs
        · next z =>
          simp only [Bool.and_eq_true] at z
          cases hs
          exact ok_alen hd hl z.1 z.2 (kk _ List.mem_cons_self)
        · cases hs
      · cases hs
    · cases hs
  · split at hs
    · next a st =>
      split at hs
      · cases hs
      · next q => cases hs; exact ok_dup hd hl (Bool.eq_false_iff.mpr q) (kk _ List.mem_cons_self)
    · cases hs
  · split at hs
    · next a b st =>
      split at hs
      · cases hs
      · next q =>
        simp only [Bool.or_eq_true, not_or] at q
        cases hs
        exact ok_dup2 hd hl (Bool.eq_false_iff.mpr q.1) (Bool.eq_false_iff.mpr q.2) (kk _ List.mem_cons_self)
    · cases hs
  · split at hs
    · next a st =>
      split at hs
      · cases hs
      · next q => cases hs; exact ok_pop (Or.inl ⟨rfl, Bool.eq_false_iff.mpr q⟩) hd hl (kk _ List.mem_cons_self)
    · cases hs
  · split at hs
    · next a st =>
      split at hs
      · next q => cases hs; exact ok_pop (Or.inr ⟨rfl, q⟩) hd hl (kk _ List.mem_cons_self)
      · cases hs
    · cases hs
  · split at hs
    · next x u st => cases hs; exact ok_lshl hd hl (kk _ List.mem_cons_self)
    · cases hs
  · split at hs
    · next x st => cases hs; exact ok_i2l hd hl (kk _ List.mem_cons_self)
    · cases hs
  · split at hs
    · next u v st => cases hs; exact ok_lor hd hl (kk _ List.mem_cons_self)
    · cases hs
  · split at hs
    · next u v st => cases hs; exact ok_lcmp hd hl (kk _ List.mem_cons_self)
    · cases hs
  · next k =>
    split at hs
    · next q =>
      have e : len = 3 := by simpa using q
      subst e
      exact ok_sInv hs kk hlk hDd (fun kd hk => Or.inl ⟨rfl, by simpa using hk⟩) hd
    · cases hs
  · next k =>
    split at hs
    · next q =>
      have e : len = 3 := by simpa using q
      subst e
      exact ok_sInv hs kk hlk hDd (fun kd hk => Or.inr (Or.inr ⟨rfl, by simpa using hk⟩)) hd
    · cases hs
  · next k =>
    split at hs
    · next q =>
      have e : len = 3 := by simpa using q
      subst e
      split at hs
      · next Cs hC =>
        cases hs
        exact ok_sInv hC kk hlk hDd (fun kd hk => Or.inr (Or.inl ⟨rfl, by simpa using hk⟩)) hd
      · exact ok_sPrim hs kk hDd hd
    · cases hs
  · split at hs
    · next q hq =>
      obtain ⟨q1, q2, q3⟩ := q
      split at hs
      · next a ha =>
        split at hs
        · next z => cases hs; exact ok_load hq hd hl ha z (kk _ List.mem_cons_self)
        · cases hs
      · cases hs
    · split at hs
      · next q hq =>
        obtain ⟨q1, q2, q3⟩ := q
        split at hs
        · next a st =>
          split at hs
          · next z =>
            simp only [Bool.and_eq_true] at z
            cases hs
            exact ok_store hq hd hl z.1 z.2 (kk _ List.mem_cons_self)
          · cases hs
        · cases hs
      · split at hs
        · next z => exact ok_sAri hs kk z hd hl
        · cases hs
end A13
