/-! calls -/
def zPc (B : Nat) (sp : Nat → Nat) (cA : Nat → ClassId) (D : va_G) (vs : List zV) (h : zH) : Array Value → State → Prop := va_Pc (vs.map (zcv B sp)) (fun U => zCx B sp cA D U ∧ zRel B sp cA D h U.heap)
def zQc (B : Nat) (sp : Nat → Nat) (cA : Nat → ClassId) (D : va_G) (v : Option zV) (h' : zH) : Array Value → State → Outcome → State → Prop := match v with
  | none => va_Qv (S := Unit) (fun _ => True) (fun _ t => zRel B sp cA D h' t.heap) (zAr B)
  | some (.inl x) => va_Qi (S := Unit) (fun r _ => r = x) (fun _ t => zRel B sp cA D h' t.heap) (zAr B)
  | some (.inr (.inl x)) => va_Ql (S := Unit) (fun r _ => r = x) (fun _ t => zRel B sp cA D h' t.heap) (zAr B)
  | some (.inr (.inr _)) => fun _ _ _ _ => False
def zrm (d mc ms : Nat) : Room := { frames := d + 4, cells := mc, slots := ms, locals := 60 * (d + 4) }
def zMet (l : Launch) (B : Nat) (sp : Nat → Nat) (cA : Nat → ClassId) (D : va_G) (d : Nat) (cm : zM) (vs : List zV) (h : zH) (v : Option zV) (h' : zH) : Prop :=
  Met l cm.2.2.2.2.1 (zwsM cm) (zrm d (zc h' - zc h) (zt h' - zt h)) (zPc B sp cA D vs h) (zQc B sp cA D v h') (zc h' - zc h) (zt h' - zt h) (zAr B)
theorem zPc_blind {B : Nat} {sp : Nat → Nat} {cA : Nat → ClassId} {D : va_G} {vs : List zV} {h : zH} : FrameBlind (zPc B sp cA D vs h) := by
  intro a U g mk q
  obtain ⟨q0, q1, q2⟩ := q
  exact ⟨q0, ⟨va_K.moved (u := U) (U := U.calling g mk a) (Vm.Alike.refl U.vm) q1.1, fun x hx => va_Nw.same rfl rfl (q1.2.1 x hx), fun x hx => vk_R.same rfl (q1.2.2.1 x hx), fun k h1 h2 => va_AO.moved (u := U) (U := U.calling g mk a) (Vm.Alike.refl U.vm) (q1.2.2.2.1 k h1 h2), q1.2.2.2.2.1, zSg.moved (u := U) (U := U.calling g mk a) (Vm.Alike.refl U.vm) q1.2.2.2.2.2.1, va_Nw.same rfl rfl q1.2.2.2.2.2.2⟩, q2⟩
section ZS5
variable {p : Program} {l : Launch} {e : Env} {R : Room} {s : State} {m : MethodId} {args : Array Value} {below : List Frame} {meth : Method} {c : Code} {Q : State → Prop} {B : Nat} {sp : Nat → Nat} {cA : Nat → ClassId} {D : va_G} {mi : zM} {c0 s0 : Nat}
variable {pc len : Nat} {ls : zL} {st : List zV} {h : zH}
theorem zmth_get {o k kd na : Nat} {cm : zM} (hz : zmth o k = some (kd, na, cm)) : ∃ pl pi ps pn : Nat, zmthC o (k, kd, na, cm, pl, pi, ps, pn) = true ∧ (kd < 5 → zMok cm) := by
  unfold zmth at hz
  obtain ⟨q, h1, h2⟩ := Option.map_eq_some_iff.mp hz
  have hm := zlook_mem h1
  have ho : o < 19 := zget_own hm
  have hc := List.all_eq_true.mp (zmthK o ho) _ hm
  have hM := zmM o ho _ hm
  obtain ⟨a, b, cc, d1, d2, d3, d4⟩ := q
  cases h2
  exact ⟨d1, d2, d3, d4, hc, hM⟩
/-- the words that a callee needs hold whenever the tables have been warmed -/
theorem zws_pay (hts : ∀ w ∈ zws, w.before args s = true) {cm : zM} (hM : zMok cm) : ∀ w ∈ zwsM cm, ∀ (a' : Array Value) (U : State), s.WarmedH U.vm → w.before a' U = true := by
  intro w hw a' U hW
  have hw' : w ∈ zws := by
    rcases List.mem_cons.mp hw with rfl | q
    · exact hM.1
    · exact q
  exact word_at hW (zws_good w hw') (hts w hw')
theorem zs_after {v : Option zV} {h' : zH} {rest : List zV} {H : Heap} {locs : List Loc} {lA : Array Slot} {cells slots : Nat} {a : Array Value} {st0 : List Value} (hle1 : zc h ≤ zc h') (hle2 : zt h ≤ zt h') (h1 : c0 + cells = zc h) (h2 : s0 + slots = zt h) (hS : va_S (zAr B) s.heap H locs) (hl : lv_has lA mi.2.2.1 (zlv B sp ls))
    (hr : va_Run p l e R s m args below meth c H locs cells slots (zc h' - zc h) (zt h' - zt h) (F0 m pc lA st0) (rest.map (zcv B sp)) (zQc B sp cA D v h' a) (zAr B))
    (kk : zK p l e R s m args below meth c Q B sp cA D mi c0 s0 (pc + 3, ls, v.toList ++ rest, h')) : W p l e R s m args below meth c H locs cells slots Q (F0 m pc lA st0) := by
  match v, hr, kk with
  | none, hr, kk =>
    refine va_callv (a := a) hr hS (fun q _ h => h) (fun q h => h) (fun u t H1 locs1 ht hvm hw hB hz1 hk1 hS1 => ?_)
    exact kk H1 locs1 lA _ _ (by rw [← ht]; exact hB) hS1 hl (by show c0 + (cells + (zc h' - zc h)) = zc h'; omega) (by show s0 + (slots + (zt h' - zt h)) = zt h'; omega)
  | some (.inl x), hr, kk =>
    refine va_calli (a := a) hr hS (fun q _ h => h) (fun q h => h) (fun r u t H1 locs1 ht hvm hw hB hz1 hk1 hS1 => ?_)
    have hw : r = x := hw
    subst hw
    exact kk H1 locs1 lA _ _ (by rw [← ht]; exact hB) hS1 hl (by show c0 + (cells + (zc h' - zc h)) = zc h'; omega) (by show s0 + (slots + (zt h' - zt h)) = zt h'; omega)
  | some (.inr (.inl x)), hr, kk =>
    refine va_calll (a := a) hr hS (fun q _ h => h) (fun q h => h) (fun r u t H1 locs1 ht hvm hw hB hz1 hk1 hS1 => ?_)
    have hw : r = x := hw
    subst hw
    exact kk H1 locs1 lA _ _ (by rw [← ht]; exact hB) hS1 hl (by show c0 + (cells + (zc h' - zc h)) = zc h'; omega) (by show s0 + (slots + (zt h' - zt h)) = zt h'; omega)
  | some (.inr (.inr r)), hr, kk =>
    intro T hT X
    obtain ⟨v, st₀, t, T', L, h0, X', hL, e1, e2, hq, st⟩ := hr T hT X
    exact hq.elim
theorem zs_call {k kd na d' : Nat} {cm : zM} {i : Instr} {v : Option zV} {h' : zH} {g : zC} (cx : zX p s m args meth c B sp cA D mi) (hd : decode mi.1 pc = .ok (i, 3)) (hi : (i = .invokevirtual k ∧ kd = 0) ∨ (i = .invokestatic k ∧ (kd = 1 ∨ kd = 3)) ∨ (i = .invokespecial k ∧ (kd = 2 ∨ kd = 4))) (hz : zmth mi.2.1 k = some (kd, na, cm))
    (call : zM → List zV → zH → Option zR) (hc : zcall call cm kd na pc ls st h = some (.inl g)) (hcall : ∀ vs v h', call cm vs h = some (v, h') → zMet l B sp cA D d' cm vs h v h' ∧ zc h ≤ zc h' ∧ zt h ≤ zt h')
    (hr1 : zc g.2.2.2 ≤ c0 + R.cells) (hr2 : zt g.2.2.2 ≤ s0 + R.slots) (hf : d' + 5 ≤ R.frames) (hlo : 60 * (d' + 5) ≤ R.locals)
    (kk : zK p l e R s m args below meth c Q B sp cA D mi c0 s0 g) : zK p l e R s m args below meth c Q B sp cA D mi c0 s0 (pc, ls, st, h) := by
  intro H locs lA cells slots hR hS hl h1 h2
  dsimp only at h1 h2 hl hR
  obtain ⟨hx, hb, hml, hown, hts, hin, hC⟩ := cx
  obtain ⟨pl, pi, ps, pn, hcc, hMk⟩ := zmth_get hz
  have hkd : kd < 5 := by rcases hi with ⟨-, q⟩ | ⟨-, q | q⟩ | ⟨-, q | q⟩ <;> omega
  have hM := hMk hkd
  unfold zcall at hc
  split at hc
  · next hlen =>
    obtain ⟨hna, hwd⟩ := hlen
    have hst : st = (st.take na).reverse.reverse ++ st.drop na := by rw [List.reverse_reverse, List.take_append_drop]
    have hvl : (st.take na).reverse.length = na := by simp; omega
    generalize hvs : (st.take na).reverse = vs at hc hst hvl
    generalize hrs : st.drop na = rest at hc hst hwd
    have hBody : ∀ U : State, U.heap = H → s.WarmedH U.vm → zPc B sp cA D vs h (vs.map (zcv B sp)).toArray U := fun U hU hW => ⟨rfl, hC.warm hW (by rw [hU]; exact Nat.le_trans hC.2.2.2.2.1 hS.1) (fun a h1 h2 => by rw [hU]; exact hS.2.1 a h1 h2), by rw [hU]; exact hR⟩
    have hroom : 2 * (F0 m pc lA (st.map (zcv B sp))).monitorRoom + ((rest.map (zcv B sp)).map fun v => v.category).sum ≤ 8 := by
      show 2 * 0 + _ ≤ 8
      rw [zwd_cv]
      omega
    have hB : ∀ {mc ms n : Nat} {rm : Room}, rm.cells = mc → rm.slots = ms → rm.frames = d' + 4 → rm.locals = 60 * (d' + 4) → (Cond.methodLink (zRn mi.2.1) k cm.2.2.2.2.1).before args s = true → (Cond.initialized cm.2.2.2.2.1.cls).before args s = true → (parseMethodDescriptor cm.2.2.2.2.1.desc).map (fun d => d.parameters.length) = some n →
        CallB R s args (zRn mi.2.1) k cm.2.2.2.2.1 cm.1 cm.2.2.1 cm.2.2.2.1 (zwsM cm) rm mc ms n := by
      intro mc ms n rm e1 e2 e3 e4 hl hini hp
      refine ⟨e1, e2, by omega, by have := hM.2.2.2.2.1; omega, zws_pay hts hM, List.mem_cons_self, hts _ hM.1, hini, hM.2.2.2.1, fun sig hs => ?_, hl⟩
      rw [hs] at hp
      exact (Option.some.inj hp).symm
    have hN : ∀ {mc ms n : Nat} {rm : Room} {host : String}, rm.cells = mc → rm.slots = ms → rm.frames = d' + 4 → rm.locals = 60 * (d' + 4) → (Cond.methodLinkNest (zRn mi.2.1) k cm.2.2.2.2.1 host).before args s = true → (Cond.initialized cm.2.2.2.2.1.cls).before args s = true → (parseMethodDescriptor cm.2.2.2.2.1.desc).map (fun d => d.parameters.length) = some n →
        va_CN R s args (zRn mi.2.1) k cm.2.2.2.2.1 host cm.1 cm.2.2.1 cm.2.2.2.1 (zwsM cm) rm mc ms n := by
      intro mc ms n rm host e1 e2 e3 e4 hl hini hp
      refine ⟨⟨e1, e2, by omega, by have := hM.2.2.2.2.1; omega, zws_pay hts hM, List.mem_cons_self⟩, hts _ hM.1, hini, hM.2.2.2.1, fun sig hs => ?_, hl⟩
      rw [hs] at hp
      exact (Option.some.inj hp).symm
    have hFix : CallFix p m c mi.1 mi.2.2.1 s args zws (zRn mi.2.1) := ⟨hx, hb, hml, hown, hts⟩
    have one : ∀ {x : Nat}, (parseMethodDescriptor cm.2.2.2.2.1.desc).map (fun d => d.parameters.length + 1) = some (x + 1) → (parseMethodDescriptor cm.2.2.2.2.1.desc).map (fun d => d.parameters.length) = some x := by
      intro x hx
      cases hpd : parseMethodDescriptor cm.2.2.2.2.1.desc with
      | none => rw [hpd] at hx; cases hx
      | some sig => rw [hpd] at hx; simp only [Option.map_some, Option.some.injEq] at hx ⊢; omega
    rcases hi with ⟨rfl, rfl⟩ | ⟨rfl, hk⟩ | ⟨rfl, hk⟩
    · -- virtual
      rw [if_neg (by decide)] at hc
      split at hc
      · next a vt =>
        split at hc
        · next k2 n2 hq =>
          split at hc
          · next hk2 =>
            obtain ⟨rfl, hci⟩ := hk2
            split at hc
            · next r h'' hcl =>
              cases hc
              obtain ⟨hMet, hle1, hle2⟩ := hcall _ _ _ hcl
              dsimp only at hr1 hr2
              simp only [zmthC, Bool.and_eq_true, decide_eq_true_eq] at hcc
              obtain ⟨⟨⟨⟨⟨⟨⟨⟨w1, g1⟩, w2⟩, g2⟩, w3⟩, g3⟩, w4⟩, g4⟩, w5⟩ := hcc
              have hlv : vt.length + 1 = na := by simpa using hvl
              rw [← hlv] at w5
              have hWq := zW_get (B := B) (sp := sp) (cA := cA) hq
              rw [zE_obj hci] at hWq
              refine zs_after (rest := rest) (a := (Value.ref (B + a) :: vt.map (zcv B sp)).toArray) hle1 hle2 h1 h2 hS hl ?_ kk
              exact va_runV (C := zRn cm.2.1) (b := B + a) (As := vt.map (zcv B sp)) (rest := rest.map (zcv B sp)) (g := F0 m pc lA (st.map (zcv B sp))) (n := vt.length) hFix hMet ⟨hB rfl rfl rfl rfl (hts _ (zws_in w1 g1)) (hts _ (zws_in w4 g4)) (one w5), hts _ (zws_in w2 g2), hts _ (zws_in w3 g3)⟩
                ⟨zPc_blind, va_recv hC.1 hR.1 (zcl_cl hci) hWq, fun U hU hW => by
                  have := hBody U hU hW
                  rw [List.map_cons, zcv_ref (zok_lt hR.2.1 hq)] at this
                  exact this⟩ rfl (by simp) hl.1 (by
                  show st.map (zcv B sp) = _
                  rw [hst]
                  simp [zcv_ref (zok_lt hR.2.1 hq)]) hroom hd ⟨by omega, by omega⟩
            · cases hc
          · cases hc
        · cases hc
      · cases hc
    · -- static
      rw [if_pos hk] at hc
      split at hc
      · next r h'' hcl =>
        cases hc
        obtain ⟨hMet, hle1, hle2⟩ := hcall _ _ _ hcl
        dsimp only at hr1 hr2
        refine zs_after (rest := rest) (a := (vs.map (zcv B sp)).toArray) hle1 hle2 h1 h2 hS hl ?_ kk
        have hstk : (F0 m pc lA (st.map (zcv B sp))).stack = (vs.map (zcv B sp)).reverse ++ rest.map (zcv B sp) := by
          show st.map (zcv B sp) = _
          rw [hst]
          simp
        rcases hk with rfl | rfl
        · simp only [zmthC, Bool.and_eq_true, decide_eq_true_eq] at hcc
          obtain ⟨⟨⟨⟨⟨⟨w1, g1⟩, w2⟩, g2⟩, w4⟩, g4⟩, w5⟩ := hcc
          exact va_runS (As := vs.map (zcv B sp)) (rest := rest.map (zcv B sp)) (g := F0 m pc lA (st.map (zcv B sp))) (n := na) hFix hMet ⟨hB rfl rfl rfl rfl (hts _ (zws_in w1 g1)) (hts _ (zws_in w4 g4)) w5, hts _ (zws_in w2 g2)⟩
            ⟨zPc_blind, hBody⟩ rfl (by simp; exact hvl) hl.1 hstk hroom hd ⟨by omega, by omega⟩
        · simp only [zmthC, Bool.and_eq_true, decide_eq_true_eq, List.any_eq_true] at hcc
          obtain ⟨⟨⟨⟨⟨⟨q, hq, ⟨e1, e2⟩, e3⟩, w2⟩, g2⟩, w4⟩, g4⟩, w5⟩ := hcc
          have hnw := va_Nw.use (A := args) rfl (hC.2.1 q hq)
          rw [e1, e2, e3] at hnw
          exact va_runSN (As := vs.map (zcv B sp)) (rest := rest.map (zcv B sp)) (g := F0 m pc lA (st.map (zcv B sp))) (n := na) hFix hMet ⟨hN rfl rfl rfl rfl hnw (hts _ (zws_in w4 g4)) w5, hts _ (zws_in w2 g2), trivial⟩
            ⟨zPc_blind, hBody⟩ rfl (by simp; exact hvl) hl.1 hstk hroom hd ⟨by omega, by omega⟩
      · cases hc
    · -- constructors
      rw [if_neg (by rcases hk with rfl | rfl <;> decide)] at hc
      split at hc
      · next a vt =>
        split at hc
        · next k2 n2 hq =>
          split at hc
          · next hk2 =>
            obtain ⟨rfl, hci⟩ := hk2
            split at hc
            · next r h'' hcl =>
              cases hc
              obtain ⟨hMet, hle1, hle2⟩ := hcall _ _ _ hcl
              dsimp only at hr1 hr2
              have hlv : vt.length + 1 = na := by simpa using hvl
              have hstk : (F0 m pc lA (st.map (zcv B sp))).stack = (vt.map (zcv B sp)).reverse ++ .ref (B + a) :: rest.map (zcv B sp) := by
                show st.map (zcv B sp) = _
                rw [hst]
                simp [zcv_ref (zok_lt hR.2.1 hq)]
              have hBody' : ∀ U : State, U.heap = H → s.WarmedH U.vm → zPc B sp cA D (.inr (.inr (some a)) :: vt) h (Value.ref (B + a) :: vt.map (zcv B sp)).toArray U := fun U hU hW => by
                have := hBody U hU hW
                rw [List.map_cons, zcv_ref (zok_lt hR.2.1 hq)] at this
                exact this
              refine zs_after (rest := rest) (a := (Value.ref (B + a) :: vt.map (zcv B sp)).toArray) hle1 hle2 h1 h2 hS hl ?_ kk
              rcases hk with rfl | rfl
              · simp only [zmthC, Bool.and_eq_true, decide_eq_true_eq] at hcc
                obtain ⟨⟨⟨⟨⟨⟨⟨⟨w1, g1⟩, w2⟩, g2⟩, w4⟩, g4⟩, w5⟩, w6⟩, w7⟩ := hcc
                rw [← hlv] at w5
                have hB1 := hB (mc := zc h'' - zc h) (ms := zt h'' - zt h) (rm := zrm d' (zc h'' - zc h) (zt h'' - zt h)) rfl rfl rfl rfl (hts _ (zws_in w1 g1)) (hts _ (zws_in w4 g4)) (one w5)
                rw [w7] at hB1
                exact va_runI (b := B + a) (As := vt.map (zcv B sp)) (rest := rest.map (zcv B sp)) (g := F0 m pc lA (st.map (zcv B sp))) (n := vt.length) hFix hMet ⟨hB1, w6, hts _ (zws_in w2 g2)⟩
                  ⟨zPc_blind, hBody'⟩ rfl (by simp) hl.1 hstk hroom hd ⟨by omega, by omega⟩
              · simp only [zmthC, Bool.and_eq_true, decide_eq_true_eq, List.any_eq_true] at hcc
                obtain ⟨⟨⟨⟨⟨⟨⟨⟨q, hqm, ⟨e1, e2⟩, e3⟩, w2⟩, g2⟩, w4⟩, g4⟩, w5⟩, w6⟩, w7⟩ := hcc
                have hnw := va_Nw.use (A := args) rfl (hC.2.1 q hqm)
                rw [e1, e2, e3] at hnw
                rw [← hlv] at w5
                have hN1 := hN (mc := zc h'' - zc h) (ms := zt h'' - zt h) (rm := zrm d' (zc h'' - zc h) (zt h'' - zt h)) rfl rfl rfl rfl hnw (hts _ (zws_in w4 g4)) (one w5)
                rw [w7] at hN1
                exact va_runIN (b := B + a) (As := vt.map (zcv B sp)) (rest := rest.map (zcv B sp)) (g := F0 m pc lA (st.map (zcv B sp))) (n := vt.length) hFix hMet ⟨hN1, w6, hts _ (zws_in w2 g2)⟩
                  ⟨zPc_blind, hBody'⟩ rfl (by simp) hl.1 hstk hroom hd ⟨by omega, by omega⟩
            · cases hc
          · cases hc
        · cases hc
      · cases hc
  · cases hc
end ZS5
