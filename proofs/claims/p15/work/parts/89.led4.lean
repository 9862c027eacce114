/-! the law's call of its own led -/
section ZL4
theorem zk217 {k na : Nat} {cm : zM} (hz : zmth mL_law.2.1 k = some (16, na, cm)) : k = 217 := by
  unfold zmth at hz
  obtain ⟨q, h1, h2⟩ := Option.map_eq_some_iff.mp hz
  have hm := zlook_mem h1
  have hc : (zmthTT.getD mL_law.2.1 []).all (fun q => !(decide (q.2.1 = 16)) || decide (q.1 = 217)) = true := by decide +kernel
  have h3 := List.all_eq_true.mp hc _ hm
  obtain ⟨a, b, cc, d1, d2, d3, d4⟩ := q
  cases h2
  simpa using h3
theorem zLL_pay {args : Array Value} {s : State} (hts : ∀ w ∈ zws, w.before args s = true) : ∀ w ∈ zwsLL, ∀ (a' : Array Value) (U : State), s.WarmedH U.vm → w.before a' U = true := by
  intro w hw a' U hW
  have hw' : w ∈ zws := by
    rcases List.mem_cons.mp hw with rfl | q
    · exact zLLK1.1
    · exact q
  exact word_at hW (zws_good w hw') (hts w hw')
variable {p : Program} {l : Launch} {e : Env} {R : Room} {s : State} {m : MethodId} {args : Array Value} {below : List Frame} {meth : Method} {c : Code} {Q : State → Prop} {B : Nat} {sp : Nat → Nat} {cA : Nat → ClassId} {D : va_G} {c0 s0 : Nat}
theorem zs_ledL (hlt : l.stackTraces = false) (cx : zX p s m args meth c B sp cA D mL_law) (hCL : zCxL B sp cA D s) (hRf : 1011 ≤ R.frames) (hRl : 60 * 1011 ≤ R.locals) {n k na : Nat} {cm : zM} {pc : Nat} {ls : zL} {st : List zV} {h : zH} {g : zC}
    (hz : zmth mL_law.2.1 k = some (16, na, cm)) (hd : decode mL_law.1 pc = .ok (.invokestatic k, 3)) (hc : zled (zcf n 1005) pc ls st h = some (.inl g)) (hr : zc g.2.2.2 ≤ c0 + R.cells ∧ zt g.2.2.2 ≤ s0 + R.slots)
    (kk : zK p l e R s m args below meth c Q B sp cA D mL_law c0 s0 g) : zK p l e R s m args below meth c Q B sp cA D mL_law c0 s0 (pc, ls, st, h) := by
  have hk := zk217 hz
  subst hk
  have main : ∀ (o a : Nat) (p0 : Int32) (st' : List zV) (v : Option zV) (h' : zH) (r : Int32) (h2 : zH), st = .inr (.inr (some o)) :: .inl p0 :: .inr (.inr (some a)) :: st' → zwd st' ≤ 8 → zsh h a = some (11, 16) → zsh h o = some (15, 1) → zrun n none 1004 mX11_led (0, zargs 0 [.inr (.inr (some a)), .inl p0], [], h) = some (v, h') →
      ((∃ b : Int32, v = some (.inl b) ∧ r = 0 ∧ h2 = zsL h' o 0 b.toInt64) ∨ (∃ b : Int64, v = some (.inr (.inl b)) ∧ r = 1 ∧ h2 = h')) → g = (pc + 3, ls, .inl r :: st', h2) → zK p l e R s m args below meth c Q B sp cA D mL_law c0 s0 (pc, ls, st, h) := by
    intro o a p0 st' v h' r h2 hst hwd ha ho hzr hv hg
    subst hst
    subst hg
    have hle := zrun_h _ _ _ _ _ _ _ hzr
    have hc2 : zc h2 = zc h' ∧ zt h2 = zt h' := by
      rcases hv with ⟨b, -, -, rfl⟩ | ⟨b, -, -, rfl⟩
      · exact ⟨rfl, rfl⟩
      · exact ⟨rfl, rfl⟩
    have hr1 : zc h2 ≤ c0 + R.cells := hr.1
    have hr2 : zt h2 ≤ s0 + R.slots := hr.2
    intro H locs lA cells slots hR hS hl h1 h2'
    dsimp only at hR hl h1 h2'
    have g1 : zc h ≤ zc h' := hle.1
    have g2 : zt h ≤ zt h' := hle.2
    obtain ⟨hx, hb, hml, hown, hts, -, -⟩ := cx
    have hMet := zledL_met (B := B) (sp := sp) (cA := cA) (D := D) l hlt n 1004 a o p0 h v h' r h2 (by decide) ha ho hzr hv
    have e1 : ([.inr (.inr (some a)), .inl p0, .inr (.inr (some o))] : List zV).map (zcv B sp) = [Value.ref (B + a), Value.int p0, Value.ref (B + o)] := by
      rw [List.map_cons, List.map_cons, List.map_cons, zcv_ref (zok_lt hR.2.1 ha), zcv_ref (zok_lt hR.2.1 ho)]
      rfl
    have hrun := vx_runSX (p := p) (e := e) (R := R) (s := s) (m := m) (args := args) (below := below) (meth := meth) (c := c) (H := H) (locs := locs) (cells := cells) (slots := slots) (cc := mL_law.1) (nL := mL_law.2.2.1) (Ts := zws) (own := RL) (index := 217) (As := [Value.ref (B + a), Value.int p0, Value.ref (B + o)]) (rest := st'.map (zcv B sp)) (n := 3) (bytes := cL_led) (maxL := 4) (ret := some .int) (hh := [(0, 9, 12, 13)])
      (g := F0 m pc lA ((.inr (.inr (some o)) :: .inl p0 :: .inr (.inr (some a)) :: st').map (zcv B sp)))
      ⟨hx, hb, hml, hown, hts⟩ hMet
      ⟨⟨rfl, rfl, hRf, by show 8 + (4 + 11) + 60 * (1004 + 2 + 4) ≤ R.locals; omega, zLL_pay hts, List.mem_cons_self⟩, hts _ zLLK1.1, hts _ zLLK3.2.2, by decide, zLLp3, hts _ zLLK3.1, hts _ zLLK3.2.1⟩
      ⟨zPcL_blind, fun U hU hW => ⟨by rw [e1], hCL.warm hW (by rw [hU]; exact hS.1) (fun x hx hn => by rw [hU]; exact hS.2.1 x hx hn), by rw [hU]; exact hR⟩⟩
      rfl rfl hl.1 (by
        show (.inr (.inr (some o)) :: .inl p0 :: .inr (.inr (some a)) :: st' : List zV).map (zcv B sp) = _
        rw [List.map_cons, List.map_cons, List.map_cons, zcv_ref (zok_lt hR.2.1 ha), zcv_ref (zok_lt hR.2.1 ho)]
        rfl) (by
        show 2 * 0 + _ ≤ 8
        rw [zwd_cv]
        omega) hd ⟨by omega, by omega⟩
    refine vx_calli (a := [Value.ref (B + a), Value.int p0, Value.ref (B + o)].toArray) hrun hS (fun q _ h => h) (fun q h => h) (fun q _ h => h) (fun E ce q9 u t H1 locs1 ht hvm hpx => hpx.elim) ?_
    intro r0 u t H1 locs1 ht hvm hpx hB hz1 hk1 hS1
    have hpx : r0 = r := hpx
    subst hpx
    have hB : zRel B sp cA D h2 t.heap := hB
    exact kk H1 locs1 lA _ _ (by rw [← ht]; exact hB) hS1 hl (by show c0 + (cells + (zc h' - zc h)) = zc h2; omega) (by show s0 + (slots + (zt h' - zt h)) = zt h2; omega)
  unfold zled at hc
  split at hc
  · next o p0 a st' =>
    split at hc
    · next hq =>
      obtain ⟨q1, q2, q3, q4⟩ := hq
      split at hc
      · next b h' hcl =>
        cases hc
        unfold zcf at hcl
        dsimp only at hcl
        split at hcl
        · exact main o a p0 st' _ h' 0 _ rfl q1 q2 q3 hcl (Or.inl ⟨b, rfl, rfl, rfl⟩) rfl
        · cases hcl
      · next b h' hcl =>
        cases hc
        unfold zcf at hcl
        dsimp only at hcl
        split at hcl
        · exact main o a p0 st' _ h' 1 _ rfl q1 q2 q3 hcl (Or.inr ⟨b, rfl, rfl, rfl⟩) rfl
        · cases hcl
      · cases hc
    · cases hc
  · cases hc
end ZL4
set_option maxRecDepth 20000 in
theorem zZqK : Cond.laysStatic Bundle.tN "UNASSIGNED_STACK" Bundle.steD ∈ lw_tbl ∧ Cond.laysStatic Bundle.tN "SUPPRESSED_SENTINEL" Bundle.listD ∈ lw_tbl ∧ Cond.initialized Bundle.tN ∈ lw_tbl := ⟨by decide +kernel, by decide +kernel, by decide +kernel⟩
set_option maxRecDepth 20000 in
theorem zNwK : (zAtS.filter (fun w => !goodWord w)).all (fun w => decide (w ∈ lw_tbl) && w.onTables) = true := by decide +kernel
/-- the context of led at the law's entry -/
theorem zst_cxL {s : State} {b : Nat} {sp : Nat → Nat} {cA : Nat → ClassId} {D : va_G} (hts0 : ∀ w ∈ lw_tbl, w.before #[Value.ref b] s = true) (hgv : (Jvm.Cond.and given_1 narrow_1).before #[Value.ref b] s = true) (hC : zCx s.heap.size sp cA D s) : zCxL s.heap.size sp cA D s := by
  have hs := flat_of_before _ hgv
  refine ⟨hC, fun w hw => ?_, vx_Zqof (hts0 _ zZqK.1) (hts0 _ zZqK.2.2) (hs _ (by decide +kernel)) (fun a h1 h2 => Nat.lt_irrefl _ (Nat.lt_of_lt_of_le h1 h2)), vx_Zqof (hts0 _ zZqK.2.1) (hts0 _ zZqK.2.2) (hs _ (by decide +kernel)) (fun a h1 h2 => Nat.lt_irrefl _ (Nat.lt_of_lt_of_le h1 h2))⟩
  have hc := List.all_eq_true.mp zNwK w hw
  simp only [Bool.and_eq_true, decide_eq_true_eq] at hc
  exact va_Nw.of hc.2 (hts0 w hc.1)
theorem whole_start {p : Program} {e : Env} {s : State} {m : MethodId} {below : List Frame} {meth : Method} {c : Code} (l : Launch) (hlt : l.stackTraces = false) {b L : Nat} {xs : Nat → Int32} (hL : L ≤ 3072) (C0 : lw_At p s m meth c b L xs) : W p l e room_1 s m #[Value.ref b] below meth c s.heap [] 0 0 (lw_Z below #[Value.ref b] s) (entryFrame m ([Value.ref b] : List Value).toArray 7) :=
  whole_of_led l hL C0 (fun sp cA D cx n k na cm pc ls st h g h1 h2 h3 h4 hk => zs_ledL hlt cx (zst_cxL C0.2.2.2.2.2.1 C0.2.2.2.2.2.2.2.2.2 cx.2.2.2.2.2.2) (by decide) (by decide) h1 h2 h3 h4 hk)
