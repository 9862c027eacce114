section Pk0
/-! one step -/
section ZS6
variable {p : Program} {l : Launch} {e : Env} {R : Room} {s : State} {m : MethodId} {args : Array Value} {below : List Frame} {meth : Method} {c : Code} {Q : State → Prop} {B : Nat} {sp : Nat → Nat} {cA : Nat → ClassId} {D : va_G} {mi : zM} {c0 s0 : Nat}
variable {pc len : Nat} {ls : zL} {st : List zV} {h : zH}
theorem zs_arith {i : Instr} {g : zC} (cx : zX p s m args meth c B sp cA D mi) (hd : decode mi.1 pc = .ok (i, 1)) (hz : zarith i 1 pc ls st h = some (.inl g)) (k : zK p l e R s m args below meth c Q B sp cA D mi c0 s0 g) : zK p l e R s m args below meth c Q B sp cA D mi c0 s0 (pc, ls, st, h) := by
  unfold zarith at hz
  split at hz
  · split at hz
    · next v hv => cases hz; exact zs_bin cx hd hv k
    · split at hz
      · next v hv => cases hz; exact zs_un cx hd hv k
      · cases hz
  · split at hz
    · next v hv => cases hz; exact zs_un cx hd hv k
    · cases hz
  · split at hz
    · next v hv => cases hz; exact zs_lbin cx hd hv k
    · cases hz
  · cases hz
theorem zs_prim {k kd na : Nat} {cm : zM} {i : Instr} {g : zC} (cx : zX p s m args meth c B sp cA D mi) (hd : decode mi.1 pc = .ok (i, 3)) (hi : (i = .invokespecial k ∧ kd = 10) ∨ (i = .invokestatic k ∧ kd ≠ 10)) (hz : zmth mi.2.1 k = some (kd, na, cm)) (hp : zprim true kd pc ls st h = some (.inl g))
    (hf : 1 ≤ R.frames) (hlo : 60 ≤ R.locals) (hr1 : zc h ≤ c0 + R.cells) (hr2 : zt h ≤ s0 + R.slots)
    (kk : zK p l e R s m args below meth c Q B sp cA D mi c0 s0 g) : zK p l e R s m args below meth c Q B sp cA D mi c0 s0 (pc, ls, st, h) := by
  intro H locs lA cells slots hR hS hl h1 h2
  dsimp only at h1 h2 hl hR
  obtain ⟨hx, hb, hml, hown, hts, hin, hC⟩ := cx
  obtain ⟨pl, pi, ps, pn, hcc, -⟩ := zmth_get hz
  have hsz : c.maxLocals = lA.size := by rw [hml]; exact hl.1.symm
  unfold zprim at hp
  rw [if_pos rfl] at hp
  split at hp
  · next hk =>
    subst hk
    split at hp
    · next a st' =>
      split at hp
      · next hw =>
        cases hp
        obtain ⟨rfl, -⟩ := hi.resolve_right (fun q => q.2 rfl)
        simp only [zmthC, Bool.and_eq_true, decide_eq_true_eq] at hcc
        refine W.objInit hx hb hown (hts _ (zws_in hcc.1 hcc.2)) (hts _ zobjK.1) (hts _ zobjK.2) rfl hsz.symm (a := zad B sp a) (rest := st'.map (zcv B sp)) rfl hd hf (by show 2 * 0 + _ + 12 ≤ _; rw [zwd_cv]; omega) ?_
        exact kk H locs lA cells slots hR hS hl h1 h2
      · cases hp
    · cases hp
  · next hk10 =>
    have hi' : i = .invokestatic k := by
      rcases hi with ⟨-, q⟩ | ⟨q, -⟩
      · exact absurd q hk10
      · exact q
    subst hi'
    split at hp
    · next hk =>
      subst hk
      split at hp
      · next y x st' =>
        split at hp
        · next hw =>
          cases hp
          simp only [zmthC, Bool.and_eq_true, decide_eq_true_eq] at hcc
          exact va_mmax hx hb hsz hown (hts _ (zws_in hcc.1 hcc.2)) (hts _ zmaxK.1) (hts _ zmaxK.2.1) (hts _ zmaxK.2.2) hf (by rw [zwd_cv]; omega) (by omega) (by omega) hd (kk H locs lA cells slots hR hS hl h1 h2)
        · cases hp
      · cases hp
    · split at hp
      · next hk =>
        subst hk
        split at hp
        · next y x st' =>
          split at hp
          · next hw =>
            cases hp
            simp only [zmthC, Bool.and_eq_true, decide_eq_true_eq] at hcc
            exact va_mmin hx hb hsz hown (hts _ (zws_in hcc.1 hcc.2)) (hts _ zminK.1) (hts _ zminK.2.1) (hts _ zminK.2.2) hf (by rw [zwd_cv]; omega) (by omega) (by omega) hd (kk H locs lA cells slots hR hS hl h1 h2)
          · cases hp
        · cases hp
      · split at hp
        · next hk =>
          subst hk
          split at hp
          · next x st' =>
            split at hp
            · next hw =>
              cases hp
              simp only [zmthC, Bool.and_eq_true, decide_eq_true_eq] at hcc
              exact va_mabs hx hb hsz hown (hts _ (zws_in hcc.1 hcc.2)) (hts _ zabsK.1) (hts _ zabsK.2.1) (hts _ zabsK.2.2) hf (by rw [zwd_cv]; omega) (by omega) (by omega) hd (kk H locs lA cells slots hR hS hl h1 h2)
            · cases hp
          · cases hp
        · split at hp
          · next hk =>
            subst hk
            simp only [zmthC, Bool.and_eq_true, decide_eq_true_eq] at hcc
            unfold zcopy at hp
            split at hp
            · next n dp a spp b st' =>
              split at hp
              · next k0 n0 k1 n1 hq0 hq1 =>
                split at hp
                · next hw =>
                  cases hp
                  obtain ⟨rfl, rfl, q1, q2, q3, q4, q5, q6⟩ := hw
                  show W p l e R s m args below meth c H locs cells slots Q (F0 m pc lA (.int n :: .int dp :: zcv B sp (.inr (.inr (some a))) :: .int spp :: zcv B sp (.inr (.inr (some b))) :: st'.map (zcv B sp)))
                  rw [zcv_ref (zok_lt hR.2.1 hq0), zcv_ref (zok_lt hR.2.1 hq1)]
                  refine zp_copyi hx hb hsz hown (hts _ (zws_in hcc.1 hcc.2)) (hts _ zcpyK.1) (hts _ zcpyK.2.1) (hts _ zcpyK.2.2) hC.1 hR.1 zW_D hS b a 1 1 (zW_get hq0) (zW_get hq1) rfl rfl q1 q2 q3 q4 q5 hf (by rw [zwd_cv]; omega) hd (fun H1 locs1 hz1 hP1 hS1 => ?_)
                  refine kk H1 locs1 lA cells slots ⟨?_, hR.2.1, fun q => by rw [hz1]; exact hR.2.2 q⟩ hS1 hl h1 h2
                  show va_P D vwCl (zW B sp cA (zsRow h a (va_cpy (h.2.1 b) (h.2.1 a) spp.toNatClampNeg dp.toNatClampNeg n.toNatClampNeg))) H1
                  rw [zW_set (h' := zsRow h a (va_cpy (h.2.1 b) (h.2.1 a) spp.toNatClampNeg dp.toNatClampNeg n.toNatClampNeg)) hq1 rfl (fun b hb k n => zE_sRow hb), zE_I]
                  have e : (zsRow h a (va_cpy (h.2.1 b) (h.2.1 a) spp.toNatClampNeg dp.toNatClampNeg n.toNatClampNeg)).2.1 a = va_cpy (h.2.1 b) (h.2.1 a) spp.toNatClampNeg dp.toNatClampNeg n.toNatClampNeg := by
                    funext j
                    simp [zsRow, zrow]
                  rw [e]
                  exact hP1
                · cases hp
              · cases hp
            · cases hp
          · cases hp
theorem zcall_some {call : zM → List zV → zH → Option zR} {cm : zM} {kd na : Nat} {x : zC ⊕ zR} (hc : zcall call cm kd na pc ls st h = some x) : ∃ vs v h', call cm vs h = some (v, h') := by
  unfold zcall at hc
  split at hc
  · split at hc
    · split at hc
      · next r h' q => exact ⟨_, _, _, q⟩
      · cases hc
    · split at hc
      · split at hc
        · split at hc
          · split at hc
            · next r h' q => exact ⟨_, _, _, q⟩
            · cases hc
          · cases hc
        · cases hc
      · cases hc
  · cases hc
theorem zsim_call {call : zM → List zV → zH → Option zR} {k kd na d : Nat} {cm : zM} {i : Instr} {g : zC} (cx : zX p s m args meth c B sp cA D mi) (hd : decode mi.1 pc = .ok (i, 3)) (hi : (i = .invokevirtual k ∧ kd = 0) ∨ (i = .invokestatic k ∧ (kd = 1 ∨ kd = 3)) ∨ (i = .invokespecial k ∧ (kd = 2 ∨ kd = 4))) (hz : zmth mi.2.1 k = some (kd, na, cm)) (hs : zcall call cm kd na pc ls st h = some (.inl g))
    (hcall : ∀ cm, zMok cm → ∀ vs hh v hh', call cm vs hh = some (v, hh') → (∃ d', d = d' + 1 ∧ zMet l B sp cA D d' cm vs hh v hh') ∧ zc hh ≤ zc hh' ∧ zt hh ≤ zt hh')
    (hr1 : zc g.2.2.2 ≤ c0 + R.cells) (hr2 : zt g.2.2.2 ≤ s0 + R.slots) (hf : d + 4 ≤ R.frames) (hlo : 60 * (d + 4) ≤ R.locals)
    (kk : zK p l e R s m args below meth c Q B sp cA D mi c0 s0 g) : zK p l e R s m args below meth c Q B sp cA D mi c0 s0 (pc, ls, st, h) := by
  obtain ⟨pl, pi, ps, pn, -, hMk⟩ := zmth_get hz
  have hM := hMk (by rcases hi with ⟨-, q⟩ | ⟨-, q | q⟩ | ⟨-, q | q⟩ <;> omega)
  obtain ⟨vs, v, h', hc⟩ := zcall_some hs
  obtain ⟨⟨d', rfl, -⟩, -⟩ := hcall cm hM vs h v h' hc
  refine zs_call (d' := d') (v := v) (h' := h') cx hd hi hz call hs (fun vs v h' hc => ?_) hr1 hr2 hf hlo kk
  obtain ⟨⟨d2, q, q2⟩, q3⟩ := hcall cm hM vs h v h' hc
  obtain rfl : d' = d2 := by omega
  exact ⟨q2, q3⟩
theorem zl_len {a b n : Nat} (h : b = 0 ∨ a = b) (hb : b = n + 1) : a = n + 1 := by omega
theorem zsim_exec {scr : Option (Nat × (Nat → Int32))} {call : zM → List zV → zH → Option zR} {i : Instr} {d : Nat} {g : zC} (cx : zX p s m args meth c B sp cA D mi) (hd : decode mi.1 pc = .ok (i, len)) (hlen : zilen i = 0 ∨ len = zilen i) (hs : zexec scr call (decide (0 < d)) mi i len pc ls st h = some (.inl g))
    (hscr : ∀ L xs, scr = some (L, xs) → va_X (sp 1000000) L xs s s.heap ∧ sp 1000000 < s.heap.size ∧ sp 1000000 < B)
    (hcall : ∀ cm, zMok cm → ∀ vs hh v hh', call cm vs hh = some (v, hh') → (∃ d', d = d' + 1 ∧ zMet l B sp cA D d' cm vs hh v hh') ∧ zc hh ≤ zc hh' ∧ zt hh ≤ zt hh')
    (hled : ∀ (k na : Nat) (cm : zM), zmth mi.2.1 k = some (16, na, cm) → decode mi.1 pc = .ok (.invokestatic k, 3) → scr.isSome = true → 0 < d → zled call pc ls st h = some (.inl g) → zK p l e R s m args below meth c Q B sp cA D mi c0 s0 (pc, ls, st, h))
    (hf : d + 4 ≤ R.frames) (hlo : 60 * (d + 4) ≤ R.locals) (hr0 : zc h ≤ c0 + R.cells ∧ zt h ≤ s0 + R.slots) (hr : zc g.2.2.2 ≤ c0 + R.cells ∧ zt g.2.2.2 ≤ s0 + R.slots)
    (kk : zK p l e R s m args below meth c Q B sp cA D mi c0 s0 g) : zK p l e R s m args below meth c Q B sp cA D mi c0 s0 (pc, ls, st, h) := by
  cases i with
  | iconst n => obtain rfl := zl_len hlen rfl; cases hs; exact zs_iconst cx hd kk
  | bipush n => obtain rfl := zl_len hlen rfl; cases hs; exact zs_bipush cx hd kk
  | sipush n => obtain rfl := zl_len hlen rfl; cases hs; exact zs_sipush cx hd kk
  | lconst n => obtain rfl := zl_len hlen rfl; cases hs; exact zs_lconst cx hd kk
  | ldc k =>
    obtain rfl := zl_len hlen rfl
    have hs : zldv mi 1 k 2 pc ls st h = some (.inl g) := hs
    unfold zldv at hs
    split at hs
    · next v hv =>
      split at hs
      · next hc => cases hs; exact zs_ldv cx (Or.inl ⟨rfl, rfl⟩) hd hv ⟨fun q => (by cases q), fun q => (by omega)⟩ kk
      · cases hs
    · cases hs
  | ldc_w k =>
    obtain rfl := zl_len hlen rfl
    have hs : zldv mi 1 k 3 pc ls st h = some (.inl g) := hs
    unfold zldv at hs
    split at hs
    · next v hv =>
      split at hs
      · next hc => cases hs; exact zs_ldv cx (Or.inr (Or.inl ⟨rfl, rfl⟩)) hd hv ⟨fun q => (by cases q), fun q => (by omega)⟩ kk
      · cases hs
    · cases hs
  | ldc2_w k =>
    obtain rfl := zl_len hlen rfl
    have hs : zldv mi 2 k 3 pc ls st h = some (.inl g) := hs
    unfold zldv at hs
    split at hs
    · next v hv =>
      split at hs
      · next hc => cases hs; exact zs_ldv cx (Or.inr (Or.inr ⟨rfl, rfl⟩)) hd hv ⟨fun _ => hc, fun _ => rfl⟩ kk
      · cases hs
    · cases hs
  | iload k => obtain rfl := zl_len hlen rfl; exact zs_load cx hd (Or.inl ⟨rfl, rfl, rfl⟩) hs kk
  | iload_n k => obtain rfl := zl_len hlen rfl; exact zs_load cx hd (Or.inr (Or.inl ⟨k, rfl, rfl, rfl, rfl⟩)) hs kk
  | lload k => obtain rfl := zl_len hlen rfl; exact zs_load cx hd (Or.inr (Or.inr (Or.inl ⟨rfl, rfl, rfl⟩))) hs kk
  | lload_n k => obtain rfl := zl_len hlen rfl; exact zs_load cx hd (Or.inr (Or.inr (Or.inr (Or.inl ⟨k, rfl, rfl, rfl, rfl⟩)))) hs kk
  | aload k => obtain rfl := zl_len hlen rfl; exact zs_load cx hd (Or.inr (Or.inr (Or.inr (Or.inr (Or.inl ⟨rfl, rfl, rfl⟩))))) hs kk
  | aload_n k => obtain rfl := zl_len hlen rfl; exact zs_load cx hd (Or.inr (Or.inr (Or.inr (Or.inr (Or.inr ⟨k, rfl, rfl, rfl, rfl⟩))))) hs kk
  | istore k => obtain rfl := zl_len hlen rfl; exact zs_store cx hd (Or.inl ⟨rfl, rfl, rfl⟩) hs kk
  | istore_n k => obtain rfl := zl_len hlen rfl; exact zs_store cx hd (Or.inr (Or.inl ⟨k, rfl, rfl, rfl, rfl⟩)) hs kk
  | lstore k => obtain rfl := zl_len hlen rfl; exact zs_store cx hd (Or.inr (Or.inr (Or.inl ⟨rfl, rfl, rfl⟩))) hs kk
  | lstore_n k => obtain rfl := zl_len hlen rfl; exact zs_store cx hd (Or.inr (Or.inr (Or.inr (Or.inl ⟨k, rfl, rfl, rfl, rfl⟩)))) hs kk
  | astore k => obtain rfl := zl_len hlen rfl; exact zs_store cx hd (Or.inr (Or.inr (Or.inr (Or.inr (Or.inl ⟨rfl, rfl, rfl⟩))))) hs kk
  | astore_n k => obtain rfl := zl_len hlen rfl; exact zs_store cx hd (Or.inr (Or.inr (Or.inr (Or.inr (Or.inr ⟨k, rfl, rfl, rfl, rfl⟩))))) hs kk
  | iinc k n =>
    obtain rfl := zl_len hlen rfl
    simp only [zexec] at hs
    split at hs
    · next x hg =>
      split at hs
      · next hj => cases hs; exact zs_iinc cx hd hg hj kk
      · cases hs
    · cases hs
  | lshl =>
    obtain rfl := zl_len hlen rfl
    simp only [zexec] at hs
    split at hs
    · cases hs; exact zs_lshl cx hd kk
    · cases hs
  | ifCond cd off =>
    obtain rfl := zl_len hlen rfl
    simp only [zexec] at hs
    split at hs
    · exact zs_if cx hd hs kk
    · cases hs
  | if_icmp cd off =>
    obtain rfl := zl_len hlen rfl
    simp only [zexec] at hs
    split at hs
    · exact zs_icmp cx hd hs kk
    · cases hs
  | goto off => obtain rfl := zl_len hlen rfl; exact zs_goto cx hd hs kk
  | tableswitch df lo hi offs =>
    simp only [zexec] at hs
    split at hs
    · exact zs_switch cx hd hs kk
    · cases hs
  | getfield k =>
    obtain rfl := zl_len hlen rfl
    simp only [zexec] at hs
    split at hs
    · split at hs
      · next ci f kd n hz hq =>
        split at hs
        · next hk => subst hk; cases hs; exact zs_get cx hd hz hq kk
        · cases hs
      · cases hs
    · cases hs
  | putfield k =>
    obtain rfl := zl_len hlen rfl
    simp only [zexec] at hs
    split at hs
    · split at hs
      · next ci f kd n hz hq =>
        split at hs
        · next hk =>
          obtain ⟨rfl, hfi⟩ := hk
          split at hs
          · next h' hp => cases hs; exact zs_put cx hd hz hq hfi hp kk
          · cases hs
        · cases hs
      · cases hs
    · cases hs
  | iaload =>
    obtain rfl := zl_len hlen rfl
    simp only [zexec] at hs
    split at hs
    · split at hs
      · next v hv => cases hs; exact zs_iald cx hd hv hscr kk
      · cases hs
    · cases hs
  | baload =>
    obtain rfl := zl_len hlen rfl
    simp only [zexec] at hs
    split at hs
    · split at hs
      · next v hv => cases hs; exact zs_bald cx hd hv kk
      · cases hs
    · cases hs
  | laload =>
    obtain rfl := zl_len hlen rfl
    simp only [zexec] at hs
    split at hs
    · split at hs
      · next k n hq =>
        split at hs
        · next hk => obtain ⟨rfl, hi⟩ := hk; cases hs; exact zs_lald cx hd hq hi kk
        · cases hs
      · cases hs
    · cases hs
  | aaload =>
    obtain rfl := zl_len hlen rfl
    simp only [zexec] at hs
    split at hs
    · split at hs
      · next k n hq =>
        split at hs
        · next hk => obtain ⟨k1, k2, hi⟩ := hk; cases hs; exact zs_aald cx hd hq k1 k2 hi kk
        · cases hs
      · cases hs
    · cases hs
  | iastore =>
    obtain rfl := zl_len hlen rfl
    simp only [zexec] at hs
    split at hs
    · split at hs
      · next h' hv => cases hs; exact zs_iast cx hd hv kk
      · cases hs
    · cases hs
  | bastore =>
    obtain rfl := zl_len hlen rfl
    simp only [zexec] at hs
    split at hs
    · split at hs
      · next h' hv => cases hs; exact zs_bast cx hd hv kk
      · cases hs
    · cases hs
  | lastore =>
    obtain rfl := zl_len hlen rfl
    simp only [zexec] at hs
    split at hs
    · split at hs
      · next k n hq =>
        split at hs
        · next hk => obtain ⟨rfl, hi⟩ := hk; cases hs; exact zs_last cx hd hq hi kk
        · cases hs
      · cases hs
    · cases hs
  | aastore =>
    obtain rfl := zl_len hlen rfl
    simp only [zexec] at hs
    split at hs
    · split at hs
      · next k n kv nv hq hv =>
        split at hs
        · next hk => obtain ⟨k1, k2, hi, rfl⟩ := hk; cases hs; exact zs_aast cx hd hq hv k1 k2 hi kk
        · cases hs
      · cases hs
    · cases hs
  | arraylength =>
    obtain rfl := zl_len hlen rfl
    simp only [zexec] at hs
    split at hs
    · split at hs
      · next v hv => cases hs; exact zs_alen cx hd hv hscr kk
      · cases hs
    · cases hs
  | new k =>
    obtain rfl := zl_len hlen rfl
    simp only [zexec] at hs
    split at hs
    · next ci hz =>
      split at hs
      · next hci =>
        split at hs
        · next hk => cases hs; exact zs_new cx hd hz hci hk.1 hk.2 hr.1 hr.2 kk
        · cases hs
      · split at hs <;> cases hs
    · cases hs
  | newarray t =>
    obtain rfl := zl_len hlen rfl
    simp only [zexec] at hs
    split at hs
    · split at hs
      · next hk =>
        obtain ⟨k1, k2, k3, k4⟩ := hk
        split at hs
        · cases hs; exact zs_newa cx hd (Or.inl ⟨rfl, rfl⟩) k1 k2 k3 k4 hr.1 hr.2 kk
        · cases hs; exact zs_newa cx hd (Or.inr (Or.inl ⟨rfl, rfl⟩)) k1 k2 k3 k4 hr.1 hr.2 kk
        · cases hs; exact zs_newa cx hd (Or.inr (Or.inr ⟨rfl, rfl⟩)) k1 k2 k3 k4 hr.1 hr.2 kk
        · cases hs
      · cases hs
    · cases hs
  | anewarray k =>
    obtain rfl := zl_len hlen rfl
    simp only [zexec] at hs
    split at hs
    · split at hs
      · next hk =>
        obtain ⟨k1, k2, k3, k4⟩ := hk
        split at hs
        · next ci hz =>
          split at hs
          · next ha => cases hs; exact zs_newq cx hd hz ha.1 ha.2 k1 k2 k3 k4 hr.1 hr.2 kk
          · cases hs
        · cases hs
      · cases hs
    · cases hs
  | dup =>
    obtain rfl := zl_len hlen rfl
    simp only [zexec] at hs
    split at hs
    · split at hs
      · next hv => cases hs; exact zs_dup cx hd hv kk
      · cases hs
    · cases hs
  | dup2 =>
    obtain rfl := zl_len hlen rfl
    simp only [zexec] at hs
    split at hs
    · split at hs
      · next hv => cases hs; exact zs_dup2 cx hd hv.1 hv.2 kk
      · cases hs
    · cases hs
  | pop =>
    obtain rfl := zl_len hlen rfl
    simp only [zexec] at hs
    split at hs
    · split at hs
      · next hv => cases hs; exact zs_pop cx hd hv kk
      · cases hs
    · cases hs
  | pop2 =>
    obtain rfl := zl_len hlen rfl
    simp only [zexec] at hs
    split at hs
    · split at hs
      · next hv => cases hs; exact zs_pop2 cx hd hv kk
      · cases hs
    · cases hs
  | invokevirtual k =>
    obtain rfl := zl_len hlen rfl
    simp only [zexec] at hs
    split at hs
    · next kd na cm hz =>
      split at hs
      · next hk =>
        subst hk
        split at hs
        · exact zs_str cx hd hz hs (by omega) (by omega) hr0.1 hr0.2 kk
        · exact zsim_call cx hd (Or.inl ⟨rfl, rfl⟩) hz hs hcall hr.1 hr.2 hf hlo kk
      · cases hs
    · cases hs
  | getstatic k =>
    obtain rfl := zl_len hlen rfl
    simp only [zexec] at hs
    split at hs
    · next hk => obtain ⟨ho, rfl⟩ := hk; cases hs; exact zs_getst cx hd ho kk
    · cases hs
  | invokestatic k =>
    obtain rfl := zl_len hlen rfl
    simp only [zexec] at hs
    split at hs
    · next kd na cm hz =>
      split at hs
      · next hk => exact zsim_call cx hd (Or.inr (Or.inl ⟨rfl, hk⟩)) hz hs hcall hr.1 hr.2 hf hlo kk
      · split at hs
        · next hk =>
          subst hk
          split at hs
          · next hq => exact hled k na cm hz hd hq.1 (of_decide_eq_true hq.2) hs
          · cases hs
        · split at hs
          · cases hs
          · next hk10 =>
            cases hdp : decide (0 < d) with
            | true =>
              rw [hdp] at hs
              have hd0 : 0 < d := of_decide_eq_true hdp
              exact zs_prim cx hd (Or.inr ⟨rfl, hk10⟩) hz hs (by omega) (by omega) hr0.1 hr0.2 kk
            | false =>
              rw [hdp] at hs
              unfold zprim at hs
              rw [if_neg (by decide)] at hs
              cases hs
    · cases hs
  | invokespecial k =>
    obtain rfl := zl_len hlen rfl
    simp only [zexec] at hs
    split at hs
    · next kd na cm hz =>
      split at hs
      · next hk => exact zsim_call cx hd (Or.inr (Or.inr ⟨rfl, hk⟩)) hz hs hcall hr.1 hr.2 hf hlo kk
      · split at hs
        · next hk10 =>
          subst hk10
          cases hdp : decide (0 < d) with
          | true =>
            rw [hdp] at hs
            have hd0 : 0 < d := of_decide_eq_true hdp
            exact zs_prim cx hd (Or.inl ⟨rfl, rfl⟩) hz hs (by omega) (by omega) hr0.1 hr0.2 kk
          | false =>
            rw [hdp] at hs
            unfold zprim at hs
            rw [if_neg (by decide)] at hs
            cases hs
        · cases hs
    · cases hs
  | ireturn =>
    simp only [zexec] at hs
    split at hs
    · split at hs
      · split at hs <;> cases hs
      · cases hs
    · cases hs
  | lreturn =>
    simp only [zexec] at hs
    split at hs
    · split at hs <;> cases hs
    · cases hs
  | return_ =>
    simp only [zexec] at hs
    split at hs
    · split at hs <;> cases hs
    · cases hs
  | _ => obtain rfl := zl_len hlen rfl; exact zs_arith cx hd hs kk
end ZS6
end Pk0
section Pk1
/-! runs -/
def zhp (x : zC ⊕ zR) : zH := match x with
  | .inl g => g.2.2.2
  | .inr r => r.2
section ZM
variable {pc len : Nat} {ls : zL} {st : List zV} {h : zH} {x : zC ⊕ zR}
def zle (h h' : zH) : Prop := zc h ≤ zc h' ∧ zt h ≤ zt h'
theorem zle.rf : zle h h := ⟨Nat.le_refl _, Nat.le_refl _⟩
theorem zle.tr {a b c : zH} (h1 : zle a b) (h2 : zle b c) : zle a c := ⟨Nat.le_trans h1.1 h2.1, Nat.le_trans h1.2 h2.2⟩
theorem zle.of {a b : zH} (h1 : b.1 = a.1) (h2 : b.2.2.2.2 = a.2.2.2.2) : zle a b := by
  unfold zle zc zt
  rw [h1, h2]
  exact ⟨Nat.le_refl _, Nat.le_refl _⟩
theorem zle_new {k n : Nat} : zle h (znew h k n) := ⟨by rw [zc_new]; omega, by rw [zt_new]; omega⟩
theorem zle_thr : zle h (zthr h) := by
  refine ⟨?_, ?_⟩
  · show h.1.1 + h.2.2.2.2 ≤ h.1.1 + (h.2.2.2.2 + 1)
    omega
  · show h.1.2.2 + 6 * h.2.2.2.2 ≤ h.1.2.2 + 6 * (h.2.2.2.2 + 1)
    omega
theorem zldv_h {m : zM} {ca k : Nat} (hz : zldv m ca k len pc ls st h = some x) : zle h (zhp x) := by
  unfold zldv at hz
  split at hz
  · split at hz
    · cases hz; exact zle.rf
    · cases hz
  · cases hz
theorem zload_h {so k : Nat} (hz : zload so k len pc ls st h = some x) : zle h (zhp x) := by
  unfold zload at hz
  split at hz
  · split at hz
    · cases hz; exact zle.rf
    · cases hz
  · split at hz
    · cases hz; exact zle.rf
    · cases hz
  · split at hz
    · cases hz; exact zle.rf
    · cases hz
  · cases hz
theorem zstore_h {m : zM} {so k : Nat} (hz : zstore m so k len pc ls st h = some x) : zle h (zhp x) := by
  unfold zstore at hz
  split at hz
  · split at hz
    · cases hz; exact zle.rf
    · cases hz
  · split at hz
    · cases hz; exact zle.rf
    · cases hz
  · split at hz
    · cases hz; exact zle.rf
    · cases hz
  · cases hz
theorem zarith_h {i : Instr} (hz : zarith i len pc ls st h = some x) : zle h (zhp x) := by
  unfold zarith at hz
  split at hz
  · split at hz
    · cases hz; exact zle.rf
    · split at hz
      · cases hz; exact zle.rf
      · cases hz
  · split at hz
    · cases hz; exact zle.rf
    · cases hz
  · split at hz
    · cases hz; exact zle.rf
    · cases hz
  · cases hz
theorem zjump_h {off : Int} (hz : zjump pc off ls st h = some x) : zle h (zhp x) := by
  unfold zjump at hz
  split at hz
  · cases hz; exact zle.rf
  · cases hz
theorem zbr_h {b : Bool} {off : Int} (hz : zbr b pc len off ls st h = some x) : zle h (zhp x) := by
  unfold zbr at hz
  split at hz
  · split at hz
    · cases hz; exact zle.rf
    · cases hz; exact zle.rf
  · cases hz
theorem zput_h {ci a f : Nat} {v : zV} {h' : zH} (hz : zput h ci a f v = some h') : zle h h' := by
  unfold zput at hz
  split at hz
  · split at hz
    · cases hz; exact zle.of rfl rfl
    · cases hz
  · split at hz
    · cases hz; exact zle.of rfl rfl
    · cases hz
  · cases hz
theorem zst_h {kd a : Nat} {i v : Int32} {h' : zH} (hz : zst h kd a i v = some h') : zle h h' := by
  unfold zst at hz
  split at hz
  · split at hz
    · split at hz
      · cases hz; exact zle.of rfl rfl
      · cases hz
    · cases hz
  · cases hz
theorem zprim_h {deep : Bool} {kd : Nat} (hz : zprim deep kd pc ls st h = some x) : zle h (zhp x) := by
  unfold zprim at hz
  split at hz
  · split at hz
    · split at hz
      · split at hz
        · cases hz; exact zle.rf
        · cases hz
      · cases hz
    · split at hz
      · split at hz
        · split at hz
          · cases hz; exact zle.rf
          · cases hz
        · cases hz
      · split at hz
        · split at hz
          · split at hz
            · cases hz; exact zle.rf
            · cases hz
          · cases hz
        · split at hz
          · split at hz
            · split at hz
              · cases hz; exact zle.rf
              · cases hz
            · cases hz
          · split at hz
            · unfold zcopy at hz
              split at hz
              · split at hz
                · split at hz
                  · cases hz; exact zle.of rfl rfl
                  · cases hz
                · cases hz
              · cases hz
            · cases hz
  · cases hz
theorem zstr_h {cm : zM} (hz : zstr cm pc ls st h = some x) : zle h (zhp x) := by
  unfold zstr at hz
  split at hz
  · split at hz
    · split at hz
      · cases hz; exact zle.rf
      · cases hz
    · cases hz
  · split at hz
    · split at hz
      · cases hz; exact zle.rf
      · cases hz
    · cases hz
  · cases hz
variable {call : zM → List zV → zH → Option zR}
theorem zcall_h {cm : zM} {kd na : Nat} (hcall : ∀ cm vs hh v hh', call cm vs hh = some (v, hh') → zle hh hh') (hz : zcall call cm kd na pc ls st h = some x) : zle h (zhp x) := by
  unfold zcall at hz
  split at hz
  · split at hz
    · split at hz
      · next r h' q => cases hz; exact hcall _ _ _ _ _ q
      · cases hz
    · split at hz
      · split at hz
        · split at hz
          · split at hz
            · next r h' q => cases hz; exact hcall _ _ _ _ _ q
            · cases hz
          · cases hz
        · cases hz
      · cases hz
  · cases hz
theorem zled_h (hcall : ∀ cm vs hh v hh', call cm vs hh = some (v, hh') → zle hh hh') (hz : zled call pc ls st h = some x) : zle h (zhp x) := by
  unfold zled at hz
  split at hz
  · split at hz
    · split at hz
      · next b h' q => cases hz; exact (hcall _ _ _ _ _ q).tr (zle.of rfl rfl)
      · next b h' q => cases hz; exact hcall _ _ _ _ _ q
      · cases hz
    · cases hz
  · cases hz
theorem zexec_h {scr : Option (Nat × (Nat → Int32))} {deep : Bool} {m : zM} {i : Instr} (hcall : ∀ cm vs hh v hh', call cm vs hh = some (v, hh') → zle hh hh') (hs : zexec scr call deep m i len pc ls st h = some x) : zle h (zhp x) := by
  cases i with
  | iconst n => cases hs; exact zle.rf
  | bipush n => cases hs; exact zle.rf
  | sipush n => cases hs; exact zle.rf
  | lconst n => cases hs; exact zle.rf
  | ldc k => exact zldv_h hs
  | ldc_w k => exact zldv_h hs
  | ldc2_w k => exact zldv_h hs
  | iload k => exact zload_h hs
  | iload_n k => exact zload_h hs
  | lload k => exact zload_h hs
  | lload_n k => exact zload_h hs
  | aload k => exact zload_h hs
  | aload_n k => exact zload_h hs
  | istore k => exact zstore_h hs
  | istore_n k => exact zstore_h hs
  | lstore k => exact zstore_h hs
  | lstore_n k => exact zstore_h hs
  | astore k => exact zstore_h hs
  | astore_n k => exact zstore_h hs
  | iinc k n =>
    simp only [zexec] at hs
    split at hs
    · split at hs
      · cases hs; exact zle.rf
      · cases hs
    · cases hs
  | lshl =>
    simp only [zexec] at hs
    split at hs
    · cases hs; exact zle.rf
    · cases hs
  | ifCond cd off =>
    simp only [zexec] at hs
    split at hs
    · exact zbr_h hs
    · cases hs
  | if_icmp cd off =>
    simp only [zexec] at hs
    split at hs
    · exact zbr_h hs
    · cases hs
  | goto off => exact zjump_h hs
  | tableswitch df lo hi offs =>
    simp only [zexec] at hs
    split at hs
    · split at hs
      · exact zjump_h hs
      · split at hs
        · exact zjump_h hs
        · cases hs
    · cases hs
  | getfield k =>
    simp only [zexec] at hs
    split at hs
    · split at hs
      · split at hs
        · cases hs; exact zle.rf
        · cases hs
      · cases hs
    · cases hs
  | putfield k =>
    simp only [zexec] at hs
    split at hs
    · split at hs
      · split at hs
        · split at hs
          · next h' hp => cases hs; exact zput_h hp
          · cases hs
        · cases hs
      · cases hs
    · cases hs
  | iaload =>
    simp only [zexec] at hs
    split at hs
    · split at hs
      · cases hs; exact zle.rf
      · cases hs
    · cases hs
  | baload =>
    simp only [zexec] at hs
    split at hs
    · split at hs
      · cases hs; exact zle.rf
      · cases hs
    · cases hs
  | laload =>
    simp only [zexec] at hs
    split at hs
    · split at hs
      · split at hs
        · cases hs; exact zle.rf
        · cases hs
      · cases hs
    · cases hs
  | aaload =>
    simp only [zexec] at hs
    split at hs
    · split at hs
      · split at hs
        · cases hs; exact zle.rf
        · cases hs
      · cases hs
    · cases hs
  | iastore =>
    simp only [zexec] at hs
    split at hs
    · split at hs
      · next h' hv => cases hs; exact zst_h hv
      · cases hs
    · cases hs
  | bastore =>
    simp only [zexec] at hs
    split at hs
    · split at hs
      · next h' hv => cases hs; exact zst_h hv
      · cases hs
    · cases hs
  | lastore =>
    simp only [zexec] at hs
    split at hs
    · split at hs
      · split at hs
        · cases hs; exact zle.of rfl rfl
        · cases hs
      · cases hs
    · cases hs
  | aastore =>
    simp only [zexec] at hs
    split at hs
    · split at hs
      · split at hs
        · cases hs; exact zle.of rfl rfl
        · cases hs
      · cases hs
    · cases hs
  | arraylength =>
    simp only [zexec] at hs
    split at hs
    · split at hs
      · cases hs; exact zle.rf
      · cases hs
    · cases hs
  | new k =>
    simp only [zexec] at hs
    split at hs
    · split at hs
      · split at hs
        · cases hs; exact zle_new
        · cases hs
      · split at hs
        · cases hs; exact zle_thr
        · cases hs
    · cases hs
  | newarray t =>
    simp only [zexec] at hs
    split at hs
    · split at hs
      · split at hs
        · cases hs; exact zle_new
        · cases hs; exact zle_new
        · cases hs; exact zle_new
        · cases hs
      · cases hs
    · cases hs
  | anewarray k =>
    simp only [zexec] at hs
    split at hs
    · split at hs
      · split at hs
        · split at hs
          · cases hs; exact zle_new
          · cases hs
        · cases hs
      · cases hs
    · cases hs
  | dup =>
    simp only [zexec] at hs
    split at hs
    · split at hs
      · cases hs; exact zle.rf
      · cases hs
    · cases hs
  | dup2 =>
    simp only [zexec] at hs
    split at hs
    · split at hs
      · cases hs; exact zle.rf
      · cases hs
    · cases hs
  | pop =>
    simp only [zexec] at hs
    split at hs
    · split at hs
      · cases hs; exact zle.rf
      · cases hs
    · cases hs
  | pop2 =>
    simp only [zexec] at hs
    split at hs
    · split at hs
      · cases hs; exact zle.rf
      · cases hs
    · cases hs
  | invokevirtual k =>
    simp only [zexec] at hs
    split at hs
    · split at hs
      · split at hs
        · exact zstr_h hs
        · exact zcall_h hcall hs
      · cases hs
    · cases hs
  | getstatic k =>
    simp only [zexec] at hs
    split at hs
    · cases hs; exact zle.rf
    · cases hs
  | invokestatic k =>
    simp only [zexec] at hs
    split at hs
    · split at hs
      · exact zcall_h hcall hs
      · split at hs
        · split at hs
          · exact zled_h hcall hs
          · cases hs
        · split at hs
          · cases hs
          · exact zprim_h hs
    · cases hs
  | invokespecial k =>
    simp only [zexec] at hs
    split at hs
    · split at hs
      · exact zcall_h hcall hs
      · split at hs
        · exact zprim_h hs
        · cases hs
    · cases hs
  | ireturn =>
    simp only [zexec] at hs
    split at hs
    · split at hs
      · split at hs
        · cases hs; exact zle.rf
        · cases hs
      · cases hs
    · cases hs
  | lreturn =>
    simp only [zexec] at hs
    split at hs
    · split at hs
      · cases hs; exact zle.rf
      · cases hs
    · cases hs
  | return_ =>
    simp only [zexec] at hs
    split at hs
    · split at hs
      · cases hs; exact zle.rf
      · cases hs
    · cases hs
  | _ => simp only [zexec] at hs; exact zarith_h hs
end ZM
theorem zrun_h : ∀ (n : Nat) (scr : Option (Nat × (Nat → Int32))) (d : Nat) (m : zM) (g : zC) (v : Option zV) (h' : zH), zrun n scr d m g = some (v, h') → zle g.2.2.2 h' := by
  intro n
  induction n with
  | zero => intro scr d m g v h' hz; cases hz
  | succ n ih =>
    intro scr d m g v h' hz
    unfold zrun at hz
    have hcall : ∀ cm vs hh v hh', (fun (k : zM) (vs : List zV) (h : zH) => (match d with
      | 0 => none
      | d' + 1 => if zwd vs ≤ k.2.2.1 then zrun n none d' k (0, zargs 0 vs, [], h) else none : Option zR)) cm vs hh = some (v, hh') → zle hh hh' := by
      intro cm vs hh v hh' hq
      dsimp only at hq
      split at hq
      · cases hq
      · split at hq
        · exact ih _ _ _ _ _ _ hq
        · cases hq
    split at hz
    · next g' hs =>
      unfold zstep at hs
      split at hs
      · split at hs
        · exact (zexec_h hcall hs).tr (ih _ _ _ _ _ _ hz)
        · cases hs
      · cases hs
    · next r hs =>
      cases hz
      unfold zstep at hs
      split at hs
      · split at hs
        · exact zexec_h hcall hs
        · cases hs
      · cases hs
    · cases hz
section ZI
variable {pc len : Nat} {ls : zL} {st : List zV} {h : zH} {x : zC ⊕ zR}
theorem zldv_i {m : zM} {ca k : Nat} (hz : zldv m ca k len pc ls st h = some x) : ∃ g, x = .inl g := by
  unfold zldv at hz
  split at hz
  · split at hz
    · cases hz; exact ⟨_, rfl⟩
    · cases hz
  · cases hz
theorem zload_i {so k : Nat} (hz : zload so k len pc ls st h = some x) : ∃ g, x = .inl g := by
  unfold zload at hz
  split at hz
  · split at hz
    · cases hz; exact ⟨_, rfl⟩
    · cases hz
  · split at hz
    · cases hz; exact ⟨_, rfl⟩
    · cases hz
  · split at hz
    · cases hz; exact ⟨_, rfl⟩
    · cases hz
  · cases hz
theorem zstore_i {m : zM} {so k : Nat} (hz : zstore m so k len pc ls st h = some x) : ∃ g, x = .inl g := by
  unfold zstore at hz
  split at hz
  · split at hz
    · cases hz; exact ⟨_, rfl⟩
    · cases hz
  · split at hz
    · cases hz; exact ⟨_, rfl⟩
    · cases hz
  · split at hz
    · cases hz; exact ⟨_, rfl⟩
    · cases hz
  · cases hz
theorem zarith_i {i : Instr} (hz : zarith i len pc ls st h = some x) : ∃ g, x = .inl g := by
  unfold zarith at hz
  split at hz
  · split at hz
    · cases hz; exact ⟨_, rfl⟩
    · split at hz
      · cases hz; exact ⟨_, rfl⟩
      · cases hz
  · split at hz
    · cases hz; exact ⟨_, rfl⟩
    · cases hz
  · split at hz
    · cases hz; exact ⟨_, rfl⟩
    · cases hz
  · cases hz
theorem zjump_i {off : Int} (hz : zjump pc off ls st h = some x) : ∃ g, x = .inl g := by
  unfold zjump at hz
  split at hz
  · cases hz; exact ⟨_, rfl⟩
  · cases hz
theorem zbr_i {b : Bool} {off : Int} (hz : zbr b pc len off ls st h = some x) : ∃ g, x = .inl g := by
  unfold zbr at hz
  split at hz
  · split at hz
    · cases hz; exact ⟨_, rfl⟩
    · cases hz; exact ⟨_, rfl⟩
  · cases hz
theorem zprim_i {deep : Bool} {kd : Nat} (hz : zprim deep kd pc ls st h = some x) : ∃ g, x = .inl g := by
  unfold zprim at hz
  split at hz
  · split at hz
    · split at hz
      · split at hz
        · cases hz; exact ⟨_, rfl⟩
        · cases hz
      · cases hz
    · split at hz
      · split at hz
        · split at hz
          · cases hz; exact ⟨_, rfl⟩
          · cases hz
        · cases hz
      · split at hz
        · split at hz
          · split at hz
            · cases hz; exact ⟨_, rfl⟩
            · cases hz
          · cases hz
        · split at hz
          · split at hz
            · split at hz
              · cases hz; exact ⟨_, rfl⟩
              · cases hz
            · cases hz
          · split at hz
            · unfold zcopy at hz
              split at hz
              · split at hz
                · split at hz
                  · cases hz; exact ⟨_, rfl⟩
                  · cases hz
                · cases hz
              · cases hz
            · cases hz
  · cases hz
theorem zstr_i {cm : zM} (hz : zstr cm pc ls st h = some x) : ∃ g, x = .inl g := by
  unfold zstr at hz
  split at hz
  · split at hz
    · split at hz
      · cases hz; exact ⟨_, rfl⟩
      · cases hz
    · cases hz
  · split at hz
    · split at hz
      · cases hz; exact ⟨_, rfl⟩
      · cases hz
    · cases hz
  · cases hz
variable {call : zM → List zV → zH → Option zR}
theorem zcall_i {cm : zM} {kd na : Nat} (hz : zcall call cm kd na pc ls st h = some x) : ∃ g, x = .inl g := by
  unfold zcall at hz
  split at hz
  · split at hz
    · split at hz
      · next r h' q => cases hz; exact ⟨_, rfl⟩
      · cases hz
    · split at hz
      · split at hz
        · split at hz
          · split at hz
            · next r h' q => cases hz; exact ⟨_, rfl⟩
            · cases hz
          · cases hz
        · cases hz
      · cases hz
  · cases hz
theorem zled_i (hz : zled call pc ls st h = some x) : ∃ g, x = .inl g := by
  unfold zled at hz
  split at hz
  · split at hz
    · split at hz
      · next b h' q => cases hz; exact ⟨_, rfl⟩
      · next b h' q => cases hz; exact ⟨_, rfl⟩
      · cases hz
    · cases hz
  · cases hz
theorem zexec_i {scr : Option (Nat × (Nat → Int32))} {deep : Bool} {m : zM} {i : Instr} (hy : m.2.2.2.2.1 ≠ yX11_led) (h1 : i ≠ .ireturn) (h2 : i ≠ .lreturn) (h3 : i ≠ .return_) (hs : zexec scr call deep m i len pc ls st h = some x) : ∃ g, x = .inl g := by
  cases i with
  | iconst n => cases hs; exact ⟨_, rfl⟩
  | bipush n => cases hs; exact ⟨_, rfl⟩
  | sipush n => cases hs; exact ⟨_, rfl⟩
  | lconst n => cases hs; exact ⟨_, rfl⟩
  | ldc k => exact zldv_i hs
  | ldc_w k => exact zldv_i hs
  | ldc2_w k => exact zldv_i hs
  | iload k => exact zload_i hs
  | iload_n k => exact zload_i hs
  | lload k => exact zload_i hs
  | lload_n k => exact zload_i hs
  | aload k => exact zload_i hs
  | aload_n k => exact zload_i hs
  | istore k => exact zstore_i hs
  | istore_n k => exact zstore_i hs
  | lstore k => exact zstore_i hs
  | lstore_n k => exact zstore_i hs
  | astore k => exact zstore_i hs
  | astore_n k => exact zstore_i hs
  | iinc k n =>
    simp only [zexec] at hs
    split at hs
    · split at hs
      · cases hs; exact ⟨_, rfl⟩
      · cases hs
    · cases hs
  | lshl =>
    simp only [zexec] at hs
    split at hs
    · cases hs; exact ⟨_, rfl⟩
    · cases hs
  | ifCond cd off =>
    simp only [zexec] at hs
    split at hs
    · exact zbr_i hs
    · cases hs
  | if_icmp cd off =>
    simp only [zexec] at hs
    split at hs
    · exact zbr_i hs
    · cases hs
  | goto off => exact zjump_i hs
  | tableswitch df lo hi offs =>
    simp only [zexec] at hs
    split at hs
    · split at hs
      · exact zjump_i hs
      · split at hs
        · exact zjump_i hs
        · cases hs
    · cases hs
  | getfield k =>
    simp only [zexec] at hs
    split at hs
    · split at hs
      · split at hs
        · cases hs; exact ⟨_, rfl⟩
        · cases hs
      · cases hs
    · cases hs
  | putfield k =>
    simp only [zexec] at hs
    split at hs
    · split at hs
      · split at hs
        · split at hs
          · next h' hp => cases hs; exact ⟨_, rfl⟩
          · cases hs
        · cases hs
      · cases hs
    · cases hs
  | iaload =>
    simp only [zexec] at hs
    split at hs
    · split at hs
      · cases hs; exact ⟨_, rfl⟩
      · cases hs
    · cases hs
  | baload =>
    simp only [zexec] at hs
    split at hs
    · split at hs
      · cases hs; exact ⟨_, rfl⟩
      · cases hs
    · cases hs
  | laload =>
    simp only [zexec] at hs
    split at hs
    · split at hs
      · split at hs
        · cases hs; exact ⟨_, rfl⟩
        · cases hs
      · cases hs
    · cases hs
  | aaload =>
    simp only [zexec] at hs
    split at hs
    · split at hs
      · split at hs
        · cases hs; exact ⟨_, rfl⟩
        · cases hs
      · cases hs
    · cases hs
  | iastore =>
    simp only [zexec] at hs
    split at hs
    · split at hs
      · next h' hv => cases hs; exact ⟨_, rfl⟩
      · cases hs
    · cases hs
  | bastore =>
    simp only [zexec] at hs
    split at hs
    · split at hs
      · next h' hv => cases hs; exact ⟨_, rfl⟩
      · cases hs
    · cases hs
  | lastore =>
    simp only [zexec] at hs
    split at hs
    · split at hs
      · split at hs
        · cases hs; exact ⟨_, rfl⟩
        · cases hs
      · cases hs
    · cases hs
  | aastore =>
    simp only [zexec] at hs
    split at hs
    · split at hs
      · split at hs
        · cases hs; exact ⟨_, rfl⟩
        · cases hs
      · cases hs
    · cases hs
  | arraylength =>
    simp only [zexec] at hs
    split at hs
    · split at hs
      · cases hs; exact ⟨_, rfl⟩
      · cases hs
    · cases hs
  | new k =>
    simp only [zexec] at hs
    split at hs
    · split at hs
      · split at hs
        · cases hs; exact ⟨_, rfl⟩
        · cases hs
      · split at hs
        · next hq => exact absurd hq.2.1 hy
        · cases hs
    · cases hs
  | newarray t =>
    simp only [zexec] at hs
    split at hs
    · split at hs
      · split at hs
        · cases hs; exact ⟨_, rfl⟩
        · cases hs; exact ⟨_, rfl⟩
        · cases hs; exact ⟨_, rfl⟩
        · cases hs
      · cases hs
    · cases hs
  | anewarray k =>
    simp only [zexec] at hs
    split at hs
    · split at hs
      · split at hs
        · split at hs
          · cases hs; exact ⟨_, rfl⟩
          · cases hs
        · cases hs
      · cases hs
    · cases hs
  | dup =>
    simp only [zexec] at hs
    split at hs
    · split at hs
      · cases hs; exact ⟨_, rfl⟩
      · cases hs
    · cases hs
  | dup2 =>
    simp only [zexec] at hs
    split at hs
    · split at hs
      · cases hs; exact ⟨_, rfl⟩
      · cases hs
    · cases hs
  | pop =>
    simp only [zexec] at hs
    split at hs
    · split at hs
      · cases hs; exact ⟨_, rfl⟩
      · cases hs
    · cases hs
  | pop2 =>
    simp only [zexec] at hs
    split at hs
    · split at hs
      · cases hs; exact ⟨_, rfl⟩
      · cases hs
    · cases hs
  | invokevirtual k =>
    simp only [zexec] at hs
    split at hs
    · split at hs
      · split at hs
        · exact zstr_i hs
        · exact zcall_i hs
      · cases hs
    · cases hs
  | getstatic k =>
    simp only [zexec] at hs
    split at hs
    · cases hs; exact ⟨_, rfl⟩
    · cases hs
  | invokestatic k =>
    simp only [zexec] at hs
    split at hs
    · split at hs
      · exact zcall_i hs
      · split at hs
        · split at hs
          · exact zled_i hs
          · cases hs
        · split at hs
          · cases hs
          · exact zprim_i hs
    · cases hs
  | invokespecial k =>
    simp only [zexec] at hs
    split at hs
    · split at hs
      · exact zcall_i hs
      · split at hs
        · exact zprim_i hs
        · cases hs
    · cases hs
  | ireturn => exact absurd rfl h1
  | lreturn => exact absurd rfl h2
  | return_ => exact absurd rfl h3
  | _ => simp only [zexec] at hs; exact zarith_i hs
end ZI
end Pk1
section Pk2
/-! whole runs of a method -/
def zcf (n d : Nat) : zM → List zV → zH → Option zR := fun k vs h => match d with
  | 0 => none
  | d' + 1 => if zwd vs ≤ k.2.2.1 then zrun n none d' k (0, zargs 0 vs, [], h) else none
theorem zrun_succ (n : Nat) (scr : Option (Nat × (Nat → Int32))) (d : Nat) (m : zM) (g : zC) : zrun (n + 1) scr d m g = (match zstep scr (zcf n d) (decide (0 < d)) m g with
    | some (.inl c') => zrun n scr d m c'
    | some (.inr r) => some r
    | none => none) := rfl
def zMetAll (l : Launch) (B : Nat) (sp : Nat → Nat) (cA : Nat → ClassId) (D : va_G) (n : Nat) : Prop := ∀ (d : Nat) (cm : zM) (vs : List zV) (h : zH) (v : Option zV) (h' : zH), zMok cm → zwd vs ≤ cm.2.2.1 → zrun n none d cm (0, zargs 0 vs, [], h) = some (v, h') → zMet l B sp cA D d cm vs h v h'
section ZS8
variable {p : Program} {l : Launch} {e : Env} {R : Room} {s : State} {m : MethodId} {args : Array Value} {below : List Frame} {meth : Method} {c : Code} {Q : State → Prop} {B : Nat} {sp : Nat → Nat} {cA : Nat → ClassId} {D : va_G} {mi : zM} {c0 s0 : Nat}
theorem zcf_met {n d : Nat} (IH : zMetAll l B sp cA D n) : ∀ cm, zMok cm → ∀ vs hh v hh', zcf n d cm vs hh = some (v, hh') → (∃ d', d = d' + 1 ∧ zMet l B sp cA D d' cm vs hh v hh') ∧ zc hh ≤ zc hh' ∧ zt hh ≤ zt hh' := by
  intro cm hM vs hh v hh' hq
  unfold zcf at hq
  split at hq
  · cases hq
  · next d' =>
    split at hq
    · next hw => exact ⟨⟨d', rfl, IH d' cm vs hh v hh' hM hw hq⟩, zrun_h _ _ _ _ _ _ _ hq⟩
    · cases hq
theorem zsim_run {scr : Option (Nat × (Nat → Int32))} {d : Nat} {v : Option zV} {h' : zH} (cx : zX p s m args meth c B sp cA D mi)
    (hscr : ∀ L xs, scr = some (L, xs) → va_X (sp 1000000) L xs s s.heap ∧ sp 1000000 < s.heap.size ∧ sp 1000000 < B)
    (hf : d + 4 ≤ R.frames) (hlo : 60 * (d + 4) ≤ R.locals) (hr : zc h' ≤ c0 + R.cells ∧ zt h' ≤ s0 + R.slots) (N : Nat) (IH : ∀ k, k < N → zMetAll l B sp cA D k)
    (hled : ∀ (n k na : Nat) (cm : zM) (pc : Nat) (ls : zL) (st : List zV) (h : zH) (g : zC), n < N → zmth mi.2.1 k = some (16, na, cm) → decode mi.1 pc = .ok (.invokestatic k, 3) → scr.isSome = true → 0 < d → zled (zcf n d) pc ls st h = some (.inl g) → zc g.2.2.2 ≤ c0 + R.cells ∧ zt g.2.2.2 ≤ s0 + R.slots → zK p l e R s m args below meth c Q B sp cA D mi c0 s0 g → zK p l e R s m args below meth c Q B sp cA D mi c0 s0 (pc, ls, st, h))
    (hfin : ∀ (n : Nat) (g : zC), n < N → zstep scr (zcf n d) (decide (0 < d)) mi g = some (.inr (v, h')) → zK p l e R s m args below meth c Q B sp cA D mi c0 s0 g) :
    ∀ (n : Nat) (g : zC), n ≤ N → zrun n scr d mi g = some (v, h') → zK p l e R s m args below meth c Q B sp cA D mi c0 s0 g := by
  intro n
  induction n with
  | zero => intro g _ hz; cases hz
  | succ n ih =>
    intro g hn hz
    have hz0 := hz
    rw [zrun_succ] at hz
    split at hz
    · next g' hs =>
      have hk := ih g' (by omega) hz
      have hle := zrun_h _ _ _ _ _ _ _ hz
      have hle0 := zrun_h _ _ _ _ _ _ _ hz0
      have hr' : zc g'.2.2.2 ≤ c0 + R.cells ∧ zt g'.2.2.2 ≤ s0 + R.slots := ⟨Nat.le_trans hle.1 hr.1, Nat.le_trans hle.2 hr.2⟩
      have hr0 : zc g.2.2.2 ≤ c0 + R.cells ∧ zt g.2.2.2 ≤ s0 + R.slots := ⟨Nat.le_trans hle0.1 hr.1, Nat.le_trans hle0.2 hr.2⟩
      unfold zstep at hs
      split at hs
      · next i len hd =>
        split at hs
        · next hl =>
          obtain ⟨pc, ls, st, h⟩ := g
          exact zsim_exec cx hd hl hs hscr (zcf_met (IH n (by omega))) (fun k na cm h1 h2 h3 h4 h5 => hled n k na cm pc ls st h g' (by omega) h1 h2 h3 h4 h5 hr' hk) hf hlo hr0 hr' hk
        · cases hs
      · cases hs
    · next r hs =>
      cases hz
      exact hfin n g (by omega) hs
    · cases hz
/-- the last step of a method that isn't led -/
theorem zs_fin {scr : Option (Nat × (Nat → Int32))} {call : zM → List zV → zH → Option zR} {deep : Bool} {g : zC} {v : Option zV} {h' : zH} (hs : zstep scr call deep mi g = some (.inr (v, h'))) (hy : mi.2.2.2.2.1 ≠ yX11_led) :
    g.2.2.2 = h' ∧ ((∃ (x : Int32) (ty : FieldType), v = some (.inl x) ∧ g.2.2.1 = [.inl x] ∧ mi.2.2.2.1 = some ty ∧ narrow ty (.int x) = .int x ∧ decode mi.1 g.1 = .ok (.ireturn, 1)) ∨ (∃ x : Int64, v = some (.inr (.inl x)) ∧ g.2.2.1 = [.inr (.inl x)] ∧ mi.2.2.2.1 = some .long ∧ decode mi.1 g.1 = .ok (.lreturn, 1)) ∨ (v = none ∧ g.2.2.1 = [] ∧ mi.2.2.2.1 = none ∧ decode mi.1 g.1 = .ok (.return_, 1))) := by
  obtain ⟨pc, ls, st, h⟩ := g
  unfold zstep at hs
  split at hs
  · next i len hd =>
    split at hs
    · next hl =>
      by_cases i1 : i = .ireturn
      · subst i1
        obtain rfl := zl_len hl rfl
        simp only [zexec] at hs
        split at hs
        · next x =>
          split at hs
          · next ty h2 =>
            split at hs
            · next hn => cases hs; exact ⟨rfl, Or.inl ⟨x, ty, rfl, rfl, h2, hn, hd⟩⟩
            · cases hs
          · cases hs
        · cases hs
      · by_cases i2 : i = .lreturn
        · subst i2
          obtain rfl := zl_len hl rfl
          simp only [zexec] at hs
          split at hs
          · next x =>
            split at hs
            · next h2 => cases hs; exact ⟨rfl, Or.inr (Or.inl ⟨x, rfl, rfl, h2, hd⟩)⟩
            · cases hs
          · cases hs
        · by_cases i3 : i = .return_
          · subst i3
            obtain rfl := zl_len hl rfl
            simp only [zexec] at hs
            split at hs
            · split at hs
              · next h2 => cases hs; exact ⟨rfl, Or.inr (Or.inr ⟨rfl, rfl, h2, hd⟩)⟩
              · cases hs
            · cases hs
          · obtain ⟨g, hg⟩ := zexec_i hy i1 i2 i3 hs
            cases hg
    · cases hs
  · cases hs
/-- every run of a method, but led, is its contract -/
theorem zmet_all (l : Launch) (B : Nat) (sp : Nat → Nat) (cA : Nat → ClassId) (D : va_G) : ∀ n, zMetAll l B sp cA D n := by
  intro n
  induction n using Nat.strongRecOn with
  | ind n IH =>
    intro d cm vs h v h' hM hw hz
    have hle := zrun_h _ _ _ _ _ _ _ hz
    unfold zMet
    refine Met.ofW (cc := cm.1) (maxL := cm.2.2.1) (ret := cm.2.2.2.1) hM.2.2.1 rfl ?_
    intro p e s m args below meth c s₁ B' hml hv
    obtain ⟨rfl, hC, hR⟩ := hv
    have hts := atoms_spec (ws := zwsM cm) B'.pre
    have hown : s.vm.findClass cm.2.2.2.2.1.cls = some m.cls := findClass_of_methodNamed B'.named
    have hnm : meth.name = cm.2.2.2.2.1.name := (name_of_methodNamed B'.named B'.method).1
    have hlocks := B'.notSynchronized
    have cx : zX p s m (vs.map (zcv B sp)).toArray meth c B sp cA D cm := ⟨B'.exec, B'.bytes, hml, by rw [hM.2.1]; exact hown, fun w hw => hts w (List.mem_cons_of_mem _ hw), fun q => by rw [hnm]; exact hM.2.2.2.2.2.1 q, hC⟩
    have hl := lv_entry (vs.map (zcv B sp)) (n := cm.2.2.1) (by
      have e : ∀ us : List zV, (lg_sl (us.map (zcv B sp))).length = zwd us := by
        intro us
        induction us with
        | nil => rfl
        | cons u us ih =>
          have e1 : lg_sl ((u :: us).map (zcv B sp)) = (if (zcv B sp u).category = 2 then [.val (zcv B sp u), .second] else [.val (zcv B sp u)]) ++ lg_sl (us.map (zcv B sp)) := by simp [lg_sl]
          have e2 : zwd (u :: us) = zcat u + zwd us := by simp [zwd]
          rw [e1, e2, List.length_append, ih, zcat_cv]
          have : zcat u = 1 ∨ zcat u = 2 := by
            match u with
            | .inl _ => exact Or.inl rfl
            | .inr (.inl _) => exact Or.inr rfl
            | .inr (.inr _) => exact Or.inl rfl
          rcases this with q | q <;> rw [q] <;> simp
      rw [e]
      exact hw)
    rw [zargs_lv] at hl
    rw [lg_entry_eq]
    generalize (lg_sl (vs.map (zcv B sp)) ++ List.replicate (cm.2.2.1 - (lg_sl (vs.map (zcv B sp))).length) Slot.unset).toArray = lA at hl ⊢
    have hS : va_S (zAr B) s.heap s.heap [] := va_S.rf
    refine zsim_run (R := (headSpec (zwsM cm) (zrm d (zc h' - zc h) (zt h' - zt h))).room) (scr := none) (d := d) (v := v) (h' := h') (c0 := zc h) (s0 := zt h) (mi := cm) cx (fun L xs q => by cases q) (Nat.le_refl (d + 4)) (Nat.le_refl (60 * (d + 4))) ⟨by show zc h' ≤ zc h + (zc h' - zc h); omega, by show zt h' ≤ zt h + (zt h' - zt h); omega⟩ n IH (fun n k na cm pc ls st h g _ _ _ q => by cases q) ?_ n (0, zargs 0 vs, [], h) (Nat.le_refl n) hz s.heap [] lA 0 0 hR hS hl (by show zc h + 0 = zc h; omega) (by show zt h + 0 = zt h; omega)
    intro k g _ hs H locs lA' cells slots hR' hS' hl' h1 h2
    obtain ⟨e0, hcase⟩ := zs_fin hs hM.2.2.2.2.2.2
    rw [e0] at hR' h1 h2
    have hcl : cells = zc h' - zc h := by omega
    have hsl : slots = zt h' - zt h := by omega
    subst hcl
    subst hsl
    rcases hcase with ⟨x, ty, rfl, e1, e2, hn, hd⟩ | ⟨x, rfl, e1, e2, hd⟩ | ⟨rfl, e1, e2, hd⟩
    · rw [e1]
      exact W.zret (v := x) (ty := ty) cx.1 cx.2.1 (by rw [B'.returns]; exact e2) hn (fun t ht hW => ⟨⟨x, (), rfl, rfl, by show zRel B sp cA D h' t.heap; rw [ht]; exact hR'⟩, hS'.F ht⟩) hS'.2.2 hd
    · rw [e1]
      exact W.lret (v := x) cx.1 cx.2.1 (by rw [B'.returns]; exact e2) (fun t ht hW => ⟨⟨x, (), rfl, rfl, by show zRel B sp cA D h' t.heap; rw [ht]; exact hR'⟩, hS'.F ht⟩) hS'.2.2 hd
    · rw [e1]
      exact W.vret cx.1 cx.2.1 (by rw [B'.returns]; exact e2) (fun t ht hW => ⟨⟨(), rfl, trivial, by show zRel B sp cA D h' t.heap; rw [ht]; exact hR'⟩, hS'.F ht⟩) hS'.2.2 hd
end ZS8
end Pk2
section Pk3
/-! the small machine's own judgement: a run that ends, and what holds then -/
def zEx (scr : Option (Nat × (Nat → Int32))) (d : Nat) (m : zM) (g : zC) (Q : Option zV → zH → Prop) : Prop := ∃ (n : Nat) (v : Option zV) (h' : zH), zrun n scr d m g = some (v, h') ∧ Q v h'
/-- a contract of a method -/
def zCt (d : Nat) (m : zM) (vs : List zV) (h : zH) (Q : Option zV → zH → Prop) : Prop := zEx none d m (0, zargs 0 vs, [], h) Q
section ZF
variable {pc len : Nat} {ls : zL} {st : List zV} {h : zH} {x : zC ⊕ zR} {call call' : zM → List zV → zH → Option zR}
theorem zcall_m {cm : zM} {kd na : Nat} (hc : ∀ k vs h r, call k vs h = some r → call' k vs h = some r) (hz : zcall call cm kd na pc ls st h = some x) : zcall call' cm kd na pc ls st h = some x := by
  unfold zcall at hz ⊢
  split at hz
  · next q =>
    rw [if_pos q]
    split at hz
    · next q2 =>
      rw [if_pos q2]
      split at hz
      · next r h' q3 => rw [hc _ _ _ _ q3]; exact hz
      · cases hz
    · next q2 =>
      rw [if_neg q2]
      split at hz
      · next a vs q3 =>
        split at hz
        · next k n q4 =>
          split at hz
          · next q5 =>
            rw [if_pos q5]
            split at hz
            · next r h' q6 => rw [hc _ _ _ _ q6]; exact hz
            · cases hz
          · cases hz
        · cases hz
      · cases hz
  · cases hz
theorem zled_m (hc : ∀ k vs h r, call k vs h = some r → call' k vs h = some r) (hz : zled call pc ls st h = some x) : zled call' pc ls st h = some x := by
  unfold zled at hz ⊢
  split at hz
  · next o p0 a st' =>
    split at hz
    · next q =>
      rw [if_pos q]
      split at hz
      · next b h' q3 => rw [hc _ _ _ _ q3]; exact hz
      · next b h' q3 => rw [hc _ _ _ _ q3]; exact hz
      · cases hz
    · cases hz
  · cases hz
theorem zexec_m {scr : Option (Nat × (Nat → Int32))} {deep : Bool} {m : zM} {i : Instr} (hc : ∀ k vs h r, call k vs h = some r → call' k vs h = some r) (hs : zexec scr call deep m i len pc ls st h = some x) : zexec scr call' deep m i len pc ls st h = some x := by
  cases i with
  | invokevirtual k =>
    simp only [zexec] at hs ⊢
    split at hs
    · next q =>
      split at hs
      · next q2 =>
        rw [if_pos q2]
        split at hs
        · next q3 => rw [if_pos q3]; exact hs
        · next q3 => rw [if_neg q3]; exact zcall_m hc hs
      · cases hs
    · cases hs
  | invokestatic k =>
    simp only [zexec] at hs ⊢
    split at hs
    · next q =>
      split at hs
      · next q2 => rw [if_pos q2]; exact zcall_m hc hs
      · next q2 =>
        rw [if_neg q2]
        split at hs
        · next q3 =>
          rw [if_pos q3]
          split at hs
          · next q4 => rw [if_pos q4]; exact zled_m hc hs
          · cases hs
        · next q3 => rw [if_neg q3]; exact hs
    · cases hs
  | invokespecial k =>
    simp only [zexec] at hs ⊢
    split at hs
    · next q =>
      split at hs
      · next q2 => rw [if_pos q2]; exact zcall_m hc hs
      · next q2 => rw [if_neg q2]; exact hs
    · cases hs
  | _ => exact hs
end ZF
theorem zrun_m : ∀ (n : Nat) (scr : Option (Nat × (Nat → Int32))) (d : Nat) (m : zM) (g : zC) (r : zR), zrun n scr d m g = some r → zrun (n + 1) scr d m g = some r := by
  intro n
  induction n with
  | zero => intro scr d m g r hz; cases hz
  | succ n ih =>
    intro scr d m g r hz
    rw [zrun_succ] at hz ⊢
    have hc : ∀ k vs h r, zcf n d k vs h = some r → zcf (n + 1) d k vs h = some r := by
      intro k vs h r hq
      unfold zcf at hq ⊢
      split at hq
      · cases hq
      · split at hq
        · next q => rw [if_pos q]; exact ih _ _ _ _ _ hq
        · cases hq
    have step : ∀ x, zstep scr (zcf n d) (decide (0 < d)) m g = some x → zstep scr (zcf (n + 1) d) (decide (0 < d)) m g = some x := by
      intro x hs
      unfold zstep at hs ⊢
      split at hs
      · next i len hd =>
        split at hs
        · next q => rw [if_pos q]; exact zexec_m hc hs
        · cases hs
      · cases hs
    split at hz
    · next g' hs => rw [step _ hs]; exact ih _ _ _ _ _ hz
    · next r' hs => rw [step _ hs]; exact hz
    · cases hz
theorem zrun_le {n n' : Nat} {scr : Option (Nat × (Nat → Int32))} {d : Nat} {m : zM} {g : zC} {r : zR} (hn : n ≤ n') (hz : zrun n scr d m g = some r) : zrun n' scr d m g = some r := by
  obtain ⟨k, rfl⟩ := Nat.exists_eq_add_of_le hn
  clear hn
  induction k with
  | zero => exact hz
  | succ k ih => exact zrun_m _ _ _ _ _ _ ih
section ZX
variable {scr : Option (Nat × (Nat → Int32))} {d : Nat} {m : zM} {pc pc' len : Nat} {ls : zL} {st : List zV} {h : zH} {Q : Option zV → zH → Prop} {i : Instr}
theorem ex_go {g' : zC} (hd : decode m.1 pc = .ok (i, len)) (hl : zilen i = 0 ∨ len = zilen i) (hx : ∀ call, zexec scr call (decide (0 < d)) m i len pc ls st h = some (.inl g')) (k : zEx scr d m g' Q) : zEx scr d m (pc, ls, st, h) Q := by
  obtain ⟨n, v, h', h1, h2⟩ := k
  refine ⟨n + 1, v, h', ?_, h2⟩
  rw [zrun_succ]
  have hs : zstep scr (zcf n d) (decide (0 < d)) m (pc, ls, st, h) = some (.inl g') := by
    unfold zstep
    rw [hd]
    dsimp only
    rw [if_pos hl]
    exact hx _
  rw [hs]
  exact h1
theorem ex_end {v : Option zV} {h' : zH} (hd : decode m.1 pc = .ok (i, len)) (hl : zilen i = 0 ∨ len = zilen i) (hx : ∀ call, zexec scr call (decide (0 < d)) m i len pc ls st h = some (.inr (v, h'))) (hq : Q v h') : zEx scr d m (pc, ls, st, h) Q := by
  refine ⟨1, v, h', ?_, hq⟩
  rw [zrun_succ]
  have hs : zstep scr (zcf 0 d) (decide (0 < d)) m (pc, ls, st, h) = some (.inr (v, h')) := by
    unfold zstep
    rw [hd]
    dsimp only
    rw [if_pos hl]
    exact hx _
  rw [hs]
theorem ex_call {cm : zM} {vs rest : List zV} {Qc : Option zV → zH → Prop} (hd : decode m.1 pc = .ok (i, len)) (hl : zilen i = 0 ∨ len = zilen i) (hx : ∀ call r h', call cm vs h = some (r, h') → zexec scr call true m i len pc ls st h = some (.inl (pc', ls, r.toList ++ rest, h'))) (hw : zwd vs ≤ cm.2.2.1) (hc : zCt d cm vs h Qc) (k : ∀ r h', Qc r h' → zEx scr (d + 1) m (pc', ls, r.toList ++ rest, h') Q) : zEx scr (d + 1) m (pc, ls, st, h) Q := by
  obtain ⟨n1, r, h1, a1, a2⟩ := hc
  obtain ⟨n2, v, h', b1, b2⟩ := k r h1 a2
  refine ⟨max n1 n2 + 1, v, h', ?_, b2⟩
  rw [zrun_succ]
  have hs : zstep scr (zcf (max n1 n2) (d + 1)) (decide (0 < d + 1)) m (pc, ls, st, h) = some (.inl (pc', ls, r.toList ++ rest, h1)) := by
    unfold zstep
    rw [hd]
    dsimp only
    rw [if_pos hl]
    have e : decide (0 < d + 1) = true := by simp
    rw [e]
    refine hx _ _ _ ?_
    unfold zcf
    dsimp only
    rw [if_pos hw]
    exact zrun_le (Nat.le_max_left _ _) a1
  rw [hs]
  exact zrun_le (Nat.le_max_right _ _) b1
theorem zEx.mono {Q' : Option zV → zH → Prop} {g : zC} (k : zEx scr d m g Q) (hq : ∀ v h', Q v h' → Q' v h') : zEx scr d m g Q' := by
  obtain ⟨n, v, h', a, b⟩ := k
  exact ⟨n, v, h', a, hq v h' b⟩
theorem ex_iconst {n : Int} {v : Int32} (hd : decode m.1 pc = .ok (.iconst n, 1)) (hv : Int32.ofInt n = v) (hp : pc + 1 = pc') (k : zEx scr d m (pc', ls, .inl v :: st, h) Q) : zEx scr d m (pc, ls, st, h) Q := by
  subst hp; subst hv; exact ex_go hd (Or.inr rfl) (fun _ => rfl) k
theorem ex_bipush {n : Int} {v : Int32} (hd : decode m.1 pc = .ok (.bipush n, 2)) (hv : (Int8.ofInt n).toInt32 = v) (hp : pc + 2 = pc') (k : zEx scr d m (pc', ls, .inl v :: st, h) Q) : zEx scr d m (pc, ls, st, h) Q := by
  subst hp; subst hv; exact ex_go hd (Or.inr rfl) (fun _ => rfl) k
theorem ex_sipush {n : Int} {v : Int32} (hd : decode m.1 pc = .ok (.sipush n, 3)) (hv : (Int16.ofInt n).toInt32 = v) (hp : pc + 3 = pc') (k : zEx scr d m (pc', ls, .inl v :: st, h) Q) : zEx scr d m (pc, ls, st, h) Q := by
  subst hp; subst hv; exact ex_go hd (Or.inr rfl) (fun _ => rfl) k
theorem ex_lconst {n : Fin 2} {v : Int64} (hd : decode m.1 pc = .ok (.lconst n, 1)) (hv : Int64.ofNat (n : Nat) = v) (hp : pc + 1 = pc') (k : zEx scr d m (pc', ls, .inr (.inl v) :: st, h) Q) : zEx scr d m (pc, ls, st, h) Q := by
  subst hp; subst hv; exact ex_go hd (Or.inr rfl) (fun _ => rfl) k
theorem ex_ldc {k : Nat} {v : zV} (hd : decode m.1 pc = .ok (.ldc k, 2)) (hv : zcst m.2.1 k = some v) (hc : zcat v = 1) (hp : pc + 2 = pc') (kk : zEx scr d m (pc', ls, v :: st, h) Q) : zEx scr d m (pc, ls, st, h) Q := by
  subst hp; exact ex_go hd (Or.inr rfl) (fun _ => by simp only [zexec, zldv, hv]; rw [if_pos hc]) kk
theorem ex_ldcw {k : Nat} {v : zV} (hd : decode m.1 pc = .ok (.ldc_w k, 3)) (hv : zcst m.2.1 k = some v) (hc : zcat v = 1) (hp : pc + 3 = pc') (kk : zEx scr d m (pc', ls, v :: st, h) Q) : zEx scr d m (pc, ls, st, h) Q := by
  subst hp; exact ex_go hd (Or.inr rfl) (fun _ => by simp only [zexec, zldv, hv]; rw [if_pos hc]) kk
theorem ex_ldc2 {k : Nat} {v : zV} (hd : decode m.1 pc = .ok (.ldc2_w k, 3)) (hv : zcst m.2.1 k = some v) (hc : zcat v = 2) (hp : pc + 3 = pc') (kk : zEx scr d m (pc', ls, v :: st, h) Q) : zEx scr d m (pc, ls, st, h) Q := by
  subst hp; exact ex_go hd (Or.inr rfl) (fun _ => by simp only [zexec, zldv, hv]; rw [if_pos hc]) kk
theorem ex_iload {j : Nat} {v : Int32} (hd : decode m.1 pc = .ok (.iload j, 2)) (hv : zget ls j = some (.inl v)) (hp : pc + 2 = pc') (k : zEx scr d m (pc', ls, .inl v :: st, h) Q) : zEx scr d m (pc, ls, st, h) Q := by
  subst hp; exact ex_go hd (Or.inr rfl) (fun _ => by simp only [zexec, zload, hv]; rfl) k
theorem ex_iload_n {j : Fin 4} {v : Int32} (hd : decode m.1 pc = .ok (.iload_n j, 1)) (hv : zget ls (j : Nat) = some (.inl v)) (hp : pc + 1 = pc') (k : zEx scr d m (pc', ls, .inl v :: st, h) Q) : zEx scr d m (pc, ls, st, h) Q := by
  subst hp; exact ex_go hd (Or.inr rfl) (fun _ => by simp only [zexec, zload, hv]; rfl) k
theorem ex_lload {j : Nat} {v : Int64} (hd : decode m.1 pc = .ok (.lload j, 2)) (hv : zget ls j = some (.inr (.inl v))) (hp : pc + 2 = pc') (k : zEx scr d m (pc', ls, .inr (.inl v) :: st, h) Q) : zEx scr d m (pc, ls, st, h) Q := by
  subst hp; exact ex_go hd (Or.inr rfl) (fun _ => by simp only [zexec, zload, hv]; rfl) k
theorem ex_lload_n {j : Fin 4} {v : Int64} (hd : decode m.1 pc = .ok (.lload_n j, 1)) (hv : zget ls (j : Nat) = some (.inr (.inl v))) (hp : pc + 1 = pc') (k : zEx scr d m (pc', ls, .inr (.inl v) :: st, h) Q) : zEx scr d m (pc, ls, st, h) Q := by
  subst hp; exact ex_go hd (Or.inr rfl) (fun _ => by simp only [zexec, zload, hv]; rfl) k
theorem ex_aload {j : Nat} {v : Nat} (hd : decode m.1 pc = .ok (.aload j, 2)) (hv : zget ls j = some (.inr (.inr (some v)))) (hp : pc + 2 = pc') (k : zEx scr d m (pc', ls, .inr (.inr (some v)) :: st, h) Q) : zEx scr d m (pc, ls, st, h) Q := by
  subst hp; exact ex_go hd (Or.inr rfl) (fun _ => by simp only [zexec, zload, hv]; rfl) k
theorem ex_aload_n {j : Fin 4} {v : Nat} (hd : decode m.1 pc = .ok (.aload_n j, 1)) (hv : zget ls (j : Nat) = some (.inr (.inr (some v)))) (hp : pc + 1 = pc') (k : zEx scr d m (pc', ls, .inr (.inr (some v)) :: st, h) Q) : zEx scr d m (pc, ls, st, h) Q := by
  subst hp; exact ex_go hd (Or.inr rfl) (fun _ => by simp only [zexec, zload, hv]; rfl) k
theorem ex_istore {j : Nat} {v : Int32} {ls' : zL} (hd : decode m.1 pc = .ok (.istore j, 2)) (hj : j < m.2.2.1) (hl : zset1 ls j (.inl v) = ls') (hp : pc + 2 = pc') (k : zEx scr d m (pc', ls', st, h) Q) : zEx scr d m (pc, ls, .inl v :: st, h) Q := by
  subst hp; subst hl; exact ex_go hd (Or.inr rfl) (fun _ => by simp only [zexec, zstore]; rw [if_pos ⟨trivial, hj⟩]) k
theorem ex_istore_n {j : Fin 4} {v : Int32} {ls' : zL} (hd : decode m.1 pc = .ok (.istore_n j, 1)) (hj : (j : Nat) < m.2.2.1) (hl : zset1 ls (j : Nat) (.inl v) = ls') (hp : pc + 1 = pc') (k : zEx scr d m (pc', ls', st, h) Q) : zEx scr d m (pc, ls, .inl v :: st, h) Q := by
  subst hp; subst hl; exact ex_go hd (Or.inr rfl) (fun _ => by simp only [zexec, zstore]; rw [if_pos ⟨trivial, hj⟩]) k
theorem ex_lstore {j : Nat} {v : Int64} {ls' : zL} (hd : decode m.1 pc = .ok (.lstore j, 2)) (hj : j + 1 < m.2.2.1) (hl : zset2 ls j (.inr (.inl v)) = ls') (hp : pc + 2 = pc') (k : zEx scr d m (pc', ls', st, h) Q) : zEx scr d m (pc, ls, .inr (.inl v) :: st, h) Q := by
  subst hp; subst hl; exact ex_go hd (Or.inr rfl) (fun _ => by simp only [zexec, zstore]; rw [if_pos ⟨trivial, hj⟩]) k
theorem ex_lstore_n {j : Fin 4} {v : Int64} {ls' : zL} (hd : decode m.1 pc = .ok (.lstore_n j, 1)) (hj : (j : Nat) + 1 < m.2.2.1) (hl : zset2 ls (j : Nat) (.inr (.inl v)) = ls') (hp : pc + 1 = pc') (k : zEx scr d m (pc', ls', st, h) Q) : zEx scr d m (pc, ls, .inr (.inl v) :: st, h) Q := by
  subst hp; subst hl; exact ex_go hd (Or.inr rfl) (fun _ => by simp only [zexec, zstore]; rw [if_pos ⟨trivial, hj⟩]) k
theorem ex_astore {j : Nat} {v : Nat} {ls' : zL} (hd : decode m.1 pc = .ok (.astore j, 2)) (hj : j < m.2.2.1) (hl : zset1 ls j (.inr (.inr (some v))) = ls') (hp : pc + 2 = pc') (k : zEx scr d m (pc', ls', st, h) Q) : zEx scr d m (pc, ls, .inr (.inr (some v)) :: st, h) Q := by
  subst hp; subst hl; exact ex_go hd (Or.inr rfl) (fun _ => by simp only [zexec, zstore]; rw [if_pos ⟨trivial, hj⟩]) k
theorem ex_astore_n {j : Fin 4} {v : Nat} {ls' : zL} (hd : decode m.1 pc = .ok (.astore_n j, 1)) (hj : (j : Nat) < m.2.2.1) (hl : zset1 ls (j : Nat) (.inr (.inr (some v))) = ls') (hp : pc + 1 = pc') (k : zEx scr d m (pc', ls', st, h) Q) : zEx scr d m (pc, ls, .inr (.inr (some v)) :: st, h) Q := by
  subst hp; subst hl; exact ex_go hd (Or.inr rfl) (fun _ => by simp only [zexec, zstore]; rw [if_pos ⟨trivial, hj⟩]) k
theorem ex_iinc {j : Nat} {n : Int} {x v : Int32} {ls' : zL} (hd : decode m.1 pc = .ok (.iinc j n, 3)) (hg : zget ls j = some (.inl x)) (hj : j < m.2.2.1) (hv : x + Int32.ofInt n = v) (hl : zset1 ls j (.inl v) = ls') (hp : pc + 3 = pc') (k : zEx scr d m (pc', ls', st, h) Q) : zEx scr d m (pc, ls, st, h) Q := by
  subst hp; subst hl; subst hv; exact ex_go hd (Or.inr rfl) (fun _ => by simp only [zexec, hg]; rw [if_pos hj]) k
theorem ex_bin {x y v : Int32} (hd : decode m.1 pc = .ok (i, 1)) (hi : zilen i = 1) (hx : ∀ (call : zM → List zV → zH → Option zR) (deep : Bool) st, zexec scr call deep m i 1 pc ls st h = zarith i 1 pc ls st h) (hz : zbin i x y = some v) (hp : pc + 1 = pc') (k : zEx scr d m (pc', ls, .inl v :: st, h) Q) : zEx scr d m (pc, ls, .inl y :: .inl x :: st, h) Q := by
  subst hp; exact ex_go hd (Or.inr hi.symm) (fun _ => by rw [hx]; simp only [zarith, hz]) k
theorem ex_iadd {x y v : Int32} (hd : decode m.1 pc = .ok (.iadd, 1)) (hv : x + y = v) (hp : pc + 1 = pc') (k : zEx scr d m (pc', ls, .inl v :: st, h) Q) : zEx scr d m (pc, ls, .inl y :: .inl x :: st, h) Q := by
  subst hv; exact ex_bin hd rfl (fun _ _ _ => rfl) rfl hp k
theorem ex_isub {x y v : Int32} (hd : decode m.1 pc = .ok (.isub, 1)) (hv : x - y = v) (hp : pc + 1 = pc') (k : zEx scr d m (pc', ls, .inl v :: st, h) Q) : zEx scr d m (pc, ls, .inl y :: .inl x :: st, h) Q := by
  subst hv; exact ex_bin hd rfl (fun _ _ _ => rfl) rfl hp k
theorem ex_imul {x y v : Int32} (hd : decode m.1 pc = .ok (.imul, 1)) (hv : x * y = v) (hp : pc + 1 = pc') (k : zEx scr d m (pc', ls, .inl v :: st, h) Q) : zEx scr d m (pc, ls, .inl y :: .inl x :: st, h) Q := by
  subst hv; exact ex_bin hd rfl (fun _ _ _ => rfl) rfl hp k
theorem ex_iand {x y v : Int32} (hd : decode m.1 pc = .ok (.iand, 1)) (hv : x &&& y = v) (hp : pc + 1 = pc') (k : zEx scr d m (pc', ls, .inl v :: st, h) Q) : zEx scr d m (pc, ls, .inl y :: .inl x :: st, h) Q := by
  subst hv; exact ex_bin hd rfl (fun _ _ _ => rfl) rfl hp k
theorem ex_ior {x y v : Int32} (hd : decode m.1 pc = .ok (.ior, 1)) (hv : x ||| y = v) (hp : pc + 1 = pc') (k : zEx scr d m (pc', ls, .inl v :: st, h) Q) : zEx scr d m (pc, ls, .inl y :: .inl x :: st, h) Q := by
  subst hv; exact ex_bin hd rfl (fun _ _ _ => rfl) rfl hp k
theorem ex_ixor {x y v : Int32} (hd : decode m.1 pc = .ok (.ixor, 1)) (hv : x ^^^ y = v) (hp : pc + 1 = pc') (k : zEx scr d m (pc', ls, .inl v :: st, h) Q) : zEx scr d m (pc, ls, .inl y :: .inl x :: st, h) Q := by
  subst hv; exact ex_bin hd rfl (fun _ _ _ => rfl) rfl hp k
theorem ex_ishl {x y v : Int32} (hd : decode m.1 pc = .ok (.ishl, 1)) (hv : x <<< (y &&& 31) = v) (hp : pc + 1 = pc') (k : zEx scr d m (pc', ls, .inl v :: st, h) Q) : zEx scr d m (pc, ls, .inl y :: .inl x :: st, h) Q := by
  subst hv; exact ex_bin hd rfl (fun _ _ _ => rfl) rfl hp k
theorem ex_ishr {x y v : Int32} (hd : decode m.1 pc = .ok (.ishr, 1)) (hv : x >>> (y &&& 31) = v) (hp : pc + 1 = pc') (k : zEx scr d m (pc', ls, .inl v :: st, h) Q) : zEx scr d m (pc, ls, .inl y :: .inl x :: st, h) Q := by
  subst hv; exact ex_bin hd rfl (fun _ _ _ => rfl) rfl hp k
theorem ex_iushr {x y v : Int32} (hd : decode m.1 pc = .ok (.iushr, 1)) (hv : (x.toUInt32 >>> (y.toUInt32 &&& Int32.toUInt32 31)).toInt32 = v) (hp : pc + 1 = pc') (k : zEx scr d m (pc', ls, .inl v :: st, h) Q) : zEx scr d m (pc, ls, .inl y :: .inl x :: st, h) Q := by
  subst hv; exact ex_bin hd rfl (fun _ _ _ => rfl) rfl hp k
theorem ex_idiv {x y v : Int32} (hd : decode m.1 pc = .ok (.idiv, 1)) (hy : ¬ y = 0) (hv : x / y = v) (hp : pc + 1 = pc') (k : zEx scr d m (pc', ls, .inl v :: st, h) Q) : zEx scr d m (pc, ls, .inl y :: .inl x :: st, h) Q := by
  subst hv; exact ex_bin hd rfl (fun _ _ _ => rfl) (by simp only [zbin]; rw [if_neg hy]) hp k
theorem ex_irem {x y v : Int32} (hd : decode m.1 pc = .ok (.irem, 1)) (hy : ¬ y = 0) (hv : x - x / y * y = v) (hp : pc + 1 = pc') (k : zEx scr d m (pc', ls, .inl v :: st, h) Q) : zEx scr d m (pc, ls, .inl y :: .inl x :: st, h) Q := by
  subst hv; exact ex_bin hd rfl (fun _ _ _ => rfl) (by simp only [zbin]; rw [if_neg hy]) hp k
theorem ex_un {x : Int32} {v : zV} (hd : decode m.1 pc = .ok (i, 1)) (hi : zilen i = 1) (hx : ∀ (call : zM → List zV → zH → Option zR) (deep : Bool) st, zexec scr call deep m i 1 pc ls st h = zarith i 1 pc ls st h) (hb : ∀ a b, zbin i a b = none) (hz : zun i x = some v) (hp : pc + 1 = pc') (k : zEx scr d m (pc', ls, v :: st, h) Q) : zEx scr d m (pc, ls, .inl x :: st, h) Q := by
  subst hp
  refine ex_go hd (Or.inr hi.symm) (fun _ => ?_) k
  rw [hx]
  unfold zarith
  split
  · next y x' st' e =>
    cases e
    rw [hb, hz]
  · next x' st' h0 e =>
    cases e
    rw [hz]
  · next e => cases e
  · next h1 h2 h3 => exact absurd rfl (h2 x st)
theorem ex_i2l {x : Int32} {v : Int64} (hd : decode m.1 pc = .ok (.i2l, 1)) (hv : x.toInt64 = v) (hp : pc + 1 = pc') (k : zEx scr d m (pc', ls, .inr (.inl v) :: st, h) Q) : zEx scr d m (pc, ls, .inl x :: st, h) Q := by
  subst hv; exact ex_un hd rfl (fun _ _ _ => rfl) (fun _ _ => rfl) rfl hp k
theorem ex_i2b {x : Int32} {v : Int32} (hd : decode m.1 pc = .ok (.i2b, 1)) (hv : x.toInt8.toInt32 = v) (hp : pc + 1 = pc') (k : zEx scr d m (pc', ls, .inl v :: st, h) Q) : zEx scr d m (pc, ls, .inl x :: st, h) Q := by
  subst hv; exact ex_un hd rfl (fun _ _ _ => rfl) (fun _ _ => rfl) rfl hp k
theorem ex_i2c {x : Int32} {v : Int32} (hd : decode m.1 pc = .ok (.i2c, 1)) (hv : (x.toUInt32 % 65536).toInt32 = v) (hp : pc + 1 = pc') (k : zEx scr d m (pc', ls, .inl v :: st, h) Q) : zEx scr d m (pc, ls, .inl x :: st, h) Q := by
  subst hv; exact ex_un hd rfl (fun _ _ _ => rfl) (fun _ _ => rfl) rfl hp k
theorem ex_lcmp {x y : Int64} {v : Int32} (hd : decode m.1 pc = .ok (.lcmp, 1)) (hv : lg_cmp x y = v) (hp : pc + 1 = pc') (k : zEx scr d m (pc', ls, .inl v :: st, h) Q) : zEx scr d m (pc, ls, .inr (.inl y) :: .inr (.inl x) :: st, h) Q := by
  subst hv; subst hp; exact ex_go hd (Or.inr rfl) (fun _ => rfl) k
theorem ex_lor {x y v : Int64} (hd : decode m.1 pc = .ok (.lor, 1)) (hv : x ||| y = v) (hp : pc + 1 = pc') (k : zEx scr d m (pc', ls, .inr (.inl v) :: st, h) Q) : zEx scr d m (pc, ls, .inr (.inl y) :: .inr (.inl x) :: st, h) Q := by
  subst hv; subst hp; exact ex_go hd (Or.inr rfl) (fun _ => rfl) k
theorem ex_lrem {x y v : Int64} (hd : decode m.1 pc = .ok (.lrem, 1)) (hy : ¬ y = 0) (hv : x - x / y * y = v) (hp : pc + 1 = pc') (k : zEx scr d m (pc', ls, .inr (.inl v) :: st, h) Q) : zEx scr d m (pc, ls, .inr (.inl y) :: .inr (.inl x) :: st, h) Q := by
  subst hv; subst hp; exact ex_go hd (Or.inr rfl) (fun _ => by simp only [zexec, zarith, zlbin]; rw [if_neg hy]) k
theorem ex_ldiv {x y v : Int64} (hd : decode m.1 pc = .ok (.ldiv, 1)) (hy : ¬ y = 0) (hv : x / y = v) (hp : pc + 1 = pc') (k : zEx scr d m (pc', ls, .inr (.inl v) :: st, h) Q) : zEx scr d m (pc, ls, .inr (.inl y) :: .inr (.inl x) :: st, h) Q := by
  subst hv; subst hp; exact ex_go hd (Or.inr rfl) (fun _ => by simp only [zexec, zarith, zlbin]; rw [if_neg hy]) k
theorem ex_lshl {x v : Int64} {y : Int32} (hd : decode m.1 pc = .ok (.lshl, 1)) (hv : x <<< (y.toInt64 &&& 63) = v) (hp : pc + 1 = pc') (k : zEx scr d m (pc', ls, .inr (.inl v) :: st, h) Q) : zEx scr d m (pc, ls, .inl y :: .inr (.inl x) :: st, h) Q := by
  subst hv; subst hp; exact ex_go hd (Or.inr rfl) (fun _ => rfl) k
theorem ex_goto {off : Int} (hd : decode m.1 pc = .ok (.goto off, 3)) (hp : (pc : Int) + off = (pc' : Int)) (k : zEx scr d m (pc', ls, st, h) Q) : zEx scr d m (pc, ls, st, h) Q :=
  ex_go hd (Or.inr rfl) (fun _ => by simp only [zexec, zjump, hp]; rfl) k
theorem ex_br {b : Bool} {off : Int} {g' : zC} (hp : (pc : Int) + off = (pc' : Int)) (hb : (b = true ∧ g' = (pc', ls, st, h)) ∨ (b = false ∧ g' = (pc + 3, ls, st, h))) : zbr b pc 3 off ls st h = some (.inl g') := by
  unfold zbr
  rw [hp, if_pos (Int.natCast_nonneg _)]
  rcases hb with ⟨rfl, rfl⟩ | ⟨rfl, rfl⟩
  · simp
  · simp
/-- branches: both roads, the taken one, the other one -/
theorem ex_if {cd : ClassFile.Cond} {off : Int} {x : Int32} {pc2 : Nat} (hd : decode m.1 pc = .ok (.ifCond cd off, 3)) (hp : (pc : Int) + off = (pc' : Int)) (hp2 : pc + 3 = pc2) (kt : zcond cd x 0 = true → zEx scr d m (pc', ls, st, h) Q) (kf : zcond cd x 0 = false → zEx scr d m (pc2, ls, st, h) Q) : zEx scr d m (pc, ls, .inl x :: st, h) Q := by
  subst hp2
  cases hc : zcond cd x 0 with
  | true => exact ex_go hd (Or.inr rfl) (fun _ => by simp only [zexec]; exact ex_br hp (Or.inl ⟨hc, rfl⟩)) (kt hc)
  | false => exact ex_go hd (Or.inr rfl) (fun _ => by simp only [zexec]; exact ex_br hp (Or.inr ⟨hc, rfl⟩)) (kf hc)
theorem ex_icmp {cd : ClassFile.Cond} {off : Int} {x y : Int32} {pc2 : Nat} (hd : decode m.1 pc = .ok (.if_icmp cd off, 3)) (hp : (pc : Int) + off = (pc' : Int)) (hp2 : pc + 3 = pc2) (kt : zcond cd x y = true → zEx scr d m (pc', ls, st, h) Q) (kf : zcond cd x y = false → zEx scr d m (pc2, ls, st, h) Q) : zEx scr d m (pc, ls, .inl y :: .inl x :: st, h) Q := by
  subst hp2
  cases hc : zcond cd x y with
  | true => exact ex_go hd (Or.inr rfl) (fun _ => by simp only [zexec]; exact ex_br hp (Or.inl ⟨hc, rfl⟩)) (kt hc)
  | false => exact ex_go hd (Or.inr rfl) (fun _ => by simp only [zexec]; exact ex_br hp (Or.inr ⟨hc, rfl⟩)) (kf hc)
theorem ex_if_t {cd : ClassFile.Cond} {off : Int} {x : Int32} (hd : decode m.1 pc = .ok (.ifCond cd off, 3)) (hc : zcond cd x 0 = true) (hp : (pc : Int) + off = (pc' : Int)) (k : zEx scr d m (pc', ls, st, h) Q) : zEx scr d m (pc, ls, .inl x :: st, h) Q :=
  ex_if hd hp rfl (fun _ => k) (fun q => absurd (hc.symm.trans q) (by decide))
theorem ex_if_f {cd : ClassFile.Cond} {off : Int} {x : Int32} (hd : decode m.1 pc = .ok (.ifCond cd off, 3)) (hc : zcond cd x 0 = false) (ho : 0 ≤ (pc : Int) + off) (hp : pc + 3 = pc') (k : zEx scr d m (pc', ls, st, h) Q) : zEx scr d m (pc, ls, .inl x :: st, h) Q :=
  ex_if (pc' := ((pc : Int) + off).toNat) hd (Int.toNat_of_nonneg ho).symm hp (fun q => absurd (hc.symm.trans q) (by decide)) (fun _ => k)
theorem ex_icmp_t {cd : ClassFile.Cond} {off : Int} {x y : Int32} (hd : decode m.1 pc = .ok (.if_icmp cd off, 3)) (hc : zcond cd x y = true) (hp : (pc : Int) + off = (pc' : Int)) (k : zEx scr d m (pc', ls, st, h) Q) : zEx scr d m (pc, ls, .inl y :: .inl x :: st, h) Q :=
  ex_icmp hd hp rfl (fun _ => k) (fun q => absurd (hc.symm.trans q) (by decide))
theorem ex_icmp_f {cd : ClassFile.Cond} {off : Int} {x y : Int32} (hd : decode m.1 pc = .ok (.if_icmp cd off, 3)) (hc : zcond cd x y = false) (ho : 0 ≤ (pc : Int) + off) (hp : pc + 3 = pc') (k : zEx scr d m (pc', ls, st, h) Q) : zEx scr d m (pc, ls, .inl y :: .inl x :: st, h) Q :=
  ex_icmp (pc' := ((pc : Int) + off).toNat) hd (Int.toNat_of_nonneg ho).symm hp (fun q => absurd (hc.symm.trans q) (by decide)) (fun _ => k)
theorem ex_switch {df lo hi : Int} {offs : Array Int} {x : Int32} (hd : decode m.1 pc = .ok (.tableswitch df lo hi offs, len)) (hc : (x.toInt < lo ∨ hi < x.toInt) → (pc : Int) + df = (pc' : Int)) (hc2 : ¬ (x.toInt < lo ∨ hi < x.toInt) → ∃ off, offs[(x.toInt - lo).toNat]? = some off ∧ (pc : Int) + off = (pc' : Int)) (k : zEx scr d m (pc', ls, st, h) Q) : zEx scr d m (pc, ls, .inl x :: st, h) Q := by
  refine ex_go hd (Or.inl rfl) (fun _ => ?_) k
  simp only [zexec]
  by_cases hb : x.toInt < lo ∨ hi < x.toInt
  · rw [if_pos hb]
    simp only [zjump, hc hb]
    rfl
  · rw [if_neg hb]
    obtain ⟨off, h1, h2⟩ := hc2 hb
    rw [h1]
    simp only [zjump, h2]
    rfl
theorem ex_getI {k a ci f n : Nat} {v : Int32} (hd : decode m.1 pc = .ok (.getfield k, 3)) (hz : zfld m.2.1 k = some (ci, f)) (hs : zsh h a = some (ci, n)) (hc : (zft ci).getD f 0 ≠ 3) (hv : h.2.1 a f = v) (hp : pc + 3 = pc') (kk : zEx scr d m (pc', ls, .inl v :: st, h) Q) : zEx scr d m (pc, ls, .inr (.inr (some a)) :: st, h) Q := by
  subst hp; exact ex_go hd (Or.inr rfl) (fun _ => by simp only [zexec, hz, hs, zfv, if_neg hc, hv]; rfl) kk
theorem ex_getR {k a ci f n r : Nat} (hd : decode m.1 pc = .ok (.getfield k, 3)) (hz : zfld m.2.1 k = some (ci, f)) (hs : zsh h a = some (ci, n)) (hc : (zft ci).getD f 0 = 3) (hv : h.2.2.2.1 a f = some r) (hp : pc + 3 = pc') (kk : zEx scr d m (pc', ls, .inr (.inr (some r)) :: st, h) Q) : zEx scr d m (pc, ls, .inr (.inr (some a)) :: st, h) Q := by
  subst hp; exact ex_go hd (Or.inr rfl) (fun _ => by simp only [zexec, hz, hs, zfv, if_pos hc, hv]; rfl) kk
theorem ex_putI {k a ci f n : Nat} {v : Int32} (hd : decode m.1 pc = .ok (.putfield k, 3)) (hz : zfld m.2.1 k = some (ci, f)) (hs : zsh h a = some (ci, n)) (hfi : zfin ci f = false ∨ (m.2.2.2.2.2 = true ∧ m.2.1 = ci)) (hc : (zft ci).getD f 9 = 0 ∨ ((zft ci).getD f 9 = 1 ∧ (v = 0 ∨ v = 1))) (hp : pc + 3 = pc') (kk : zEx scr d m (pc', ls, st, zsI h a f v) Q) : zEx scr d m (pc, ls, .inl v :: .inr (.inr (some a)) :: st, h) Q := by
  subst hp; exact ex_go hd (Or.inr rfl) (fun _ => by simp only [zexec, hz, hs]; rw [if_pos ⟨trivial, hfi⟩]; simp only [zput]; rw [if_pos hc]) kk
theorem ex_putR {k a ci f n : Nat} {v : Option Nat} (hd : decode m.1 pc = .ok (.putfield k, 3)) (hz : zfld m.2.1 k = some (ci, f)) (hs : zsh h a = some (ci, n)) (hfi : zfin ci f = false ∨ (m.2.2.2.2.2 = true ∧ m.2.1 = ci)) (hc : (zft ci).getD f 9 = 3) (hp : pc + 3 = pc') (kk : zEx scr d m (pc', ls, st, zsR h a f v) Q) : zEx scr d m (pc, ls, .inr (.inr v) :: .inr (.inr (some a)) :: st, h) Q := by
  subst hp; exact ex_go hd (Or.inr rfl) (fun _ => by simp only [zexec, hz, hs]; rw [if_pos ⟨trivial, hfi⟩]; simp only [zput]; rw [if_pos hc]) kk
theorem ex_iald {a n : Nat} {j v : Int32} (hd : decode m.1 pc = .ok (.iaload, 1)) (hs : zsh h a = some (14, n)) (hj : zin j n = true) (hv : h.2.1 a j.toNatClampNeg = v) (hp : pc + 1 = pc') (kk : zEx scr d m (pc', ls, .inl v :: st, h) Q) : zEx scr d m (pc, ls, .inl j :: .inr (.inr (some a)) :: st, h) Q := by
  subst hp; subst hv; exact ex_go hd (Or.inr rfl) (fun _ => by simp only [zexec, zld, hs, hj]; rfl) kk
theorem ex_sald {n : Nat} {xs : Nat → Int32} {j v : Int32} (hd : decode m.1 pc = .ok (.iaload, 1)) (hs : zsh h 1000000 = none) (hsc : scr = some (n, xs)) (hj : zin j n = true) (hv : xs j.toNatClampNeg = v) (hp : pc + 1 = pc') (kk : zEx scr d m (pc', ls, .inl v :: st, h) Q) : zEx scr d m (pc, ls, .inl j :: .inr (.inr (some 1000000)) :: st, h) Q := by
  subst hp; subst hv; subst hsc; exact ex_go hd (Or.inr rfl) (fun _ => by simp only [zexec, zld, hs, hj]; rfl) kk
theorem ex_bald {a n : Nat} {j v : Int32} (hd : decode m.1 pc = .ok (.baload, 1)) (hs : zsh h a = some (13, n)) (hj : zin j n = true) (hv : h.2.1 a j.toNatClampNeg = v) (hp : pc + 1 = pc') (kk : zEx scr d m (pc', ls, .inl v :: st, h) Q) : zEx scr d m (pc, ls, .inl j :: .inr (.inr (some a)) :: st, h) Q := by
  subst hp; subst hv; exact ex_go hd (Or.inr rfl) (fun _ => by simp only [zexec, zld, hs, hj]; rfl) kk
theorem ex_lald {a n : Nat} {j : Int32} {v : Int64} (hd : decode m.1 pc = .ok (.laload, 1)) (hs : zsh h a = some (15, n)) (hj : zin j n = true) (hv : h.2.2.1 a j.toNatClampNeg = v) (hp : pc + 1 = pc') (kk : zEx scr d m (pc', ls, .inr (.inl v) :: st, h) Q) : zEx scr d m (pc, ls, .inl j :: .inr (.inr (some a)) :: st, h) Q := by
  subst hp; subst hv; exact ex_go hd (Or.inr rfl) (fun _ => by simp only [zexec, hs]; rw [if_pos ⟨trivial, hj⟩]) kk
theorem ex_aald {a kd n r : Nat} {j : Int32} (hd : decode m.1 pc = .ok (.aaload, 1)) (hs : zsh h a = some (kd, n)) (hk : 16 ≤ kd ∧ kd ≤ 20) (hj : zin j n = true) (hv : h.2.2.2.1 a j.toNatClampNeg = some r) (hp : pc + 1 = pc') (kk : zEx scr d m (pc', ls, .inr (.inr (some r)) :: st, h) Q) : zEx scr d m (pc, ls, .inl j :: .inr (.inr (some a)) :: st, h) Q := by
  subst hp; exact ex_go hd (Or.inr rfl) (fun _ => by simp only [zexec, hs]; rw [if_pos ⟨hk.1, hk.2, hj⟩, hv]) kk
theorem ex_iast {a n : Nat} {j v : Int32} (hd : decode m.1 pc = .ok (.iastore, 1)) (hs : zsh h a = some (14, n)) (hj : zin j n = true) (hp : pc + 1 = pc') (kk : zEx scr d m (pc', ls, st, zsI h a j.toNatClampNeg v) Q) : zEx scr d m (pc, ls, .inl v :: .inl j :: .inr (.inr (some a)) :: st, h) Q := by
  subst hp; exact ex_go hd (Or.inr rfl) (fun _ => by simp only [zexec, zst, hs, hj]; rfl) kk
theorem ex_bast {a n : Nat} {j v : Int32} (hd : decode m.1 pc = .ok (.bastore, 1)) (hs : zsh h a = some (13, n)) (hj : zin j n = true) (hp : pc + 1 = pc') (kk : zEx scr d m (pc', ls, st, zsI h a j.toNatClampNeg (vp_nar .byte v)) Q) : zEx scr d m (pc, ls, .inl v :: .inl j :: .inr (.inr (some a)) :: st, h) Q := by
  subst hp; exact ex_go hd (Or.inr rfl) (fun _ => by simp only [zexec, zst, hs, hj]; rfl) kk
theorem ex_last {a n : Nat} {j : Int32} {v : Int64} (hd : decode m.1 pc = .ok (.lastore, 1)) (hs : zsh h a = some (15, n)) (hj : zin j n = true) (hp : pc + 1 = pc') (kk : zEx scr d m (pc', ls, st, zsL h a j.toNatClampNeg v) Q) : zEx scr d m (pc, ls, .inr (.inl v) :: .inl j :: .inr (.inr (some a)) :: st, h) Q := by
  subst hp; exact ex_go hd (Or.inr rfl) (fun _ => by simp only [zexec, hs]; rw [if_pos ⟨trivial, hj⟩]) kk
theorem ex_aast {a kd n v nv : Nat} {j : Int32} (hd : decode m.1 pc = .ok (.aastore, 1)) (hs : zsh h a = some (kd, n)) (hv : zsh h v = some (zrc kd, nv)) (hk : 16 ≤ kd ∧ kd ≤ 20) (hj : zin j n = true) (hp : pc + 1 = pc') (kk : zEx scr d m (pc', ls, st, zsR h a j.toNatClampNeg (some v)) Q) : zEx scr d m (pc, ls, .inr (.inr (some v)) :: .inl j :: .inr (.inr (some a)) :: st, h) Q := by
  subst hp; exact ex_go hd (Or.inr rfl) (fun _ => by simp only [zexec, hs, hv]; rw [if_pos ⟨hk.1, hk.2, hj, trivial⟩]) kk
theorem ex_alen {a kd n : Nat} {v : Int32} (hd : decode m.1 pc = .ok (.arraylength, 1)) (hs : zsh h a = some (kd, n)) (hk : 13 ≤ kd) (hv : Int32.ofNat n = v) (hp : pc + 1 = pc') (kk : zEx scr d m (pc', ls, .inl v :: st, h) Q) : zEx scr d m (pc, ls, .inr (.inr (some a)) :: st, h) Q := by
  subst hp; subst hv; exact ex_go hd (Or.inr rfl) (fun _ => by simp only [zexec, zlen, hs]; rw [if_pos hk]) kk
theorem ex_slen {n : Nat} {xs : Nat → Int32} {v : Int32} (hd : decode m.1 pc = .ok (.arraylength, 1)) (hs : zsh h 1000000 = none) (hsc : scr = some (n, xs)) (hv : Int32.ofNat n = v) (hp : pc + 1 = pc') (kk : zEx scr d m (pc', ls, .inl v :: st, h) Q) : zEx scr d m (pc, ls, .inr (.inr (some 1000000)) :: st, h) Q := by
  subst hp; subst hv; subst hsc; exact ex_go hd (Or.inr rfl) (fun _ => by simp only [zexec, zlen, hs]; rfl) kk
theorem ex_new {k ci : Nat} (hd : decode m.1 pc = .ok (.new k, 3)) (hz : zcls m.2.1 k = some ci) (hc : ci < 13) (h0 : h.2.2.2.2 = 0 ∧ h.1.1 < 900000) (hp : pc + 3 = pc') (kk : zEx scr d m (pc', ls, .inr (.inr (some h.1.1)) :: st, znew h ci (zft ci).length) Q) : zEx scr d m (pc, ls, st, h) Q := by
  subst hp; exact ex_go hd (Or.inr rfl) (fun _ => by simp only [zexec, hz]; rw [if_pos hc, if_pos h0]) kk
theorem ex_dup {v : zV} (hd : decode m.1 pc = .ok (.dup, 1)) (hc : zcat v = 1) (hp : pc + 1 = pc') (kk : zEx scr d m (pc', ls, v :: v :: st, h) Q) : zEx scr d m (pc, ls, v :: st, h) Q := by
  subst hp; exact ex_go hd (Or.inr rfl) (fun _ => by simp only [zexec]; rw [if_pos hc]) kk
theorem ex_dup2 {v w : zV} (hd : decode m.1 pc = .ok (.dup2, 1)) (hc : zcat v = 1 ∧ zcat w = 1) (hp : pc + 1 = pc') (kk : zEx scr d m (pc', ls, v :: w :: v :: w :: st, h) Q) : zEx scr d m (pc, ls, v :: w :: st, h) Q := by
  subst hp; exact ex_go hd (Or.inr rfl) (fun _ => by simp only [zexec]; rw [if_pos hc]) kk
theorem ex_pop {v : zV} (hd : decode m.1 pc = .ok (.pop, 1)) (hc : zcat v = 1) (hp : pc + 1 = pc') (kk : zEx scr d m (pc', ls, st, h) Q) : zEx scr d m (pc, ls, v :: st, h) Q := by
  subst hp; exact ex_go hd (Or.inr rfl) (fun _ => by simp only [zexec]; rw [if_pos hc]) kk
theorem ex_pop2 {v : zV} (hd : decode m.1 pc = .ok (.pop2, 1)) (hc : zcat v = 2) (hp : pc + 1 = pc') (kk : zEx scr d m (pc', ls, st, h) Q) : zEx scr d m (pc, ls, v :: st, h) Q := by
  subst hp; exact ex_go hd (Or.inr rfl) (fun _ => by simp only [zexec]; rw [if_pos hc]) kk
theorem ex_topi {x : Int32} (k : ∀ y : Int32, y = x → zEx scr d m (pc, ls, .inl y :: st, h) Q) : zEx scr d m (pc, ls, .inl x :: st, h) Q := k x rfl
theorem ex_hp (k : ∀ z : zH, z = h → zEx scr d m (pc, ls, st, z) Q) : zEx scr d m (pc, ls, st, h) Q := k h rfl
theorem ex_iret {x : Int32} {ty : FieldType} (hd : decode m.1 pc = .ok (.ireturn, 1)) (ht : m.2.2.2.1 = some ty) (hn : narrow ty (.int x) = .int x) (hq : Q (some (.inl x)) h) : zEx scr d m (pc, ls, [.inl x], h) Q :=
  ex_end hd (Or.inr rfl) (fun _ => by simp only [zexec, ht]; rw [if_pos hn]) hq
theorem ex_lret {x : Int64} (hd : decode m.1 pc = .ok (.lreturn, 1)) (ht : m.2.2.2.1 = some .long) (hq : Q (some (.inr (.inl x))) h) : zEx scr d m (pc, ls, [.inr (.inl x)], h) Q :=
  ex_end hd (Or.inr rfl) (fun _ => by simp only [zexec]; rw [if_pos ht]) hq
theorem ex_vret (hd : decode m.1 pc = .ok (.return_, 1)) (ht : m.2.2.2.1 = none) (hq : Q none h) : zEx scr d m (pc, ls, [], h) Q :=
  ex_end hd (Or.inr rfl) (fun _ => by simp only [zexec]; rw [if_pos ht]) hq
/-- calls: the arguments lie on the stack, the last on top -/
theorem ex_gets (hd : decode m.1 pc = .ok (.getstatic zgsk, 3)) (ho : m.2.1 = 6) (hp : pc + 3 = pc') (kk : zEx scr d m (pc', ls, .inr (.inr (some 1000001)) :: st, h) Q) : zEx scr d m (pc, ls, st, h) Q := by
  subst hp; exact ex_go hd (Or.inr rfl) (fun _ => by simp only [zexec]; rw [if_pos ⟨ho, trivial⟩]) kk
theorem ex_strlen {k na a : Nat} {bs : List Int32} (hd : decode m.1 pc = .ok (.invokevirtual k, 3)) (hz : zmth m.2.1 k = some (0, na, mJ0_length_8abf5)) (hs : zsc a = some bs) (hw : zwd st ≤ 8) (hp : pc + 3 = pc') (kk : zEx scr d m (pc', ls, .inl (nI bs.length) :: st, h) Q) : zEx scr d m (pc, ls, .inr (.inr (some a)) :: st, h) Q := by
  subst hp
  refine ex_go hd (Or.inr rfl) (fun _ => ?_) kk
  simp only [zexec, hz]
  rw [if_pos trivial, if_pos trivial]
  simp only [zstr, hs]
  rw [if_pos ⟨trivial, hw⟩]
theorem ex_strchar {k na a : Nat} {i : Int32} {bs : List Int32} (hd : decode m.1 pc = .ok (.invokevirtual k, 3)) (hz : zmth m.2.1 k = some (0, na, mJ0_charAt_5068e)) (hs : zsc a = some bs) (hw : zwd st ≤ 8) (hi : zin i bs.length = true) (hp : pc + 3 = pc') (kk : zEx scr d m (pc', ls, .inl (bs.getD i.toNatClampNeg 0) :: st, h) Q) : zEx scr d m (pc, ls, .inl i :: .inr (.inr (some a)) :: st, h) Q := by
  subst hp
  refine ex_go hd (Or.inr rfl) (fun _ => ?_) kk
  simp only [zexec, hz]
  rw [if_pos trivial, if_pos trivial]
  simp only [zstr, hs]
  rw [if_pos ⟨trivial, hw, hi⟩]
theorem ex_callv {k na a n : Nat} {cm : zM} {vs rest : List zV} {Qc : Option zV → zH → Prop} (hd : decode m.1 pc = .ok (.invokevirtual k, 3)) (hz : zmth m.2.1 k = some (0, na, cm)) (hst : na ≤ st.length ∧ zwd (st.drop na) ≤ 8) (hv : (st.take na).reverse = .inr (.inr (some a)) :: vs) (hr : st.drop na = rest) (hs : zsh h a = some (cm.2.1, n)) (hci : cm.2.1 < 13) (hw : zwd (.inr (.inr (some a)) :: vs) ≤ cm.2.2.1) (hp : pc + 3 = pc')
    (hc : zCt d cm (.inr (.inr (some a)) :: vs) h Qc) (kk : ∀ r h', Qc r h' → zEx scr (d + 1) m (pc', ls, r.toList ++ rest, h') Q) : zEx scr (d + 1) m (pc, ls, st, h) Q := by
  subst hp; subst hr
  refine ex_call hd (Or.inr rfl) (fun call r h' hq => ?_) hw hc kk
  simp only [zexec, hz]
  rw [if_pos trivial, if_neg (show ¬ cm.2.1 = 14 by omega)]
  unfold zcall
  rw [if_pos hst, if_neg (by decide), hv]
  simp only [hs]
  rw [if_pos ⟨trivial, hci⟩, hq]
theorem ex_calls {k kd na : Nat} {cm : zM} {vs rest : List zV} {Qc : Option zV → zH → Prop} (hd : decode m.1 pc = .ok (.invokestatic k, 3)) (hz : zmth m.2.1 k = some (kd, na, cm)) (hkd : kd = 1 ∨ kd = 3) (hst : na ≤ st.length ∧ zwd (st.drop na) ≤ 8) (hv : (st.take na).reverse = vs) (hr : st.drop na = rest) (hw : zwd vs ≤ cm.2.2.1) (hp : pc + 3 = pc')
    (hc : zCt d cm vs h Qc) (kk : ∀ r h', Qc r h' → zEx scr (d + 1) m (pc', ls, r.toList ++ rest, h') Q) : zEx scr (d + 1) m (pc, ls, st, h) Q := by
  subst hp; subst hr; subst hv
  refine ex_call hd (Or.inr rfl) (fun call r h' hq => ?_) hw hc kk
  simp only [zexec, hz]
  rw [if_pos hkd]
  unfold zcall
  rw [if_pos hst, if_pos hkd, hq]
theorem ex_calli {k kd na a n : Nat} {cm : zM} {vs rest : List zV} {Qc : Option zV → zH → Prop} (hd : decode m.1 pc = .ok (.invokespecial k, 3)) (hz : zmth m.2.1 k = some (kd, na, cm)) (hkd : kd = 2 ∨ kd = 4) (hst : na ≤ st.length ∧ zwd (st.drop na) ≤ 8) (hv : (st.take na).reverse = .inr (.inr (some a)) :: vs) (hr : st.drop na = rest) (hs : zsh h a = some (cm.2.1, n)) (hci : cm.2.1 < 13) (hw : zwd (.inr (.inr (some a)) :: vs) ≤ cm.2.2.1) (hp : pc + 3 = pc')
    (hc : zCt d cm (.inr (.inr (some a)) :: vs) h Qc) (kk : ∀ r h', Qc r h' → zEx scr (d + 1) m (pc', ls, r.toList ++ rest, h') Q) : zEx scr (d + 1) m (pc, ls, st, h) Q := by
  subst hp; subst hr
  refine ex_call hd (Or.inr rfl) (fun call r h' hq => ?_) hw hc kk
  simp only [zexec, hz]
  rw [if_pos hkd]
  unfold zcall
  rw [if_pos hst, if_neg (by rcases hkd with rfl | rfl <;> decide), hv]
  simp only [hs]
  rw [if_pos ⟨trivial, hci⟩, hq]
theorem ex_obj {k na a : Nat} {cm : zM} (hd : decode m.1 pc = .ok (.invokespecial k, 3)) (hz : zmth m.2.1 k = some (10, na, cm)) (hw : zwd st ≤ 8) (hp : pc + 3 = pc') (kk : zEx scr (d + 1) m (pc', ls, st, h) Q) : zEx scr (d + 1) m (pc, ls, .inr (.inr (some a)) :: st, h) Q := by
  subst hp
  refine ex_go hd (Or.inr rfl) (fun _ => ?_) kk
  simp only [zexec, hz]
  rw [if_neg (by decide), if_pos trivial]
  have e : decide (0 < d + 1) = true := by simp
  rw [e]
  unfold zprim
  rw [if_pos rfl, if_pos rfl]
  simp only
  rw [if_pos hw]
theorem ex_min {k na : Nat} {cm : zM} {x y v : Int32} (hd : decode m.1 pc = .ok (.invokestatic k, 3)) (hz : zmth m.2.1 k = some (12, na, cm)) (hw : zwd st ≤ 8) (hv : (if y < x then y else x) = v) (hp : pc + 3 = pc') (kk : zEx scr (d + 1) m (pc', ls, .inl v :: st, h) Q) : zEx scr (d + 1) m (pc, ls, .inl y :: .inl x :: st, h) Q := by
  subst hp; subst hv
  refine ex_go hd (Or.inr rfl) (fun _ => ?_) kk
  simp only [zexec, hz]
  rw [if_neg (by decide), if_neg (by decide), if_neg (by decide)]
  have e : decide (0 < d + 1) = true := by simp
  rw [e]
  unfold zprim
  rw [if_pos rfl, if_neg (by decide), if_neg (by decide), if_pos rfl]
  simp only
  rw [if_pos hw]
end ZX
end Pk3
section Pk4
/-! contracts by what comes back: an int, nothing, a long -/
def zCi (d : Nat) (m : zM) (vs : List zV) (h : zH) (Q : Int32 → zH → Prop) : Prop := zEx none d m (0, zargs 0 vs, [], h) (fun v h' => ∃ x, v = some (.inl x) ∧ Q x h')
def zCl (d : Nat) (m : zM) (vs : List zV) (h : zH) (Q : Int64 → zH → Prop) : Prop := zEx none d m (0, zargs 0 vs, [], h) (fun v h' => ∃ x, v = some (.inr (.inl x)) ∧ Q x h')
def zCv (d : Nat) (m : zM) (vs : List zV) (h : zH) (Q : zH → Prop) : Prop := zEx none d m (0, zargs 0 vs, [], h) (fun v h' => v = none ∧ Q h')
theorem zCi.mono {d : Nat} {m : zM} {vs : List zV} {h : zH} {Q Q' : Int32 → zH → Prop} (k : zCi d m vs h Q) (hq : ∀ x h', Q x h' → Q' x h') : zCi d m vs h Q' := zEx.mono k (fun v h' ⟨x, e, q⟩ => ⟨x, e, hq x h' q⟩)
section ZX2
variable {scr : Option (Nat × (Nat → Int32))} {d : Nat} {m : zM} {pc pc' len : Nat} {ls : zL} {st : List zV} {h : zH} {Q : Option zV → zH → Prop} {i : Instr}
theorem ex_callvI {k na a n : Nat} {cm : zM} {vs rest : List zV} {Qc : Int32 → zH → Prop} (hd : decode m.1 pc = .ok (.invokevirtual k, 3)) (hz : zmth m.2.1 k = some (0, na, cm)) (hst : na ≤ st.length ∧ zwd (st.drop na) ≤ 8) (hv : (st.take na).reverse = .inr (.inr (some a)) :: vs) (hr : st.drop na = rest) (hs : zsh h a = some (cm.2.1, n)) (hci : cm.2.1 < 13) (hw : zwd (.inr (.inr (some a)) :: vs) ≤ cm.2.2.1) (hp : pc + 3 = pc')
    (hc : zCi d cm (.inr (.inr (some a)) :: vs) h Qc) (kk : ∀ x h', Qc x h' → zEx scr (d + 1) m (pc', ls, .inl x :: rest, h') Q) : zEx scr (d + 1) m (pc, ls, st, h) Q :=
  ex_callv hd hz hst hv hr hs hci hw hp hc (fun r h' ⟨x, e, q⟩ => by subst e; exact kk x h' q)
theorem ex_callvL {k na a n : Nat} {cm : zM} {vs rest : List zV} {Qc : Int64 → zH → Prop} (hd : decode m.1 pc = .ok (.invokevirtual k, 3)) (hz : zmth m.2.1 k = some (0, na, cm)) (hst : na ≤ st.length ∧ zwd (st.drop na) ≤ 8) (hv : (st.take na).reverse = .inr (.inr (some a)) :: vs) (hr : st.drop na = rest) (hs : zsh h a = some (cm.2.1, n)) (hci : cm.2.1 < 13) (hw : zwd (.inr (.inr (some a)) :: vs) ≤ cm.2.2.1) (hp : pc + 3 = pc')
    (hc : zCl d cm (.inr (.inr (some a)) :: vs) h Qc) (kk : ∀ x h', Qc x h' → zEx scr (d + 1) m (pc', ls, .inr (.inl x) :: rest, h') Q) : zEx scr (d + 1) m (pc, ls, st, h) Q :=
  ex_callv hd hz hst hv hr hs hci hw hp hc (fun r h' ⟨x, e, q⟩ => by subst e; exact kk x h' q)
theorem ex_callvV {k na a n : Nat} {cm : zM} {vs rest : List zV} {Qc : zH → Prop} (hd : decode m.1 pc = .ok (.invokevirtual k, 3)) (hz : zmth m.2.1 k = some (0, na, cm)) (hst : na ≤ st.length ∧ zwd (st.drop na) ≤ 8) (hv : (st.take na).reverse = .inr (.inr (some a)) :: vs) (hr : st.drop na = rest) (hs : zsh h a = some (cm.2.1, n)) (hci : cm.2.1 < 13) (hw : zwd (.inr (.inr (some a)) :: vs) ≤ cm.2.2.1) (hp : pc + 3 = pc')
    (hc : zCv d cm (.inr (.inr (some a)) :: vs) h Qc) (kk : ∀ h', Qc h' → zEx scr (d + 1) m (pc', ls, rest, h') Q) : zEx scr (d + 1) m (pc, ls, st, h) Q :=
  ex_callv hd hz hst hv hr hs hci hw hp hc (fun r h' ⟨e, q⟩ => by subst e; exact kk h' q)
theorem ex_callsI {k kd na : Nat} {cm : zM} {vs rest : List zV} {Qc : Int32 → zH → Prop} (hd : decode m.1 pc = .ok (.invokestatic k, 3)) (hz : zmth m.2.1 k = some (kd, na, cm)) (hkd : kd = 1 ∨ kd = 3) (hst : na ≤ st.length ∧ zwd (st.drop na) ≤ 8) (hv : (st.take na).reverse = vs) (hr : st.drop na = rest) (hw : zwd vs ≤ cm.2.2.1) (hp : pc + 3 = pc')
    (hc : zCi d cm vs h Qc) (kk : ∀ x h', Qc x h' → zEx scr (d + 1) m (pc', ls, .inl x :: rest, h') Q) : zEx scr (d + 1) m (pc, ls, st, h) Q :=
  ex_calls hd hz hkd hst hv hr hw hp hc (fun r h' ⟨x, e, q⟩ => by subst e; exact kk x h' q)
theorem ex_callsL {k kd na : Nat} {cm : zM} {vs rest : List zV} {Qc : Int64 → zH → Prop} (hd : decode m.1 pc = .ok (.invokestatic k, 3)) (hz : zmth m.2.1 k = some (kd, na, cm)) (hkd : kd = 1 ∨ kd = 3) (hst : na ≤ st.length ∧ zwd (st.drop na) ≤ 8) (hv : (st.take na).reverse = vs) (hr : st.drop na = rest) (hw : zwd vs ≤ cm.2.2.1) (hp : pc + 3 = pc')
    (hc : zCl d cm vs h Qc) (kk : ∀ x h', Qc x h' → zEx scr (d + 1) m (pc', ls, .inr (.inl x) :: rest, h') Q) : zEx scr (d + 1) m (pc, ls, st, h) Q :=
  ex_calls hd hz hkd hst hv hr hw hp hc (fun r h' ⟨x, e, q⟩ => by subst e; exact kk x h' q)
theorem ex_callsV {k kd na : Nat} {cm : zM} {vs rest : List zV} {Qc : zH → Prop} (hd : decode m.1 pc = .ok (.invokestatic k, 3)) (hz : zmth m.2.1 k = some (kd, na, cm)) (hkd : kd = 1 ∨ kd = 3) (hst : na ≤ st.length ∧ zwd (st.drop na) ≤ 8) (hv : (st.take na).reverse = vs) (hr : st.drop na = rest) (hw : zwd vs ≤ cm.2.2.1) (hp : pc + 3 = pc')
    (hc : zCv d cm vs h Qc) (kk : ∀ h', Qc h' → zEx scr (d + 1) m (pc', ls, rest, h') Q) : zEx scr (d + 1) m (pc, ls, st, h) Q :=
  ex_calls hd hz hkd hst hv hr hw hp hc (fun r h' ⟨e, q⟩ => by subst e; exact kk h' q)
theorem ex_calliV {k kd na a n : Nat} {cm : zM} {vs rest : List zV} {Qc : zH → Prop} (hd : decode m.1 pc = .ok (.invokespecial k, 3)) (hz : zmth m.2.1 k = some (kd, na, cm)) (hkd : kd = 2 ∨ kd = 4) (hst : na ≤ st.length ∧ zwd (st.drop na) ≤ 8) (hv : (st.take na).reverse = .inr (.inr (some a)) :: vs) (hr : st.drop na = rest) (hs : zsh h a = some (cm.2.1, n)) (hci : cm.2.1 < 13) (hw : zwd (.inr (.inr (some a)) :: vs) ≤ cm.2.2.1) (hp : pc + 3 = pc')
    (hc : zCv d cm (.inr (.inr (some a)) :: vs) h Qc) (kk : ∀ h', Qc h' → zEx scr (d + 1) m (pc', ls, rest, h') Q) : zEx scr (d + 1) m (pc, ls, st, h) Q :=
  ex_calli hd hz hkd hst hv hr hs hci hw hp hc (fun r h' ⟨e, q⟩ => by subst e; exact kk h' q)
theorem ex_iretI {x : Int32} {ty : FieldType} {Qi : Int32 → zH → Prop} (hd : decode m.1 pc = .ok (.ireturn, 1)) (ht : m.2.2.2.1 = some ty) (hn : narrow ty (.int x) = .int x) (hq : Qi x h) : zEx scr d m (pc, ls, [.inl x], h) (fun v h' => ∃ x, v = some (.inl x) ∧ Qi x h') :=
  ex_iret hd ht hn ⟨x, rfl, hq⟩
theorem ex_lretL {x : Int64} {Qi : Int64 → zH → Prop} (hd : decode m.1 pc = .ok (.lreturn, 1)) (ht : m.2.2.2.1 = some .long) (hq : Qi x h) : zEx scr d m (pc, ls, [.inr (.inl x)], h) (fun v h' => ∃ x, v = some (.inr (.inl x)) ∧ Qi x h') :=
  ex_lret hd ht ⟨x, rfl, hq⟩
theorem ex_vretV {Qv : zH → Prop} (hd : decode m.1 pc = .ok (.return_, 1)) (ht : m.2.2.2.1 = none) (hq : Qv h) : zEx scr d m (pc, ls, [], h) (fun v h' => v = none ∧ Qv h') :=
  ex_vret hd ht ⟨rfl, hq⟩
theorem ex_narrB {n : Int32} (hd : decode m.1 pc = .ok (.newarray .byte, 2)) (h0 : h.2.2.2.2 = 0 ∧ h.1.1 < 900000 ∧ ¬ n < 0 ∧ n.toNatClampNeg ≤ 100000) (hp : pc + 2 = pc') (kk : zEx scr d m (pc', ls, .inr (.inr (some h.1.1)) :: st, znew h 13 n.toNatClampNeg) Q) : zEx scr d m (pc, ls, .inl n :: st, h) Q := by
  subst hp; exact ex_go hd (Or.inr rfl) (fun _ => by simp only [zexec]; rw [if_pos h0]) kk
theorem ex_narrI {n : Int32} (hd : decode m.1 pc = .ok (.newarray .int, 2)) (h0 : h.2.2.2.2 = 0 ∧ h.1.1 < 900000 ∧ ¬ n < 0 ∧ n.toNatClampNeg ≤ 100000) (hp : pc + 2 = pc') (kk : zEx scr d m (pc', ls, .inr (.inr (some h.1.1)) :: st, znew h 14 n.toNatClampNeg) Q) : zEx scr d m (pc, ls, .inl n :: st, h) Q := by
  subst hp; exact ex_go hd (Or.inr rfl) (fun _ => by simp only [zexec]; rw [if_pos h0]) kk
theorem ex_narrL {n : Int32} (hd : decode m.1 pc = .ok (.newarray .long, 2)) (h0 : h.2.2.2.2 = 0 ∧ h.1.1 < 900000 ∧ ¬ n < 0 ∧ n.toNatClampNeg ≤ 100000) (hp : pc + 2 = pc') (kk : zEx scr d m (pc', ls, .inr (.inr (some h.1.1)) :: st, znew h 15 n.toNatClampNeg) Q) : zEx scr d m (pc, ls, .inl n :: st, h) Q := by
  subst hp; exact ex_go hd (Or.inr rfl) (fun _ => by simp only [zexec]; rw [if_pos h0]) kk
theorem ex_anarr {k ci : Nat} {n : Int32} (hd : decode m.1 pc = .ok (.anewarray k, 3)) (hz : zcls m.2.1 k = some ci) (hc : 16 ≤ zak ci ∧ zak ci ≤ 20) (h0 : h.2.2.2.2 = 0 ∧ h.1.1 < 900000 ∧ ¬ n < 0 ∧ n.toNatClampNeg ≤ 100000) (hp : pc + 3 = pc') (kk : zEx scr d m (pc', ls, .inr (.inr (some h.1.1)) :: st, znew h (zak ci) n.toNatClampNeg) Q) : zEx scr d m (pc, ls, .inl n :: st, h) Q := by
  subst hp; exact ex_go hd (Or.inr rfl) (fun _ => by simp only [zexec, hz]; rw [if_pos h0, if_pos hc]) kk
/-! the same on heaps that have a name -/
theorem en_new {k ci a nf : Nat} {h2 : zH} (hd : decode m.1 pc = .ok (.new k, 3)) (hz : zcls m.2.1 k = some ci) (hc : ci < 13 ∧ h.2.2.2.2 = 0 ∧ h.1.1 = a ∧ a < 900000 ∧ (zft ci).length = nf) (he : znew h ci nf = h2) (hp : pc + 3 = pc') (kk : zEx scr d m (pc', ls, .inr (.inr (some a)) :: st, h2) Q) : zEx scr d m (pc, ls, st, h) Q := by
  obtain ⟨c1, c2, c3, c4, c5⟩ := hc
  subst c5; subst he; subst c3
  exact ex_new hd hz c1 ⟨c2, c4⟩ hp kk
theorem en_narrB {n : Int32} {a nn : Nat} {h2 : zH} (hd : decode m.1 pc = .ok (.newarray .byte, 2)) (hc : h.2.2.2.2 = 0 ∧ h.1.1 = a ∧ a < 900000 ∧ ¬ n < 0 ∧ n.toNatClampNeg = nn ∧ nn ≤ 100000) (he : znew h 13 nn = h2) (hp : pc + 2 = pc') (kk : zEx scr d m (pc', ls, .inr (.inr (some a)) :: st, h2) Q) : zEx scr d m (pc, ls, .inl n :: st, h) Q := by
  obtain ⟨c2, c3, c4, c5, c6, c7⟩ := hc
  subst c6; subst he; subst c3
  exact ex_narrB hd ⟨c2, c4, c5, c7⟩ hp kk
theorem en_narrI {n : Int32} {a nn : Nat} {h2 : zH} (hd : decode m.1 pc = .ok (.newarray .int, 2)) (hc : h.2.2.2.2 = 0 ∧ h.1.1 = a ∧ a < 900000 ∧ ¬ n < 0 ∧ n.toNatClampNeg = nn ∧ nn ≤ 100000) (he : znew h 14 nn = h2) (hp : pc + 2 = pc') (kk : zEx scr d m (pc', ls, .inr (.inr (some a)) :: st, h2) Q) : zEx scr d m (pc, ls, .inl n :: st, h) Q := by
  obtain ⟨c2, c3, c4, c5, c6, c7⟩ := hc
  subst c6; subst he; subst c3
  exact ex_narrI hd ⟨c2, c4, c5, c7⟩ hp kk
theorem en_narrL {n : Int32} {a nn : Nat} {h2 : zH} (hd : decode m.1 pc = .ok (.newarray .long, 2)) (hc : h.2.2.2.2 = 0 ∧ h.1.1 = a ∧ a < 900000 ∧ ¬ n < 0 ∧ n.toNatClampNeg = nn ∧ nn ≤ 100000) (he : znew h 15 nn = h2) (hp : pc + 2 = pc') (kk : zEx scr d m (pc', ls, .inr (.inr (some a)) :: st, h2) Q) : zEx scr d m (pc, ls, .inl n :: st, h) Q := by
  obtain ⟨c2, c3, c4, c5, c6, c7⟩ := hc
  subst c6; subst he; subst c3
  exact ex_narrL hd ⟨c2, c4, c5, c7⟩ hp kk
theorem en_anarr {k ci ak : Nat} {n : Int32} {a nn : Nat} {h2 : zH} (hd : decode m.1 pc = .ok (.anewarray k, 3)) (hz : zcls m.2.1 k = some ci) (hc : h.2.2.2.2 = 0 ∧ h.1.1 = a ∧ a < 900000 ∧ ¬ n < 0 ∧ n.toNatClampNeg = nn ∧ nn ≤ 100000 ∧ zak ci = ak ∧ 16 ≤ ak ∧ ak ≤ 20) (he : znew h ak nn = h2) (hp : pc + 3 = pc') (kk : zEx scr d m (pc', ls, .inr (.inr (some a)) :: st, h2) Q) : zEx scr d m (pc, ls, .inl n :: st, h) Q := by
  obtain ⟨c2, c3, c4, c5, c6, c7, c8, c9, c10⟩ := hc
  subst c8; subst c6; subst he; subst c3
  exact ex_anarr hd hz ⟨c9, c10⟩ ⟨c2, c4, c5, c7⟩ hp kk
theorem en_putI {k a ci f n : Nat} {v : Int32} {h2 : zH} (hd : decode m.1 pc = .ok (.putfield k, 3)) (hz : zfld m.2.1 k = some (ci, f)) (hs : zsh h a = some (ci, n)) (hfi : zfin ci f = false ∨ (m.2.2.2.2.2 = true ∧ m.2.1 = ci)) (hc : (zft ci).getD f 9 = 0 ∨ ((zft ci).getD f 9 = 1 ∧ (v = 0 ∨ v = 1))) (he : zsI h a f v = h2) (hp : pc + 3 = pc') (kk : zEx scr d m (pc', ls, st, h2) Q) : zEx scr d m (pc, ls, .inl v :: .inr (.inr (some a)) :: st, h) Q := by
  subst he; exact ex_putI hd hz hs hfi hc hp kk
theorem en_putR {k a ci f n v : Nat} {h2 : zH} (hd : decode m.1 pc = .ok (.putfield k, 3)) (hz : zfld m.2.1 k = some (ci, f)) (hs : zsh h a = some (ci, n)) (hfi : zfin ci f = false ∨ (m.2.2.2.2.2 = true ∧ m.2.1 = ci)) (hc : (zft ci).getD f 9 = 3) (he : zsR h a f (some v) = h2) (hp : pc + 3 = pc') (kk : zEx scr d m (pc', ls, st, h2) Q) : zEx scr d m (pc, ls, .inr (.inr (some v)) :: .inr (.inr (some a)) :: st, h) Q := by
  subst he; exact ex_putR hd hz hs hfi hc hp kk
theorem en_aast {a kd n v nv jj : Nat} {j : Int32} {h2 : zH} (hd : decode m.1 pc = .ok (.aastore, 1)) (hs : zsh h a = some (kd, n)) (hv : zsh h v = some (zrc kd, nv)) (hk : 16 ≤ kd ∧ kd ≤ 20) (hj : zin j n = true ∧ j.toNatClampNeg = jj) (he : zsR h a jj (some v) = h2) (hp : pc + 1 = pc') (kk : zEx scr d m (pc', ls, st, h2) Q) : zEx scr d m (pc, ls, .inr (.inr (some v)) :: .inl j :: .inr (.inr (some a)) :: st, h) Q := by
  obtain ⟨j1, j2⟩ := hj
  subst j2; subst he; exact ex_aast hd hs hv hk j1 hp kk
theorem en_iast {a n jj : Nat} {j v : Int32} {h2 : zH} (hd : decode m.1 pc = .ok (.iastore, 1)) (hs : zsh h a = some (14, n)) (hj : zin j n = true ∧ j.toNatClampNeg = jj) (he : zsI h a jj v = h2) (hp : pc + 1 = pc') (kk : zEx scr d m (pc', ls, st, h2) Q) : zEx scr d m (pc, ls, .inl v :: .inl j :: .inr (.inr (some a)) :: st, h) Q := by
  obtain ⟨j1, j2⟩ := hj
  subst j2; subst he; exact ex_iast hd hs j1 hp kk
theorem en_calliV {k kd na a n : Nat} {cm : zM} {vs rest : List zV} {h2 : zH} (hd : decode m.1 pc = .ok (.invokespecial k, 3)) (hz : zmth m.2.1 k = some (kd, na, cm)) (hkd : kd = 2 ∨ kd = 4) (hst : na ≤ st.length ∧ zwd (st.drop na) ≤ 8) (hv : (st.take na).reverse = .inr (.inr (some a)) :: vs) (hr : st.drop na = rest) (hs : zsh h a = some (cm.2.1, n)) (hci : cm.2.1 < 13) (hw : zwd (.inr (.inr (some a)) :: vs) ≤ cm.2.2.1) (hp : pc + 3 = pc')
    (hc : zCv d cm (.inr (.inr (some a)) :: vs) h (fun h' => h' = h2)) (kk : zEx scr (d + 1) m (pc', ls, rest, h2) Q) : zEx scr (d + 1) m (pc, ls, st, h) Q :=
  ex_calliV hd hz hkd hst hv hr hs hci hw hp hc (fun h' e => by subst e; exact kk)
end ZX2
/-! what one comparison says of another of the same two -/
theorem zk_neg (x y : Int32) : (zcond .ne x y = !zcond .eq x y) ∧ (zcond .ge x y = !zcond .lt x y) ∧ (zcond .le x y = !zcond .gt x y) := by
  refine ⟨?_, ?_, ?_⟩
  · simp only [zcond]; by_cases h : x = y <;> simp [h]
  · simp only [zcond]
    by_cases h : x < y
    · simp [h, Int32.not_le.mpr h]
    · simp [h, Int32.not_lt.mp h]
  · simp only [zcond]
    by_cases h : y < x
    · simp [h, Int32.not_le.mpr h]
    · simp [h, Int32.not_lt.mp h]
theorem zk_lt_ge {x y : Int32} {b : Bool} (h : zcond .lt x y = b) : zcond .ge x y = !b := by rw [(zk_neg x y).2.1, h]
theorem zk_ge_lt {x y : Int32} {b : Bool} (h : zcond .ge x y = b) : zcond .lt x y = !b := by rw [(zk_neg x y).2.1] at h; rw [← h]; simp
theorem zk_gt_le {x y : Int32} {b : Bool} (h : zcond .gt x y = b) : zcond .le x y = !b := by rw [(zk_neg x y).2.2, h]
theorem zk_le_gt {x y : Int32} {b : Bool} (h : zcond .le x y = b) : zcond .gt x y = !b := by rw [(zk_neg x y).2.2] at h; rw [← h]; simp
theorem zk_eq_ne {x y : Int32} {b : Bool} (h : zcond .eq x y = b) : zcond .ne x y = !b := by rw [(zk_neg x y).1, h]
theorem zk_ne_eq {x y : Int32} {b : Bool} (h : zcond .ne x y = b) : zcond .eq x y = !b := by rw [(zk_neg x y).1] at h; rw [← h]; simp
theorem zk_lt_gt {x y : Int32} (h : zcond .lt x y = true) : zcond .gt x y = false := by
  simp only [zcond, decide_eq_true_eq, decide_eq_false_iff_not] at h ⊢
  exact Int32.not_lt.mpr (Int32.le_of_lt h)
theorem zk_gt_lt {x y : Int32} (h : zcond .gt x y = true) : zcond .lt x y = false := by
  simp only [zcond, decide_eq_true_eq, decide_eq_false_iff_not] at h ⊢
  exact Int32.not_lt.mpr (Int32.le_of_lt h)
theorem zsiI {h : zH} {a k b : Nat} {v : Int32} {q : Option (Nat × Nat)} (e : zsh h b = q) : zsh (zsI h a k v) b = q := e
theorem zsiR {h : zH} {a k b : Nat} {v : Option Nat} {q : Option (Nat × Nat)} (e : zsh h b = q) : zsh (zsR h a k v) b = q := e
theorem zi_lt {x y : Int32} (h : zcond .lt x y = true) : x.toInt < y.toInt := by
  simp only [zcond, decide_eq_true_eq] at h; exact Int32.lt_iff_toInt_lt.mp h
theorem zi_nlt {x y : Int32} (h : zcond .lt x y = false) : y.toInt ≤ x.toInt := by
  simp only [zcond, decide_eq_false_iff_not] at h; exact Int.not_lt.mp (fun q => h (Int32.lt_iff_toInt_lt.mpr q))
theorem zi_gt {x y : Int32} (h : zcond .gt x y = true) : y.toInt < x.toInt := by
  simp only [zcond, decide_eq_true_eq] at h; exact Int32.lt_iff_toInt_lt.mp h
theorem zi_ngt {x y : Int32} (h : zcond .gt x y = false) : x.toInt ≤ y.toInt := by
  simp only [zcond, decide_eq_false_iff_not] at h; exact Int.not_lt.mp (fun q => h (Int32.lt_iff_toInt_lt.mpr q))
theorem zj_lt {x y : Int32} (h : x.toInt < y.toInt) : zcond .lt x y = true := by
  simp only [zcond, decide_eq_true_eq]; exact Int32.lt_iff_toInt_lt.mpr h
theorem zj_nlt {x y : Int32} (h : y.toInt ≤ x.toInt) : zcond .lt x y = false := by
  simp only [zcond, decide_eq_false_iff_not]; exact fun q => absurd (Int32.lt_iff_toInt_lt.mp q) (Int.not_lt.mpr h)
theorem zj_gt {x y : Int32} (h : y.toInt < x.toInt) : zcond .gt x y = true := by
  simp only [zcond, decide_eq_true_eq]; exact Int32.lt_iff_toInt_lt.mpr h
theorem zj_ngt {x y : Int32} (h : x.toInt ≤ y.toInt) : zcond .gt x y = false := by
  simp only [zcond, decide_eq_false_iff_not]; exact fun q => absurd (Int32.lt_iff_toInt_lt.mp q) (Int.not_lt.mpr h)
theorem zj_ne {x y : Int32} (h : x.toInt ≠ y.toInt) : zcond .ne x y = true := by
  simp only [zcond]
  have : x ≠ y := fun e => h (by rw [e])
  simp [this]
end Pk4
