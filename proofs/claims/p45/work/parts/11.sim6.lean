/-! one step -/
section ZS6
variable {p : Program} {l : Launch} {e : Env} {R : Room} {s : State} {m : MethodId} {args : Array Value} {below : List Frame} {meth : Method} {c : Code} {Q : State → Prop} {B : Nat} {sp : Nat → Nat} {cA : Nat → ClassId} {D : va_G} {mi : zM} {c0 s0 : Nat}
variable {pc len : Nat} {ls : zL} {st : List zV} {h : zH}
theorem zs_arith {i : Instr} {g : zC} (cx : zX p s m args meth c B sp cA D mi) (hd : decode mi.1 pc = .ok (i, 1)) (hz : zarith i 1 pc ls st h = some (.inl g)) (k : zK p l e R s m args below meth c Q B sp cA D mi c0 s0 g) : zK p l e R s m args below meth c Q B sp cA D mi c0 s0 (pc, ls, st, h) := by
  unfold zarith at hz
  split at hz
  · split at hz
    · next v hv => cases hz; exact zs_bin cx hd hv k
    · split at hz
      · next v hv => cases hz; exact zs_un cx hd hv k
      · cases hz
  · split at hz
    · next v hv => cases hz; exact zs_un cx hd hv k
    · cases hz
  · split at hz
    · next v hv => cases hz; exact zs_lbin cx hd hv k
    · cases hz
  · cases hz
theorem zs_prim {k kd na : Nat} {cm : zM} {i : Instr} {g : zC} (cx : zX p s m args meth c B sp cA D mi) (hd : decode mi.1 pc = .ok (i, 3)) (hi : (i = .invokespecial k ∧ kd = 10) ∨ (i = .invokestatic k ∧ kd ≠ 10)) (hz : zmth mi.2.1 k = some (kd, na, cm)) (hp : zprim true kd pc ls st h = some (.inl g))
    (hf : 1 ≤ R.frames) (hlo : 60 ≤ R.locals) (hr1 : zc h ≤ c0 + R.cells) (hr2 : zt h ≤ s0 + R.slots)
    (kk : zK p l e R s m args below meth c Q B sp cA D mi c0 s0 g) : zK p l e R s m args below meth c Q B sp cA D mi c0 s0 (pc, ls, st, h) := by
  intro H locs lA cells slots hR hS hl h1 h2
  dsimp only at h1 h2 hl hR
  obtain ⟨hx, hb, hml, hown, hts, hin, hC⟩ := cx
  obtain ⟨pl, pi, ps, pn, hcc, -⟩ := zmth_get hz
  have hsz : c.maxLocals = lA.size := by rw [hml]; exact hl.1.symm
  unfold zprim at hp
  rw [if_pos rfl] at hp
  split at hp
  · next hk =>
    subst hk
    split at hp
    · next a st' =>
      split at hp
      · next hw =>
        cases hp
        obtain ⟨rfl, -⟩ := hi.resolve_right (fun q => q.2 rfl)
        simp only [zmthC, Bool.and_eq_true, decide_eq_true_eq] at hcc
        refine W.objInit hx hb hown (hts _ (zws_in hcc.1 hcc.2)) (hts _ zobjK.1) (hts _ zobjK.2) rfl hsz.symm (a := zad B sp a) (rest := st'.map (zcv B sp)) rfl hd hf (by show 2 * 0 + _ + 12 ≤ _; rw [zwd_cv]; omega) ?_
        exact kk H locs lA cells slots hR hS hl h1 h2
      · cases hp
    · cases hp
  · next hk10 =>
    have hi' : i = .invokestatic k := by
      rcases hi with ⟨-, q⟩ | ⟨q, -⟩
      · exact absurd q hk10
      · exact q
    subst hi'
    split at hp
    · next hk =>
      subst hk
      split at hp
      · next y x st' =>
        split at hp
        · next hw =>
          cases hp
          simp only [zmthC, Bool.and_eq_true, decide_eq_true_eq] at hcc
          exact va_mmax hx hb hsz hown (hts _ (zws_in hcc.1 hcc.2)) (hts _ zmaxK.1) (hts _ zmaxK.2.1) (hts _ zmaxK.2.2) hf (by rw [zwd_cv]; omega) (by omega) (by omega) hd (kk H locs lA cells slots hR hS hl h1 h2)
        · cases hp
      · cases hp
    · split at hp
      · next hk =>
        subst hk
        split at hp
        · next y x st' =>
          split at hp
          · next hw =>
            cases hp
            simp only [zmthC, Bool.and_eq_true, decide_eq_true_eq] at hcc
            exact va_mmin hx hb hsz hown (hts _ (zws_in hcc.1 hcc.2)) (hts _ zminK.1) (hts _ zminK.2.1) (hts _ zminK.2.2) hf (by rw [zwd_cv]; omega) (by omega) (by omega) hd (kk H locs lA cells slots hR hS hl h1 h2)
          · cases hp
        · cases hp
      · split at hp
        · next hk =>
          subst hk
          split at hp
          · next x st' =>
            split at hp
            · next hw =>
              cases hp
              simp only [zmthC, Bool.and_eq_true, decide_eq_true_eq] at hcc
              exact va_mabs hx hb hsz hown (hts _ (zws_in hcc.1 hcc.2)) (hts _ zabsK.1) (hts _ zabsK.2.1) (hts _ zabsK.2.2) hf (by rw [zwd_cv]; omega) (by omega) (by omega) hd (kk H locs lA cells slots hR hS hl h1 h2)
            · cases hp
          · cases hp
        · split at hp
          · next hk =>
            subst hk
            simp only [zmthC, Bool.and_eq_true, decide_eq_true_eq] at hcc
            unfold zcopy at hp
            split at hp
            · next n dp a spp b st' =>
              split at hp
              · next k0 n0 k1 n1 hq0 hq1 =>
                split at hp
                · next hw =>
                  cases hp
                  obtain ⟨rfl, rfl, q1, q2, q3, q4, q5, q6⟩ := hw
                  show W p l e R s m args below meth c H locs cells slots Q (F0 m pc lA (.int n :: .int dp :: zcv B sp (.inr (.inr (some a))) :: .int spp :: zcv B sp (.inr (.inr (some b))) :: st'.map (zcv B sp)))
                  rw [zcv_ref (zok_lt hR.2.1 hq0), zcv_ref (zok_lt hR.2.1 hq1)]
                  refine zp_copyi hx hb hsz hown (hts _ (zws_in hcc.1 hcc.2)) (hts _ zcpyK.1) (hts _ zcpyK.2.1) (hts _ zcpyK.2.2) hC.1 hR.1 zW_D hS b a 1 1 (zW_get hq0) (zW_get hq1) rfl rfl q1 q2 q3 q4 q5 hf (by rw [zwd_cv]; omega) hd (fun H1 locs1 hz1 hP1 hS1 => ?_)
                  refine kk H1 locs1 lA cells slots ⟨?_, hR.2.1, fun q => by rw [hz1]; exact hR.2.2 q⟩ hS1 hl h1 h2
                  show va_P D vwCl (zW B sp cA (zsRow h a (va_cpy (h.2.1 b) (h.2.1 a) spp.toNatClampNeg dp.toNatClampNeg n.toNatClampNeg))) H1
                  rw [zW_set (h' := zsRow h a (va_cpy (h.2.1 b) (h.2.1 a) spp.toNatClampNeg dp.toNatClampNeg n.toNatClampNeg)) hq1 rfl (fun b hb k n => zE_sRow hb), zE_I]
                  have e : (zsRow h a (va_cpy (h.2.1 b) (h.2.1 a) spp.toNatClampNeg dp.toNatClampNeg n.toNatClampNeg)).2.1 a = va_cpy (h.2.1 b) (h.2.1 a) spp.toNatClampNeg dp.toNatClampNeg n.toNatClampNeg := by
                    funext j
                    simp [zsRow, zrow]
                  rw [e]
                  exact hP1
                · cases hp
              · cases hp
            · cases hp
          · cases hp
theorem zcall_some {call : zM → List zV → zH → Option zR} {cm : zM} {kd na : Nat} {x : zC ⊕ zR} (hc : zcall call cm kd na pc ls st h = some x) : ∃ vs v h', call cm vs h = some (v, h') := by
  unfold zcall at hc
  split at hc
  · split at hc
    · split at hc
      · next r h' q => exact ⟨_, _, _, q⟩
      · cases hc
    · split at hc
      · split at hc
        · split at hc
          · split at hc
            · next r h' q => exact ⟨_, _, _, q⟩
            · cases hc
          · cases hc
        · cases hc
      · cases hc
  · cases hc
theorem zsim_call {call : zM → List zV → zH → Option zR} {k kd na d : Nat} {cm : zM} {i : Instr} {g : zC} (cx : zX p s m args meth c B sp cA D mi) (hd : decode mi.1 pc = .ok (i, 3)) (hi : (i = .invokevirtual k ∧ kd = 0) ∨ (i = .invokestatic k ∧ (kd = 1 ∨ kd = 3)) ∨ (i = .invokespecial k ∧ (kd = 2 ∨ kd = 4))) (hz : zmth mi.2.1 k = some (kd, na, cm)) (hs : zcall call cm kd na pc ls st h = some (.inl g))
    (hcall : ∀ cm, zMok cm → ∀ vs hh v hh', call cm vs hh = some (v, hh') → (∃ d', d = d' + 1 ∧ zMet l B sp cA D d' cm vs hh v hh') ∧ zc hh ≤ zc hh' ∧ zt hh ≤ zt hh')
    (hr1 : zc g.2.2.2 ≤ c0 + R.cells) (hr2 : zt g.2.2.2 ≤ s0 + R.slots) (hf : d + 4 ≤ R.frames) (hlo : 60 * (d + 4) ≤ R.locals)
    (kk : zK p l e R s m args below meth c Q B sp cA D mi c0 s0 g) : zK p l e R s m args below meth c Q B sp cA D mi c0 s0 (pc, ls, st, h) := by
  obtain ⟨pl, pi, ps, pn, -, hMk⟩ := zmth_get hz
  have hM := hMk (by rcases hi with ⟨-, q⟩ | ⟨-, q | q⟩ | ⟨-, q | q⟩ <;> omega)
  obtain ⟨vs, v, h', hc⟩ := zcall_some hs
  obtain ⟨⟨d', rfl, -⟩, -⟩ := hcall cm hM vs h v h' hc
  refine zs_call (d' := d') (v := v) (h' := h') cx hd hi hz call hs (fun vs v h' hc => ?_) hr1 hr2 hf hlo kk
  obtain ⟨⟨d2, q, q2⟩, q3⟩ := hcall cm hM vs h v h' hc
  obtain rfl : d' = d2 := by omega
  exact ⟨q2, q3⟩
theorem zl_len {a b n : Nat} (h : b = 0 ∨ a = b) (hb : b = n + 1) : a = n + 1 := by omega
theorem zsim_exec {scr : Option (Nat × (Nat → Int32))} {call : zM → List zV → zH → Option zR} {i : Instr} {d : Nat} {g : zC} (cx : zX p s m args meth c B sp cA D mi) (hd : decode mi.1 pc = .ok (i, len)) (hlen : zilen i = 0 ∨ len = zilen i) (hs : zexec scr call (decide (0 < d)) mi i len pc ls st h = some (.inl g))
    (hscr : ∀ L xs, scr = some (L, xs) → va_X (sp 1000000) L xs s s.heap ∧ sp 1000000 < s.heap.size ∧ sp 1000000 < B)
    (hcall : ∀ cm, zMok cm → ∀ vs hh v hh', call cm vs hh = some (v, hh') → (∃ d', d = d' + 1 ∧ zMet l B sp cA D d' cm vs hh v hh') ∧ zc hh ≤ zc hh' ∧ zt hh ≤ zt hh')
    (hled : ∀ (k na : Nat) (cm : zM), zmth mi.2.1 k = some (16, na, cm) → decode mi.1 pc = .ok (.invokestatic k, 3) → scr.isSome = true → 0 < d → zled call pc ls st h = some (.inl g) → zK p l e R s m args below meth c Q B sp cA D mi c0 s0 (pc, ls, st, h))
    (hf : d + 4 ≤ R.frames) (hlo : 60 * (d + 4) ≤ R.locals) (hr0 : zc h ≤ c0 + R.cells ∧ zt h ≤ s0 + R.slots) (hr : zc g.2.2.2 ≤ c0 + R.cells ∧ zt g.2.2.2 ≤ s0 + R.slots)
    (kk : zK p l e R s m args below meth c Q B sp cA D mi c0 s0 g) : zK p l e R s m args below meth c Q B sp cA D mi c0 s0 (pc, ls, st, h) := by
  cases i with
  | iconst n => obtain rfl := zl_len hlen rfl; cases hs; exact zs_iconst cx hd kk
  | bipush n => obtain rfl := zl_len hlen rfl; cases hs; exact zs_bipush cx hd kk
  | sipush n => obtain rfl := zl_len hlen rfl; cases hs; exact zs_sipush cx hd kk
  | lconst n => obtain rfl := zl_len hlen rfl; cases hs; exact zs_lconst cx hd kk
  | ldc k =>
    obtain rfl := zl_len hlen rfl
    have hs : zldv mi 1 k 2 pc ls st h = some (.inl g) := hs
    unfold zldv at hs
    split at hs
    · next v hv =>
      split at hs
      · next hc => cases hs; exact zs_ldv cx (Or.inl ⟨rfl, rfl⟩) hd hv ⟨fun q => (by cases q), fun q => (by omega)⟩ kk
      · cases hs
    · cases hs
  | ldc_w k =>
    obtain rfl := zl_len hlen rfl
    have hs : zldv mi 1 k 3 pc ls st h = some (.inl g) := hs
    unfold zldv at hs
    split at hs
    · next v hv =>
      split at hs
      · next hc => cases hs; exact zs_ldv cx (Or.inr (Or.inl ⟨rfl, rfl⟩)) hd hv ⟨fun q => (by cases q), fun q => (by omega)⟩ kk
      · cases hs
    · cases hs
  | ldc2_w k =>
    obtain rfl := zl_len hlen rfl
    have hs : zldv mi 2 k 3 pc ls st h = some (.inl g) := hs
    unfold zldv at hs
    split at hs
    · next v hv =>
      split at hs
      · next hc => cases hs; exact zs_ldv cx (Or.inr (Or.inr ⟨rfl, rfl⟩)) hd hv ⟨fun _ => hc, fun _ => rfl⟩ kk
      · cases hs
    · cases hs
  | iload k => obtain rfl := zl_len hlen rfl; exact zs_load cx hd (Or.inl ⟨rfl, rfl, rfl⟩) hs kk
  | iload_n k => obtain rfl := zl_len hlen rfl; exact zs_load cx hd (Or.inr (Or.inl ⟨k, rfl, rfl, rfl, rfl⟩)) hs kk
  | lload k => obtain rfl := zl_len hlen rfl; exact zs_load cx hd (Or.inr (Or.inr (Or.inl ⟨rfl, rfl, rfl⟩))) hs kk
  | lload_n k => obtain rfl := zl_len hlen rfl; exact zs_load cx hd (Or.inr (Or.inr (Or.inr (Or.inl ⟨k, rfl, rfl, rfl, rfl⟩)))) hs kk
  | aload k => obtain rfl := zl_len hlen rfl; exact zs_load cx hd (Or.inr (Or.inr (Or.inr (Or.inr (Or.inl ⟨rfl, rfl, rfl⟩))))) hs kk
  | aload_n k => obtain rfl := zl_len hlen rfl; exact zs_load cx hd (Or.inr (Or.inr (Or.inr (Or.inr (Or.inr ⟨k, rfl, rfl, rfl, rfl⟩))))) hs kk
  | istore k => obtain rfl := zl_len hlen rfl; exact zs_store cx hd (Or.inl ⟨rfl, rfl, rfl⟩) hs kk
  | istore_n k => obtain rfl := zl_len hlen rfl; exact zs_store cx hd (Or.inr (Or.inl ⟨k, rfl, rfl, rfl, rfl⟩)) hs kk
  | lstore k => obtain rfl := zl_len hlen rfl; exact zs_store cx hd (Or.inr (Or.inr (Or.inl ⟨rfl, rfl, rfl⟩))) hs kk
  | lstore_n k => obtain rfl := zl_len hlen rfl; exact zs_store cx hd (Or.inr (Or.inr (Or.inr (Or.inl ⟨k, rfl, rfl, rfl, rfl⟩)))) hs kk
  | astore k => obtain rfl := zl_len hlen rfl; exact zs_store cx hd (Or.inr (Or.inr (Or.inr (Or.inr (Or.inl ⟨rfl, rfl, rfl⟩))))) hs kk
  | astore_n k => obtain rfl := zl_len hlen rfl; exact zs_store cx hd (Or.inr (Or.inr (Or.inr (Or.inr (Or.inr ⟨k, rfl, rfl, rfl, rfl⟩))))) hs kk
  | iinc k n =>
    obtain rfl := zl_len hlen rfl
    simp only [zexec] at hs
    split at hs
    · next x hg =>
      split at hs
      · next hj => cases hs; exact zs_iinc cx hd hg hj kk
      · cases hs
    · cases hs
  | lshl =>
    obtain rfl := zl_len hlen rfl
    simp only [zexec] at hs
    split at hs
    · cases hs; exact zs_lshl cx hd kk
    · cases hs
  | ifCond cd off =>
    obtain rfl := zl_len hlen rfl
    simp only [zexec] at hs
    split at hs
    · exact zs_if cx hd hs kk
    · cases hs
  | if_icmp cd off =>
    obtain rfl := zl_len hlen rfl
    simp only [zexec] at hs
    split at hs
    · exact zs_icmp cx hd hs kk
    · cases hs
  | goto off => obtain rfl := zl_len hlen rfl; exact zs_goto cx hd hs kk
  | tableswitch df lo hi offs =>
    simp only [zexec] at hs
    split at hs
    · exact zs_switch cx hd hs kk
    · cases hs
  | getfield k =>
    obtain rfl := zl_len hlen rfl
    simp only [zexec] at hs
    split at hs
    · split at hs
      · next ci f kd n hz hq =>
        split at hs
        · next hk => subst hk; cases hs; exact zs_get cx hd hz hq kk
        · cases hs
      · cases hs
    · cases hs
  | putfield k =>
    obtain rfl := zl_len hlen rfl
    simp only [zexec] at hs
    split at hs
    · split at hs
      · next ci f kd n hz hq =>
        split at hs
        · next hk =>
          obtain ⟨rfl, hfi⟩ := hk
          split at hs
          · next h' hp => cases hs; exact zs_put cx hd hz hq hfi hp kk
          · cases hs
        · cases hs
      · cases hs
    · cases hs
  | iaload =>
    obtain rfl := zl_len hlen rfl
    simp only [zexec] at hs
    split at hs
    · split at hs
      · next v hv => cases hs; exact zs_iald cx hd hv hscr kk
      · cases hs
    · cases hs
  | baload =>
    obtain rfl := zl_len hlen rfl
    simp only [zexec] at hs
    split at hs
    · split at hs
      · next v hv => cases hs; exact zs_bald cx hd hv kk
      · cases hs
    · cases hs
  | laload =>
    obtain rfl := zl_len hlen rfl
    simp only [zexec] at hs
    split at hs
    · split at hs
      · next k n hq =>
        split at hs
        · next hk => obtain ⟨rfl, hi⟩ := hk; cases hs; exact zs_lald cx hd hq hi kk
        · cases hs
      · cases hs
    · cases hs
  | aaload =>
    obtain rfl := zl_len hlen rfl
    simp only [zexec] at hs
    split at hs
    · split at hs
      · next k n hq =>
        split at hs
        · next hk => obtain ⟨k1, k2, hi⟩ := hk; cases hs; exact zs_aald cx hd hq k1 k2 hi kk
        · cases hs
      · cases hs
    · cases hs
  | iastore =>
    obtain rfl := zl_len hlen rfl
    simp only [zexec] at hs
    split at hs
    · split at hs
      · next h' hv => cases hs; exact zs_iast cx hd hv kk
      · cases hs
    · cases hs
  | bastore =>
    obtain rfl := zl_len hlen rfl
    simp only [zexec] at hs
    split at hs
    · split at hs
      · next h' hv => cases hs; exact zs_bast cx hd hv kk
      · cases hs
    · cases hs
  | lastore =>
    obtain rfl := zl_len hlen rfl
    simp only [zexec] at hs
    split at hs
    · split at hs
      · next k n hq =>
        split at hs
        · next hk => obtain ⟨rfl, hi⟩ := hk; cases hs; exact zs_last cx hd hq hi kk
        · cases hs
      · cases hs
    · cases hs
  | aastore =>
    obtain rfl := zl_len hlen rfl
    simp only [zexec] at hs
    split at hs
    · split at hs
      · next k n kv nv hq hv =>
        split at hs
        · next hk => obtain ⟨k1, k2, hi, rfl⟩ := hk; cases hs; exact zs_aast cx hd hq hv k1 k2 hi kk
        · cases hs
      · cases hs
    · cases hs
  | arraylength =>
    obtain rfl := zl_len hlen rfl
    simp only [zexec] at hs
    split at hs
    · split at hs
      · next v hv => cases hs; exact zs_alen cx hd hv hscr kk
      · cases hs
    · cases hs
  | new k =>
    obtain rfl := zl_len hlen rfl
    simp only [zexec] at hs
    split at hs
    · next ci hz =>
      split at hs
      · next hci =>
        split at hs
        · next hk => cases hs; exact zs_new cx hd hz hci hk.1 hk.2 hr.1 hr.2 kk
        · cases hs
      · split at hs <;> cases hs
    · cases hs
  | newarray t =>
    obtain rfl := zl_len hlen rfl
    simp only [zexec] at hs
    split at hs
    · split at hs
      · next hk =>
        obtain ⟨k1, k2, k3, k4⟩ := hk
        split at hs
        · cases hs; exact zs_newa cx hd (Or.inl ⟨rfl, rfl⟩) k1 k2 k3 k4 hr.1 hr.2 kk
        · cases hs; exact zs_newa cx hd (Or.inr (Or.inl ⟨rfl, rfl⟩)) k1 k2 k3 k4 hr.1 hr.2 kk
        · cases hs; exact zs_newa cx hd (Or.inr (Or.inr ⟨rfl, rfl⟩)) k1 k2 k3 k4 hr.1 hr.2 kk
        · cases hs
      · cases hs
    · cases hs
  | anewarray k =>
    obtain rfl := zl_len hlen rfl
    simp only [zexec] at hs
    split at hs
    · split at hs
      · next hk =>
        obtain ⟨k1, k2, k3, k4⟩ := hk
        split at hs
        · next ci hz =>
          split at hs
          · next ha => cases hs; exact zs_newq cx hd hz ha.1 ha.2 k1 k2 k3 k4 hr.1 hr.2 kk
          · cases hs
        · cases hs
      · cases hs
    · cases hs
  | dup =>
    obtain rfl := zl_len hlen rfl
    simp only [zexec] at hs
    split at hs
    · split at hs
      · next hv => cases hs; exact zs_dup cx hd hv kk
      · cases hs
    · cases hs
  | dup2 =>
    obtain rfl := zl_len hlen rfl
    simp only [zexec] at hs
    split at hs
    · split at hs
      · next hv => cases hs; exact zs_dup2 cx hd hv.1 hv.2 kk
      · cases hs
    · cases hs
  | pop =>
    obtain rfl := zl_len hlen rfl
    simp only [zexec] at hs
    split at hs
    · split at hs
      · next hv => cases hs; exact zs_pop cx hd hv kk
      · cases hs
    · cases hs
  | pop2 =>
    obtain rfl := zl_len hlen rfl
    simp only [zexec] at hs
    split at hs
    · split at hs
      · next hv => cases hs; exact zs_pop2 cx hd hv kk
      · cases hs
    · cases hs
  | invokevirtual k =>
    obtain rfl := zl_len hlen rfl
    simp only [zexec] at hs
    split at hs
    · next kd na cm hz =>
      split at hs
      · next hk =>
        subst hk
        split at hs
        · exact zs_str cx hd hz hs (by omega) (by omega) hr0.1 hr0.2 kk
        · exact zsim_call cx hd (Or.inl ⟨rfl, rfl⟩) hz hs hcall hr.1 hr.2 hf hlo kk
      · cases hs
    · cases hs
  | getstatic k =>
    obtain rfl := zl_len hlen rfl
    simp only [zexec] at hs
    split at hs
    · next hk => obtain ⟨ho, rfl⟩ := hk; cases hs; exact zs_getst cx hd ho kk
    · cases hs
  | invokestatic k =>
    obtain rfl := zl_len hlen rfl
    simp only [zexec] at hs
    split at hs
    · next kd na cm hz =>
      split at hs
      · next hk => exact zsim_call cx hd (Or.inr (Or.inl ⟨rfl, hk⟩)) hz hs hcall hr.1 hr.2 hf hlo kk
      · split at hs
        · next hk =>
          subst hk
          split at hs
          · next hq => exact hled k na cm hz hd hq.1 (of_decide_eq_true hq.2) hs
          · cases hs
        · split at hs
          · cases hs
          · next hk10 =>
            cases hdp : decide (0 < d) with
            | true =>
              rw [hdp] at hs
              have hd0 : 0 < d := of_decide_eq_true hdp
              exact zs_prim cx hd (Or.inr ⟨rfl, hk10⟩) hz hs (by omega) (by omega) hr0.1 hr0.2 kk
            | false =>
              rw [hdp] at hs
              unfold zprim at hs
              rw [if_neg (by decide)] at hs
              cases hs
    · cases hs
  | invokespecial k =>
    obtain rfl := zl_len hlen rfl
    simp only [zexec] at hs
    split at hs
    · next kd na cm hz =>
      split at hs
      · next hk => exact zsim_call cx hd (Or.inr (Or.inr ⟨rfl, hk⟩)) hz hs hcall hr.1 hr.2 hf hlo kk
      · split at hs
        · next hk10 =>
          subst hk10
          cases hdp : decide (0 < d) with
          | true =>
            rw [hdp] at hs
            have hd0 : 0 < d := of_decide_eq_true hdp
            exact zs_prim cx hd (Or.inl ⟨rfl, rfl⟩) hz hs (by omega) (by omega) hr0.1 hr0.2 kk
          | false =>
            rw [hdp] at hs
            unfold zprim at hs
            rw [if_neg (by decide)] at hs
            cases hs
        · cases hs
    · cases hs
  | ireturn =>
    simp only [zexec] at hs
    split at hs
    · split at hs
      · split at hs <;> cases hs
      · cases hs
    · cases hs
  | lreturn =>
    simp only [zexec] at hs
    split at hs
    · split at hs <;> cases hs
    · cases hs
  | return_ =>
    simp only [zexec] at hs
    split at hs
    · split at hs <;> cases hs
    · cases hs
  | _ => obtain rfl := zl_len hlen rfl; exact zs_arith cx hd hs kk
end ZS6
