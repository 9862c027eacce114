/-! the law's walk, given what its call of led does -/
theorem whole_of_led {p : Program} {e : Env} {s : State} {m : MethodId} {below : List Frame} {meth : Method} {c : Code} (l : Launch) {b L : Nat} {xs : Nat → Int32} (hL : L ≤ 3072) (C0 : lw_At p s m meth c b L xs)
    (hled : ∀ (sp : Nat → Nat) (cA : Nat → ClassId) (D : va_G), zX p s m #[Value.ref b] meth c s.heap.size sp cA D mL_law → ∀ (n k na : Nat) (cm : zM) (pc : Nat) (ls : zL) (st : List zV) (h : zH) (g : zC), zmth mL_law.2.1 k = some (16, na, cm) → decode mL_law.1 pc = .ok (.invokestatic k, 3) → zled (zcf n 1005) pc ls st h = some (.inl g) → zc g.2.2.2 ≤ 0 + room_1.cells ∧ zt g.2.2.2 ≤ 0 + room_1.slots → zK p l e room_1 s m #[Value.ref b] below meth c (lw_Z below #[Value.ref b] s) s.heap.size sp cA D mL_law 0 0 g → zK p l e room_1 s m #[Value.ref b] below meth c (lw_Z below #[Value.ref b] s) s.heap.size sp cA D mL_law 0 0 (pc, ls, st, h)) :
    W p l e room_1 s m #[Value.ref b] below meth c s.heap [] 0 0 (lw_Z below #[Value.ref b] s) (entryFrame m ([Value.ref b] : List Value).toArray 7) := by
  obtain ⟨hx, hb, hr, hml, hown, hts0, hX, hbl, hlocks, hgv⟩ := C0
  obtain ⟨sp, cA, D, hsp, hC⟩ := zst_cx hts0 hgv b
  have cx : zX p s m #[Value.ref b] meth c s.heap.size sp cA D mL_law := ⟨hx, hb, hml, hown, fun w hw => hts0 w (List.mem_filter.mp hw).1, fun q => (by cases q), hC⟩
  obtain ⟨n, v, h', hrun, hv, r1, r2, r3⟩ := l_law (xs := xs) hL
  have hee : ([(.inr (.inr (some 1000000)) : zV)]).map (zcv s.heap.size sp) = [Value.ref b] := by
    simp [zcv, zad, va_rf, hsp]
  have hl := lv_entry (([(.inr (.inr (some 1000000)) : zV)]).map (zcv s.heap.size sp)) (n := 7) (by rw [hee]; exact zble rfl)
  rw [zargs_lv, hee] at hl
  rw [lg_entry_eq]
  generalize (lg_sl [Value.ref b] ++ List.replicate (7 - (lg_sl [Value.ref b]).length) Slot.unset).toArray = lA at hl ⊢
  have hrc : zc h' ≤ 0 + room_1.cells := by
    show h'.1.1 + h'.2.2.2.2 ≤ 0 + 601024
    omega
  have hrt : zt h' ≤ 0 + room_1.slots := by
    show h'.1.2.2 + 6 * h'.2.2.2.2 ≤ 0 + 7293034
    omega
  refine zsim_run (R := room_1) (scr := some (L, xs)) (d := 1005) (v := v) (h' := h') (c0 := 0) (s0 := 0) (mi := mL_law) cx (fun L' xs' q => ?_) (by decide) (by decide) ⟨hrc, hrt⟩ n (fun k _ => zmet_all l _ sp cA D k) (fun n k na cm pc ls st h g _ h1 h2 _ _ h5 h6 hk => hled sp cA D cx n k na cm pc ls st h g h1 h2 h5 h6 hk) ?_ n (0, [(0, .inr (.inr (some 1000000)))], [], hh_0) (Nat.le_refl n) hrun s.heap [] lA 0 0 zst_rel va_S.rf hl rfl rfl
  · cases q
    rw [hsp]
    exact ⟨hX, hbl, hbl⟩
  · intro k g _ hs H locs lA' cells slots hR' hS' hl' h1 h2
    obtain ⟨e0, hcase⟩ := zs_fin hs (by decide)
    rw [e0] at h1 h2
    rcases hcase with ⟨x, ty, v1, hst, hty, hnar, hdec⟩ | ⟨x, v1, -, -, -⟩ | ⟨v1, -, -, -⟩
    · rw [hv] at v1
      cases v1
      rw [hst]
      refine va_forget (fun q hq => hS'.2.2 q hq) ?_
      refine W.widen (k := 601024) (n := 7293034) (by have : 0 + cells = zc h' := h1; have h3 : zc h' ≤ 0 + 601024 := hrc; omega) (by have : 0 + slots = zt h' := h2; have h3 : zt h' ≤ 0 + 7293034 := hrt; omega) ?_
      exact lw_ret hx hb hr hlocks hdec
    · rw [hv] at v1; cases v1
    · rw [hv] at v1; cases v1
