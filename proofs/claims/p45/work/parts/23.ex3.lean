/-! calls whose answer and heap have a name; the throw of led -/
theorem zble {a b : Nat} (h : Nat.ble a b = true) : a ≤ b := Nat.le_of_ble_eq_true h
theorem zblt {a b : Nat} (h : Nat.ble (a + 1) b = true) : a < b := Nat.le_of_ble_eq_true h
theorem zsiT {h : zH} {b : Nat} {q : Option (Nat × Nat)} (e : zsh h b = q) : zsh (zthr h) b = q := e
section ZX3
variable {scr : Option (Nat × (Nat → Int32))} {d : Nat} {m : zM} {pc pc' len : Nat} {ls : zL} {st : List zV} {h h2 : zH} {Q : Option zV → zH → Prop} {i : Instr}
theorem en_callvI {k na a n : Nat} {cm : zM} {vs rest : List zV} {v : Int32} (hd : decode m.1 pc = .ok (.invokevirtual k, 3)) (hz : zmth m.2.1 k = some (0, na, cm)) (hst : na ≤ st.length ∧ zwd (st.drop na) ≤ 8) (hv : (st.take na).reverse = .inr (.inr (some a)) :: vs) (hr : st.drop na = rest) (hs : zsh h a = some (cm.2.1, n)) (hci : cm.2.1 < 13) (hw : zwd (.inr (.inr (some a)) :: vs) ≤ cm.2.2.1) (hp : pc + 3 = pc')
    (hc : zCi d cm (.inr (.inr (some a)) :: vs) h (fun x h' => x = v ∧ h' = h2)) (kk : zEx scr (d + 1) m (pc', ls, .inl v :: rest, h2) Q) : zEx scr (d + 1) m (pc, ls, st, h) Q :=
  ex_callvI hd hz hst hv hr hs hci hw hp hc (fun x h' ⟨e1, e2⟩ => by subst e1; subst e2; exact kk)
theorem en_callvL {k na a n : Nat} {cm : zM} {vs rest : List zV} {v : Int64} (hd : decode m.1 pc = .ok (.invokevirtual k, 3)) (hz : zmth m.2.1 k = some (0, na, cm)) (hst : na ≤ st.length ∧ zwd (st.drop na) ≤ 8) (hv : (st.take na).reverse = .inr (.inr (some a)) :: vs) (hr : st.drop na = rest) (hs : zsh h a = some (cm.2.1, n)) (hci : cm.2.1 < 13) (hw : zwd (.inr (.inr (some a)) :: vs) ≤ cm.2.2.1) (hp : pc + 3 = pc')
    (hc : zCl d cm (.inr (.inr (some a)) :: vs) h (fun x h' => x = v ∧ h' = h2)) (kk : zEx scr (d + 1) m (pc', ls, .inr (.inl v) :: rest, h2) Q) : zEx scr (d + 1) m (pc, ls, st, h) Q :=
  ex_callvL hd hz hst hv hr hs hci hw hp hc (fun x h' ⟨e1, e2⟩ => by subst e1; subst e2; exact kk)
theorem en_callvV {k na a n : Nat} {cm : zM} {vs rest : List zV} (hd : decode m.1 pc = .ok (.invokevirtual k, 3)) (hz : zmth m.2.1 k = some (0, na, cm)) (hst : na ≤ st.length ∧ zwd (st.drop na) ≤ 8) (hv : (st.take na).reverse = .inr (.inr (some a)) :: vs) (hr : st.drop na = rest) (hs : zsh h a = some (cm.2.1, n)) (hci : cm.2.1 < 13) (hw : zwd (.inr (.inr (some a)) :: vs) ≤ cm.2.2.1) (hp : pc + 3 = pc')
    (hc : zCv d cm (.inr (.inr (some a)) :: vs) h (fun h' => h' = h2)) (kk : zEx scr (d + 1) m (pc', ls, rest, h2) Q) : zEx scr (d + 1) m (pc, ls, st, h) Q :=
  ex_callvV hd hz hst hv hr hs hci hw hp hc (fun h' e2 => by subst e2; exact kk)
theorem en_callsI {k kd na : Nat} {cm : zM} {vs rest : List zV} {v : Int32} (hd : decode m.1 pc = .ok (.invokestatic k, 3)) (hz : zmth m.2.1 k = some (kd, na, cm)) (hkd : kd = 1 ∨ kd = 3) (hst : na ≤ st.length ∧ zwd (st.drop na) ≤ 8) (hv : (st.take na).reverse = vs) (hr : st.drop na = rest) (hw : zwd vs ≤ cm.2.2.1) (hp : pc + 3 = pc')
    (hc : zCi d cm vs h (fun x h' => x = v ∧ h' = h2)) (kk : zEx scr (d + 1) m (pc', ls, .inl v :: rest, h2) Q) : zEx scr (d + 1) m (pc, ls, st, h) Q :=
  ex_callsI hd hz hkd hst hv hr hw hp hc (fun x h' ⟨e1, e2⟩ => by subst e1; subst e2; exact kk)
theorem en_callsL {k kd na : Nat} {cm : zM} {vs rest : List zV} {v : Int64} (hd : decode m.1 pc = .ok (.invokestatic k, 3)) (hz : zmth m.2.1 k = some (kd, na, cm)) (hkd : kd = 1 ∨ kd = 3) (hst : na ≤ st.length ∧ zwd (st.drop na) ≤ 8) (hv : (st.take na).reverse = vs) (hr : st.drop na = rest) (hw : zwd vs ≤ cm.2.2.1) (hp : pc + 3 = pc')
    (hc : zCl d cm vs h (fun x h' => x = v ∧ h' = h2)) (kk : zEx scr (d + 1) m (pc', ls, .inr (.inl v) :: rest, h2) Q) : zEx scr (d + 1) m (pc, ls, st, h) Q :=
  ex_callsL hd hz hkd hst hv hr hw hp hc (fun x h' ⟨e1, e2⟩ => by subst e1; subst e2; exact kk)
theorem en_callsV {k kd na : Nat} {cm : zM} {vs rest : List zV} (hd : decode m.1 pc = .ok (.invokestatic k, 3)) (hz : zmth m.2.1 k = some (kd, na, cm)) (hkd : kd = 1 ∨ kd = 3) (hst : na ≤ st.length ∧ zwd (st.drop na) ≤ 8) (hv : (st.take na).reverse = vs) (hr : st.drop na = rest) (hw : zwd vs ≤ cm.2.2.1) (hp : pc + 3 = pc')
    (hc : zCv d cm vs h (fun h' => h' = h2)) (kk : zEx scr (d + 1) m (pc', ls, rest, h2) Q) : zEx scr (d + 1) m (pc, ls, st, h) Q :=
  ex_callsV hd hz hkd hst hv hr hw hp hc (fun h' e2 => by subst e2; exact kk)
theorem ex_thr {k ci : Nat} (hd : decode m.1 45 = .ok (.new k, 3)) (hz : zcls m.2.1 k = some ci) (hc : ¬ ci < 13) (hy : m.2.2.2.2.1 = yX11_led) (h0 : h.2.2.2.2 < 1000) (hq : Q (some (.inr (.inl (-1)))) (zthr h)) : zEx scr d m (45, ls, [], h) Q :=
  ex_end hd (Or.inr rfl) (fun _ => by simp only [zexec, hz]; rw [if_neg hc, if_pos ⟨trivial, hy, trivial, h0⟩]) hq
theorem ex_ledT {k na a o : Nat} {cm : zM} {p : Int32} {rest : List zV} (hd : decode m.1 pc = .ok (.invokestatic k, 3)) (hz : zmth m.2.1 k = some (16, na, cm)) (hsc : scr.isSome = true) (hw : zwd rest ≤ 8 ∧ zsh h a = some (11, 16) ∧ zsh h o = some (15, 1) ∧ h.2.2.2.2 < 1000) (hp : pc + 3 = pc')
    (hc : zCl d zledM [.inr (.inr (some a)), .inl p] h (fun x h' => x = -1 ∧ h' = h2)) (kk : zEx scr (d + 1) m (pc', ls, .inl 1 :: rest, h2) Q) : zEx scr (d + 1) m (pc, ls, .inr (.inr (some o)) :: .inl p :: .inr (.inr (some a)) :: rest, h) Q := by
  obtain ⟨n1, r, h1, a1, x, e1, e2, e3⟩ := hc
  subst e1; subst e2; subst e3
  obtain ⟨n2, v, h', b1, b2⟩ := kk
  refine ⟨max n1 n2 + 1, v, h', ?_, b2⟩
  rw [zrun_succ]
  have hs : zstep scr (zcf (max n1 n2) (d + 1)) (decide (0 < d + 1)) m (pc, ls, .inr (.inr (some o)) :: .inl p :: .inr (.inr (some a)) :: rest, h) = some (.inl (pc', ls, .inl 1 :: rest, h1)) := by
    unfold zstep
    rw [hd]
    dsimp only
    have hl : zilen (.invokestatic k) = 0 ∨ 3 = zilen (.invokestatic k) := Or.inr rfl
    rw [if_pos hl]
    have e : decide (0 < d + 1) = true := by simp
    rw [e]
    have hc2 : zcf (max n1 n2) (d + 1) zledM [.inr (.inr (some a)), .inl p] h = some (some (.inr (.inl (-1))), h1) := by
      unfold zcf
      dsimp only
      rw [if_pos (zble rfl)]
      exact zrun_le (Nat.le_max_left _ _) a1
    simp only [zexec, hz]
    rw [if_neg (by decide), if_pos trivial, if_pos ⟨hsc, trivial⟩]
    unfold zled
    dsimp only
    rw [if_pos hw, hc2, ← hp]
  rw [hs]
  exact zrun_le (Nat.le_max_right _ _) b1
end ZX3
