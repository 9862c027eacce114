/-! contracts by what comes back: an int, nothing, a long -/
def zCi (d : Nat) (m : zM) (vs : List zV) (h : zH) (Q : Int32 → zH → Prop) : Prop := zEx none d m (0, zargs 0 vs, [], h) (fun v h' => ∃ x, v = some (.inl x) ∧ Q x h')
def zCl (d : Nat) (m : zM) (vs : List zV) (h : zH) (Q : Int64 → zH → Prop) : Prop := zEx none d m (0, zargs 0 vs, [], h) (fun v h' => ∃ x, v = some (.inr (.inl x)) ∧ Q x h')
def zCv (d : Nat) (m : zM) (vs : List zV) (h : zH) (Q : zH → Prop) : Prop := zEx none d m (0, zargs 0 vs, [], h) (fun v h' => v = none ∧ Q h')
theorem zCi.mono {d : Nat} {m : zM} {vs : List zV} {h : zH} {Q Q' : Int32 → zH → Prop} (k : zCi d m vs h Q) (hq : ∀ x h', Q x h' → Q' x h') : zCi d m vs h Q' := zEx.mono k (fun v h' ⟨x, e, q⟩ => ⟨x, e, hq x h' q⟩)
section ZX2
variable {scr : Option (Nat × (Nat → Int32))} {d : Nat} {m : zM} {pc pc' len : Nat} {ls : zL} {st : List zV} {h : zH} {Q : Option zV → zH → Prop} {i : Instr}
theorem ex_callvI {k na a n : Nat} {cm : zM} {vs rest : List zV} {Qc : Int32 → zH → Prop} (hd : decode m.1 pc = .ok (.invokevirtual k, 3)) (hz : zmth m.2.1 k = some (0, na, cm)) (hst : na ≤ st.length ∧ zwd (st.drop na) ≤ 8) (hv : (st.take na).reverse = .inr (.inr (some a)) :: vs) (hr : st.drop na = rest) (hs : zsh h a = some (cm.2.1, n)) (hci : cm.2.1 < 13) (hw : zwd (.inr (.inr (some a)) :: vs) ≤ cm.2.2.1) (hp : pc + 3 = pc')
    (hc : zCi d cm (.inr (.inr (some a)) :: vs) h Qc) (kk : ∀ x h', Qc x h' → zEx scr (d + 1) m (pc', ls, .inl x :: rest, h') Q) : zEx scr (d + 1) m (pc, ls, st, h) Q :=
  ex_callv hd hz hst hv hr hs hci hw hp hc (fun r h' ⟨x, e, q⟩ => by subst e; exact kk x h' q)
theorem ex_callvL {k na a n : Nat} {cm : zM} {vs rest : List zV} {Qc : Int64 → zH → Prop} (hd : decode m.1 pc = .ok (.invokevirtual k, 3)) (hz : zmth m.2.1 k = some (0, na, cm)) (hst : na ≤ st.length ∧ zwd (st.drop na) ≤ 8) (hv : (st.take na).reverse = .inr (.inr (some a)) :: vs) (hr : st.drop na = rest) (hs : zsh h a = some (cm.2.1, n)) (hci : cm.2.1 < 13) (hw : zwd (.inr (.inr (some a)) :: vs) ≤ cm.2.2.1) (hp : pc + 3 = pc')
    (hc : zCl d cm (.inr (.inr (some a)) :: vs) h Qc) (kk : ∀ x h', Qc x h' → zEx scr (d + 1) m (pc', ls, .inr (.inl x) :: rest, h') Q) : zEx scr (d + 1) m (pc, ls, st, h) Q :=
  ex_callv hd hz hst hv hr hs hci hw hp hc (fun r h' ⟨x, e, q⟩ => by subst e; exact kk x h' q)
theorem ex_callvV {k na a n : Nat} {cm : zM} {vs rest : List zV} {Qc : zH → Prop} (hd : decode m.1 pc = .ok (.invokevirtual k, 3)) (hz : zmth m.2.1 k = some (0, na, cm)) (hst : na ≤ st.length ∧ zwd (st.drop na) ≤ 8) (hv : (st.take na).reverse = .inr (.inr (some a)) :: vs) (hr : st.drop na = rest) (hs : zsh h a = some (cm.2.1, n)) (hci : cm.2.1 < 13) (hw : zwd (.inr (.inr (some a)) :: vs) ≤ cm.2.2.1) (hp : pc + 3 = pc')
    (hc : zCv d cm (.inr (.inr (some a)) :: vs) h Qc) (kk : ∀ h', Qc h' → zEx scr (d + 1) m (pc', ls, rest, h') Q) : zEx scr (d + 1) m (pc, ls, st, h) Q :=
  ex_callv hd hz hst hv hr hs hci hw hp hc (fun r h' ⟨e, q⟩ => by subst e; exact kk h' q)
theorem ex_callsI {k kd na : Nat} {cm : zM} {vs rest : List zV} {Qc : Int32 → zH → Prop} (hd : decode m.1 pc = .ok (.invokestatic k, 3)) (hz : zmth m.2.1 k = some (kd, na, cm)) (hkd : kd = 1 ∨ kd = 3) (hst : na ≤ st.length ∧ zwd (st.drop na) ≤ 8) (hv : (st.take na).reverse = vs) (hr : st.drop na = rest) (hw : zwd vs ≤ cm.2.2.1) (hp : pc + 3 = pc')
    (hc : zCi d cm vs h Qc) (kk : ∀ x h', Qc x h' → zEx scr (d + 1) m (pc', ls, .inl x :: rest, h') Q) : zEx scr (d + 1) m (pc, ls, st, h) Q :=
  ex_calls hd hz hkd hst hv hr hw hp hc (fun r h' ⟨x, e, q⟩ => by subst e; exact kk x h' q)
theorem ex_callsL {k kd na : Nat} {cm : zM} {vs rest : List zV} {Qc : Int64 → zH → Prop} (hd : decode m.1 pc = .ok (.invokestatic k, 3)) (hz : zmth m.2.1 k = some (kd, na, cm)) (hkd : kd = 1 ∨ kd = 3) (hst : na ≤ st.length ∧ zwd (st.drop na) ≤ 8) (hv : (st.take na).reverse = vs) (hr : st.drop na = rest) (hw : zwd vs ≤ cm.2.2.1) (hp : pc + 3 = pc')
    (hc : zCl d cm vs h Qc) (kk : ∀ x h', Qc x h' → zEx scr (d + 1) m (pc', ls, .inr (.inl x) :: rest, h') Q) : zEx scr (d + 1) m (pc, ls, st, h) Q :=
  ex_calls hd hz hkd hst hv hr hw hp hc (fun r h' ⟨x, e, q⟩ => by subst e; exact kk x h' q)
theorem ex_callsV {k kd na : Nat} {cm : zM} {vs rest : List zV} {Qc : zH → Prop} (hd : decode m.1 pc = .ok (.invokestatic k, 3)) (hz : zmth m.2.1 k = some (kd, na, cm)) (hkd : kd = 1 ∨ kd = 3) (hst : na ≤ st.length ∧ zwd (st.drop na) ≤ 8) (hv : (st.take na).reverse = vs) (hr : st.drop na = rest) (hw : zwd vs ≤ cm.2.2.1) (hp : pc + 3 = pc')
    (hc : zCv d cm vs h Qc) (kk : ∀ h', Qc h' → zEx scr (d + 1) m (pc', ls, rest, h') Q) : zEx scr (d + 1) m (pc, ls, st, h) Q :=
  ex_calls hd hz hkd hst hv hr hw hp hc (fun r h' ⟨e, q⟩ => by subst e; exact kk h' q)
theorem ex_calliV {k kd na a n : Nat} {cm : zM} {vs rest : List zV} {Qc : zH → Prop} (hd : decode m.1 pc = .ok (.invokespecial k, 3)) (hz : zmth m.2.1 k = some (kd, na, cm)) (hkd : kd = 2 ∨ kd = 4) (hst : na ≤ st.length ∧ zwd (st.drop na) ≤ 8) (hv : (st.take na).reverse = .inr (.inr (some a)) :: vs) (hr : st.drop na = rest) (hs : zsh h a = some (cm.2.1, n)) (hci : cm.2.1 < 13) (hw : zwd (.inr (.inr (some a)) :: vs) ≤ cm.2.2.1) (hp : pc + 3 = pc')
    (hc : zCv d cm (.inr (.inr (some a)) :: vs) h Qc) (kk : ∀ h', Qc h' → zEx scr (d + 1) m (pc', ls, rest, h') Q) : zEx scr (d + 1) m (pc, ls, st, h) Q :=
  ex_calli hd hz hkd hst hv hr hs hci hw hp hc (fun r h' ⟨e, q⟩ => by subst e; exact kk h' q)
theorem ex_iretI {x : Int32} {ty : FieldType} {Qi : Int32 → zH → Prop} (hd : decode m.1 pc = .ok (.ireturn, 1)) (ht : m.2.2.2.1 = some ty) (hn : narrow ty (.int x) = .int x) (hq : Qi x h) : zEx scr d m (pc, ls, [.inl x], h) (fun v h' => ∃ x, v = some (.inl x) ∧ Qi x h') :=
  ex_iret hd ht hn ⟨x, rfl, hq⟩
theorem ex_lretL {x : Int64} {Qi : Int64 → zH → Prop} (hd : decode m.1 pc = .ok (.lreturn, 1)) (ht : m.2.2.2.1 = some .long) (hq : Qi x h) : zEx scr d m (pc, ls, [.inr (.inl x)], h) (fun v h' => ∃ x, v = some (.inr (.inl x)) ∧ Qi x h') :=
  ex_lret hd ht ⟨x, rfl, hq⟩
theorem ex_vretV {Qv : zH → Prop} (hd : decode m.1 pc = .ok (.return_, 1)) (ht : m.2.2.2.1 = none) (hq : Qv h) : zEx scr d m (pc, ls, [], h) (fun v h' => v = none ∧ Qv h') :=
  ex_vret hd ht ⟨rfl, hq⟩
theorem ex_narrB {n : Int32} (hd : decode m.1 pc = .ok (.newarray .byte, 2)) (h0 : h.2.2.2.2 = 0 ∧ h.1.1 < 900000 ∧ ¬ n < 0 ∧ n.toNatClampNeg ≤ 100000) (hp : pc + 2 = pc') (kk : zEx scr d m (pc', ls, .inr (.inr (some h.1.1)) :: st, znew h 13 n.toNatClampNeg) Q) : zEx scr d m (pc, ls, .inl n :: st, h) Q := by
  subst hp; exact ex_go hd (Or.inr rfl) (fun _ => by simp only [zexec]; rw [if_pos h0]) kk
theorem ex_narrI {n : Int32} (hd : decode m.1 pc = .ok (.newarray .int, 2)) (h0 : h.2.2.2.2 = 0 ∧ h.1.1 < 900000 ∧ ¬ n < 0 ∧ n.toNatClampNeg ≤ 100000) (hp : pc + 2 = pc') (kk : zEx scr d m (pc', ls, .inr (.inr (some h.1.1)) :: st, znew h 14 n.toNatClampNeg) Q) : zEx scr d m (pc, ls, .inl n :: st, h) Q := by
  subst hp; exact ex_go hd (Or.inr rfl) (fun _ => by simp only [zexec]; rw [if_pos h0]) kk
theorem ex_narrL {n : Int32} (hd : decode m.1 pc = .ok (.newarray .long, 2)) (h0 : h.2.2.2.2 = 0 ∧ h.1.1 < 900000 ∧ ¬ n < 0 ∧ n.toNatClampNeg ≤ 100000) (hp : pc + 2 = pc') (kk : zEx scr d m (pc', ls, .inr (.inr (some h.1.1)) :: st, znew h 15 n.toNatClampNeg) Q) : zEx scr d m (pc, ls, .inl n :: st, h) Q := by
  subst hp; exact ex_go hd (Or.inr rfl) (fun _ => by simp only [zexec]; rw [if_pos h0]) kk
theorem ex_anarr {k ci : Nat} {n : Int32} (hd : decode m.1 pc = .ok (.anewarray k, 3)) (hz : zcls m.2.1 k = some ci) (hc : 16 ≤ zak ci ∧ zak ci ≤ 20) (h0 : h.2.2.2.2 = 0 ∧ h.1.1 < 900000 ∧ ¬ n < 0 ∧ n.toNatClampNeg ≤ 100000) (hp : pc + 3 = pc') (kk : zEx scr d m (pc', ls, .inr (.inr (some h.1.1)) :: st, znew h (zak ci) n.toNatClampNeg) Q) : zEx scr d m (pc, ls, .inl n :: st, h) Q := by
  subst hp; exact ex_go hd (Or.inr rfl) (fun _ => by simp only [zexec, hz]; rw [if_pos h0, if_pos hc]) kk
/-! the same on heaps that have a name -/
theorem en_new {k ci a nf : Nat} {h2 : zH} (hd : decode m.1 pc = .ok (.new k, 3)) (hz : zcls m.2.1 k = some ci) (hc : ci < 13 ∧ h.2.2.2.2 = 0 ∧ h.1.1 = a ∧ a < 900000 ∧ (zft ci).length = nf) (he : znew h ci nf = h2) (hp : pc + 3 = pc') (kk : zEx scr d m (pc', ls, .inr (.inr (some a)) :: st, h2) Q) : zEx scr d m (pc, ls, st, h) Q := by
  obtain ⟨c1, c2, c3, c4, c5⟩ := hc
  subst c5; subst he; subst c3
  exact ex_new hd hz c1 ⟨c2, c4⟩ hp kk
theorem en_narrB {n : Int32} {a nn : Nat} {h2 : zH} (hd : decode m.1 pc = .ok (.newarray .byte, 2)) (hc : h.2.2.2.2 = 0 ∧ h.1.1 = a ∧ a < 900000 ∧ ¬ n < 0 ∧ n.toNatClampNeg = nn ∧ nn ≤ 100000) (he : znew h 13 nn = h2) (hp : pc + 2 = pc') (kk : zEx scr d m (pc', ls, .inr (.inr (some a)) :: st, h2) Q) : zEx scr d m (pc, ls, .inl n :: st, h) Q := by
  obtain ⟨c2, c3, c4, c5, c6, c7⟩ := hc
  subst c6; subst he; subst c3
  exact ex_narrB hd ⟨c2, c4, c5, c7⟩ hp kk
theorem en_narrI {n : Int32} {a nn : Nat} {h2 : zH} (hd : decode m.1 pc = .ok (.newarray .int, 2)) (hc : h.2.2.2.2 = 0 ∧ h.1.1 = a ∧ a < 900000 ∧ ¬ n < 0 ∧ n.toNatClampNeg = nn ∧ nn ≤ 100000) (he : znew h 14 nn = h2) (hp : pc + 2 = pc') (kk : zEx scr d m (pc', ls, .inr (.inr (some a)) :: st, h2) Q) : zEx scr d m (pc, ls, .inl n :: st, h) Q := by
  obtain ⟨c2, c3, c4, c5, c6, c7⟩ := hc
  subst c6; subst he; subst c3
  exact ex_narrI hd ⟨c2, c4, c5, c7⟩ hp kk
theorem en_narrL {n : Int32} {a nn : Nat} {h2 : zH} (hd : decode m.1 pc = .ok (.newarray .long, 2)) (hc : h.2.2.2.2 = 0 ∧ h.1.1 = a ∧ a < 900000 ∧ ¬ n < 0 ∧ n.toNatClampNeg = nn ∧ nn ≤ 100000) (he : znew h 15 nn = h2) (hp : pc + 2 = pc') (kk : zEx scr d m (pc', ls, .inr (.inr (some a)) :: st, h2) Q) : zEx scr d m (pc, ls, .inl n :: st, h) Q := by
  obtain ⟨c2, c3, c4, c5, c6, c7⟩ := hc
  subst c6; subst he; subst c3
  exact ex_narrL hd ⟨c2, c4, c5, c7⟩ hp kk
theorem en_anarr {k ci ak : Nat} {n : Int32} {a nn : Nat} {h2 : zH} (hd : decode m.1 pc = .ok (.anewarray k, 3)) (hz : zcls m.2.1 k = some ci) (hc : h.2.2.2.2 = 0 ∧ h.1.1 = a ∧ a < 900000 ∧ ¬ n < 0 ∧ n.toNatClampNeg = nn ∧ nn ≤ 100000 ∧ zak ci = ak ∧ 16 ≤ ak ∧ ak ≤ 20) (he : znew h ak nn = h2) (hp : pc + 3 = pc') (kk : zEx scr d m (pc', ls, .inr (.inr (some a)) :: st, h2) Q) : zEx scr d m (pc, ls, .inl n :: st, h) Q := by
  obtain ⟨c2, c3, c4, c5, c6, c7, c8, c9, c10⟩ := hc
  subst c8; subst c6; subst he; subst c3
  exact ex_anarr hd hz ⟨c9, c10⟩ ⟨c2, c4, c5, c7⟩ hp kk
theorem en_putI {k a ci f n : Nat} {v : Int32} {h2 : zH} (hd : decode m.1 pc = .ok (.putfield k, 3)) (hz : zfld m.2.1 k = some (ci, f)) (hs : zsh h a = some (ci, n)) (hfi : zfin ci f = false ∨ (m.2.2.2.2.2 = true ∧ m.2.1 = ci)) (hc : (zft ci).getD f 9 = 0 ∨ ((zft ci).getD f 9 = 1 ∧ (v = 0 ∨ v = 1))) (he : zsI h a f v = h2) (hp : pc + 3 = pc') (kk : zEx scr d m (pc', ls, st, h2) Q) : zEx scr d m (pc, ls, .inl v :: .inr (.inr (some a)) :: st, h) Q := by
  subst he; exact ex_putI hd hz hs hfi hc hp kk
theorem en_putR {k a ci f n v : Nat} {h2 : zH} (hd : decode m.1 pc = .ok (.putfield k, 3)) (hz : zfld m.2.1 k = some (ci, f)) (hs : zsh h a = some (ci, n)) (hfi : zfin ci f = false ∨ (m.2.2.2.2.2 = true ∧ m.2.1 = ci)) (hc : (zft ci).getD f 9 = 3) (he : zsR h a f (some v) = h2) (hp : pc + 3 = pc') (kk : zEx scr d m (pc', ls, st, h2) Q) : zEx scr d m (pc, ls, .inr (.inr (some v)) :: .inr (.inr (some a)) :: st, h) Q := by
  subst he; exact ex_putR hd hz hs hfi hc hp kk
theorem en_aast {a kd n v nv jj : Nat} {j : Int32} {h2 : zH} (hd : decode m.1 pc = .ok (.aastore, 1)) (hs : zsh h a = some (kd, n)) (hv : zsh h v = some (zrc kd, nv)) (hk : 16 ≤ kd ∧ kd ≤ 20) (hj : zin j n = true ∧ j.toNatClampNeg = jj) (he : zsR h a jj (some v) = h2) (hp : pc + 1 = pc') (kk : zEx scr d m (pc', ls, st, h2) Q) : zEx scr d m (pc, ls, .inr (.inr (some v)) :: .inl j :: .inr (.inr (some a)) :: st, h) Q := by
  obtain ⟨j1, j2⟩ := hj
  subst j2; subst he; exact ex_aast hd hs hv hk j1 hp kk
theorem en_iast {a n jj : Nat} {j v : Int32} {h2 : zH} (hd : decode m.1 pc = .ok (.iastore, 1)) (hs : zsh h a = some (14, n)) (hj : zin j n = true ∧ j.toNatClampNeg = jj) (he : zsI h a jj v = h2) (hp : pc + 1 = pc') (kk : zEx scr d m (pc', ls, st, h2) Q) : zEx scr d m (pc, ls, .inl v :: .inl j :: .inr (.inr (some a)) :: st, h) Q := by
  obtain ⟨j1, j2⟩ := hj
  subst j2; subst he; exact ex_iast hd hs j1 hp kk
theorem en_calliV {k kd na a n : Nat} {cm : zM} {vs rest : List zV} {h2 : zH} (hd : decode m.1 pc = .ok (.invokespecial k, 3)) (hz : zmth m.2.1 k = some (kd, na, cm)) (hkd : kd = 2 ∨ kd = 4) (hst : na ≤ st.length ∧ zwd (st.drop na) ≤ 8) (hv : (st.take na).reverse = .inr (.inr (some a)) :: vs) (hr : st.drop na = rest) (hs : zsh h a = some (cm.2.1, n)) (hci : cm.2.1 < 13) (hw : zwd (.inr (.inr (some a)) :: vs) ≤ cm.2.2.1) (hp : pc + 3 = pc')
    (hc : zCv d cm (.inr (.inr (some a)) :: vs) h (fun h' => h' = h2)) (kk : zEx scr (d + 1) m (pc', ls, rest, h2) Q) : zEx scr (d + 1) m (pc, ls, st, h) Q :=
  ex_calliV hd hz hkd hst hv hr hs hci hw hp hc (fun h' e => by subst e; exact kk)
end ZX2
/-! what one comparison says of another of the same two -/
theorem zk_neg (x y : Int32) : (zcond .ne x y = !zcond .eq x y) ∧ (zcond .ge x y = !zcond .lt x y) ∧ (zcond .le x y = !zcond .gt x y) := by
  refine ⟨?_, ?_, ?_⟩
  · simp only [zcond]; by_cases h : x = y <;> simp [h]
  · simp only [zcond]
    by_cases h : x < y
    · simp [h, Int32.not_le.mpr h]
    · simp [h, Int32.not_lt.mp h]
  · simp only [zcond]
    by_cases h : y < x
    · simp [h, Int32.not_le.mpr h]
    · simp [h, Int32.not_lt.mp h]
theorem zk_lt_ge {x y : Int32} {b : Bool} (h : zcond .lt x y = b) : zcond .ge x y = !b := by rw [(zk_neg x y).2.1, h]
theorem zk_ge_lt {x y : Int32} {b : Bool} (h : zcond .ge x y = b) : zcond .lt x y = !b := by rw [(zk_neg x y).2.1] at h; rw [← h]; simp
theorem zk_gt_le {x y : Int32} {b : Bool} (h : zcond .gt x y = b) : zcond .le x y = !b := by rw [(zk_neg x y).2.2, h]
theorem zk_le_gt {x y : Int32} {b : Bool} (h : zcond .le x y = b) : zcond .gt x y = !b := by rw [(zk_neg x y).2.2] at h; rw [← h]; simp
theorem zk_eq_ne {x y : Int32} {b : Bool} (h : zcond .eq x y = b) : zcond .ne x y = !b := by rw [(zk_neg x y).1, h]
theorem zk_ne_eq {x y : Int32} {b : Bool} (h : zcond .ne x y = b) : zcond .eq x y = !b := by rw [(zk_neg x y).1] at h; rw [← h]; simp
theorem zk_lt_gt {x y : Int32} (h : zcond .lt x y = true) : zcond .gt x y = false := by
  simp only [zcond, decide_eq_true_eq, decide_eq_false_iff_not] at h ⊢
  exact Int32.not_lt.mpr (Int32.le_of_lt h)
theorem zk_gt_lt {x y : Int32} (h : zcond .gt x y = true) : zcond .lt x y = false := by
  simp only [zcond, decide_eq_true_eq, decide_eq_false_iff_not] at h ⊢
  exact Int32.not_lt.mpr (Int32.le_of_lt h)
theorem zsiI {h : zH} {a k b : Nat} {v : Int32} {q : Option (Nat × Nat)} (e : zsh h b = q) : zsh (zsI h a k v) b = q := e
theorem zsiR {h : zH} {a k b : Nat} {v : Option Nat} {q : Option (Nat × Nat)} (e : zsh h b = q) : zsh (zsR h a k v) b = q := e
theorem zi_lt {x y : Int32} (h : zcond .lt x y = true) : x.toInt < y.toInt := by
  simp only [zcond, decide_eq_true_eq] at h; exact Int32.lt_iff_toInt_lt.mp h
theorem zi_nlt {x y : Int32} (h : zcond .lt x y = false) : y.toInt ≤ x.toInt := by
  simp only [zcond, decide_eq_false_iff_not] at h; exact Int.not_lt.mp (fun q => h (Int32.lt_iff_toInt_lt.mpr q))
theorem zi_gt {x y : Int32} (h : zcond .gt x y = true) : y.toInt < x.toInt := by
  simp only [zcond, decide_eq_true_eq] at h; exact Int32.lt_iff_toInt_lt.mp h
theorem zi_ngt {x y : Int32} (h : zcond .gt x y = false) : x.toInt ≤ y.toInt := by
  simp only [zcond, decide_eq_false_iff_not] at h; exact Int.not_lt.mp (fun q => h (Int32.lt_iff_toInt_lt.mpr q))
theorem zj_lt {x y : Int32} (h : x.toInt < y.toInt) : zcond .lt x y = true := by
  simp only [zcond, decide_eq_true_eq]; exact Int32.lt_iff_toInt_lt.mpr h
theorem zj_nlt {x y : Int32} (h : y.toInt ≤ x.toInt) : zcond .lt x y = false := by
  simp only [zcond, decide_eq_false_iff_not]; exact fun q => absurd (Int32.lt_iff_toInt_lt.mp q) (Int.not_lt.mpr h)
theorem zj_gt {x y : Int32} (h : y.toInt < x.toInt) : zcond .gt x y = true := by
  simp only [zcond, decide_eq_true_eq]; exact Int32.lt_iff_toInt_lt.mpr h
theorem zj_ngt {x y : Int32} (h : x.toInt ≤ y.toInt) : zcond .gt x y = false := by
  simp only [zcond, decide_eq_false_iff_not]; exact fun q => absurd (Int32.lt_iff_toInt_lt.mp q) (Int.not_lt.mpr h)
theorem zj_ne {x y : Int32} (h : x.toInt ≠ y.toInt) : zcond .ne x y = true := by
  simp only [zcond]
  have : x ≠ y := fun e => h (by rw [e])
  simp [this]
