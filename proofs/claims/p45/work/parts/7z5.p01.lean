/-! the partial judgement: whatever a run of at most N steps ends with, it is Q -/
def zPn (N : Nat) (scr : Option (Nat × (Nat → Int32))) (d : Nat) (m : zM) (g : zC) (Q : Option zV → zH → Prop) : Prop := ∀ n, n ≤ N → ∀ v h', zrun n scr d m g = some (v, h') → Q v h'
def zPa (d : Nat) (m : zM) (vs : List zV) (h : zH) (Q : Option zV → zH → Prop) : Prop := ∀ N, zPn N none d m (0, zargs 0 vs, [], h) Q
theorem zPa.and {d : Nat} {m : zM} {vs : List zV} {h : zH} {Q Q' : Option zV → zH → Prop} (a : zCt d m vs h Q) (b : zPa d m vs h Q') : zCt d m vs h (fun v h' => Q v h' ∧ Q' v h') := by
  obtain ⟨n, v, h', e, q⟩ := a
  exact ⟨n, v, h', e, q, b n n (Nat.le_refl _) v h' e⟩
theorem zPa.two {d : Nat} {m : zM} {vs : List zV} {h : zH} {Q Q' : Option zV → zH → Prop} (a : zPa d m vs h Q) (b : zPa d m vs h Q') : zPa d m vs h (fun v h' => Q v h' ∧ Q' v h') :=
  fun N n hn v h' e => ⟨a N n hn v h' e, b N n hn v h' e⟩
theorem zPa.of {d : Nat} {m : zM} {vs : List zV} {h : zH} {Q : Option zV → zH → Prop} (a : zCt d m vs h Q) : zPa d m vs h Q := by
  intro N n _ v h' e
  obtain ⟨n1, v1, h1, e1, q⟩ := a
  have e2 := zrun_le (Nat.le_max_left n n1) e
  have e3 := zrun_le (Nat.le_max_right n n1) e1
  cases e2.symm.trans e3
  exact q
theorem zPn.mono {N : Nat} {scr : Option (Nat × (Nat → Int32))} {d : Nat} {m : zM} {g : zC} {Q Q' : Option zV → zH → Prop} (k : zPn N scr d m g Q) (hq : ∀ v h', Q v h' → Q' v h') : zPn N scr d m g Q' := fun n hn v h' e => hq v h' (k n hn v h' e)
theorem zPa.mono {d : Nat} {m : zM} {vs : List zV} {h : zH} {Q Q' : Option zV → zH → Prop} (k : zPa d m vs h Q) (hq : ∀ v h', Q v h' → Q' v h') : zPa d m vs h Q' := fun N => (k N).mono hq
theorem zPn.zero {scr : Option (Nat × (Nat → Int32))} {d : Nat} {m : zM} {g : zC} {Q : Option zV → zH → Prop} : zPn 0 scr d m g Q := by
  intro n hn v h' e
  have : n = 0 := by omega
  subst this
  cases e
section ZPA
variable {N : Nat} {scr : Option (Nat × (Nat → Int32))} {d : Nat} {m : zM} {pc pc' len : Nat} {ls : zL} {st : List zV} {h : zH} {Q : Option zV → zH → Prop} {i : Instr}
theorem pa_stp {g : zC} (hs : ∀ n g', zstep scr (zcf n d) (decide (0 < d)) m g = some (.inl g') → zPn N scr d m g' Q) (he : ∀ n r, zstep scr (zcf n d) (decide (0 < d)) m g = some (.inr r) → Q r.1 r.2) : zPn (N + 1) scr d m g Q := by
  intro n hn v h' e
  cases n with
  | zero => cases e
  | succ n =>
    rw [zrun_succ] at e
    split at e
    · next g' q => exact hs n g' q n (by omega) v h' e
    · next r q => cases e; exact he n _ q
    · cases e
theorem zPn.dn {N' : Nat} {g : zC} (k : zPn N scr d m g Q) (hn : N' ≤ N) : zPn N' scr d m g Q := fun n h1 v h' e => k n (Nat.le_trans h1 hn) v h' e
theorem pa_gos {g' : zC} (hd : decode m.1 pc = .ok (i, len)) (hl : zilen i = 0 ∨ len = zilen i) (hx : ∀ call, zexec scr call (decide (0 < d)) m i len pc ls st h = some (.inl g')) (k : zPn N scr d m g' Q) : zPn (N + 1) scr d m (pc, ls, st, h) Q := by
  have hs : ∀ n, zstep scr (zcf n d) (decide (0 < d)) m (pc, ls, st, h) = some (.inl g') := by
    intro n
    unfold zstep
    rw [hd]
    dsimp only
    rw [if_pos hl]
    exact hx _
  refine pa_stp (fun n g q => ?_) (fun n r q => ?_)
  · rw [hs n] at q
    cases q
    exact k
  · rw [hs n] at q
    cases q
theorem pa_go {g' : zC} (hd : decode m.1 pc = .ok (i, len)) (hl : zilen i = 0 ∨ len = zilen i) (hx : ∀ call, zexec scr call (decide (0 < d)) m i len pc ls st h = some (.inl g')) (k : zPn N scr d m g' Q) : zPn N scr d m (pc, ls, st, h) Q :=
  (pa_gos hd hl hx k).dn (Nat.le_succ N)
/-- a step that may fail -/
theorem pa_may {g' : zC} {C : Prop} (hd : decode m.1 pc = .ok (i, len)) (hl : zilen i = 0 ∨ len = zilen i) (hx : ∀ call x, zexec scr call (decide (0 < d)) m i len pc ls st h = some x → C ∧ x = .inl g') (k : C → zPn N scr d m g' Q) : zPn N scr d m (pc, ls, st, h) Q := by
  have hs : ∀ n x, zstep scr (zcf n d) (decide (0 < d)) m (pc, ls, st, h) = some x → C ∧ x = .inl g' := by
    intro n x q
    unfold zstep at q
    rw [hd] at q
    dsimp only at q
    rw [if_pos hl] at q
    exact hx _ _ q
  refine (pa_stp (N := N) (fun n g q => ?_) (fun n r q => ?_)).dn (Nat.le_succ N)
  · obtain ⟨c, e⟩ := hs n _ q
    cases e
    exact k c
  · obtain ⟨c, e⟩ := hs n _ q
    cases e
theorem pa_end {v : Option zV} {h' : zH} (hd : decode m.1 pc = .ok (i, len)) (hl : zilen i = 0 ∨ len = zilen i) (hx : ∀ call, zexec scr call (decide (0 < d)) m i len pc ls st h = some (.inr (v, h'))) (hq : Q v h') : zPn N scr d m (pc, ls, st, h) Q := by
  have hs : ∀ n, zstep scr (zcf n d) (decide (0 < d)) m (pc, ls, st, h) = some (.inr (v, h')) := by
    intro n
    unfold zstep
    rw [hd]
    dsimp only
    rw [if_pos hl]
    exact hx _
  refine (pa_stp (N := N) (fun n g q => ?_) (fun n r q => ?_)).dn (Nat.le_succ N)
  · rw [hs n] at q
    cases q
  · rw [hs n] at q
    cases q
    exact hq
theorem pa_call {cm : zM} {vs rest : List zV} {Qc : Option zV → zH → Prop} (hd : decode m.1 pc = .ok (i, len)) (hl : zilen i = 0 ∨ len = zilen i) (hx : ∀ call x, zexec scr call (decide (0 < d)) m i len pc ls st h = some x → ∃ r h', call cm vs h = some (r, h') ∧ x = .inl (pc', ls, r.toList ++ rest, h')) (hc : ∀ d', d = d' + 1 → zPa d' cm vs h Qc) (k : ∀ r h', Qc r h' → zPn N scr d m (pc', ls, r.toList ++ rest, h') Q) : zPn N scr d m (pc, ls, st, h) Q := by
  have hs : ∀ n x, zstep scr (zcf n d) (decide (0 < d)) m (pc, ls, st, h) = some x → ∃ r h', Qc r h' ∧ x = .inl (pc', ls, r.toList ++ rest, h') := by
    intro n x q
    unfold zstep at q
    rw [hd] at q
    dsimp only at q
    rw [if_pos hl] at q
    obtain ⟨r, h', e1, e2⟩ := hx _ _ q
    refine ⟨r, h', ?_, e2⟩
    unfold zcf at e1
    split at e1
    · cases e1
    · next d' =>
      split at e1
      · exact hc d' rfl n n (Nat.le_refl _) r h' e1
      · cases e1
  refine (pa_stp (N := N) (fun n g q => ?_) (fun n r q => ?_)).dn (Nat.le_succ N)
  · obtain ⟨r, h', q1, e⟩ := hs n _ q
    cases e
    exact k r h' q1
  · obtain ⟨r, h', q1, e⟩ := hs n _ q
    cases e
theorem pa_callv {k na a : Nat} {cm : zM} {vs rest : List zV} {Qc : Option zV → zH → Prop} (hd : decode m.1 pc = .ok (.invokevirtual k, 3)) (hz : zmth m.2.1 k = some (0, na, cm)) (hci : cm.2.1 < 13) (hv : (st.take na).reverse = .inr (.inr (some a)) :: vs) (hr : st.drop na = rest) (hp : pc + 3 = pc')
    (hc : ∀ d', d = d' + 1 → zPa d' cm (.inr (.inr (some a)) :: vs) h Qc) (kk : ∀ r h', Qc r h' → zPn N scr d m (pc', ls, r.toList ++ rest, h') Q) : zPn N scr d m (pc, ls, st, h) Q := by
  subst hp; subst hr
  refine pa_call hd (Or.inr rfl) (fun call x hq => ?_) hc kk
  simp only [zexec, hz] at hq
  rw [if_pos trivial, if_neg (by omega)] at hq
  unfold zcall at hq
  split at hq
  · rw [if_neg (by decide), hv] at hq
    dsimp only at hq
    split at hq
    · split at hq
      · split at hq
        · next r h' e => cases hq; exact ⟨r, h', e, rfl⟩
        · cases hq
      · cases hq
    · cases hq
  · cases hq
theorem pa_calls {k kd na : Nat} {cm : zM} {vs rest : List zV} {Qc : Option zV → zH → Prop} (hd : decode m.1 pc = .ok (.invokestatic k, 3)) (hz : zmth m.2.1 k = some (kd, na, cm)) (hkd : kd = 1 ∨ kd = 3) (hv : (st.take na).reverse = vs) (hr : st.drop na = rest) (hp : pc + 3 = pc')
    (hc : ∀ d', d = d' + 1 → zPa d' cm vs h Qc) (kk : ∀ r h', Qc r h' → zPn N scr d m (pc', ls, r.toList ++ rest, h') Q) : zPn N scr d m (pc, ls, st, h) Q := by
  subst hp; subst hr
  refine pa_call hd (Or.inr rfl) (fun call x hq => ?_) hc kk
  simp only [zexec, hz] at hq
  rw [if_pos hkd] at hq
  unfold zcall at hq
  split at hq
  · try rw [if_pos hkd] at hq
    rw [hv] at hq
    split at hq
    · next r h' e => cases hq; exact ⟨r, h', e, rfl⟩
    · cases hq
  · cases hq
theorem pa_iald {a n : Nat} {j : Int32} (hd : decode m.1 pc = .ok (.iaload, 1)) (hs : zsh h a = some (14, n)) (hp : pc + 1 = pc') (kk : zin j n = true → zPn N scr d m (pc', ls, .inl (h.2.1 a j.toNatClampNeg) :: st, h) Q) : zPn N scr d m (pc, ls, .inl j :: .inr (.inr (some a)) :: st, h) Q := by
  subst hp
  refine pa_may (C := zin j n = true) hd (Or.inr rfl) (fun call x hq => ?_) kk
  simp only [zexec, zld, hs] at hq
  by_cases c : zin j n = true
  · rw [if_pos trivial, if_pos c] at hq; cases hq; exact ⟨c, rfl⟩
  · rw [if_pos trivial, if_neg c] at hq; cases hq
theorem pa_bald {a n : Nat} {j : Int32} (hd : decode m.1 pc = .ok (.baload, 1)) (hs : zsh h a = some (13, n)) (hp : pc + 1 = pc') (kk : zin j n = true → zPn N scr d m (pc', ls, .inl (h.2.1 a j.toNatClampNeg) :: st, h) Q) : zPn N scr d m (pc, ls, .inl j :: .inr (.inr (some a)) :: st, h) Q := by
  subst hp
  refine pa_may (C := zin j n = true) hd (Or.inr rfl) (fun call x hq => ?_) kk
  simp only [zexec, zld, hs] at hq
  by_cases c : zin j n = true
  · rw [if_pos trivial, if_pos c] at hq; cases hq; exact ⟨c, rfl⟩
  · rw [if_pos trivial, if_neg c] at hq; cases hq
theorem pa_iast {a n : Nat} {j v : Int32} (hd : decode m.1 pc = .ok (.iastore, 1)) (hs : zsh h a = some (14, n)) (hp : pc + 1 = pc') (kk : zin j n = true → zPn N scr d m (pc', ls, st, zsI h a j.toNatClampNeg v) Q) : zPn N scr d m (pc, ls, .inl v :: .inl j :: .inr (.inr (some a)) :: st, h) Q := by
  subst hp
  refine pa_may (C := zin j n = true) hd (Or.inr rfl) (fun call x hq => ?_) kk
  simp only [zexec, zst, hs] at hq
  by_cases c : zin j n = true
  · rw [if_pos trivial, if_pos c] at hq; cases hq; exact ⟨c, rfl⟩
  · rw [if_pos trivial, if_neg c] at hq; cases hq
theorem pa_bast {a n : Nat} {j v : Int32} (hd : decode m.1 pc = .ok (.bastore, 1)) (hs : zsh h a = some (13, n)) (hp : pc + 1 = pc') (kk : zin j n = true → zPn N scr d m (pc', ls, st, zsI h a j.toNatClampNeg (vp_nar .byte v)) Q) : zPn N scr d m (pc, ls, .inl v :: .inl j :: .inr (.inr (some a)) :: st, h) Q := by
  subst hp
  refine pa_may (C := zin j n = true) hd (Or.inr rfl) (fun call x hq => ?_) kk
  simp only [zexec, zst, hs] at hq
  by_cases c : zin j n = true
  · rw [if_pos trivial, if_pos c] at hq; cases hq; exact ⟨c, rfl⟩
  · rw [if_pos trivial, if_neg c] at hq; cases hq
theorem pa_gotos {off : Int} (hd : decode m.1 pc = .ok (.goto off, 3)) (hp : (pc : Int) + off = (pc' : Int)) (k : zPn N scr d m (pc', ls, st, h) Q) : zPn (N + 1) scr d m (pc, ls, st, h) Q :=
  pa_gos hd (Or.inr rfl) (fun _ => by simp only [zexec, zjump]; rw [hp, if_pos (Int.natCast_nonneg pc')]; rfl) k
theorem pa_iconst {n : Int} {v : Int32} (hd : decode m.1 pc = .ok (.iconst n, 1)) (hv : Int32.ofInt n = v) (hp : pc + 1 = pc') (k : zPn N scr d m (pc', ls, .inl v :: st, h) Q) : zPn N scr d m (pc, ls, st, h) Q := by
  subst hp; subst hv; exact pa_go hd (Or.inr rfl) (fun _ => rfl) k
theorem pa_bipush {n : Int} {v : Int32} (hd : decode m.1 pc = .ok (.bipush n, 2)) (hv : (Int8.ofInt n).toInt32 = v) (hp : pc + 2 = pc') (k : zPn N scr d m (pc', ls, .inl v :: st, h) Q) : zPn N scr d m (pc, ls, st, h) Q := by
  subst hp; subst hv; exact pa_go hd (Or.inr rfl) (fun _ => rfl) k
theorem pa_sipush {n : Int} {v : Int32} (hd : decode m.1 pc = .ok (.sipush n, 3)) (hv : (Int16.ofInt n).toInt32 = v) (hp : pc + 3 = pc') (k : zPn N scr d m (pc', ls, .inl v :: st, h) Q) : zPn N scr d m (pc, ls, st, h) Q := by
  subst hp; subst hv; exact pa_go hd (Or.inr rfl) (fun _ => rfl) k
theorem pa_lconst {n : Fin 2} {v : Int64} (hd : decode m.1 pc = .ok (.lconst n, 1)) (hv : Int64.ofNat (n : Nat) = v) (hp : pc + 1 = pc') (k : zPn N scr d m (pc', ls, .inr (.inl v) :: st, h) Q) : zPn N scr d m (pc, ls, st, h) Q := by
  subst hp; subst hv; exact pa_go hd (Or.inr rfl) (fun _ => rfl) k
theorem pa_ldc {k : Nat} {v : zV} (hd : decode m.1 pc = .ok (.ldc k, 2)) (hv : zcst m.2.1 k = some v) (hc : zcat v = 1) (hp : pc + 2 = pc') (kk : zPn N scr d m (pc', ls, v :: st, h) Q) : zPn N scr d m (pc, ls, st, h) Q := by
  subst hp; exact pa_go hd (Or.inr rfl) (fun _ => by simp only [zexec, zldv, hv]; rw [if_pos hc]) kk
theorem pa_ldcw {k : Nat} {v : zV} (hd : decode m.1 pc = .ok (.ldc_w k, 3)) (hv : zcst m.2.1 k = some v) (hc : zcat v = 1) (hp : pc + 3 = pc') (kk : zPn N scr d m (pc', ls, v :: st, h) Q) : zPn N scr d m (pc, ls, st, h) Q := by
  subst hp; exact pa_go hd (Or.inr rfl) (fun _ => by simp only [zexec, zldv, hv]; rw [if_pos hc]) kk
theorem pa_ldc2 {k : Nat} {v : zV} (hd : decode m.1 pc = .ok (.ldc2_w k, 3)) (hv : zcst m.2.1 k = some v) (hc : zcat v = 2) (hp : pc + 3 = pc') (kk : zPn N scr d m (pc', ls, v :: st, h) Q) : zPn N scr d m (pc, ls, st, h) Q := by
  subst hp; exact pa_go hd (Or.inr rfl) (fun _ => by simp only [zexec, zldv, hv]; rw [if_pos hc]) kk
theorem pa_iload {j : Nat} {v : Int32} (hd : decode m.1 pc = .ok (.iload j, 2)) (hv : zget ls j = some (.inl v)) (hp : pc + 2 = pc') (k : zPn N scr d m (pc', ls, .inl v :: st, h) Q) : zPn N scr d m (pc, ls, st, h) Q := by
  subst hp; exact pa_go hd (Or.inr rfl) (fun _ => by simp only [zexec, zload, hv]; rfl) k
theorem pa_iload_n {j : Fin 4} {v : Int32} (hd : decode m.1 pc = .ok (.iload_n j, 1)) (hv : zget ls (j : Nat) = some (.inl v)) (hp : pc + 1 = pc') (k : zPn N scr d m (pc', ls, .inl v :: st, h) Q) : zPn N scr d m (pc, ls, st, h) Q := by
  subst hp; exact pa_go hd (Or.inr rfl) (fun _ => by simp only [zexec, zload, hv]; rfl) k
theorem pa_lload {j : Nat} {v : Int64} (hd : decode m.1 pc = .ok (.lload j, 2)) (hv : zget ls j = some (.inr (.inl v))) (hp : pc + 2 = pc') (k : zPn N scr d m (pc', ls, .inr (.inl v) :: st, h) Q) : zPn N scr d m (pc, ls, st, h) Q := by
  subst hp; exact pa_go hd (Or.inr rfl) (fun _ => by simp only [zexec, zload, hv]; rfl) k
theorem pa_lload_n {j : Fin 4} {v : Int64} (hd : decode m.1 pc = .ok (.lload_n j, 1)) (hv : zget ls (j : Nat) = some (.inr (.inl v))) (hp : pc + 1 = pc') (k : zPn N scr d m (pc', ls, .inr (.inl v) :: st, h) Q) : zPn N scr d m (pc, ls, st, h) Q := by
  subst hp; exact pa_go hd (Or.inr rfl) (fun _ => by simp only [zexec, zload, hv]; rfl) k
theorem pa_aload {j : Nat} {v : Nat} (hd : decode m.1 pc = .ok (.aload j, 2)) (hv : zget ls j = some (.inr (.inr (some v)))) (hp : pc + 2 = pc') (k : zPn N scr d m (pc', ls, .inr (.inr (some v)) :: st, h) Q) : zPn N scr d m (pc, ls, st, h) Q := by
  subst hp; exact pa_go hd (Or.inr rfl) (fun _ => by simp only [zexec, zload, hv]; rfl) k
theorem pa_aload_n {j : Fin 4} {v : Nat} (hd : decode m.1 pc = .ok (.aload_n j, 1)) (hv : zget ls (j : Nat) = some (.inr (.inr (some v)))) (hp : pc + 1 = pc') (k : zPn N scr d m (pc', ls, .inr (.inr (some v)) :: st, h) Q) : zPn N scr d m (pc, ls, st, h) Q := by
  subst hp; exact pa_go hd (Or.inr rfl) (fun _ => by simp only [zexec, zload, hv]; rfl) k
theorem pa_istore {j : Nat} {v : Int32} {ls' : zL} (hd : decode m.1 pc = .ok (.istore j, 2)) (hj : j < m.2.2.1) (hl : zset1 ls j (.inl v) = ls') (hp : pc + 2 = pc') (k : zPn N scr d m (pc', ls', st, h) Q) : zPn N scr d m (pc, ls, .inl v :: st, h) Q := by
  subst hp; subst hl; exact pa_go hd (Or.inr rfl) (fun _ => by simp only [zexec, zstore]; rw [if_pos ⟨trivial, hj⟩]) k
theorem pa_istore_n {j : Fin 4} {v : Int32} {ls' : zL} (hd : decode m.1 pc = .ok (.istore_n j, 1)) (hj : (j : Nat) < m.2.2.1) (hl : zset1 ls (j : Nat) (.inl v) = ls') (hp : pc + 1 = pc') (k : zPn N scr d m (pc', ls', st, h) Q) : zPn N scr d m (pc, ls, .inl v :: st, h) Q := by
  subst hp; subst hl; exact pa_go hd (Or.inr rfl) (fun _ => by simp only [zexec, zstore]; rw [if_pos ⟨trivial, hj⟩]) k
theorem pa_lstore {j : Nat} {v : Int64} {ls' : zL} (hd : decode m.1 pc = .ok (.lstore j, 2)) (hj : j + 1 < m.2.2.1) (hl : zset2 ls j (.inr (.inl v)) = ls') (hp : pc + 2 = pc') (k : zPn N scr d m (pc', ls', st, h) Q) : zPn N scr d m (pc, ls, .inr (.inl v) :: st, h) Q := by
  subst hp; subst hl; exact pa_go hd (Or.inr rfl) (fun _ => by simp only [zexec, zstore]; rw [if_pos ⟨trivial, hj⟩]) k
theorem pa_lstore_n {j : Fin 4} {v : Int64} {ls' : zL} (hd : decode m.1 pc = .ok (.lstore_n j, 1)) (hj : (j : Nat) + 1 < m.2.2.1) (hl : zset2 ls (j : Nat) (.inr (.inl v)) = ls') (hp : pc + 1 = pc') (k : zPn N scr d m (pc', ls', st, h) Q) : zPn N scr d m (pc, ls, .inr (.inl v) :: st, h) Q := by
  subst hp; subst hl; exact pa_go hd (Or.inr rfl) (fun _ => by simp only [zexec, zstore]; rw [if_pos ⟨trivial, hj⟩]) k
theorem pa_astore {j : Nat} {v : Nat} {ls' : zL} (hd : decode m.1 pc = .ok (.astore j, 2)) (hj : j < m.2.2.1) (hl : zset1 ls j (.inr (.inr (some v))) = ls') (hp : pc + 2 = pc') (k : zPn N scr d m (pc', ls', st, h) Q) : zPn N scr d m (pc, ls, .inr (.inr (some v)) :: st, h) Q := by
  subst hp; subst hl; exact pa_go hd (Or.inr rfl) (fun _ => by simp only [zexec, zstore]; rw [if_pos ⟨trivial, hj⟩]) k
theorem pa_astore_n {j : Fin 4} {v : Nat} {ls' : zL} (hd : decode m.1 pc = .ok (.astore_n j, 1)) (hj : (j : Nat) < m.2.2.1) (hl : zset1 ls (j : Nat) (.inr (.inr (some v))) = ls') (hp : pc + 1 = pc') (k : zPn N scr d m (pc', ls', st, h) Q) : zPn N scr d m (pc, ls, .inr (.inr (some v)) :: st, h) Q := by
  subst hp; subst hl; exact pa_go hd (Or.inr rfl) (fun _ => by simp only [zexec, zstore]; rw [if_pos ⟨trivial, hj⟩]) k
theorem pa_iinc {j : Nat} {n : Int} {x v : Int32} {ls' : zL} (hd : decode m.1 pc = .ok (.iinc j n, 3)) (hg : zget ls j = some (.inl x)) (hj : j < m.2.2.1) (hv : x + Int32.ofInt n = v) (hl : zset1 ls j (.inl v) = ls') (hp : pc + 3 = pc') (k : zPn N scr d m (pc', ls', st, h) Q) : zPn N scr d m (pc, ls, st, h) Q := by
  subst hp; subst hl; subst hv; exact pa_go hd (Or.inr rfl) (fun _ => by simp only [zexec, hg]; rw [if_pos hj]) k
theorem pa_bin {x y v : Int32} (hd : decode m.1 pc = .ok (i, 1)) (hi : zilen i = 1) (hx : ∀ (call : zM → List zV → zH → Option zR) (deep : Bool) st, zexec scr call deep m i 1 pc ls st h = zarith i 1 pc ls st h) (hz : zbin i x y = some v) (hp : pc + 1 = pc') (k : zPn N scr d m (pc', ls, .inl v :: st, h) Q) : zPn N scr d m (pc, ls, .inl y :: .inl x :: st, h) Q := by
  subst hp; exact pa_go hd (Or.inr hi.symm) (fun _ => by rw [hx]; simp only [zarith, hz]) k
theorem pa_iadd {x y v : Int32} (hd : decode m.1 pc = .ok (.iadd, 1)) (hv : x + y = v) (hp : pc + 1 = pc') (k : zPn N scr d m (pc', ls, .inl v :: st, h) Q) : zPn N scr d m (pc, ls, .inl y :: .inl x :: st, h) Q := by
  subst hv; exact pa_bin hd rfl (fun _ _ _ => rfl) rfl hp k
theorem pa_isub {x y v : Int32} (hd : decode m.1 pc = .ok (.isub, 1)) (hv : x - y = v) (hp : pc + 1 = pc') (k : zPn N scr d m (pc', ls, .inl v :: st, h) Q) : zPn N scr d m (pc, ls, .inl y :: .inl x :: st, h) Q := by
  subst hv; exact pa_bin hd rfl (fun _ _ _ => rfl) rfl hp k
theorem pa_imul {x y v : Int32} (hd : decode m.1 pc = .ok (.imul, 1)) (hv : x * y = v) (hp : pc + 1 = pc') (k : zPn N scr d m (pc', ls, .inl v :: st, h) Q) : zPn N scr d m (pc, ls, .inl y :: .inl x :: st, h) Q := by
  subst hv; exact pa_bin hd rfl (fun _ _ _ => rfl) rfl hp k
theorem pa_iand {x y v : Int32} (hd : decode m.1 pc = .ok (.iand, 1)) (hv : x &&& y = v) (hp : pc + 1 = pc') (k : zPn N scr d m (pc', ls, .inl v :: st, h) Q) : zPn N scr d m (pc, ls, .inl y :: .inl x :: st, h) Q := by
  subst hv; exact pa_bin hd rfl (fun _ _ _ => rfl) rfl hp k
theorem pa_ior {x y v : Int32} (hd : decode m.1 pc = .ok (.ior, 1)) (hv : x ||| y = v) (hp : pc + 1 = pc') (k : zPn N scr d m (pc', ls, .inl v :: st, h) Q) : zPn N scr d m (pc, ls, .inl y :: .inl x :: st, h) Q := by
  subst hv; exact pa_bin hd rfl (fun _ _ _ => rfl) rfl hp k
theorem pa_ixor {x y v : Int32} (hd : decode m.1 pc = .ok (.ixor, 1)) (hv : x ^^^ y = v) (hp : pc + 1 = pc') (k : zPn N scr d m (pc', ls, .inl v :: st, h) Q) : zPn N scr d m (pc, ls, .inl y :: .inl x :: st, h) Q := by
  subst hv; exact pa_bin hd rfl (fun _ _ _ => rfl) rfl hp k
theorem pa_ishl {x y v : Int32} (hd : decode m.1 pc = .ok (.ishl, 1)) (hv : x <<< (y &&& 31) = v) (hp : pc + 1 = pc') (k : zPn N scr d m (pc', ls, .inl v :: st, h) Q) : zPn N scr d m (pc, ls, .inl y :: .inl x :: st, h) Q := by
  subst hv; exact pa_bin hd rfl (fun _ _ _ => rfl) rfl hp k
theorem pa_ishr {x y v : Int32} (hd : decode m.1 pc = .ok (.ishr, 1)) (hv : x >>> (y &&& 31) = v) (hp : pc + 1 = pc') (k : zPn N scr d m (pc', ls, .inl v :: st, h) Q) : zPn N scr d m (pc, ls, .inl y :: .inl x :: st, h) Q := by
  subst hv; exact pa_bin hd rfl (fun _ _ _ => rfl) rfl hp k
theorem pa_iushr {x y v : Int32} (hd : decode m.1 pc = .ok (.iushr, 1)) (hv : (x.toUInt32 >>> (y.toUInt32 &&& Int32.toUInt32 31)).toInt32 = v) (hp : pc + 1 = pc') (k : zPn N scr d m (pc', ls, .inl v :: st, h) Q) : zPn N scr d m (pc, ls, .inl y :: .inl x :: st, h) Q := by
  subst hv; exact pa_bin hd rfl (fun _ _ _ => rfl) rfl hp k
theorem pa_idiv {x y v : Int32} (hd : decode m.1 pc = .ok (.idiv, 1)) (hy : ¬ y = 0) (hv : x / y = v) (hp : pc + 1 = pc') (k : zPn N scr d m (pc', ls, .inl v :: st, h) Q) : zPn N scr d m (pc, ls, .inl y :: .inl x :: st, h) Q := by
  subst hv; exact pa_bin hd rfl (fun _ _ _ => rfl) (by simp only [zbin]; rw [if_neg hy]) hp k
theorem pa_irem {x y v : Int32} (hd : decode m.1 pc = .ok (.irem, 1)) (hy : ¬ y = 0) (hv : x - x / y * y = v) (hp : pc + 1 = pc') (k : zPn N scr d m (pc', ls, .inl v :: st, h) Q) : zPn N scr d m (pc, ls, .inl y :: .inl x :: st, h) Q := by
  subst hv; exact pa_bin hd rfl (fun _ _ _ => rfl) (by simp only [zbin]; rw [if_neg hy]) hp k
theorem pa_un {x : Int32} {v : zV} (hd : decode m.1 pc = .ok (i, 1)) (hi : zilen i = 1) (hx : ∀ (call : zM → List zV → zH → Option zR) (deep : Bool) st, zexec scr call deep m i 1 pc ls st h = zarith i 1 pc ls st h) (hb : ∀ a b, zbin i a b = none) (hz : zun i x = some v) (hp : pc + 1 = pc') (k : zPn N scr d m (pc', ls, v :: st, h) Q) : zPn N scr d m (pc, ls, .inl x :: st, h) Q := by
  subst hp
  refine pa_go hd (Or.inr hi.symm) (fun _ => ?_) k
  rw [hx]
  unfold zarith
  split
  · next y x' st' e =>
    cases e
    rw [hb, hz]
  · next x' st' h0 e =>
    cases e
    rw [hz]
  · next e => cases e
  · next h1 h2 h3 => exact absurd rfl (h2 x st)
theorem pa_i2l {x : Int32} {v : Int64} (hd : decode m.1 pc = .ok (.i2l, 1)) (hv : x.toInt64 = v) (hp : pc + 1 = pc') (k : zPn N scr d m (pc', ls, .inr (.inl v) :: st, h) Q) : zPn N scr d m (pc, ls, .inl x :: st, h) Q := by
  subst hv; exact pa_un hd rfl (fun _ _ _ => rfl) (fun _ _ => rfl) rfl hp k
theorem pa_i2b {x : Int32} {v : Int32} (hd : decode m.1 pc = .ok (.i2b, 1)) (hv : x.toInt8.toInt32 = v) (hp : pc + 1 = pc') (k : zPn N scr d m (pc', ls, .inl v :: st, h) Q) : zPn N scr d m (pc, ls, .inl x :: st, h) Q := by
  subst hv; exact pa_un hd rfl (fun _ _ _ => rfl) (fun _ _ => rfl) rfl hp k
theorem pa_i2c {x : Int32} {v : Int32} (hd : decode m.1 pc = .ok (.i2c, 1)) (hv : (x.toUInt32 % 65536).toInt32 = v) (hp : pc + 1 = pc') (k : zPn N scr d m (pc', ls, .inl v :: st, h) Q) : zPn N scr d m (pc, ls, .inl x :: st, h) Q := by
  subst hv; exact pa_un hd rfl (fun _ _ _ => rfl) (fun _ _ => rfl) rfl hp k
theorem pa_lcmp {x y : Int64} {v : Int32} (hd : decode m.1 pc = .ok (.lcmp, 1)) (hv : lg_cmp x y = v) (hp : pc + 1 = pc') (k : zPn N scr d m (pc', ls, .inl v :: st, h) Q) : zPn N scr d m (pc, ls, .inr (.inl y) :: .inr (.inl x) :: st, h) Q := by
  subst hv; subst hp; exact pa_go hd (Or.inr rfl) (fun _ => rfl) k
theorem pa_lor {x y v : Int64} (hd : decode m.1 pc = .ok (.lor, 1)) (hv : x ||| y = v) (hp : pc + 1 = pc') (k : zPn N scr d m (pc', ls, .inr (.inl v) :: st, h) Q) : zPn N scr d m (pc, ls, .inr (.inl y) :: .inr (.inl x) :: st, h) Q := by
  subst hv; subst hp; exact pa_go hd (Or.inr rfl) (fun _ => rfl) k
theorem pa_lrem {x y v : Int64} (hd : decode m.1 pc = .ok (.lrem, 1)) (hy : ¬ y = 0) (hv : x - x / y * y = v) (hp : pc + 1 = pc') (k : zPn N scr d m (pc', ls, .inr (.inl v) :: st, h) Q) : zPn N scr d m (pc, ls, .inr (.inl y) :: .inr (.inl x) :: st, h) Q := by
  subst hv; subst hp; exact pa_go hd (Or.inr rfl) (fun _ => by simp only [zexec, zarith, zlbin]; rw [if_neg hy]) k
theorem pa_ldiv {x y v : Int64} (hd : decode m.1 pc = .ok (.ldiv, 1)) (hy : ¬ y = 0) (hv : x / y = v) (hp : pc + 1 = pc') (k : zPn N scr d m (pc', ls, .inr (.inl v) :: st, h) Q) : zPn N scr d m (pc, ls, .inr (.inl y) :: .inr (.inl x) :: st, h) Q := by
  subst hv; subst hp; exact pa_go hd (Or.inr rfl) (fun _ => by simp only [zexec, zarith, zlbin]; rw [if_neg hy]) k
theorem pa_lshl {x v : Int64} {y : Int32} (hd : decode m.1 pc = .ok (.lshl, 1)) (hv : x <<< (y.toInt64 &&& 63) = v) (hp : pc + 1 = pc') (k : zPn N scr d m (pc', ls, .inr (.inl v) :: st, h) Q) : zPn N scr d m (pc, ls, .inl y :: .inr (.inl x) :: st, h) Q := by
  subst hv; subst hp; exact pa_go hd (Or.inr rfl) (fun _ => rfl) k
theorem pa_goto {off : Int} (hd : decode m.1 pc = .ok (.goto off, 3)) (hp : (pc : Int) + off = (pc' : Int)) (k : zPn N scr d m (pc', ls, st, h) Q) : zPn N scr d m (pc, ls, st, h) Q :=
  pa_go hd (Or.inr rfl) (fun _ => by simp only [zexec, zjump, hp]; rfl) k
theorem pa_br {b : Bool} {off : Int} {g' : zC} (hp : (pc : Int) + off = (pc' : Int)) (hb : (b = true ∧ g' = (pc', ls, st, h)) ∨ (b = false ∧ g' = (pc + 3, ls, st, h))) : zbr b pc 3 off ls st h = some (.inl g') := by
  unfold zbr
  rw [hp, if_pos (Int.natCast_nonneg _)]
  rcases hb with ⟨rfl, rfl⟩ | ⟨rfl, rfl⟩
  · simp
  · simp
theorem pa_if {cd : ClassFile.Cond} {off : Int} {x : Int32} {pc2 : Nat} (hd : decode m.1 pc = .ok (.ifCond cd off, 3)) (hp : (pc : Int) + off = (pc' : Int)) (hp2 : pc + 3 = pc2) (kt : zcond cd x 0 = true → zPn N scr d m (pc', ls, st, h) Q) (kf : zcond cd x 0 = false → zPn N scr d m (pc2, ls, st, h) Q) : zPn N scr d m (pc, ls, .inl x :: st, h) Q := by
  subst hp2
  cases hc : zcond cd x 0 with
  | true => exact pa_go hd (Or.inr rfl) (fun _ => by simp only [zexec]; exact pa_br hp (Or.inl ⟨hc, rfl⟩)) (kt hc)
  | false => exact pa_go hd (Or.inr rfl) (fun _ => by simp only [zexec]; exact pa_br hp (Or.inr ⟨hc, rfl⟩)) (kf hc)
theorem pa_icmp {cd : ClassFile.Cond} {off : Int} {x y : Int32} {pc2 : Nat} (hd : decode m.1 pc = .ok (.if_icmp cd off, 3)) (hp : (pc : Int) + off = (pc' : Int)) (hp2 : pc + 3 = pc2) (kt : zcond cd x y = true → zPn N scr d m (pc', ls, st, h) Q) (kf : zcond cd x y = false → zPn N scr d m (pc2, ls, st, h) Q) : zPn N scr d m (pc, ls, .inl y :: .inl x :: st, h) Q := by
  subst hp2
  cases hc : zcond cd x y with
  | true => exact pa_go hd (Or.inr rfl) (fun _ => by simp only [zexec]; exact pa_br hp (Or.inl ⟨hc, rfl⟩)) (kt hc)
  | false => exact pa_go hd (Or.inr rfl) (fun _ => by simp only [zexec]; exact pa_br hp (Or.inr ⟨hc, rfl⟩)) (kf hc)
theorem pa_if_t {cd : ClassFile.Cond} {off : Int} {x : Int32} (hd : decode m.1 pc = .ok (.ifCond cd off, 3)) (hc : zcond cd x 0 = true) (hp : (pc : Int) + off = (pc' : Int)) (k : zPn N scr d m (pc', ls, st, h) Q) : zPn N scr d m (pc, ls, .inl x :: st, h) Q :=
  pa_if hd hp rfl (fun _ => k) (fun q => absurd (hc.symm.trans q) (by decide))
theorem pa_if_f {cd : ClassFile.Cond} {off : Int} {x : Int32} (hd : decode m.1 pc = .ok (.ifCond cd off, 3)) (hc : zcond cd x 0 = false) (ho : 0 ≤ (pc : Int) + off) (hp : pc + 3 = pc') (k : zPn N scr d m (pc', ls, st, h) Q) : zPn N scr d m (pc, ls, .inl x :: st, h) Q :=
  pa_if (pc' := ((pc : Int) + off).toNat) hd (Int.toNat_of_nonneg ho).symm hp (fun q => absurd (hc.symm.trans q) (by decide)) (fun _ => k)
theorem pa_icmp_t {cd : ClassFile.Cond} {off : Int} {x y : Int32} (hd : decode m.1 pc = .ok (.if_icmp cd off, 3)) (hc : zcond cd x y = true) (hp : (pc : Int) + off = (pc' : Int)) (k : zPn N scr d m (pc', ls, st, h) Q) : zPn N scr d m (pc, ls, .inl y :: .inl x :: st, h) Q :=
  pa_icmp hd hp rfl (fun _ => k) (fun q => absurd (hc.symm.trans q) (by decide))
theorem pa_icmp_f {cd : ClassFile.Cond} {off : Int} {x y : Int32} (hd : decode m.1 pc = .ok (.if_icmp cd off, 3)) (hc : zcond cd x y = false) (ho : 0 ≤ (pc : Int) + off) (hp : pc + 3 = pc') (k : zPn N scr d m (pc', ls, st, h) Q) : zPn N scr d m (pc, ls, .inl y :: .inl x :: st, h) Q :=
  pa_icmp (pc' := ((pc : Int) + off).toNat) hd (Int.toNat_of_nonneg ho).symm hp (fun q => absurd (hc.symm.trans q) (by decide)) (fun _ => k)
theorem pa_switch {df lo hi : Int} {offs : Array Int} {x : Int32} (hd : decode m.1 pc = .ok (.tableswitch df lo hi offs, len)) (hc : (x.toInt < lo ∨ hi < x.toInt) → (pc : Int) + df = (pc' : Int)) (hc2 : ¬ (x.toInt < lo ∨ hi < x.toInt) → ∃ off, offs[(x.toInt - lo).toNat]? = some off ∧ (pc : Int) + off = (pc' : Int)) (k : zPn N scr d m (pc', ls, st, h) Q) : zPn N scr d m (pc, ls, .inl x :: st, h) Q := by
  refine pa_go hd (Or.inl rfl) (fun _ => ?_) k
  simp only [zexec]
  by_cases hb : x.toInt < lo ∨ hi < x.toInt
  · rw [if_pos hb]
    simp only [zjump, hc hb]
    rfl
  · rw [if_neg hb]
    obtain ⟨off, h1, h2⟩ := hc2 hb
    rw [h1]
    simp only [zjump, h2]
    rfl
theorem pa_getI {k a ci f n : Nat} {v : Int32} (hd : decode m.1 pc = .ok (.getfield k, 3)) (hz : zfld m.2.1 k = some (ci, f)) (hs : zsh h a = some (ci, n)) (hc : (zft ci).getD f 0 ≠ 3) (hv : h.2.1 a f = v) (hp : pc + 3 = pc') (kk : zPn N scr d m (pc', ls, .inl v :: st, h) Q) : zPn N scr d m (pc, ls, .inr (.inr (some a)) :: st, h) Q := by
  subst hp; exact pa_go hd (Or.inr rfl) (fun _ => by simp only [zexec, hz, hs, zfv, if_neg hc, hv]; rfl) kk
theorem pa_getR {k a ci f n r : Nat} (hd : decode m.1 pc = .ok (.getfield k, 3)) (hz : zfld m.2.1 k = some (ci, f)) (hs : zsh h a = some (ci, n)) (hc : (zft ci).getD f 0 = 3) (hv : h.2.2.2.1 a f = some r) (hp : pc + 3 = pc') (kk : zPn N scr d m (pc', ls, .inr (.inr (some r)) :: st, h) Q) : zPn N scr d m (pc, ls, .inr (.inr (some a)) :: st, h) Q := by
  subst hp; exact pa_go hd (Or.inr rfl) (fun _ => by simp only [zexec, hz, hs, zfv, if_pos hc, hv]; rfl) kk
theorem pa_putI {k a ci f n : Nat} {v : Int32} (hd : decode m.1 pc = .ok (.putfield k, 3)) (hz : zfld m.2.1 k = some (ci, f)) (hs : zsh h a = some (ci, n)) (hfi : zfin ci f = false ∨ (m.2.2.2.2.2 = true ∧ m.2.1 = ci)) (hc : (zft ci).getD f 9 = 0 ∨ ((zft ci).getD f 9 = 1 ∧ (v = 0 ∨ v = 1))) (hp : pc + 3 = pc') (kk : zPn N scr d m (pc', ls, st, zsI h a f v) Q) : zPn N scr d m (pc, ls, .inl v :: .inr (.inr (some a)) :: st, h) Q := by
  subst hp; exact pa_go hd (Or.inr rfl) (fun _ => by simp only [zexec, hz, hs]; rw [if_pos ⟨trivial, hfi⟩]; simp only [zput]; rw [if_pos hc]) kk
theorem pa_putR {k a ci f n : Nat} {v : Option Nat} (hd : decode m.1 pc = .ok (.putfield k, 3)) (hz : zfld m.2.1 k = some (ci, f)) (hs : zsh h a = some (ci, n)) (hfi : zfin ci f = false ∨ (m.2.2.2.2.2 = true ∧ m.2.1 = ci)) (hc : (zft ci).getD f 9 = 3) (hp : pc + 3 = pc') (kk : zPn N scr d m (pc', ls, st, zsR h a f v) Q) : zPn N scr d m (pc, ls, .inr (.inr v) :: .inr (.inr (some a)) :: st, h) Q := by
  subst hp; exact pa_go hd (Or.inr rfl) (fun _ => by simp only [zexec, hz, hs]; rw [if_pos ⟨trivial, hfi⟩]; simp only [zput]; rw [if_pos hc]) kk
theorem pa_sald {n : Nat} {xs : Nat → Int32} {j v : Int32} (hd : decode m.1 pc = .ok (.iaload, 1)) (hs : zsh h 1000000 = none) (hsc : scr = some (n, xs)) (hj : zin j n = true) (hv : xs j.toNatClampNeg = v) (hp : pc + 1 = pc') (kk : zPn N scr d m (pc', ls, .inl v :: st, h) Q) : zPn N scr d m (pc, ls, .inl j :: .inr (.inr (some 1000000)) :: st, h) Q := by
  subst hp; subst hv; subst hsc; exact pa_go hd (Or.inr rfl) (fun _ => by simp only [zexec, zld, hs, hj]; rfl) kk
theorem pa_lald {a n : Nat} {j : Int32} {v : Int64} (hd : decode m.1 pc = .ok (.laload, 1)) (hs : zsh h a = some (15, n)) (hj : zin j n = true) (hv : h.2.2.1 a j.toNatClampNeg = v) (hp : pc + 1 = pc') (kk : zPn N scr d m (pc', ls, .inr (.inl v) :: st, h) Q) : zPn N scr d m (pc, ls, .inl j :: .inr (.inr (some a)) :: st, h) Q := by
  subst hp; subst hv; exact pa_go hd (Or.inr rfl) (fun _ => by simp only [zexec, hs]; rw [if_pos ⟨trivial, hj⟩]) kk
theorem pa_aald {a kd n r : Nat} {j : Int32} (hd : decode m.1 pc = .ok (.aaload, 1)) (hs : zsh h a = some (kd, n)) (hk : 16 ≤ kd ∧ kd ≤ 20) (hj : zin j n = true) (hv : h.2.2.2.1 a j.toNatClampNeg = some r) (hp : pc + 1 = pc') (kk : zPn N scr d m (pc', ls, .inr (.inr (some r)) :: st, h) Q) : zPn N scr d m (pc, ls, .inl j :: .inr (.inr (some a)) :: st, h) Q := by
  subst hp; exact pa_go hd (Or.inr rfl) (fun _ => by simp only [zexec, hs]; rw [if_pos ⟨hk.1, hk.2, hj⟩, hv]) kk
theorem pa_last {a n : Nat} {j : Int32} {v : Int64} (hd : decode m.1 pc = .ok (.lastore, 1)) (hs : zsh h a = some (15, n)) (hj : zin j n = true) (hp : pc + 1 = pc') (kk : zPn N scr d m (pc', ls, st, zsL h a j.toNatClampNeg v) Q) : zPn N scr d m (pc, ls, .inr (.inl v) :: .inl j :: .inr (.inr (some a)) :: st, h) Q := by
  subst hp; exact pa_go hd (Or.inr rfl) (fun _ => by simp only [zexec, hs]; rw [if_pos ⟨trivial, hj⟩]) kk
theorem pa_aast {a kd n v nv : Nat} {j : Int32} (hd : decode m.1 pc = .ok (.aastore, 1)) (hs : zsh h a = some (kd, n)) (hv : zsh h v = some (zrc kd, nv)) (hk : 16 ≤ kd ∧ kd ≤ 20) (hj : zin j n = true) (hp : pc + 1 = pc') (kk : zPn N scr d m (pc', ls, st, zsR h a j.toNatClampNeg (some v)) Q) : zPn N scr d m (pc, ls, .inr (.inr (some v)) :: .inl j :: .inr (.inr (some a)) :: st, h) Q := by
  subst hp; exact pa_go hd (Or.inr rfl) (fun _ => by simp only [zexec, hs, hv]; rw [if_pos ⟨hk.1, hk.2, hj, trivial⟩]) kk
theorem pa_alen {a kd n : Nat} {v : Int32} (hd : decode m.1 pc = .ok (.arraylength, 1)) (hs : zsh h a = some (kd, n)) (hk : 13 ≤ kd) (hv : Int32.ofNat n = v) (hp : pc + 1 = pc') (kk : zPn N scr d m (pc', ls, .inl v :: st, h) Q) : zPn N scr d m (pc, ls, .inr (.inr (some a)) :: st, h) Q := by
  subst hp; subst hv; exact pa_go hd (Or.inr rfl) (fun _ => by simp only [zexec, zlen, hs]; rw [if_pos hk]) kk
theorem pa_slen {n : Nat} {xs : Nat → Int32} {v : Int32} (hd : decode m.1 pc = .ok (.arraylength, 1)) (hs : zsh h 1000000 = none) (hsc : scr = some (n, xs)) (hv : Int32.ofNat n = v) (hp : pc + 1 = pc') (kk : zPn N scr d m (pc', ls, .inl v :: st, h) Q) : zPn N scr d m (pc, ls, .inr (.inr (some 1000000)) :: st, h) Q := by
  subst hp; subst hv; subst hsc; exact pa_go hd (Or.inr rfl) (fun _ => by simp only [zexec, zlen, hs]; rfl) kk
theorem pa_dup {v : zV} (hd : decode m.1 pc = .ok (.dup, 1)) (hc : zcat v = 1) (hp : pc + 1 = pc') (kk : zPn N scr d m (pc', ls, v :: v :: st, h) Q) : zPn N scr d m (pc, ls, v :: st, h) Q := by
  subst hp; exact pa_go hd (Or.inr rfl) (fun _ => by simp only [zexec]; rw [if_pos hc]) kk
theorem pa_dup2 {v w : zV} (hd : decode m.1 pc = .ok (.dup2, 1)) (hc : zcat v = 1 ∧ zcat w = 1) (hp : pc + 1 = pc') (kk : zPn N scr d m (pc', ls, v :: w :: v :: w :: st, h) Q) : zPn N scr d m (pc, ls, v :: w :: st, h) Q := by
  subst hp; exact pa_go hd (Or.inr rfl) (fun _ => by simp only [zexec]; rw [if_pos hc]) kk
theorem pa_pop {v : zV} (hd : decode m.1 pc = .ok (.pop, 1)) (hc : zcat v = 1) (hp : pc + 1 = pc') (kk : zPn N scr d m (pc', ls, st, h) Q) : zPn N scr d m (pc, ls, v :: st, h) Q := by
  subst hp; exact pa_go hd (Or.inr rfl) (fun _ => by simp only [zexec]; rw [if_pos hc]) kk
theorem pa_pop2 {v : zV} (hd : decode m.1 pc = .ok (.pop2, 1)) (hc : zcat v = 2) (hp : pc + 1 = pc') (kk : zPn N scr d m (pc', ls, st, h) Q) : zPn N scr d m (pc, ls, v :: st, h) Q := by
  subst hp; exact pa_go hd (Or.inr rfl) (fun _ => by simp only [zexec]; rw [if_pos hc]) kk
theorem pa_iret {x : Int32} {ty : FieldType} (hd : decode m.1 pc = .ok (.ireturn, 1)) (ht : m.2.2.2.1 = some ty) (hn : narrow ty (.int x) = .int x) (hq : Q (some (.inl x)) h) : zPn N scr d m (pc, ls, [.inl x], h) Q :=
  pa_end hd (Or.inr rfl) (fun _ => by simp only [zexec, ht]; rw [if_pos hn]) hq
theorem pa_lret {x : Int64} (hd : decode m.1 pc = .ok (.lreturn, 1)) (ht : m.2.2.2.1 = some .long) (hq : Q (some (.inr (.inl x))) h) : zPn N scr d m (pc, ls, [.inr (.inl x)], h) Q :=
  pa_end hd (Or.inr rfl) (fun _ => by simp only [zexec]; rw [if_pos ht]) hq
theorem pa_vret (hd : decode m.1 pc = .ok (.return_, 1)) (ht : m.2.2.2.1 = none) (hq : Q none h) : zPn N scr d m (pc, ls, [], h) Q :=
  pa_end hd (Or.inr rfl) (fun _ => by simp only [zexec]; rw [if_pos ht]) hq
theorem pa_gets (hd : decode m.1 pc = .ok (.getstatic zgsk, 3)) (ho : m.2.1 = 6) (hp : pc + 3 = pc') (kk : zPn N scr d m (pc', ls, .inr (.inr (some 1000001)) :: st, h) Q) : zPn N scr d m (pc, ls, st, h) Q := by
  subst hp; exact pa_go hd (Or.inr rfl) (fun _ => by simp only [zexec]; rw [if_pos ⟨ho, trivial⟩]) kk
theorem pa_strlen {k na a : Nat} {bs : List Int32} (hd : decode m.1 pc = .ok (.invokevirtual k, 3)) (hz : zmth m.2.1 k = some (0, na, mJ0_length_8abf5)) (hs : zsc a = some bs) (hw : zwd st ≤ 8) (hp : pc + 3 = pc') (kk : zPn N scr d m (pc', ls, .inl (nI bs.length) :: st, h) Q) : zPn N scr d m (pc, ls, .inr (.inr (some a)) :: st, h) Q := by
  subst hp
  refine pa_go hd (Or.inr rfl) (fun _ => ?_) kk
  simp only [zexec, hz]
  rw [if_pos trivial, if_pos trivial]
  simp only [zstr, hs]
  rw [if_pos ⟨trivial, hw⟩]
theorem pa_strchar {k na a : Nat} {i : Int32} {bs : List Int32} (hd : decode m.1 pc = .ok (.invokevirtual k, 3)) (hz : zmth m.2.1 k = some (0, na, mJ0_charAt_5068e)) (hs : zsc a = some bs) (hw : zwd st ≤ 8) (hi : zin i bs.length = true) (hp : pc + 3 = pc') (kk : zPn N scr d m (pc', ls, .inl (bs.getD i.toNatClampNeg 0) :: st, h) Q) : zPn N scr d m (pc, ls, .inl i :: .inr (.inr (some a)) :: st, h) Q := by
  subst hp
  refine pa_go hd (Or.inr rfl) (fun _ => ?_) kk
  simp only [zexec, hz]
  rw [if_pos trivial, if_pos trivial]
  simp only [zstr, hs]
  rw [if_pos ⟨trivial, hw, hi⟩]
theorem pa_min {k na : Nat} {cm : zM} {x y v : Int32} (hd : decode m.1 pc = .ok (.invokestatic k, 3)) (hz : zmth m.2.1 k = some (12, na, cm)) (hw : zwd st ≤ 8) (hv : (if y < x then y else x) = v) (hp : pc + 3 = pc') (kk : zPn N scr (d + 1) m (pc', ls, .inl v :: st, h) Q) : zPn N scr (d + 1) m (pc, ls, .inl y :: .inl x :: st, h) Q := by
  subst hp; subst hv
  refine pa_go hd (Or.inr rfl) (fun _ => ?_) kk
  simp only [zexec, hz]
  rw [if_neg (by decide), if_neg (by decide), if_neg (by decide)]
  have e : decide (0 < d + 1) = true := by simp
  rw [e]
  unfold zprim
  rw [if_pos rfl, if_neg (by decide), if_neg (by decide), if_pos rfl]
  simp only
  rw [if_pos hw]
end ZPA
/-! tokens of a text: what both readers read -/
def scan (c : Nat → Bool) : Nat → Nat → Nat
  | 0, p => p
  | f + 1, p => if c p then scan c f (p + 1) else p
theorem scan_no {c : Nat → Bool} {f p : Nat} (h : c p = false) : scan c f p = p := by
  cases f with
  | zero => rfl
  | succ f => unfold scan; rw [if_neg (by rw [h]; decide)]
theorem scan_st {c : Nat → Bool} {n p : Nat} (h : c p = true) (hp : p < n) : scan c (n - p) p = scan c (n - (p + 1)) (p + 1) := by
  obtain ⟨f, e⟩ : ∃ f, n - p = f + 1 := ⟨n - p - 1, by omega⟩
  have e2 : n - (p + 1) = f := by omega
  rw [e, e2]
  show (if c p then scan c f (p + 1) else p) = _
  rw [if_pos h]
theorem scan_sp {c : Nat → Bool} {n : Nat} (hc : ∀ k, c k = true → k < n) : ∀ (f p : Nat), n = p + f → p ≤ scan c f p ∧ scan c f p ≤ n ∧ (∀ j, p ≤ j → j < scan c f p → c j = true) ∧ c (scan c f p) = false := by
  intro f
  induction f with
  | zero =>
    intro p h
    refine ⟨Nat.le_refl _, by show p ≤ n; omega, fun j h1 h2 => absurd h2 (Nat.not_lt.mpr h1), ?_⟩
    show c p = false
    cases e : c p with
    | false => rfl
    | true => have := hc p e; omega
  | succ f ih =>
    intro p h
    cases e : c p with
    | false =>
      rw [scan_no e]
      exact ⟨Nat.le_refl _, by omega, fun j h1 h2 => absurd h2 (Nat.not_lt.mpr h1), e⟩
    | true =>
      have q : scan c (f + 1) p = scan c f (p + 1) := by
        show (if c p then scan c f (p + 1) else p) = _
        rw [if_pos e]
      rw [q]
      obtain ⟨a, b, g, z⟩ := ih (p + 1) (by omega)
      refine ⟨by omega, b, fun j h1 h2 => ?_, z⟩
      rcases Nat.lt_or_ge p j with w | w
      · exact g j (by omega) h2
      · have : j = p := by omega
        subst this
        exact e
def cSp (y : Nat → Int32) (n k : Nat) : Bool := decide (k < n) && decide (y k = 32)
def cIn (lo hi : Int32) (y : Nat → Int32) (n k : Nat) : Bool := decide (k < n) && (decide (lo ≤ y k) && decide (y k ≤ hi))
/-- where the token at p begins; where it ends; its sort: 0 none left, 1 none, 2 a word, 3 a number, 59 -/
def tS (y : Nat → Int32) (n p : Nat) : Nat := scan (cSp y n) (n - p) p
def tE0 (y : Nat → Int32) (n s : Nat) : Nat := if n ≤ s then s else if y s = 59 then s + 1 else if cIn 97 122 y n s then scan (cIn 97 122 y n) (n - s) s else if cIn 48 57 y n s then scan (cIn 48 57 y n) (n - s) s else s + 1
def tT0 (y : Nat → Int32) (n s : Nat) : Int32 := if n ≤ s then 0 else if y s = 59 then 59 else if cIn 97 122 y n s then (if scan (cIn 97 122 y n) (n - s) s - s ≤ 8 then 2 else 1) else if cIn 48 57 y n s then (if scan (cIn 48 57 y n) (n - s) s - s ≤ 4 then 3 else 1) else 1
def tE (y : Nat → Int32) (n p : Nat) : Nat := tE0 y n (tS y n p)
def tT (y : Nat → Int32) (n p : Nat) : Int32 := tT0 y n (tS y n p)
theorem cSp_lt {y : Nat → Int32} {n k : Nat} (h : cSp y n k = true) : k < n := by
  unfold cSp at h
  simp only [Bool.and_eq_true, decide_eq_true_eq] at h
  exact h.1
theorem cIn_lt {lo hi : Int32} {y : Nat → Int32} {n k : Nat} (h : cIn lo hi y n k = true) : k < n := by
  unfold cIn at h
  simp only [Bool.and_eq_true, decide_eq_true_eq] at h
  exact h.1
theorem tS_sp {y : Nat → Int32} {n p : Nat} (hp : p ≤ n) : p ≤ tS y n p ∧ tS y n p ≤ n ∧ cSp y n (tS y n p) = false := by
  obtain ⟨a, b, c, d⟩ := scan_sp (c := cSp y n) (n := n) (fun k h => cSp_lt h) (n - p) p (by omega)
  exact ⟨a, b, d⟩
theorem run_sp {lo hi : Int32} {y : Nat → Int32} {n s : Nat} (hs : s ≤ n) : s ≤ scan (cIn lo hi y n) (n - s) s ∧ scan (cIn lo hi y n) (n - s) s ≤ n ∧ (∀ j, s ≤ j → j < scan (cIn lo hi y n) (n - s) s → cIn lo hi y n j = true) ∧ cIn lo hi y n (scan (cIn lo hi y n) (n - s) s) = false :=
  scan_sp (c := cIn lo hi y n) (n := n) (fun k h => cIn_lt h) (n - s) s (by omega)
theorem run_gt {lo hi : Int32} {y : Nat → Int32} {n s : Nat} (h : cIn lo hi y n s = true) : s < scan (cIn lo hi y n) (n - s) s := by
  have hs := cIn_lt h
  rw [scan_st h hs]
  have := (run_sp (lo := lo) (hi := hi) (y := y) (n := n) (s := s + 1) (by omega)).1
  omega
theorem tE_sp {y : Nat → Int32} {n p : Nat} (hp : p ≤ n) : tS y n p ≤ tE y n p ∧ tE y n p ≤ n ∧ (tT y n p ≠ 0 → tS y n p < tE y n p) := by
  obtain ⟨a, b, c⟩ := tS_sp (y := y) hp
  unfold tE tT tE0 tT0
  generalize tS y n p = s at a b c ⊢
  split
  · exact ⟨Nat.le_refl _, b, fun z => absurd rfl z⟩
  · split
    · exact ⟨by omega, by omega, fun _ => by omega⟩
    · split
      · next q => have := run_gt q; have := (run_sp (lo := 97) (hi := 122) (y := y) b).2.1; exact ⟨by omega, by omega, fun _ => by omega⟩
      · split
        · next q => have := run_gt q; have := (run_sp (lo := 48) (hi := 57) (y := y) b).2.1; exact ⟨by omega, by omega, fun _ => by omega⟩
        · exact ⟨by omega, by omega, fun _ => by omega⟩
/-! writes that meet -/
theorem zH_xt {h h' : zH} (e1 : h'.1 = h.1) (e2 : ∀ a k, h'.2.1 a k = h.2.1 a k) (e3 : h'.2.2 = h.2.2) : h' = h := by
  obtain ⟨a, b, c⟩ := h
  obtain ⟨a', b', c'⟩ := h'
  have f1 : a' = a := e1
  have f3 : c' = c := e3
  have f2 : b' = b := funext (fun x => funext (fun k => e2 x k))
  rw [f1, f2, f3]
theorem zsI_self {h : zH} {a k : Nat} {v : Int32} (e : h.2.1 a k = v) : zsI h a k v = h := by
  refine zH_xt rfl (fun b j => ?_) rfl
  rw [zsI_at]
  split
  · next q => rw [q.1, q.2, e]
  · rfl
theorem zsI_two {h : zH} {a k : Nat} {v w : Int32} : zsI (zsI h a k v) a k w = zsI h a k w := by
  refine zH_xt rfl (fun b j => ?_) rfl
  rw [zsI_at, zsI_at, zsI_at]
  split
  · rfl
  · rfl
theorem zsI_eq {h : zH} {a k : Nat} {v : Int32} : (zsI h a k v).2.1 a k = v := by rw [zsI_at, if_pos ⟨rfl, rfl⟩]
theorem zsI_cm {h : zH} {a k b j : Nat} {v w : Int32} (hn : ¬ (a = b ∧ k = j)) : zsI (zsI h a k v) b j w = zsI (zsI h b j w) a k v := by
  refine zH_xt rfl (fun x i => ?_) rfl
  rw [zsI_at, zsI_at, zsI_at, zsI_at]
  by_cases c1 : x = b ∧ i = j
  · by_cases c2 : x = a ∧ i = k
    · exact absurd ⟨c2.1.symm.trans c1.1, c2.2.symm.trans c1.2⟩ hn
    · rw [if_pos c1, if_neg c2, if_pos c1]
  · rw [if_neg c1, if_neg c1]
theorem nI_sub {a b : Nat} (h : b ≤ a) : nI a - nI b = nI (a - b) := by
  have e := nI_add (a - b) b
  rw [Nat.sub_add_cancel h] at e
  rw [← e]
  exact Int32.add_sub_cancel _ _
/-! the reader of the class: tokens -/
def rx (y : Nat → Int32) (n c : Nat) (h : zH) : Prop := h.1 = hh_487.1 ∧ (∀ a k b, wd.2.2.1 a k = some b → h.2.2.2.1 a k = some b) ∧ h.2.2.2.1 82 6 = some c ∧ h.2.1 1 = y ∧ h.2.1 82 1 = nI n ∧ n ≤ 1000
theorem sh_0 : zsh hh_487 0 = some (11, 16) := by decide +kernel
theorem sh_1 : zsh hh_487 1 = some (13, 1000) := by decide +kernel
theorem sh_82 : zsh hh_487 82 = some (5, 13) := by decide +kernel
theorem sh_83 : zsh hh_487 83 = some (15, 20) := by decide +kernel
theorem sh_84 : zsh hh_487 84 = some (14, 20) := by decide +kernel
theorem sh_85 : zsh hh_487 85 = some (14, 20) := by decide +kernel
theorem rf_82_0 : wd.2.2.1 82 0 = some 1 := by decide +kernel
theorem rf_82_7 : wd.2.2.1 82 7 = some 83 := by decide +kernel
theorem rf_82_8 : wd.2.2.1 82 8 = some 84 := by decide +kernel
theorem rf_82_9 : wd.2.2.1 82 9 = some 85 := by decide +kernel
section RDT
variable {y : Nat → Int32} {n c d N : Nat} {h : zH} {Q : Option zV → zH → Prop}
theorem rx.sh (hx : rx y n c h) {a : Nat} {q : Option (Nat × Nat)} (e : zsh hh_487 a = q) : zsh h a = q := by
  unfold zsh
  rw [hx.1]
  exact e
theorem rx.zs {k : Nat} {v : Int32} (hx : rx y n c h) (hk : k ≠ 1) : rx y n c (zsI h 82 k v) := by
  obtain ⟨a, b, c1, e, f, g⟩ := hx
  refine ⟨a, b, c1, ?_, ?_, g⟩
  · funext j
    rw [zsI_no (by omega)]
    rw [e]
  · rw [zsI_no (fun z => hk z.2.symm)]
    exact f
theorem byte_at {j : Int32} {p : Nat} (hj : j = nI p) (hp : p ≤ 1000) (e : h.2.1 1 = y) : h.2.1 1 j.toNatClampNeg = y p := by
  rw [hj, nI_clamp (by omega), e]
theorem c_skip {ls : zL} (hl0 : zget ls 0 = some (.inr (.inr (some 82)))) : ∀ (N p : Nat) (h : zH), rx y n c h → h.2.1 82 2 = nI p → p ≤ n → (∀ N', N' ≤ N → zPn N' none d mX5_nextToken (38, ls, [], zsI h 82 2 (nI (tS y n p))) Q) → zPn N none d mX5_nextToken (0, ls, [], h) Q := by
  intro N
  induction N with
  | zero => intro p h _ _ _ _; exact zPn.zero
  | succ N ih =>
    intro p h hx hat hp K
    have s82 := hx.sh sh_82
    have s1 := hx.sh sh_1
    have r82_0 := hx.2.1 _ _ _ rf_82_0
    have hn := hx.2.2.2.2.2
    refine pa_aload_n (pc' := 1) dX5_nextToken_0 hl0 rfl ?_
    refine pa_getI (pc' := 4) (n := 13) dX5_nextToken_1 fl_5_15 s82 (by decide) hat rfl ?_
    refine pa_aload_n (pc' := 5) dX5_nextToken_4 hl0 rfl ?_
    refine pa_getI (pc' := 8) (n := 13) dX5_nextToken_5 fl_5_9 s82 (by decide) hx.2.2.2.2.1 rfl ?_
    refine pa_icmp (pc' := 38) (pc2 := 11) dX5_nextToken_8 (by decide) rfl (fun cd => ?_) (fun cd => ?_)
    · have cd := zi_nlt (zk_ge_lt cd)
      rw [nI_toInt (by omega), nI_toInt (by omega)] at cd
      have e : tS y n p = p := scan_no (by unfold cSp; rw [decide_eq_false (by omega)]; rfl)
      have := K (N + 1) (Nat.le_refl _)
      rw [e, zsI_self hat] at this
      exact this
    · have cd := zi_lt (zk_ge_lt cd)
      rw [nI_toInt (by omega), nI_toInt (by omega)] at cd
      refine pa_aload_n (pc' := 12) dX5_nextToken_11 hl0 rfl ?_
      refine pa_getR (pc' := 15) (n := 13) (r := 1) dX5_nextToken_12 fl_5_47 s82 (by decide) r82_0 rfl ?_
      refine pa_aload_n (pc' := 16) dX5_nextToken_15 hl0 rfl ?_
      refine pa_getI (pc' := 19) (n := 13) dX5_nextToken_16 fl_5_15 s82 (by decide) hat rfl ?_
      refine pa_bald (pc' := 20) (n := 1000) dX5_nextToken_19 s1 rfl (fun _ => ?_)
      rw [byte_at rfl (by omega) hx.2.2.2.1]
      refine pa_bipush (v := 32) (pc' := 22) dX5_nextToken_20 (by decide) rfl ?_
      refine pa_icmp (pc' := 38) (pc2 := 25) dX5_nextToken_22 (by decide) rfl (fun cd2 => ?_) (fun cd2 => ?_)
      · have cd2 : ¬ y p = 32 := by simpa [zcond] using cd2
        have e : tS y n p = p := scan_no (by unfold cSp; rw [decide_eq_false cd2]; simp)
        have := K (N + 1) (Nat.le_refl _)
        rw [e, zsI_self hat] at this
        exact this
      · have cd2 : y p = 32 := by simpa [zcond] using cd2
        refine pa_aload_n (pc' := 26) dX5_nextToken_25 hl0 rfl ?_
        refine pa_dup (pc' := 27) dX5_nextToken_26 rfl rfl ?_
        refine pa_getI (pc' := 30) (n := 13) dX5_nextToken_27 fl_5_15 s82 (by decide) hat rfl ?_
        refine pa_iconst (v := nI 1) (pc' := 31) dX5_nextToken_30 (by decide) rfl ?_
        refine pa_iadd (pc' := 32) (v := nI (p + 1)) dX5_nextToken_31 (nI_add _ _) rfl ?_
        refine pa_putI (pc' := 35) (n := 13) dX5_nextToken_32 fl_5_15 s82 (Or.inl rfl) (Or.inl rfl) rfl ?_
        refine pa_gotos (pc' := 0) dX5_nextToken_35 (by decide) ?_
        refine ih (p + 1) _ (hx.zs (by decide)) zsI_eq (by omega) (fun N' hN => ?_)
        rw [zsI_two]
        have e : tS y n p = tS y n (p + 1) := scan_st (c := cSp y n) (by unfold cSp; rw [decide_eq_true (by omega), decide_eq_true cd2]; rfl) (by omega)
        rw [← e]
        exact K N' (by omega)
/-- passAll: on over all between two letters -/
theorem c_passN {lo hi : Int32} {s : Nat} {ls : zL} (hl0 : zget ls 0 = some (.inr (.inr (some 82)))) (hl1 : zget ls 1 = some (.inl lo)) (hl2 : zget ls 2 = some (.inl hi)) : ∀ (N p : Nat) (h : zH), rx y n c h → h.2.1 82 2 = nI p → h.2.1 82 4 = nI s → s ≤ p → p ≤ n → zPn N none d mX5_passAll (0, ls, [], h) (fun v h' => h' = zsI h 82 2 (nI (scan (cIn lo hi y n) (n - p) p)) ∧ v = some (.inl (if s < scan (cIn lo hi y n) (n - p) p then 1 else 0))) := by
  intro N
  induction N with
  | zero => intro p h _ _ _ _ _; exact zPn.zero
  | succ N ih =>
    intro p h hx hat hst hsp hp
    have s82 := hx.sh sh_82
    have s1 := hx.sh sh_1
    have r82_0 := hx.2.1 _ _ _ rf_82_0
    have hn := hx.2.2.2.2.2
    have fin : cIn lo hi y n p = false → zPn (N + 1) none d mX5_passAll (50, ls, [], h) (fun v h' => h' = zsI h 82 2 (nI (scan (cIn lo hi y n) (n - p) p)) ∧ v = some (.inl (if s < scan (cIn lo hi y n) (n - p) p then 1 else 0))) := by
      intro e
      rw [scan_no e, zsI_self hat]
      refine pa_aload_n (pc' := 51) dX5_passAll_50 hl0 rfl ?_
      refine pa_getI (pc' := 54) (n := 13) dX5_passAll_51 fl_5_15 s82 (by decide) hat rfl ?_
      refine pa_aload_n (pc' := 55) dX5_passAll_54 hl0 rfl ?_
      refine pa_getI (pc' := 58) (n := 13) dX5_passAll_55 fl_5_21 s82 (by decide) hst rfl ?_
      refine pa_icmp (pc' := 65) (pc2 := 61) dX5_passAll_58 (by decide) rfl (fun cd => ?_) (fun cd => ?_)
      · have cd := zi_ngt (zk_le_gt cd)
        rw [nI_toInt (by omega), nI_toInt (by omega)] at cd
        refine pa_iconst (v := 0) (pc' := 66) dX5_passAll_65 (by decide) rfl ?_
        refine pa_iret dX5_passAll_66 rfl rfl ⟨rfl, ?_⟩
        rw [if_neg (by omega)]
      · have cd := zi_gt (zk_le_gt cd)
        rw [nI_toInt (by omega), nI_toInt (by omega)] at cd
        refine pa_iconst (v := 1) (pc' := 62) dX5_passAll_61 (by decide) rfl ?_
        refine pa_goto (pc' := 66) dX5_passAll_62 (by decide) ?_
        refine pa_iret dX5_passAll_66 rfl rfl ⟨rfl, ?_⟩
        rw [if_pos (by omega)]
    refine pa_aload_n (pc' := 1) dX5_passAll_0 hl0 rfl ?_
    refine pa_getI (pc' := 4) (n := 13) dX5_passAll_1 fl_5_15 s82 (by decide) hat rfl ?_
    refine pa_aload_n (pc' := 5) dX5_passAll_4 hl0 rfl ?_
    refine pa_getI (pc' := 8) (n := 13) dX5_passAll_5 fl_5_9 s82 (by decide) hx.2.2.2.2.1 rfl ?_
    refine pa_icmp (pc' := 50) (pc2 := 11) dX5_passAll_8 (by decide) rfl (fun cd => ?_) (fun cd => ?_)
    · have cd := zi_nlt (zk_ge_lt cd)
      rw [nI_toInt (by omega), nI_toInt (by omega)] at cd
      exact fin (by unfold cIn; rw [decide_eq_false (by omega)]; rfl)
    · have cd := zi_lt (zk_ge_lt cd)
      rw [nI_toInt (by omega), nI_toInt (by omega)] at cd
      refine pa_aload_n (pc' := 12) dX5_passAll_11 hl0 rfl ?_
      refine pa_getR (pc' := 15) (n := 13) (r := 1) dX5_passAll_12 fl_5_47 s82 (by decide) r82_0 rfl ?_
      refine pa_aload_n (pc' := 16) dX5_passAll_15 hl0 rfl ?_
      refine pa_getI (pc' := 19) (n := 13) dX5_passAll_16 fl_5_15 s82 (by decide) hat rfl ?_
      refine pa_bald (pc' := 20) (n := 1000) dX5_passAll_19 s1 rfl (fun _ => ?_)
      rw [byte_at rfl (by omega) hx.2.2.2.1]
      refine pa_iload_n (pc' := 21) dX5_passAll_20 hl1 rfl ?_
      refine pa_icmp (pc' := 50) (pc2 := 24) dX5_passAll_21 (by decide) rfl (fun cd2 => ?_) (fun cd2 => ?_)
      · have cd2 : y p < lo := by simpa [zcond] using cd2
        exact fin (by unfold cIn; rw [decide_eq_false (show ¬ lo ≤ y p by rw [Int32.le_iff_toInt_le]; rw [Int32.lt_iff_toInt_lt] at cd2; omega)]; simp)
      · have cd2 : ¬ y p < lo := by simpa [zcond] using cd2
        refine pa_aload_n (pc' := 25) dX5_passAll_24 hl0 rfl ?_
        refine pa_getR (pc' := 28) (n := 13) (r := 1) dX5_passAll_25 fl_5_47 s82 (by decide) r82_0 rfl ?_
        refine pa_aload_n (pc' := 29) dX5_passAll_28 hl0 rfl ?_
        refine pa_getI (pc' := 32) (n := 13) dX5_passAll_29 fl_5_15 s82 (by decide) hat rfl ?_
        refine pa_bald (pc' := 33) (n := 1000) dX5_passAll_32 s1 rfl (fun _ => ?_)
        rw [byte_at rfl (by omega) hx.2.2.2.1]
        refine pa_iload_n (pc' := 34) dX5_passAll_33 hl2 rfl ?_
        refine pa_icmp (pc' := 50) (pc2 := 37) dX5_passAll_34 (by decide) rfl (fun cd3 => ?_) (fun cd3 => ?_)
        · have cd3 : hi < y p := by simpa [zcond] using cd3
          exact fin (by unfold cIn; rw [decide_eq_false (show ¬ y p ≤ hi by rw [Int32.le_iff_toInt_le]; rw [Int32.lt_iff_toInt_lt] at cd3; omega)]; simp)
        · have cd3 : ¬ hi < y p := by simpa [zcond] using cd3
          refine pa_aload_n (pc' := 38) dX5_passAll_37 hl0 rfl ?_
          refine pa_dup (pc' := 39) dX5_passAll_38 rfl rfl ?_
          refine pa_getI (pc' := 42) (n := 13) dX5_passAll_39 fl_5_15 s82 (by decide) hat rfl ?_
          refine pa_iconst (v := nI 1) (pc' := 43) dX5_passAll_42 (by decide) rfl ?_
          refine pa_iadd (pc' := 44) (v := nI (p + 1)) dX5_passAll_43 (nI_add _ _) rfl ?_
          refine pa_putI (pc' := 47) (n := 13) dX5_passAll_44 fl_5_15 s82 (Or.inl rfl) (Or.inl rfl) rfl ?_
          refine pa_gotos (pc' := 0) dX5_passAll_47 (by decide) ?_
          have e : scan (cIn lo hi y n) (n - p) p = scan (cIn lo hi y n) (n - (p + 1)) (p + 1) := scan_st (c := cIn lo hi y n) (by
            unfold cIn
            rw [decide_eq_true (show p < n by omega), decide_eq_true (show lo ≤ y p by rw [Int32.le_iff_toInt_le]; rw [Int32.lt_iff_toInt_lt] at cd2; omega), decide_eq_true (show y p ≤ hi by rw [Int32.le_iff_toInt_le]; rw [Int32.lt_iff_toInt_lt] at cd3; omega)]
            rfl) (by omega)
          refine (ih (p + 1) _ (hx.zs (by decide)) zsI_eq (by rw [zsI_no (by omega)]; exact hst) (by omega) (by omega)).mono (fun v h' hq => ?_)
          rw [zsI_two, ← e] at hq
          exact hq
theorem c_pass {lo hi : Int32} {s p : Nat} (hx : rx y n c h) (hat : h.2.1 82 2 = nI p) (hst : h.2.1 82 4 = nI s) (hsp : s ≤ p) (hp : p ≤ n) : zPa d mX5_passAll [.inr (.inr (some 82)), .inl lo, .inl hi] h (fun v h' => h' = zsI h 82 2 (nI (scan (cIn lo hi y n) (n - p) p)) ∧ v = some (.inl (if s < scan (cIn lo hi y n) (n - p) p then 1 else 0))) :=
  fun N => c_passN rfl rfl rfl N p h hx hat hst hsp hp
end RDT
/-! the reader of the class: one token, words, numbers, names -/
def cT (t : Int32) : Int32 := if t = 0 then 0 else if t = 2 then 1 else if t = 3 then 2 else if t = 59 then 3 else 4
def tk (h : zH) (e s : Nat) (t : Int32) : zH := zsI (zsI (zsI h 82 2 (nI e)) 82 4 (nI s)) 82 3 t
def nx (y : Nat → Int32) (n p : Nat) (h h' : zH) : Prop := ∃ e, h' = tk h e (tS y n p) (cT (tT y n p)) ∧ (tT y n p ≠ 1 → e = tE y n p)
def flt (k : Int32) (s : Nat) (h h' : zH) : Prop := h' = zsI (zsI h 82 11 k) 82 12 (nI s)
def ct (y : Nat → Int32) (n c p : Nat) (h : zH) : Prop := rx y n c h ∧ p ≤ n ∧ h.2.1 82 4 = nI (tS y n p) ∧ h.2.1 82 3 = cT (tT y n p) ∧ (tT y n p ≠ 1 → h.2.1 82 2 = nI (tE y n p))
def wIs (y : Nat → Int32) (n p : Nat) (bs : List Int32) : Prop := tT y n p = 2 ∧ tE y n p - tS y n p = bs.length ∧ ∀ k, k < bs.length → y (tS y n p + k) = bs.getD k 0
def numF (y : Nat → Int32) : Nat → Nat → Int32 → Int32
  | 0, _, v => v
  | k + 1, s, v => numF y k (s + 1) (v * 10 + (y s - 48))
def tNum (y : Nat → Int32) (n p : Nat) : Int32 := numF y (tE y n p - tS y n p) (tS y n p) 0
def letF (y : Nat → Int32) : Nat → Nat → Int64 → Int64
  | 0, _, v => v
  | k + 1, s, v => letF y k (s + 1) (v <<< ((5 : Int32).toInt64 &&& 63) ||| (y s - 97 + 1).toInt64)
def tLet (y : Nat → Int32) (n p : Nat) : Int64 := letF y (tE y n p - tS y n p) (tS y n p) 0
section RDU
variable {y : Nat → Int32} {n c d N p : Nat} {h h' : zH} {Q : Option zV → zH → Prop}
theorem nx.ct (hx : rx y n c h) (hp : p ≤ n) (k : nx y n p h h') : ct y n c p h' := by
  obtain ⟨e, e1, e2⟩ := k
  subst e1
  refine ⟨((hx.zs (by decide)).zs (by decide)).zs (by decide), hp, ?_, zsI_eq, fun z => ?_⟩
  · show (zsI (zsI (zsI h 82 2 _) 82 4 _) 82 3 _).2.1 82 4 = _
    rw [zsI_no (by omega), zsI_eq]
  · show (zsI (zsI (zsI h 82 2 _) 82 4 _) 82 3 _).2.1 82 2 = _
    rw [zsI_no (by omega), zsI_no (by omega), zsI_eq, e2 z]
theorem nx.at {a k : Nat} (q : nx y n p h h') (hk : ¬ (a = 82 ∧ 2 ≤ k ∧ k ≤ 4)) : h'.2.1 a k = h.2.1 a k := by
  obtain ⟨e, e1, -⟩ := q
  subst e1
  show (zsI (zsI (zsI h 82 2 _) 82 4 _) 82 3 _).2.1 a k = _
  rw [zsI_no (by omega), zsI_no (by omega), zsI_no (by omega)]
theorem nx.rest (q : nx y n p h h') : h'.1 = h.1 ∧ h'.2.2 = h.2.2 := by
  obtain ⟨e, e1, -⟩ := q
  subst e1
  exact ⟨rfl, rfl⟩
theorem c_next (hx : rx y n c h) (hat : h.2.1 82 2 = nI p) (hp : p ≤ n) : zPa d mX5_nextToken [.inr (.inr (some 82))] h (fun v h' => v = none ∧ nx y n p h h') := by
  intro N
  show zPn N none d mX5_nextToken (0, [(0, .inr (.inr (some 82)))], [], h) _
  refine c_skip rfl N p h hx hat hp (fun N _ => ?_)
  obtain ⟨t1, t2, t3⟩ := tS_sp (y := y) hp
  have hn := hx.2.2.2.2.2
  have s82 := hx.sh sh_82
  have s1 := hx.sh sh_1
  have r82_0 := hx.2.1 _ _ _ rf_82_0
  obtain ⟨s, es⟩ : ∃ s, s = tS y n p := ⟨_, rfl⟩
  have eT : tT y n p = tT0 y n s := by rw [es]; rfl
  have eE : tE y n p = tE0 y n s := by rw [es]; rfl
  rw [← es] at t1 t2 t3 ⊢
  have fin : ∀ (e : Nat) (tt : Int32) (g : zH), g = zsI (zsI h 82 2 (nI e)) 82 4 (nI s) → tt = cT (tT0 y n s) → (tT0 y n s ≠ 1 → e = tE0 y n s) → nx y n p h (zsI g 82 3 tt) := by
    intro e tt g eg et ee
    refine ⟨e, ?_, fun z => ?_⟩
    · rw [eg, et, ← es, eT]
      rfl
    · rw [eT] at z
      rw [eE]
      exact ee z
  have h2e : zsI (zsI h 82 2 (nI s)) 82 4 (nI s) = zsI (zsI h 82 2 (nI s)) 82 4 (nI s) := rfl
  have hx1 : rx y n c (zsI h 82 2 (nI s)) := hx.zs (by decide)
  have hx2 : rx y n c (zsI (zsI h 82 2 (nI s)) 82 4 (nI s)) := hx1.zs (by decide)
  have a1 : (zsI h 82 2 (nI s)).2.1 82 2 = nI s := zsI_eq
  refine pa_aload_n (pc' := 39) dX5_nextToken_38 rfl rfl ?_
  refine pa_aload_n (pc' := 40) dX5_nextToken_39 rfl rfl ?_
  refine pa_getI (pc' := 43) (n := 13) dX5_nextToken_40 fl_5_15 s82 (by decide) a1 rfl ?_
  refine pa_putI (pc' := 46) (n := 13) dX5_nextToken_43 fl_5_21 s82 (Or.inl rfl) (Or.inl rfl) rfl ?_
  have a2 : (zsI (zsI h 82 2 (nI s)) 82 4 (nI s)).2.1 82 2 = nI s := by rw [zsI_no (by omega)]; exact a1
  have a4 : (zsI (zsI h 82 2 (nI s)) 82 4 (nI s)).2.1 82 4 = nI s := zsI_eq
  have en := hx2.2.2.2.2.1
  have ey := hx2.2.2.2.1
  generalize hg : zsI (zsI h 82 2 (nI s)) 82 4 (nI s) = g at a2 a4 en ey hx2 ⊢
  have s82 := hx2.sh sh_82
  have s1 := hx2.sh sh_1
  have r82_0 := hx2.2.1 _ _ _ rf_82_0
  refine pa_aload_n (pc' := 47) dX5_nextToken_46 rfl rfl ?_
  refine pa_getI (pc' := 50) (n := 13) dX5_nextToken_47 fl_5_15 s82 (by decide) a2 rfl ?_
  refine pa_aload_n (pc' := 51) dX5_nextToken_50 rfl rfl ?_
  refine pa_getI (pc' := 54) (n := 13) dX5_nextToken_51 fl_5_9 s82 (by decide) en rfl ?_
  refine pa_icmp (pc' := 65) (pc2 := 57) dX5_nextToken_54 (by decide) rfl (fun cd => ?_) (fun cd => ?_)
  · have cd := zi_lt cd
    rw [nI_toInt (by omega), nI_toInt (by omega)] at cd
    refine pa_aload_n (pc' := 66) dX5_nextToken_65 rfl rfl ?_
    refine pa_getR (pc' := 69) (n := 13) (r := 1) dX5_nextToken_66 fl_5_47 s82 (by decide) r82_0 rfl ?_
    refine pa_aload_n (pc' := 70) dX5_nextToken_69 rfl rfl ?_
    refine pa_getI (pc' := 73) (n := 13) dX5_nextToken_70 fl_5_15 s82 (by decide) a2 rfl ?_
    refine pa_bald (pc' := 74) (n := 1000) dX5_nextToken_73 s1 rfl (fun _ => ?_)
    rw [byte_at rfl (by omega) ey]
    refine pa_bipush (v := 59) (pc' := 76) dX5_nextToken_74 (by decide) rfl ?_
    refine pa_icmp (pc' := 97) (pc2 := 79) dX5_nextToken_76 (by decide) rfl (fun cd2 => ?_) (fun cd2 => ?_)
    · have cd2 : ¬ y s = 59 := by simpa [zcond] using cd2
      refine pa_aload_n (pc' := 98) dX5_nextToken_97 rfl rfl ?_
      refine pa_bipush (v := 97) (pc' := 100) dX5_nextToken_98 (by decide) rfl ?_
      refine pa_bipush (v := 122) (pc' := 102) dX5_nextToken_100 (by decide) rfl ?_
      refine pa_callv (pc' := 105) (vs := [.inl 97, .inl 122]) (rest := []) dX5_nextToken_102 ml_5_278 (by decide) rfl rfl rfl (fun d' _ => c_pass hx2 a2 a4 (Nat.le_refl _) (by omega)) (fun r g1 hq => ?_)
      obtain ⟨eg, er⟩ := hq
      subst er
      obtain ⟨u1, u2, u3, u4⟩ := run_sp (lo := 97) (hi := 122) (y := y) t2
      obtain ⟨e, ee⟩ : ∃ e, e = scan (cIn 97 122 y n) (n - s) s := ⟨_, rfl⟩
      rw [← ee] at eg u1 u2 u3 u4 ⊢
      have eg2 : g1 = zsI (zsI h 82 2 (nI e)) 82 4 (nI s) := by rw [eg, ← hg, zsI_cm (by omega), zsI_two]
      have b2 : g1.2.1 82 2 = nI e := by rw [eg]; exact zsI_eq
      have b4 : g1.2.1 82 4 = nI s := by rw [eg, zsI_no (by omega)]; exact a4
      have hx3 : rx y n c g1 := by rw [eg]; exact hx2.zs (by decide)
      have s82 := hx3.sh sh_82
      by_cases cw : cIn 97 122 y n s = true
      · have hgt : s < e := by rw [ee]; exact run_gt cw
        rw [if_pos hgt]
        refine pa_if_f (pc' := 108) dX5_nextToken_105 (by decide) (by decide) rfl ?_
        refine pa_aload_n (pc' := 109) dX5_nextToken_108 rfl rfl ?_
        refine pa_aload_n (pc' := 110) dX5_nextToken_109 rfl rfl ?_
        refine pa_getI (pc' := 113) (n := 13) dX5_nextToken_110 fl_5_15 s82 (by decide) b2 rfl ?_
        refine pa_aload_n (pc' := 114) dX5_nextToken_113 rfl rfl ?_
        refine pa_getI (pc' := 117) (n := 13) dX5_nextToken_114 fl_5_21 s82 (by decide) b4 rfl ?_
        refine pa_isub (pc' := 118) (v := nI (e - s)) dX5_nextToken_117 (nI_sub (Nat.le_of_lt hgt)) rfl ?_
        refine pa_bipush (v := nI 8) (pc' := 120) dX5_nextToken_118 (by decide) rfl ?_
        refine pa_icmp (pc' := 127) (pc2 := 123) dX5_nextToken_120 (by decide) rfl (fun cd3 => ?_) (fun cd3 => ?_)
        · have cd3 := zi_gt cd3
          rw [nI_toInt (by omega), nI_toInt (by omega)] at cd3
          have et : tT0 y n s = 1 := by unfold tT0; rw [if_neg (by omega), if_neg cd2, if_pos cw, ← ee, if_neg (by omega)]
          refine pa_iconst (v := 4) (pc' := 128) dX5_nextToken_127 (by decide) rfl ?_
          refine pa_putI (pc' := 131) (n := 13) dX5_nextToken_128 fl_5_18 s82 (Or.inl rfl) (Or.inl rfl) rfl ?_
          refine pa_goto (pc' := 175) dX5_nextToken_131 (by decide) ?_
          refine pa_vret dX5_nextToken_175 rfl ⟨rfl, fin e _ _ eg2 (by rw [et]; decide) (fun z => absurd et z)⟩
        · have cd3 := zi_ngt cd3
          rw [nI_toInt (by omega), nI_toInt (by omega)] at cd3
          have et : tT0 y n s = 2 := by unfold tT0; rw [if_neg (by omega), if_neg cd2, if_pos cw, ← ee, if_pos (by omega)]
          refine pa_iconst (v := 1) (pc' := 124) dX5_nextToken_123 (by decide) rfl ?_
          refine pa_goto (pc' := 128) dX5_nextToken_124 (by decide) ?_
          refine pa_putI (pc' := 131) (n := 13) dX5_nextToken_128 fl_5_18 s82 (Or.inl rfl) (Or.inl rfl) rfl ?_
          refine pa_goto (pc' := 175) dX5_nextToken_131 (by decide) ?_
          refine pa_vret dX5_nextToken_175 rfl ⟨rfl, fin e _ _ eg2 (by rw [et]; decide) (fun _ => by unfold tE0; rw [if_neg (by omega), if_neg cd2, if_pos cw, ee])⟩
      · have ees : e = s := by rw [ee]; exact scan_no (by simpa using cw)
        rw [if_neg (by omega)]
        refine pa_if_t (pc' := 134) dX5_nextToken_105 (by decide) (by decide) ?_
        refine pa_aload_n (pc' := 135) dX5_nextToken_134 rfl rfl ?_
        refine pa_bipush (v := 48) (pc' := 137) dX5_nextToken_135 (by decide) rfl ?_
        refine pa_bipush (v := 57) (pc' := 139) dX5_nextToken_137 (by decide) rfl ?_
        refine pa_callv (pc' := 142) (vs := [.inl 48, .inl 57]) (rest := []) dX5_nextToken_139 ml_5_278 (by decide) rfl rfl rfl (fun d' _ => c_pass hx3 (by rw [b2, ees]) b4 (Nat.le_refl _) (by omega)) (fun r g2 hq => ?_)
        obtain ⟨eg3, er⟩ := hq
        subst er
        obtain ⟨u1, u2, u3, u4⟩ := run_sp (lo := 48) (hi := 57) (y := y) t2
        obtain ⟨q, eq⟩ : ∃ q, q = scan (cIn 48 57 y n) (n - s) s := ⟨_, rfl⟩
        rw [← eq] at eg3 u1 u2 u3 u4 ⊢
        have eg4 : g2 = zsI (zsI h 82 2 (nI q)) 82 4 (nI s) := by rw [eg3, eg2, zsI_cm (by omega), zsI_two]
        have b2 : g2.2.1 82 2 = nI q := by rw [eg3]; exact zsI_eq
        have b4 : g2.2.1 82 4 = nI s := by rw [eg3, zsI_no (by omega)]; exact b4
        have hx4 : rx y n c g2 := by rw [eg3]; exact hx3.zs (by decide)
        have s82 := hx4.sh sh_82
        by_cases cq : cIn 48 57 y n s = true
        · have hgt : s < q := by rw [eq]; exact run_gt cq
          rw [if_pos hgt]
          refine pa_if_f (pc' := 145) dX5_nextToken_142 (by decide) (by decide) rfl ?_
          refine pa_aload_n (pc' := 146) dX5_nextToken_145 rfl rfl ?_
          refine pa_aload_n (pc' := 147) dX5_nextToken_146 rfl rfl ?_
          refine pa_getI (pc' := 150) (n := 13) dX5_nextToken_147 fl_5_15 s82 (by decide) b2 rfl ?_
          refine pa_aload_n (pc' := 151) dX5_nextToken_150 rfl rfl ?_
          refine pa_getI (pc' := 154) (n := 13) dX5_nextToken_151 fl_5_21 s82 (by decide) b4 rfl ?_
          refine pa_isub (pc' := 155) (v := nI (q - s)) dX5_nextToken_154 (nI_sub (Nat.le_of_lt hgt)) rfl ?_
          refine pa_iconst (v := nI 4) (pc' := 156) dX5_nextToken_155 (by decide) rfl ?_
          refine pa_icmp (pc' := 163) (pc2 := 159) dX5_nextToken_156 (by decide) rfl (fun cd3 => ?_) (fun cd3 => ?_)
          · have cd3 := zi_gt cd3
            rw [nI_toInt (by omega), nI_toInt (by omega)] at cd3
            have et : tT0 y n s = 1 := by unfold tT0; rw [if_neg (by omega), if_neg cd2, if_neg cw, if_pos cq, ← eq, if_neg (by omega)]
            refine pa_iconst (v := 4) (pc' := 164) dX5_nextToken_163 (by decide) rfl ?_
            refine pa_putI (pc' := 167) (n := 13) dX5_nextToken_164 fl_5_18 s82 (Or.inl rfl) (Or.inl rfl) rfl ?_
            refine pa_goto (pc' := 175) dX5_nextToken_167 (by decide) ?_
            refine pa_vret dX5_nextToken_175 rfl ⟨rfl, fin q _ _ eg4 (by rw [et]; decide) (fun z => absurd et z)⟩
          · have cd3 := zi_ngt cd3
            rw [nI_toInt (by omega), nI_toInt (by omega)] at cd3
            have et : tT0 y n s = 3 := by unfold tT0; rw [if_neg (by omega), if_neg cd2, if_neg cw, if_pos cq, ← eq, if_pos (by omega)]
            refine pa_iconst (v := 2) (pc' := 160) dX5_nextToken_159 (by decide) rfl ?_
            refine pa_goto (pc' := 164) dX5_nextToken_160 (by decide) ?_
            refine pa_putI (pc' := 167) (n := 13) dX5_nextToken_164 fl_5_18 s82 (Or.inl rfl) (Or.inl rfl) rfl ?_
            refine pa_goto (pc' := 175) dX5_nextToken_167 (by decide) ?_
            refine pa_vret dX5_nextToken_175 rfl ⟨rfl, fin q _ _ eg4 (by rw [et]; decide) (fun _ => by unfold tE0; rw [if_neg (by omega), if_neg cd2, if_neg cw, if_pos cq, eq])⟩
        · have eqs : q = s := by rw [eq]; exact scan_no (by simpa using cq)
          rw [if_neg (by omega)]
          refine pa_if_t (pc' := 170) dX5_nextToken_142 (by decide) (by decide) ?_
          have et : tT0 y n s = 1 := by unfold tT0; rw [if_neg (by omega), if_neg cd2, if_neg cw, if_neg cq]
          refine pa_aload_n (pc' := 171) dX5_nextToken_170 rfl rfl ?_
          refine pa_iconst (v := 4) (pc' := 172) dX5_nextToken_171 (by decide) rfl ?_
          refine pa_putI (pc' := 175) (n := 13) dX5_nextToken_172 fl_5_18 s82 (Or.inl rfl) (Or.inl rfl) rfl ?_
          refine pa_vret dX5_nextToken_175 rfl ⟨rfl, fin q _ _ eg4 (by rw [et]; decide) (fun z => absurd et z)⟩
    · have cd2 : y s = 59 := by simpa [zcond] using cd2
      refine pa_aload_n (pc' := 80) dX5_nextToken_79 rfl rfl ?_
      refine pa_dup (pc' := 81) dX5_nextToken_80 rfl rfl ?_
      refine pa_getI (pc' := 84) (n := 13) dX5_nextToken_81 fl_5_15 s82 (by decide) a2 rfl ?_
      refine pa_iconst (v := nI 1) (pc' := 85) dX5_nextToken_84 (by decide) rfl ?_
      refine pa_iadd (pc' := 86) (v := nI (s + 1)) dX5_nextToken_85 (nI_add _ _) rfl ?_
      have et : tT0 y n s = 59 := by unfold tT0; rw [if_neg (by omega), if_pos cd2]
      refine pa_putI (pc' := 89) (n := 13) dX5_nextToken_86 fl_5_15 s82 (Or.inl rfl) (Or.inl rfl) rfl ?_
      refine pa_aload_n (pc' := 90) dX5_nextToken_89 rfl rfl ?_
      refine pa_iconst (v := 3) (pc' := 91) dX5_nextToken_90 (by decide) rfl ?_
      refine pa_putI (pc' := 94) (n := 13) dX5_nextToken_91 fl_5_18 s82 (Or.inl rfl) (Or.inl rfl) rfl ?_
      refine pa_goto (pc' := 175) dX5_nextToken_94 (by decide) ?_
      refine pa_vret dX5_nextToken_175 rfl ⟨rfl, fin (s + 1) _ _ (by rw [← hg, zsI_cm (by omega), zsI_two]) (by rw [et]; decide) (fun _ => by unfold tE0; rw [if_neg (by omega), if_pos cd2])⟩
  · have cd := zi_nlt cd
    rw [nI_toInt (by omega), nI_toInt (by omega)] at cd
    have et : tT0 y n s = 0 := by unfold tT0; rw [if_pos (by omega)]
    refine pa_aload_n (pc' := 58) dX5_nextToken_57 rfl rfl ?_
    refine pa_iconst (v := 0) (pc' := 59) dX5_nextToken_58 (by decide) rfl ?_
    refine pa_putI (pc' := 62) (n := 13) dX5_nextToken_59 fl_5_18 s82 (Or.inl rfl) (Or.inl rfl) rfl ?_
    refine pa_goto (pc' := 175) dX5_nextToken_62 (by decide) ?_
    refine pa_vret dX5_nextToken_175 rfl ⟨rfl, fin s _ _ hg.symm (by rw [et]; decide) (fun _ => by unfold tE0; rw [if_pos (by omega)])⟩
end RDU
section RDV
variable {y : Nat → Int32} {n c d N p : Nat} {h h' : zH} {Q : Option zV → zH → Prop}
theorem ct.tt (k : ct y n c p h) {t : Int32} (ht : t = 0 ∨ t = 2 ∨ t = 3 ∨ t = 59) : (cT (tT y n p) = cT t) ↔ tT y n p = t := by
  refine ⟨fun e => ?_, fun e => by rw [e]⟩
  have h1 : tT y n p = 0 ∨ tT y n p = 2 ∨ tT y n p = 3 ∨ tT y n p = 59 ∨ tT y n p = 1 := by
    unfold tT tT0
    split
    · exact .inl rfl
    · split
      · exact .inr (.inr (.inr (.inl rfl)))
      · split
        · split
          · exact .inr (.inl rfl)
          · exact .inr (.inr (.inr (.inr rfl)))
        · split
          · split
            · exact .inr (.inr (.inl rfl))
            · exact .inr (.inr (.inr (.inr rfl)))
          · exact .inr (.inr (.inr (.inr rfl)))
  rcases h1 with q | q | q | q | q <;> rw [q] at e ⊢ <;> rcases ht with rfl | rfl | rfl | rfl <;> first | rfl | exact absurd e (by decide)
theorem c_flt {k : Int32} {s : Nat} (hx : rx y n c h) (hs : h.2.1 82 4 = nI s) : zPa d mX5_faulty [.inr (.inr (some 82)), .inl k] h (fun v h' => v = some (.inl 0) ∧ flt k s h h') := by
  intro N
  have s82 := hx.sh sh_82
  show zPn N none d mX5_faulty (0, [(0, .inr (.inr (some 82))), (1, .inl k)], [], h) _
  refine pa_aload_n (pc' := 1) dX5_faulty_0 rfl rfl ?_
  refine pa_iload_n (pc' := 2) dX5_faulty_1 rfl rfl ?_
  refine pa_putI (pc' := 5) (n := 13) dX5_faulty_2 fl_5_41 s82 (Or.inl rfl) (Or.inl rfl) rfl ?_
  refine pa_aload_n (pc' := 6) dX5_faulty_5 rfl rfl ?_
  refine pa_aload_n (pc' := 7) dX5_faulty_6 rfl rfl ?_
  refine pa_getI (pc' := 10) (n := 13) (v := nI s) dX5_faulty_7 fl_5_21 s82 (by decide) (by rw [zsI_no (by omega)]; exact hs) rfl ?_
  refine pa_putI (pc' := 13) (n := 13) dX5_faulty_10 fl_5_44 s82 (Or.inl rfl) (Or.inl rfl) rfl ?_
  refine pa_iconst (v := 0) (pc' := 14) dX5_faulty_13 (by decide) rfl ?_
  exact pa_iret dX5_faulty_14 rfl rfl ⟨rfl, rfl⟩
theorem c_isT {a : Nat} {bs : List Int32} (k : ct y n c p h) (hz : zsc a = some bs) : zPa d mX5_isToken [.inr (.inr (some 82)), .inr (.inr (some a))] h (fun v h' => h' = h ∧ ((v = some (.inl 1) ∧ wIs y n p bs) ∨ (v = some (.inl 0) ∧ ¬ wIs y n p bs))) := by
  obtain ⟨hx, hp, hs, ht, he⟩ := k
  have k : ct y n c p h := ⟨hx, hp, hs, ht, he⟩
  have s82 := hx.sh sh_82
  have s1 := hx.sh sh_1
  have r82_0 := hx.2.1 _ _ _ rf_82_0
  have hn := hx.2.2.2.2.2
  obtain ⟨t1, t2, t3⟩ := tS_sp (y := y) hp
  obtain ⟨u1, u2, u3⟩ := tE_sp (y := y) hp
  obtain ⟨-, hl, -⟩ := zsc_get hz
  intro N
  show zPn N none d mX5_isToken (0, [(0, .inr (.inr (some 82))), (1, .inr (.inr (some a)))], [], h) _
  refine pa_aload_n (pc' := 1) dX5_isToken_0 rfl rfl ?_
  refine pa_getI (pc' := 4) (n := 13) dX5_isToken_1 fl_5_18 s82 (by decide) ht rfl ?_
  refine pa_iconst (v := 1) (pc' := 5) dX5_isToken_4 (by decide) rfl ?_
  refine pa_icmp (pc' := 24) (pc2 := 8) dX5_isToken_5 (by decide) rfl (fun cd => ?_) (fun cd => ?_)
  · have cd : ¬ cT (tT y n p) = 1 := by simpa [zcond] using cd
    refine pa_iconst (v := 0) (pc' := 25) dX5_isToken_24 (by decide) rfl ?_
    refine pa_iret dX5_isToken_25 rfl rfl ⟨rfl, .inr ⟨rfl, fun w => cd ((k.tt (t := 2) (by decide)).mpr w.1)⟩⟩
  · have cd : cT (tT y n p) = 1 := by simpa [zcond] using cd
    have e2 : tT y n p = 2 := (k.tt (t := 2) (by decide)).mp cd
    have he := he (by rw [e2]; decide)
    refine pa_aload_n (pc' := 9) dX5_isToken_8 rfl rfl ?_
    refine pa_getI (pc' := 12) (n := 13) dX5_isToken_9 fl_5_15 s82 (by decide) he rfl ?_
    refine pa_aload_n (pc' := 13) dX5_isToken_12 rfl rfl ?_
    refine pa_getI (pc' := 16) (n := 13) dX5_isToken_13 fl_5_21 s82 (by decide) hs rfl ?_
    refine pa_isub (pc' := 17) (v := nI (tE y n p - tS y n p)) dX5_isToken_16 (nI_sub u1) rfl ?_
    refine pa_aload_n (pc' := 18) dX5_isToken_17 rfl rfl ?_
    refine pa_strlen (pc' := 21) dX5_isToken_18 ml_5_269 hz (zble rfl) rfl ?_
    refine pa_icmp (pc' := 26) (pc2 := 24) dX5_isToken_21 (by decide) rfl (fun cd2 => ?_) (fun cd2 => ?_)
    · have cd2 : nI (tE y n p - tS y n p) = nI bs.length := by simpa [zcond] using cd2
      have cd2 : tE y n p - tS y n p = bs.length := by
        have := congrArg Int32.toInt cd2
        rw [nI_toInt (by omega), nI_toInt (by omega)] at this
        omega
      have loop : ∀ (N j : Nat) (ls : zL), zget ls 0 = some (.inr (.inr (some 82))) → zget ls 1 = some (.inr (.inr (some a))) → zget ls 2 = some (.inl (nI j)) → j ≤ bs.length → (∀ k, k < j → y (tS y n p + k) = bs.getD k 0) → zPn N none d mX5_isToken (28, ls, [], h) (fun v h' => h' = h ∧ ((v = some (.inl 1) ∧ wIs y n p bs) ∨ (v = some (.inl 0) ∧ ¬ wIs y n p bs))) := by
        intro N
        induction N with
        | zero => intro j ls _ _ _ _ _; exact zPn.zero
        | succ N ih =>
          intro j ls hl0 hl1 hl2 hj hall
          refine pa_iload_n (pc' := 29) dX5_isToken_28 hl2 rfl ?_
          refine pa_aload_n (pc' := 30) dX5_isToken_29 hl1 rfl ?_
          refine pa_strlen (pc' := 33) dX5_isToken_30 ml_5_269 hz (zble rfl) rfl ?_
          refine pa_icmp (pc' := 63) (pc2 := 36) dX5_isToken_33 (by decide) rfl (fun cd3 => ?_) (fun cd3 => ?_)
          · have cd3 := zi_nlt (zk_ge_lt cd3)
            rw [nI_toInt (by omega), nI_toInt (by omega)] at cd3
            refine pa_iconst (v := 1) (pc' := 64) dX5_isToken_63 (by decide) rfl ?_
            refine pa_iret dX5_isToken_64 rfl rfl ⟨rfl, .inl ⟨rfl, e2, cd2, fun k hk => hall k (by omega)⟩⟩
          · have cd3 := zi_lt (zk_ge_lt cd3)
            rw [nI_toInt (by omega), nI_toInt (by omega)] at cd3
            refine pa_aload_n (pc' := 37) dX5_isToken_36 hl0 rfl ?_
            refine pa_getR (pc' := 40) (n := 13) (r := 1) dX5_isToken_37 fl_5_47 s82 (by decide) r82_0 rfl ?_
            refine pa_aload_n (pc' := 41) dX5_isToken_40 hl0 rfl ?_
            refine pa_getI (pc' := 44) (n := 13) dX5_isToken_41 fl_5_21 s82 (by decide) hs rfl ?_
            refine pa_iload_n (pc' := 45) dX5_isToken_44 hl2 rfl ?_
            refine pa_iadd (pc' := 46) (v := nI (tS y n p + j)) dX5_isToken_45 (nI_add _ _) rfl ?_
            refine pa_bald (pc' := 47) (n := 1000) dX5_isToken_46 s1 rfl (fun _ => ?_)
            rw [byte_at rfl (by omega) hx.2.2.2.1]
            refine pa_aload_n (pc' := 48) dX5_isToken_47 hl1 rfl ?_
            refine pa_iload_n (pc' := 49) dX5_isToken_48 hl2 rfl ?_
            refine pa_strchar (pc' := 52) dX5_isToken_49 ml_5_274 hz (zble rfl) (zn_in (by omega) (by omega)) rfl ?_
            rw [nI_clamp (by omega)]
            refine pa_icmp (pc' := 57) (pc2 := 55) dX5_isToken_52 (by decide) rfl (fun cd4 => ?_) (fun cd4 => ?_)
            · have cd4 : y (tS y n p + j) = bs.getD j 0 := by simpa [zcond] using cd4
              refine pa_iinc (pc' := 60) (v := nI (j + 1)) dX5_isToken_57 hl2 (by decide) (nI_add j 1) rfl rfl ?_
              refine pa_gotos (pc' := 28) dX5_isToken_60 (by decide) ?_
              refine ih (j + 1) _ (zget_s1 hl0 (by decide) (by simp [zcat])) (zget_s1 hl1 (by decide) (by simp [zcat])) zget_s1e (by omega) (fun k hk => ?_)
              rcases Nat.lt_or_ge k j with w | w
              · exact hall k w
              · have : k = j := by omega
                subst this
                exact cd4
            · have cd4 : ¬ y (tS y n p + j) = bs.getD j 0 := by simpa [zcond] using cd4
              refine pa_iconst (v := 0) (pc' := 56) dX5_isToken_55 (by decide) rfl ?_
              refine pa_iret dX5_isToken_56 rfl rfl ⟨rfl, .inr ⟨rfl, fun w => cd4 (w.2.2 j (by omega))⟩⟩
      refine pa_iconst (v := nI 0) (pc' := 27) dX5_isToken_26 (by decide) rfl ?_
      refine pa_istore_n (pc' := 28) dX5_isToken_27 (by decide) rfl rfl ?_
      exact loop N 0 _ rfl rfl rfl (Nat.zero_le _) (fun k hk => absurd hk (Nat.not_lt_zero k))
    · have cd2 : ¬ nI (tE y n p - tS y n p) = nI bs.length := by simpa [zcond] using cd2
      refine pa_iconst (v := 0) (pc' := 25) dX5_isToken_24 (by decide) rfl ?_
      refine pa_iret dX5_isToken_25 rfl rfl ⟨rfl, .inr ⟨rfl, fun w => cd2 (by rw [w.2.1])⟩⟩
/-- a word that must come -/
def wdQ (y : Nat → Int32) (n p : Nat) (bs : List Int32) (h : zH) (v : Option zV) (h' : zH) : Prop := (v = some (.inl 1) ∧ wIs y n p bs ∧ nx y n p h h') ∨ (v = some (.inl 0) ∧ ¬ wIs y n p bs ∧ ∃ h1, nx y n p h h1 ∧ flt 1 (tS y n p) h1 h')
theorem c_word {a : Nat} {bs : List Int32} (hx : rx y n c h) (hat : h.2.1 82 2 = nI p) (hp : p ≤ n) (hz : zsc a = some bs) : zPa d mX5_word [.inr (.inr (some 82)), .inr (.inr (some a))] h (wdQ y n p bs h) := by
  intro N
  show zPn N none d mX5_word (0, [(0, .inr (.inr (some 82))), (1, .inr (.inr (some a)))], [], h) _
  refine pa_aload_n (pc' := 1) dX5_word_0 rfl rfl ?_
  refine pa_callv (pc' := 4) (vs := []) (rest := []) dX5_word_1 ml_5_70 (by decide) rfl rfl rfl (fun d' _ => c_next hx hat hp) (fun r h1 hq => ?_)
  obtain ⟨er, hq⟩ := hq
  subst er
  have k := hq.ct hx hp
  show zPn N none d mX5_word (4, [(0, .inr (.inr (some 82))), (1, .inr (.inr (some a)))], [], h1) _
  refine pa_aload_n (pc' := 5) dX5_word_4 rfl rfl ?_
  refine pa_aload_n (pc' := 6) dX5_word_5 rfl rfl ?_
  refine pa_callv (pc' := 9) (vs := [.inr (.inr (some a))]) (rest := []) dX5_word_6 ml_5_245 (by decide) rfl rfl rfl (fun d' _ => c_isT k hz) (fun r h2 hq2 => ?_)
  obtain ⟨eh, hq2⟩ := hq2
  subst eh
  rcases hq2 with ⟨e, w⟩ | ⟨e, w⟩
  · subst e
    refine pa_if_t (pc' := 20) (x := 1) dX5_word_9 (by decide) (by decide) ?_
    refine pa_iconst (v := 1) (pc' := 21) dX5_word_20 (by decide) rfl ?_
    refine pa_goto (pc' := 25) dX5_word_21 (by decide) ?_
    exact pa_iret dX5_word_25 rfl rfl (.inl ⟨rfl, w, hq⟩)
  · subst e
    refine pa_if_f (pc' := 12) (x := 0) dX5_word_9 (by decide) (by decide) rfl ?_
    refine pa_aload_n (pc' := 13) dX5_word_12 rfl rfl ?_
    refine pa_iconst (v := 1) (pc' := 14) dX5_word_13 (by decide) rfl ?_
    refine pa_callv (pc' := 17) (vs := [.inl 1]) (rest := []) dX5_word_14 ml_5_76 (by decide) rfl rfl rfl (fun d' _ => c_flt k.1 k.2.2.1) (fun r h3 hq3 => ?_)
    obtain ⟨er, hq3⟩ := hq3
    subst er
    refine pa_if_t (pc' := 24) (x := 0) dX5_word_17 (by decide) (by decide) ?_
    refine pa_iconst (v := 0) (pc' := 25) dX5_word_24 (by decide) rfl ?_
    exact pa_iret dX5_word_25 rfl rfl (.inr ⟨rfl, w, h2, hq, hq3⟩)
end RDV
