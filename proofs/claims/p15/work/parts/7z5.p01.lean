section Pk0
/-! the partial judgement: whatever a run of at most N steps ends with, it is Q -/
def zPn (N : Nat) (scr : Option (Nat × (Nat → Int32))) (d : Nat) (m : zM) (g : zC) (Q : Option zV → zH → Prop) : Prop := ∀ n, n ≤ N → ∀ v h', zrun n scr d m g = some (v, h') → Q v h'
def zPa (d : Nat) (m : zM) (vs : List zV) (h : zH) (Q : Option zV → zH → Prop) : Prop := ∀ N, zPn N none d m (0, zargs 0 vs, [], h) Q
theorem zPa.and {d : Nat} {m : zM} {vs : List zV} {h : zH} {Q Q' : Option zV → zH → Prop} (a : zCt d m vs h Q) (b : zPa d m vs h Q') : zCt d m vs h (fun v h' => Q v h' ∧ Q' v h') := by
  obtain ⟨n, v, h', e, q⟩ := a
  exact ⟨n, v, h', e, q, b n n (Nat.le_refl _) v h' e⟩
theorem zPa.two {d : Nat} {m : zM} {vs : List zV} {h : zH} {Q Q' : Option zV → zH → Prop} (a : zPa d m vs h Q) (b : zPa d m vs h Q') : zPa d m vs h (fun v h' => Q v h' ∧ Q' v h') :=
  fun N n hn v h' e => ⟨a N n hn v h' e, b N n hn v h' e⟩
theorem zPa.of {d : Nat} {m : zM} {vs : List zV} {h : zH} {Q : Option zV → zH → Prop} (a : zCt d m vs h Q) : zPa d m vs h Q := by
  intro N n _ v h' e
  obtain ⟨n1, v1, h1, e1, q⟩ := a
  have e2 := zrun_le (Nat.le_max_left n n1) e
  have e3 := zrun_le (Nat.le_max_right n n1) e1
  cases e2.symm.trans e3
  exact q
theorem zPn.mono {N : Nat} {scr : Option (Nat × (Nat → Int32))} {d : Nat} {m : zM} {g : zC} {Q Q' : Option zV → zH → Prop} (k : zPn N scr d m g Q) (hq : ∀ v h', Q v h' → Q' v h') : zPn N scr d m g Q' := fun n hn v h' e => hq v h' (k n hn v h' e)
theorem zPa.mono {d : Nat} {m : zM} {vs : List zV} {h : zH} {Q Q' : Option zV → zH → Prop} (k : zPa d m vs h Q) (hq : ∀ v h', Q v h' → Q' v h') : zPa d m vs h Q' := fun N => (k N).mono hq
theorem zPn.zero {scr : Option (Nat × (Nat → Int32))} {d : Nat} {m : zM} {g : zC} {Q : Option zV → zH → Prop} : zPn 0 scr d m g Q := by
  intro n hn v h' e
  have : n = 0 := by omega
  subst this
  cases e
section ZPA
variable {N : Nat} {scr : Option (Nat × (Nat → Int32))} {d : Nat} {m : zM} {pc pc' len : Nat} {ls : zL} {st : List zV} {h : zH} {Q : Option zV → zH → Prop} {i : Instr}
theorem pa_stp {g : zC} (hs : ∀ n g', zstep scr (zcf n d) (decide (0 < d)) m g = some (.inl g') → zPn N scr d m g' Q) (he : ∀ n r, zstep scr (zcf n d) (decide (0 < d)) m g = some (.inr r) → Q r.1 r.2) : zPn (N + 1) scr d m g Q := by
  intro n hn v h' e
  cases n with
  | zero => cases e
  | succ n =>
    rw [zrun_succ] at e
    split at e
    · next g' q => exact hs n g' q n (by omega) v h' e
    · next r q => cases e; exact he n _ q
    · cases e
theorem zPn.dn {N' : Nat} {g : zC} (k : zPn N scr d m g Q) (hn : N' ≤ N) : zPn N' scr d m g Q := fun n h1 v h' e => k n (Nat.le_trans h1 hn) v h' e
theorem pa_gos {g' : zC} (hd : decode m.1 pc = .ok (i, len)) (hl : zilen i = 0 ∨ len = zilen i) (hx : ∀ call, zexec scr call (decide (0 < d)) m i len pc ls st h = some (.inl g')) (k : zPn N scr d m g' Q) : zPn (N + 1) scr d m (pc, ls, st, h) Q := by
  have hs : ∀ n, zstep scr (zcf n d) (decide (0 < d)) m (pc, ls, st, h) = some (.inl g') := by
    intro n
    unfold zstep
    rw [hd]
    dsimp only
    rw [if_pos hl]
    exact hx _
  refine pa_stp (fun n g q => ?_) (fun n r q => ?_)
  · rw [hs n] at q
    cases q
    exact k
  · rw [hs n] at q
    cases q
theorem pa_go {g' : zC} (hd : decode m.1 pc = .ok (i, len)) (hl : zilen i = 0 ∨ len = zilen i) (hx : ∀ call, zexec scr call (decide (0 < d)) m i len pc ls st h = some (.inl g')) (k : zPn N scr d m g' Q) : zPn N scr d m (pc, ls, st, h) Q :=
  (pa_gos hd hl hx k).dn (Nat.le_succ N)
/-- a step that may fail -/
theorem pa_may {g' : zC} {C : Prop} (hd : decode m.1 pc = .ok (i, len)) (hl : zilen i = 0 ∨ len = zilen i) (hx : ∀ call x, zexec scr call (decide (0 < d)) m i len pc ls st h = some x → C ∧ x = .inl g') (k : C → zPn N scr d m g' Q) : zPn N scr d m (pc, ls, st, h) Q := by
  have hs : ∀ n x, zstep scr (zcf n d) (decide (0 < d)) m (pc, ls, st, h) = some x → C ∧ x = .inl g' := by
    intro n x q
    unfold zstep at q
    rw [hd] at q
    dsimp only at q
    rw [if_pos hl] at q
    exact hx _ _ q
  refine (pa_stp (N := N) (fun n g q => ?_) (fun n r q => ?_)).dn (Nat.le_succ N)
  · obtain ⟨c, e⟩ := hs n _ q
    cases e
    exact k c
  · obtain ⟨c, e⟩ := hs n _ q
    cases e
theorem pa_end {v : Option zV} {h' : zH} (hd : decode m.1 pc = .ok (i, len)) (hl : zilen i = 0 ∨ len = zilen i) (hx : ∀ call, zexec scr call (decide (0 < d)) m i len pc ls st h = some (.inr (v, h'))) (hq : Q v h') : zPn N scr d m (pc, ls, st, h) Q := by
  have hs : ∀ n, zstep scr (zcf n d) (decide (0 < d)) m (pc, ls, st, h) = some (.inr (v, h')) := by
    intro n
    unfold zstep
    rw [hd]
    dsimp only
    rw [if_pos hl]
    exact hx _
  refine (pa_stp (N := N) (fun n g q => ?_) (fun n r q => ?_)).dn (Nat.le_succ N)
  · rw [hs n] at q
    cases q
  · rw [hs n] at q
    cases q
    exact hq
theorem pa_call {cm : zM} {vs rest : List zV} {Qc : Option zV → zH → Prop} (hd : decode m.1 pc = .ok (i, len)) (hl : zilen i = 0 ∨ len = zilen i) (hx : ∀ call x, zexec scr call (decide (0 < d)) m i len pc ls st h = some x → ∃ r h', call cm vs h = some (r, h') ∧ x = .inl (pc', ls, r.toList ++ rest, h')) (hc : ∀ d', d = d' + 1 → zPa d' cm vs h Qc) (k : ∀ r h', Qc r h' → zPn N scr d m (pc', ls, r.toList ++ rest, h') Q) : zPn N scr d m (pc, ls, st, h) Q := by
  have hs : ∀ n x, zstep scr (zcf n d) (decide (0 < d)) m (pc, ls, st, h) = some x → ∃ r h', Qc r h' ∧ x = .inl (pc', ls, r.toList ++ rest, h') := by
    intro n x q
    unfold zstep at q
    rw [hd] at q
    dsimp only at q
    rw [if_pos hl] at q
    obtain ⟨r, h', e1, e2⟩ := hx _ _ q
    refine ⟨r, h', ?_, e2⟩
    unfold zcf at e1
    split at e1
    · cases e1
    · next d' =>
      split at e1
      · exact hc d' rfl n n (Nat.le_refl _) r h' e1
      · cases e1
  refine (pa_stp (N := N) (fun n g q => ?_) (fun n r q => ?_)).dn (Nat.le_succ N)
  · obtain ⟨r, h', q1, e⟩ := hs n _ q
    cases e
    exact k r h' q1
  · obtain ⟨r, h', q1, e⟩ := hs n _ q
    cases e
theorem pa_callv {k na a : Nat} {cm : zM} {vs rest : List zV} {Qc : Option zV → zH → Prop} (hd : decode m.1 pc = .ok (.invokevirtual k, 3)) (hz : zmth m.2.1 k = some (0, na, cm)) (hci : cm.2.1 < 13) (hv : (st.take na).reverse = .inr (.inr (some a)) :: vs) (hr : st.drop na = rest) (hp : pc + 3 = pc')
    (hc : ∀ d', d = d' + 1 → zPa d' cm (.inr (.inr (some a)) :: vs) h Qc) (kk : ∀ r h', Qc r h' → zPn N scr d m (pc', ls, r.toList ++ rest, h') Q) : zPn N scr d m (pc, ls, st, h) Q := by
  subst hp; subst hr
  refine pa_call hd (Or.inr rfl) (fun call x hq => ?_) hc kk
  simp only [zexec, hz] at hq
  rw [if_pos trivial, if_neg (by omega)] at hq
  unfold zcall at hq
  split at hq
  · rw [if_neg (by decide), hv] at hq
    dsimp only at hq
    split at hq
    · split at hq
      · split at hq
        · next r h' e => cases hq; exact ⟨r, h', e, rfl⟩
        · cases hq
      · cases hq
    · cases hq
  · cases hq
theorem pa_calls {k kd na : Nat} {cm : zM} {vs rest : List zV} {Qc : Option zV → zH → Prop} (hd : decode m.1 pc = .ok (.invokestatic k, 3)) (hz : zmth m.2.1 k = some (kd, na, cm)) (hkd : kd = 1 ∨ kd = 3) (hv : (st.take na).reverse = vs) (hr : st.drop na = rest) (hp : pc + 3 = pc')
    (hc : ∀ d', d = d' + 1 → zPa d' cm vs h Qc) (kk : ∀ r h', Qc r h' → zPn N scr d m (pc', ls, r.toList ++ rest, h') Q) : zPn N scr d m (pc, ls, st, h) Q := by
  subst hp; subst hr
  refine pa_call hd (Or.inr rfl) (fun call x hq => ?_) hc kk
  simp only [zexec, hz] at hq
  rw [if_pos hkd] at hq
  unfold zcall at hq
  split at hq
  · try rw [if_pos hkd] at hq
    rw [hv] at hq
    split at hq
    · next r h' e => cases hq; exact ⟨r, h', e, rfl⟩
    · cases hq
  · cases hq
theorem pa_iald {a n : Nat} {j : Int32} (hd : decode m.1 pc = .ok (.iaload, 1)) (hs : zsh h a = some (14, n)) (hp : pc + 1 = pc') (kk : zin j n = true → zPn N scr d m (pc', ls, .inl (h.2.1 a j.toNatClampNeg) :: st, h) Q) : zPn N scr d m (pc, ls, .inl j :: .inr (.inr (some a)) :: st, h) Q := by
  subst hp
  refine pa_may (C := zin j n = true) hd (Or.inr rfl) (fun call x hq => ?_) kk
  simp only [zexec, zld, hs] at hq
  by_cases c : zin j n = true
  · rw [if_pos trivial, if_pos c] at hq; cases hq; exact ⟨c, rfl⟩
  · rw [if_pos trivial, if_neg c] at hq; cases hq
theorem pa_bald {a n : Nat} {j : Int32} (hd : decode m.1 pc = .ok (.baload, 1)) (hs : zsh h a = some (13, n)) (hp : pc + 1 = pc') (kk : zin j n = true → zPn N scr d m (pc', ls, .inl (h.2.1 a j.toNatClampNeg) :: st, h) Q) : zPn N scr d m (pc, ls, .inl j :: .inr (.inr (some a)) :: st, h) Q := by
  subst hp
  refine pa_may (C := zin j n = true) hd (Or.inr rfl) (fun call x hq => ?_) kk
  simp only [zexec, zld, hs] at hq
  by_cases c : zin j n = true
  · rw [if_pos trivial, if_pos c] at hq; cases hq; exact ⟨c, rfl⟩
  · rw [if_pos trivial, if_neg c] at hq; cases hq
theorem pa_iast {a n : Nat} {j v : Int32} (hd : decode m.1 pc = .ok (.iastore, 1)) (hs : zsh h a = some (14, n)) (hp : pc + 1 = pc') (kk : zin j n = true → zPn N scr d m (pc', ls, st, zsI h a j.toNatClampNeg v) Q) : zPn N scr d m (pc, ls, .inl v :: .inl j :: .inr (.inr (some a)) :: st, h) Q := by
  subst hp
  refine pa_may (C := zin j n = true) hd (Or.inr rfl) (fun call x hq => ?_) kk
  simp only [zexec, zst, hs] at hq
  by_cases c : zin j n = true
  · rw [if_pos trivial, if_pos c] at hq; cases hq; exact ⟨c, rfl⟩
  · rw [if_pos trivial, if_neg c] at hq; cases hq
theorem pa_bast {a n : Nat} {j v : Int32} (hd : decode m.1 pc = .ok (.bastore, 1)) (hs : zsh h a = some (13, n)) (hp : pc + 1 = pc') (kk : zin j n = true → zPn N scr d m (pc', ls, st, zsI h a j.toNatClampNeg (vp_nar .byte v)) Q) : zPn N scr d m (pc, ls, .inl v :: .inl j :: .inr (.inr (some a)) :: st, h) Q := by
  subst hp
  refine pa_may (C := zin j n = true) hd (Or.inr rfl) (fun call x hq => ?_) kk
  simp only [zexec, zst, hs] at hq
  by_cases c : zin j n = true
  · rw [if_pos trivial, if_pos c] at hq; cases hq; exact ⟨c, rfl⟩
  · rw [if_pos trivial, if_neg c] at hq; cases hq
theorem pa_gotos {off : Int} (hd : decode m.1 pc = .ok (.goto off, 3)) (hp : (pc : Int) + off = (pc' : Int)) (k : zPn N scr d m (pc', ls, st, h) Q) : zPn (N + 1) scr d m (pc, ls, st, h) Q :=
  pa_gos hd (Or.inr rfl) (fun _ => by simp only [zexec, zjump]; rw [hp, if_pos (Int.natCast_nonneg pc')]; rfl) k
theorem pa_iconst {n : Int} {v : Int32} (hd : decode m.1 pc = .ok (.iconst n, 1)) (hv : Int32.ofInt n = v) (hp : pc + 1 = pc') (k : zPn N scr d m (pc', ls, .inl v :: st, h) Q) : zPn N scr d m (pc, ls, st, h) Q := by
  subst hp; subst hv; exact pa_go hd (Or.inr rfl) (fun _ => rfl) k
theorem pa_bipush {n : Int} {v : Int32} (hd : decode m.1 pc = .ok (.bipush n, 2)) (hv : (Int8.ofInt n).toInt32 = v) (hp : pc + 2 = pc') (k : zPn N scr d m (pc', ls, .inl v :: st, h) Q) : zPn N scr d m (pc, ls, st, h) Q := by
  subst hp; subst hv; exact pa_go hd (Or.inr rfl) (fun _ => rfl) k
theorem pa_sipush {n : Int} {v : Int32} (hd : decode m.1 pc = .ok (.sipush n, 3)) (hv : (Int16.ofInt n).toInt32 = v) (hp : pc + 3 = pc') (k : zPn N scr d m (pc', ls, .inl v :: st, h) Q) : zPn N scr d m (pc, ls, st, h) Q := by
  subst hp; subst hv; exact pa_go hd (Or.inr rfl) (fun _ => rfl) k
theorem pa_lconst {n : Fin 2} {v : Int64} (hd : decode m.1 pc = .ok (.lconst n, 1)) (hv : Int64.ofNat (n : Nat) = v) (hp : pc + 1 = pc') (k : zPn N scr d m (pc', ls, .inr (.inl v) :: st, h) Q) : zPn N scr d m (pc, ls, st, h) Q := by
  subst hp; subst hv; exact pa_go hd (Or.inr rfl) (fun _ => rfl) k
theorem pa_ldc {k : Nat} {v : zV} (hd : decode m.1 pc = .ok (.ldc k, 2)) (hv : zcst m.2.1 k = some v) (hc : zcat v = 1) (hp : pc + 2 = pc') (kk : zPn N scr d m (pc', ls, v :: st, h) Q) : zPn N scr d m (pc, ls, st, h) Q := by
  subst hp; exact pa_go hd (Or.inr rfl) (fun _ => by simp only [zexec, zldv, hv]; rw [if_pos hc]) kk
theorem pa_ldcw {k : Nat} {v : zV} (hd : decode m.1 pc = .ok (.ldc_w k, 3)) (hv : zcst m.2.1 k = some v) (hc : zcat v = 1) (hp : pc + 3 = pc') (kk : zPn N scr d m (pc', ls, v :: st, h) Q) : zPn N scr d m (pc, ls, st, h) Q := by
  subst hp; exact pa_go hd (Or.inr rfl) (fun _ => by simp only [zexec, zldv, hv]; rw [if_pos hc]) kk
theorem pa_ldc2 {k : Nat} {v : zV} (hd : decode m.1 pc = .ok (.ldc2_w k, 3)) (hv : zcst m.2.1 k = some v) (hc : zcat v = 2) (hp : pc + 3 = pc') (kk : zPn N scr d m (pc', ls, v :: st, h) Q) : zPn N scr d m (pc, ls, st, h) Q := by
  subst hp; exact pa_go hd (Or.inr rfl) (fun _ => by simp only [zexec, zldv, hv]; rw [if_pos hc]) kk
theorem pa_iload {j : Nat} {v : Int32} (hd : decode m.1 pc = .ok (.iload j, 2)) (hv : zget ls j = some (.inl v)) (hp : pc + 2 = pc') (k : zPn N scr d m (pc', ls, .inl v :: st, h) Q) : zPn N scr d m (pc, ls, st, h) Q := by
  subst hp; exact pa_go hd (Or.inr rfl) (fun _ => by simp only [zexec, zload, hv]; rfl) k
theorem pa_iload_n {j : Fin 4} {v : Int32} (hd : decode m.1 pc = .ok (.iload_n j, 1)) (hv : zget ls (j : Nat) = some (.inl v)) (hp : pc + 1 = pc') (k : zPn N scr d m (pc', ls, .inl v :: st, h) Q) : zPn N scr d m (pc, ls, st, h) Q := by
  subst hp; exact pa_go hd (Or.inr rfl) (fun _ => by simp only [zexec, zload, hv]; rfl) k
theorem pa_lload {j : Nat} {v : Int64} (hd : decode m.1 pc = .ok (.lload j, 2)) (hv : zget ls j = some (.inr (.inl v))) (hp : pc + 2 = pc') (k : zPn N scr d m (pc', ls, .inr (.inl v) :: st, h) Q) : zPn N scr d m (pc, ls, st, h) Q := by
  subst hp; exact pa_go hd (Or.inr rfl) (fun _ => by simp only [zexec, zload, hv]; rfl) k
theorem pa_lload_n {j : Fin 4} {v : Int64} (hd : decode m.1 pc = .ok (.lload_n j, 1)) (hv : zget ls (j : Nat) = some (.inr (.inl v))) (hp : pc + 1 = pc') (k : zPn N scr d m (pc', ls, .inr (.inl v) :: st, h) Q) : zPn N scr d m (pc, ls, st, h) Q := by
  subst hp; exact pa_go hd (Or.inr rfl) (fun _ => by simp only [zexec, zload, hv]; rfl) k
theorem pa_aload {j : Nat} {v : Nat} (hd : decode m.1 pc = .ok (.aload j, 2)) (hv : zget ls j = some (.inr (.inr (some v)))) (hp : pc + 2 = pc') (k : zPn N scr d m (pc', ls, .inr (.inr (some v)) :: st, h) Q) : zPn N scr d m (pc, ls, st, h) Q := by
  subst hp; exact pa_go hd (Or.inr rfl) (fun _ => by simp only [zexec, zload, hv]; rfl) k
theorem pa_aload_n {j : Fin 4} {v : Nat} (hd : decode m.1 pc = .ok (.aload_n j, 1)) (hv : zget ls (j : Nat) = some (.inr (.inr (some v)))) (hp : pc + 1 = pc') (k : zPn N scr d m (pc', ls, .inr (.inr (some v)) :: st, h) Q) : zPn N scr d m (pc, ls, st, h) Q := by
  subst hp; exact pa_go hd (Or.inr rfl) (fun _ => by simp only [zexec, zload, hv]; rfl) k
theorem pa_istore {j : Nat} {v : Int32} {ls' : zL} (hd : decode m.1 pc = .ok (.istore j, 2)) (hj : j < m.2.2.1) (hl : zset1 ls j (.inl v) = ls') (hp : pc + 2 = pc') (k : zPn N scr d m (pc', ls', st, h) Q) : zPn N scr d m (pc, ls, .inl v :: st, h) Q := by
  subst hp; subst hl; exact pa_go hd (Or.inr rfl) (fun _ => by simp only [zexec, zstore]; rw [if_pos ⟨trivial, hj⟩]) k
theorem pa_istore_n {j : Fin 4} {v : Int32} {ls' : zL} (hd : decode m.1 pc = .ok (.istore_n j, 1)) (hj : (j : Nat) < m.2.2.1) (hl : zset1 ls (j : Nat) (.inl v) = ls') (hp : pc + 1 = pc') (k : zPn N scr d m (pc', ls', st, h) Q) : zPn N scr d m (pc, ls, .inl v :: st, h) Q := by
  subst hp; subst hl; exact pa_go hd (Or.inr rfl) (fun _ => by simp only [zexec, zstore]; rw [if_pos ⟨trivial, hj⟩]) k
theorem pa_lstore {j : Nat} {v : Int64} {ls' : zL} (hd : decode m.1 pc = .ok (.lstore j, 2)) (hj : j + 1 < m.2.2.1) (hl : zset2 ls j (.inr (.inl v)) = ls') (hp : pc + 2 = pc') (k : zPn N scr d m (pc', ls', st, h) Q) : zPn N scr d m (pc, ls, .inr (.inl v) :: st, h) Q := by
  subst hp; subst hl; exact pa_go hd (Or.inr rfl) (fun _ => by simp only [zexec, zstore]; rw [if_pos ⟨trivial, hj⟩]) k
theorem pa_lstore_n {j : Fin 4} {v : Int64} {ls' : zL} (hd : decode m.1 pc = .ok (.lstore_n j, 1)) (hj : (j : Nat) + 1 < m.2.2.1) (hl : zset2 ls (j : Nat) (.inr (.inl v)) = ls') (hp : pc + 1 = pc') (k : zPn N scr d m (pc', ls', st, h) Q) : zPn N scr d m (pc, ls, .inr (.inl v) :: st, h) Q := by
  subst hp; subst hl; exact pa_go hd (Or.inr rfl) (fun _ => by simp only [zexec, zstore]; rw [if_pos ⟨trivial, hj⟩]) k
theorem pa_astore {j : Nat} {v : Nat} {ls' : zL} (hd : decode m.1 pc = .ok (.astore j, 2)) (hj : j < m.2.2.1) (hl : zset1 ls j (.inr (.inr (some v))) = ls') (hp : pc + 2 = pc') (k : zPn N scr d m (pc', ls', st, h) Q) : zPn N scr d m (pc, ls, .inr (.inr (some v)) :: st, h) Q := by
  subst hp; subst hl; exact pa_go hd (Or.inr rfl) (fun _ => by simp only [zexec, zstore]; rw [if_pos ⟨trivial, hj⟩]) k
theorem pa_astore_n {j : Fin 4} {v : Nat} {ls' : zL} (hd : decode m.1 pc = .ok (.astore_n j, 1)) (hj : (j : Nat) < m.2.2.1) (hl : zset1 ls (j : Nat) (.inr (.inr (some v))) = ls') (hp : pc + 1 = pc') (k : zPn N scr d m (pc', ls', st, h) Q) : zPn N scr d m (pc, ls, .inr (.inr (some v)) :: st, h) Q := by
  subst hp; subst hl; exact pa_go hd (Or.inr rfl) (fun _ => by simp only [zexec, zstore]; rw [if_pos ⟨trivial, hj⟩]) k
theorem pa_iinc {j : Nat} {n : Int} {x v : Int32} {ls' : zL} (hd : decode m.1 pc = .ok (.iinc j n, 3)) (hg : zget ls j = some (.inl x)) (hj : j < m.2.2.1) (hv : x + Int32.ofInt n = v) (hl : zset1 ls j (.inl v) = ls') (hp : pc + 3 = pc') (k : zPn N scr d m (pc', ls', st, h) Q) : zPn N scr d m (pc, ls, st, h) Q := by
  subst hp; subst hl; subst hv; exact pa_go hd (Or.inr rfl) (fun _ => by simp only [zexec, hg]; rw [if_pos hj]) k
theorem pa_bin {x y v : Int32} (hd : decode m.1 pc = .ok (i, 1)) (hi : zilen i = 1) (hx : ∀ (call : zM → List zV → zH → Option zR) (deep : Bool) st, zexec scr call deep m i 1 pc ls st h = zarith i 1 pc ls st h) (hz : zbin i x y = some v) (hp : pc + 1 = pc') (k : zPn N scr d m (pc', ls, .inl v :: st, h) Q) : zPn N scr d m (pc, ls, .inl y :: .inl x :: st, h) Q := by
  subst hp; exact pa_go hd (Or.inr hi.symm) (fun _ => by rw [hx]; simp only [zarith, hz]) k
theorem pa_iadd {x y v : Int32} (hd : decode m.1 pc = .ok (.iadd, 1)) (hv : x + y = v) (hp : pc + 1 = pc') (k : zPn N scr d m (pc', ls, .inl v :: st, h) Q) : zPn N scr d m (pc, ls, .inl y :: .inl x :: st, h) Q := by
  subst hv; exact pa_bin hd rfl (fun _ _ _ => rfl) rfl hp k
theorem pa_isub {x y v : Int32} (hd : decode m.1 pc = .ok (.isub, 1)) (hv : x - y = v) (hp : pc + 1 = pc') (k : zPn N scr d m (pc', ls, .inl v :: st, h) Q) : zPn N scr d m (pc, ls, .inl y :: .inl x :: st, h) Q := by
  subst hv; exact pa_bin hd rfl (fun _ _ _ => rfl) rfl hp k
theorem pa_imul {x y v : Int32} (hd : decode m.1 pc = .ok (.imul, 1)) (hv : x * y = v) (hp : pc + 1 = pc') (k : zPn N scr d m (pc', ls, .inl v :: st, h) Q) : zPn N scr d m (pc, ls, .inl y :: .inl x :: st, h) Q := by
  subst hv; exact pa_bin hd rfl (fun _ _ _ => rfl) rfl hp k
theorem pa_iand {x y v : Int32} (hd : decode m.1 pc = .ok (.iand, 1)) (hv : x &&& y = v) (hp : pc + 1 = pc') (k : zPn N scr d m (pc', ls, .inl v :: st, h) Q) : zPn N scr d m (pc, ls, .inl y :: .inl x :: st, h) Q := by
  subst hv; exact pa_bin hd rfl (fun _ _ _ => rfl) rfl hp k
theorem pa_ior {x y v : Int32} (hd : decode m.1 pc = .ok (.ior, 1)) (hv : x ||| y = v) (hp : pc + 1 = pc') (k : zPn N scr d m (pc', ls, .inl v :: st, h) Q) : zPn N scr d m (pc, ls, .inl y :: .inl x :: st, h) Q := by
  subst hv; exact pa_bin hd rfl (fun _ _ _ => rfl) rfl hp k
theorem pa_ixor {x y v : Int32} (hd : decode m.1 pc = .ok (.ixor, 1)) (hv : x ^^^ y = v) (hp : pc + 1 = pc') (k : zPn N scr d m (pc', ls, .inl v :: st, h) Q) : zPn N scr d m (pc, ls, .inl y :: .inl x :: st, h) Q := by
  subst hv; exact pa_bin hd rfl (fun _ _ _ => rfl) rfl hp k
theorem pa_ishl {x y v : Int32} (hd : decode m.1 pc = .ok (.ishl, 1)) (hv : x <<< (y &&& 31) = v) (hp : pc + 1 = pc') (k : zPn N scr d m (pc', ls, .inl v :: st, h) Q) : zPn N scr d m (pc, ls, .inl y :: .inl x :: st, h) Q := by
  subst hv; exact pa_bin hd rfl (fun _ _ _ => rfl) rfl hp k
theorem pa_ishr {x y v : Int32} (hd : decode m.1 pc = .ok (.ishr, 1)) (hv : x >>> (y &&& 31) = v) (hp : pc + 1 = pc') (k : zPn N scr d m (pc', ls, .inl v :: st, h) Q) : zPn N scr d m (pc, ls, .inl y :: .inl x :: st, h) Q := by
  subst hv; exact pa_bin hd rfl (fun _ _ _ => rfl) rfl hp k
theorem pa_iushr {x y v : Int32} (hd : decode m.1 pc = .ok (.iushr, 1)) (hv : (x.toUInt32 >>> (y.toUInt32 &&& Int32.toUInt32 31)).toInt32 = v) (hp : pc + 1 = pc') (k : zPn N scr d m (pc', ls, .inl v :: st, h) Q) : zPn N scr d m (pc, ls, .inl y :: .inl x :: st, h) Q := by
  subst hv; exact pa_bin hd rfl (fun _ _ _ => rfl) rfl hp k
theorem pa_idiv {x y v : Int32} (hd : decode m.1 pc = .ok (.idiv, 1)) (hy : ¬ y = 0) (hv : x / y = v) (hp : pc + 1 = pc') (k : zPn N scr d m (pc', ls, .inl v :: st, h) Q) : zPn N scr d m (pc, ls, .inl y :: .inl x :: st, h) Q := by
  subst hv; exact pa_bin hd rfl (fun _ _ _ => rfl) (by simp only [zbin]; rw [if_neg hy]) hp k
theorem pa_irem {x y v : Int32} (hd : decode m.1 pc = .ok (.irem, 1)) (hy : ¬ y = 0) (hv : x - x / y * y = v) (hp : pc + 1 = pc') (k : zPn N scr d m (pc', ls, .inl v :: st, h) Q) : zPn N scr d m (pc, ls, .inl y :: .inl x :: st, h) Q := by
  subst hv; exact pa_bin hd rfl (fun _ _ _ => rfl) (by simp only [zbin]; rw [if_neg hy]) hp k
theorem pa_un {x : Int32} {v : zV} (hd : decode m.1 pc = .ok (i, 1)) (hi : zilen i = 1) (hx : ∀ (call : zM → List zV → zH → Option zR) (deep : Bool) st, zexec scr call deep m i 1 pc ls st h = zarith i 1 pc ls st h) (hb : ∀ a b, zbin i a b = none) (hz : zun i x = some v) (hp : pc + 1 = pc') (k : zPn N scr d m (pc', ls, v :: st, h) Q) : zPn N scr d m (pc, ls, .inl x :: st, h) Q := by
  subst hp
  refine pa_go hd (Or.inr hi.symm) (fun _ => ?_) k
  rw [hx]
  unfold zarith
  split
  · next y x' st' e =>
    cases e
    rw [hb, hz]
  · next x' st' h0 e =>
    cases e
    rw [hz]
  · next e => cases e
  · next h1 h2 h3 => exact absurd rfl (h2 x st)
theorem pa_i2l {x : Int32} {v : Int64} (hd : decode m.1 pc = .ok (.i2l, 1)) (hv : x.toInt64 = v) (hp : pc + 1 = pc') (k : zPn N scr d m (pc', ls, .inr (.inl v) :: st, h) Q) : zPn N scr d m (pc, ls, .inl x :: st, h) Q := by
  subst hv; exact pa_un hd rfl (fun _ _ _ => rfl) (fun _ _ => rfl) rfl hp k
theorem pa_i2b {x : Int32} {v : Int32} (hd : decode m.1 pc = .ok (.i2b, 1)) (hv : x.toInt8.toInt32 = v) (hp : pc + 1 = pc') (k : zPn N scr d m (pc', ls, .inl v :: st, h) Q) : zPn N scr d m (pc, ls, .inl x :: st, h) Q := by
  subst hv; exact pa_un hd rfl (fun _ _ _ => rfl) (fun _ _ => rfl) rfl hp k
theorem pa_i2c {x : Int32} {v : Int32} (hd : decode m.1 pc = .ok (.i2c, 1)) (hv : (x.toUInt32 % 65536).toInt32 = v) (hp : pc + 1 = pc') (k : zPn N scr d m (pc', ls, .inl v :: st, h) Q) : zPn N scr d m (pc, ls, .inl x :: st, h) Q := by
  subst hv; exact pa_un hd rfl (fun _ _ _ => rfl) (fun _ _ => rfl) rfl hp k
theorem pa_lcmp {x y : Int64} {v : Int32} (hd : decode m.1 pc = .ok (.lcmp, 1)) (hv : lg_cmp x y = v) (hp : pc + 1 = pc') (k : zPn N scr d m (pc', ls, .inl v :: st, h) Q) : zPn N scr d m (pc, ls, .inr (.inl y) :: .inr (.inl x) :: st, h) Q := by
  subst hv; subst hp; exact pa_go hd (Or.inr rfl) (fun _ => rfl) k
theorem pa_lor {x y v : Int64} (hd : decode m.1 pc = .ok (.lor, 1)) (hv : x ||| y = v) (hp : pc + 1 = pc') (k : zPn N scr d m (pc', ls, .inr (.inl v) :: st, h) Q) : zPn N scr d m (pc, ls, .inr (.inl y) :: .inr (.inl x) :: st, h) Q := by
  subst hv; subst hp; exact pa_go hd (Or.inr rfl) (fun _ => rfl) k
theorem pa_lrem {x y v : Int64} (hd : decode m.1 pc = .ok (.lrem, 1)) (hy : ¬ y = 0) (hv : x - x / y * y = v) (hp : pc + 1 = pc') (k : zPn N scr d m (pc', ls, .inr (.inl v) :: st, h) Q) : zPn N scr d m (pc, ls, .inr (.inl y) :: .inr (.inl x) :: st, h) Q := by
  subst hv; subst hp; exact pa_go hd (Or.inr rfl) (fun _ => by simp only [zexec, zarith, zlbin]; rw [if_neg hy]) k
theorem pa_ldiv {x y v : Int64} (hd : decode m.1 pc = .ok (.ldiv, 1)) (hy : ¬ y = 0) (hv : x / y = v) (hp : pc + 1 = pc') (k : zPn N scr d m (pc', ls, .inr (.inl v) :: st, h) Q) : zPn N scr d m (pc, ls, .inr (.inl y) :: .inr (.inl x) :: st, h) Q := by
  subst hv; subst hp; exact pa_go hd (Or.inr rfl) (fun _ => by simp only [zexec, zarith, zlbin]; rw [if_neg hy]) k
theorem pa_lshl {x v : Int64} {y : Int32} (hd : decode m.1 pc = .ok (.lshl, 1)) (hv : x <<< (y.toInt64 &&& 63) = v) (hp : pc + 1 = pc') (k : zPn N scr d m (pc', ls, .inr (.inl v) :: st, h) Q) : zPn N scr d m (pc, ls, .inl y :: .inr (.inl x) :: st, h) Q := by
  subst hv; subst hp; exact pa_go hd (Or.inr rfl) (fun _ => rfl) k
theorem pa_goto {off : Int} (hd : decode m.1 pc = .ok (.goto off, 3)) (hp : (pc : Int) + off = (pc' : Int)) (k : zPn N scr d m (pc', ls, st, h) Q) : zPn N scr d m (pc, ls, st, h) Q :=
  pa_go hd (Or.inr rfl) (fun _ => by simp only [zexec, zjump, hp]; rfl) k
theorem pa_br {b : Bool} {off : Int} {g' : zC} (hp : (pc : Int) + off = (pc' : Int)) (hb : (b = true ∧ g' = (pc', ls, st, h)) ∨ (b = false ∧ g' = (pc + 3, ls, st, h))) : zbr b pc 3 off ls st h = some (.inl g') := by
  unfold zbr
  rw [hp, if_pos (Int.natCast_nonneg _)]
  rcases hb with ⟨rfl, rfl⟩ | ⟨rfl, rfl⟩
  · simp
  · simp
theorem pa_if {cd : ClassFile.Cond} {off : Int} {x : Int32} {pc2 : Nat} (hd : decode m.1 pc = .ok (.ifCond cd off, 3)) (hp : (pc : Int) + off = (pc' : Int)) (hp2 : pc + 3 = pc2) (kt : zcond cd x 0 = true → zPn N scr d m (pc', ls, st, h) Q) (kf : zcond cd x 0 = false → zPn N scr d m (pc2, ls, st, h) Q) : zPn N scr d m (pc, ls, .inl x :: st, h) Q := by
  subst hp2
  cases hc : zcond cd x 0 with
  | true => exact pa_go hd (Or.inr rfl) (fun _ => by simp only [zexec]; exact pa_br hp (Or.inl ⟨hc, rfl⟩)) (kt hc)
  | false => exact pa_go hd (Or.inr rfl) (fun _ => by simp only [zexec]; exact pa_br hp (Or.inr ⟨hc, rfl⟩)) (kf hc)
theorem pa_icmp {cd : ClassFile.Cond} {off : Int} {x y : Int32} {pc2 : Nat} (hd : decode m.1 pc = .ok (.if_icmp cd off, 3)) (hp : (pc : Int) + off = (pc' : Int)) (hp2 : pc + 3 = pc2) (kt : zcond cd x y = true → zPn N scr d m (pc', ls, st, h) Q) (kf : zcond cd x y = false → zPn N scr d m (pc2, ls, st, h) Q) : zPn N scr d m (pc, ls, .inl y :: .inl x :: st, h) Q := by
  subst hp2
  cases hc : zcond cd x y with
  | true => exact pa_go hd (Or.inr rfl) (fun _ => by simp only [zexec]; exact pa_br hp (Or.inl ⟨hc, rfl⟩)) (kt hc)
  | false => exact pa_go hd (Or.inr rfl) (fun _ => by simp only [zexec]; exact pa_br hp (Or.inr ⟨hc, rfl⟩)) (kf hc)
theorem pa_if_t {cd : ClassFile.Cond} {off : Int} {x : Int32} (hd : decode m.1 pc = .ok (.ifCond cd off, 3)) (hc : zcond cd x 0 = true) (hp : (pc : Int) + off = (pc' : Int)) (k : zPn N scr d m (pc', ls, st, h) Q) : zPn N scr d m (pc, ls, .inl x :: st, h) Q :=
  pa_if hd hp rfl (fun _ => k) (fun q => absurd (hc.symm.trans q) (by decide))
theorem pa_if_f {cd : ClassFile.Cond} {off : Int} {x : Int32} (hd : decode m.1 pc = .ok (.ifCond cd off, 3)) (hc : zcond cd x 0 = false) (ho : 0 ≤ (pc : Int) + off) (hp : pc + 3 = pc') (k : zPn N scr d m (pc', ls, st, h) Q) : zPn N scr d m (pc, ls, .inl x :: st, h) Q :=
  pa_if (pc' := ((pc : Int) + off).toNat) hd (Int.toNat_of_nonneg ho).symm hp (fun q => absurd (hc.symm.trans q) (by decide)) (fun _ => k)
theorem pa_icmp_t {cd : ClassFile.Cond} {off : Int} {x y : Int32} (hd : decode m.1 pc = .ok (.if_icmp cd off, 3)) (hc : zcond cd x y = true) (hp : (pc : Int) + off = (pc' : Int)) (k : zPn N scr d m (pc', ls, st, h) Q) : zPn N scr d m (pc, ls, .inl y :: .inl x :: st, h) Q :=
  pa_icmp hd hp rfl (fun _ => k) (fun q => absurd (hc.symm.trans q) (by decide))
theorem pa_icmp_f {cd : ClassFile.Cond} {off : Int} {x y : Int32} (hd : decode m.1 pc = .ok (.if_icmp cd off, 3)) (hc : zcond cd x y = false) (ho : 0 ≤ (pc : Int) + off) (hp : pc + 3 = pc') (k : zPn N scr d m (pc', ls, st, h) Q) : zPn N scr d m (pc, ls, .inl y :: .inl x :: st, h) Q :=
  pa_icmp (pc' := ((pc : Int) + off).toNat) hd (Int.toNat_of_nonneg ho).symm hp (fun q => absurd (hc.symm.trans q) (by decide)) (fun _ => k)
theorem pa_switch {df lo hi : Int} {offs : Array Int} {x : Int32} (hd : decode m.1 pc = .ok (.tableswitch df lo hi offs, len)) (hc : (x.toInt < lo ∨ hi < x.toInt) → (pc : Int) + df = (pc' : Int)) (hc2 : ¬ (x.toInt < lo ∨ hi < x.toInt) → ∃ off, offs[(x.toInt - lo).toNat]? = some off ∧ (pc : Int) + off = (pc' : Int)) (k : zPn N scr d m (pc', ls, st, h) Q) : zPn N scr d m (pc, ls, .inl x :: st, h) Q := by
  refine pa_go hd (Or.inl rfl) (fun _ => ?_) k
  simp only [zexec]
  by_cases hb : x.toInt < lo ∨ hi < x.toInt
  · rw [if_pos hb]
    simp only [zjump, hc hb]
    rfl
  · rw [if_neg hb]
    obtain ⟨off, h1, h2⟩ := hc2 hb
    rw [h1]
    simp only [zjump, h2]
    rfl
theorem pa_getI {k a ci f n : Nat} {v : Int32} (hd : decode m.1 pc = .ok (.getfield k, 3)) (hz : zfld m.2.1 k = some (ci, f)) (hs : zsh h a = some (ci, n)) (hc : (zft ci).getD f 0 ≠ 3) (hv : h.2.1 a f = v) (hp : pc + 3 = pc') (kk : zPn N scr d m (pc', ls, .inl v :: st, h) Q) : zPn N scr d m (pc, ls, .inr (.inr (some a)) :: st, h) Q := by
  subst hp; exact pa_go hd (Or.inr rfl) (fun _ => by simp only [zexec, hz, hs, zfv, if_neg hc, hv]; rfl) kk
theorem pa_getR {k a ci f n r : Nat} (hd : decode m.1 pc = .ok (.getfield k, 3)) (hz : zfld m.2.1 k = some (ci, f)) (hs : zsh h a = some (ci, n)) (hc : (zft ci).getD f 0 = 3) (hv : h.2.2.2.1 a f = some r) (hp : pc + 3 = pc') (kk : zPn N scr d m (pc', ls, .inr (.inr (some r)) :: st, h) Q) : zPn N scr d m (pc, ls, .inr (.inr (some a)) :: st, h) Q := by
  subst hp; exact pa_go hd (Or.inr rfl) (fun _ => by simp only [zexec, hz, hs, zfv, if_pos hc, hv]; rfl) kk
theorem pa_putI {k a ci f n : Nat} {v : Int32} (hd : decode m.1 pc = .ok (.putfield k, 3)) (hz : zfld m.2.1 k = some (ci, f)) (hs : zsh h a = some (ci, n)) (hfi : zfin ci f = false ∨ (m.2.2.2.2.2 = true ∧ m.2.1 = ci)) (hc : (zft ci).getD f 9 = 0 ∨ ((zft ci).getD f 9 = 1 ∧ (v = 0 ∨ v = 1))) (hp : pc + 3 = pc') (kk : zPn N scr d m (pc', ls, st, zsI h a f v) Q) : zPn N scr d m (pc, ls, .inl v :: .inr (.inr (some a)) :: st, h) Q := by
  subst hp; exact pa_go hd (Or.inr rfl) (fun _ => by simp only [zexec, hz, hs]; rw [if_pos ⟨trivial, hfi⟩]; simp only [zput]; rw [if_pos hc]) kk
theorem pa_putR {k a ci f n : Nat} {v : Option Nat} (hd : decode m.1 pc = .ok (.putfield k, 3)) (hz : zfld m.2.1 k = some (ci, f)) (hs : zsh h a = some (ci, n)) (hfi : zfin ci f = false ∨ (m.2.2.2.2.2 = true ∧ m.2.1 = ci)) (hc : (zft ci).getD f 9 = 3) (hp : pc + 3 = pc') (kk : zPn N scr d m (pc', ls, st, zsR h a f v) Q) : zPn N scr d m (pc, ls, .inr (.inr v) :: .inr (.inr (some a)) :: st, h) Q := by
  subst hp; exact pa_go hd (Or.inr rfl) (fun _ => by simp only [zexec, hz, hs]; rw [if_pos ⟨trivial, hfi⟩]; simp only [zput]; rw [if_pos hc]) kk
theorem pa_sald {n : Nat} {xs : Nat → Int32} {j v : Int32} (hd : decode m.1 pc = .ok (.iaload, 1)) (hs : zsh h 1000000 = none) (hsc : scr = some (n, xs)) (hj : zin j n = true) (hv : xs j.toNatClampNeg = v) (hp : pc + 1 = pc') (kk : zPn N scr d m (pc', ls, .inl v :: st, h) Q) : zPn N scr d m (pc, ls, .inl j :: .inr (.inr (some 1000000)) :: st, h) Q := by
  subst hp; subst hv; subst hsc; exact pa_go hd (Or.inr rfl) (fun _ => by simp only [zexec, zld, hs, hj]; rfl) kk
theorem pa_lald {a n : Nat} {j : Int32} {v : Int64} (hd : decode m.1 pc = .ok (.laload, 1)) (hs : zsh h a = some (15, n)) (hj : zin j n = true) (hv : h.2.2.1 a j.toNatClampNeg = v) (hp : pc + 1 = pc') (kk : zPn N scr d m (pc', ls, .inr (.inl v) :: st, h) Q) : zPn N scr d m (pc, ls, .inl j :: .inr (.inr (some a)) :: st, h) Q := by
  subst hp; subst hv; exact pa_go hd (Or.inr rfl) (fun _ => by simp only [zexec, hs]; rw [if_pos ⟨trivial, hj⟩]) kk
theorem pa_aald {a kd n r : Nat} {j : Int32} (hd : decode m.1 pc = .ok (.aaload, 1)) (hs : zsh h a = some (kd, n)) (hk : 16 ≤ kd ∧ kd ≤ 20) (hj : zin j n = true) (hv : h.2.2.2.1 a j.toNatClampNeg = some r) (hp : pc + 1 = pc') (kk : zPn N scr d m (pc', ls, .inr (.inr (some r)) :: st, h) Q) : zPn N scr d m (pc, ls, .inl j :: .inr (.inr (some a)) :: st, h) Q := by
  subst hp; exact pa_go hd (Or.inr rfl) (fun _ => by simp only [zexec, hs]; rw [if_pos ⟨hk.1, hk.2, hj⟩, hv]) kk
theorem pa_last {a n : Nat} {j : Int32} {v : Int64} (hd : decode m.1 pc = .ok (.lastore, 1)) (hs : zsh h a = some (15, n)) (hj : zin j n = true) (hp : pc + 1 = pc') (kk : zPn N scr d m (pc', ls, st, zsL h a j.toNatClampNeg v) Q) : zPn N scr d m (pc, ls, .inr (.inl v) :: .inl j :: .inr (.inr (some a)) :: st, h) Q := by
  subst hp; exact pa_go hd (Or.inr rfl) (fun _ => by simp only [zexec, hs]; rw [if_pos ⟨trivial, hj⟩]) kk
theorem pa_aast {a kd n v nv : Nat} {j : Int32} (hd : decode m.1 pc = .ok (.aastore, 1)) (hs : zsh h a = some (kd, n)) (hv : zsh h v = some (zrc kd, nv)) (hk : 16 ≤ kd ∧ kd ≤ 20) (hj : zin j n = true) (hp : pc + 1 = pc') (kk : zPn N scr d m (pc', ls, st, zsR h a j.toNatClampNeg (some v)) Q) : zPn N scr d m (pc, ls, .inr (.inr (some v)) :: .inl j :: .inr (.inr (some a)) :: st, h) Q := by
  subst hp; exact pa_go hd (Or.inr rfl) (fun _ => by simp only [zexec, hs, hv]; rw [if_pos ⟨hk.1, hk.2, hj, trivial⟩]) kk
theorem pa_alen {a kd n : Nat} {v : Int32} (hd : decode m.1 pc = .ok (.arraylength, 1)) (hs : zsh h a = some (kd, n)) (hk : 13 ≤ kd) (hv : Int32.ofNat n = v) (hp : pc + 1 = pc') (kk : zPn N scr d m (pc', ls, .inl v :: st, h) Q) : zPn N scr d m (pc, ls, .inr (.inr (some a)) :: st, h) Q := by
  subst hp; subst hv; exact pa_go hd (Or.inr rfl) (fun _ => by simp only [zexec, zlen, hs]; rw [if_pos hk]) kk
theorem pa_slen {n : Nat} {xs : Nat → Int32} {v : Int32} (hd : decode m.1 pc = .ok (.arraylength, 1)) (hs : zsh h 1000000 = none) (hsc : scr = some (n, xs)) (hv : Int32.ofNat n = v) (hp : pc + 1 = pc') (kk : zPn N scr d m (pc', ls, .inl v :: st, h) Q) : zPn N scr d m (pc, ls, .inr (.inr (some 1000000)) :: st, h) Q := by
  subst hp; subst hv; subst hsc; exact pa_go hd (Or.inr rfl) (fun _ => by simp only [zexec, zlen, hs]; rfl) kk
theorem pa_dup {v : zV} (hd : decode m.1 pc = .ok (.dup, 1)) (hc : zcat v = 1) (hp : pc + 1 = pc') (kk : zPn N scr d m (pc', ls, v :: v :: st, h) Q) : zPn N scr d m (pc, ls, v :: st, h) Q := by
  subst hp; exact pa_go hd (Or.inr rfl) (fun _ => by simp only [zexec]; rw [if_pos hc]) kk
theorem pa_dup2 {v w : zV} (hd : decode m.1 pc = .ok (.dup2, 1)) (hc : zcat v = 1 ∧ zcat w = 1) (hp : pc + 1 = pc') (kk : zPn N scr d m (pc', ls, v :: w :: v :: w :: st, h) Q) : zPn N scr d m (pc, ls, v :: w :: st, h) Q := by
  subst hp; exact pa_go hd (Or.inr rfl) (fun _ => by simp only [zexec]; rw [if_pos hc]) kk
theorem pa_pop {v : zV} (hd : decode m.1 pc = .ok (.pop, 1)) (hc : zcat v = 1) (hp : pc + 1 = pc') (kk : zPn N scr d m (pc', ls, st, h) Q) : zPn N scr d m (pc, ls, v :: st, h) Q := by
  subst hp; exact pa_go hd (Or.inr rfl) (fun _ => by simp only [zexec]; rw [if_pos hc]) kk
theorem pa_pop2 {v : zV} (hd : decode m.1 pc = .ok (.pop2, 1)) (hc : zcat v = 2) (hp : pc + 1 = pc') (kk : zPn N scr d m (pc', ls, st, h) Q) : zPn N scr d m (pc, ls, v :: st, h) Q := by
  subst hp; exact pa_go hd (Or.inr rfl) (fun _ => by simp only [zexec]; rw [if_pos hc]) kk
theorem pa_iret {x : Int32} {ty : FieldType} (hd : decode m.1 pc = .ok (.ireturn, 1)) (ht : m.2.2.2.1 = some ty) (hn : narrow ty (.int x) = .int x) (hq : Q (some (.inl x)) h) : zPn N scr d m (pc, ls, [.inl x], h) Q :=
  pa_end hd (Or.inr rfl) (fun _ => by simp only [zexec, ht]; rw [if_pos hn]) hq
theorem pa_lret {x : Int64} (hd : decode m.1 pc = .ok (.lreturn, 1)) (ht : m.2.2.2.1 = some .long) (hq : Q (some (.inr (.inl x))) h) : zPn N scr d m (pc, ls, [.inr (.inl x)], h) Q :=
  pa_end hd (Or.inr rfl) (fun _ => by simp only [zexec]; rw [if_pos ht]) hq
theorem pa_vret (hd : decode m.1 pc = .ok (.return_, 1)) (ht : m.2.2.2.1 = none) (hq : Q none h) : zPn N scr d m (pc, ls, [], h) Q :=
  pa_end hd (Or.inr rfl) (fun _ => by simp only [zexec]; rw [if_pos ht]) hq
theorem pa_gets (hd : decode m.1 pc = .ok (.getstatic zgsk, 3)) (ho : m.2.1 = 6) (hp : pc + 3 = pc') (kk : zPn N scr d m (pc', ls, .inr (.inr (some 1000001)) :: st, h) Q) : zPn N scr d m (pc, ls, st, h) Q := by
  subst hp; exact pa_go hd (Or.inr rfl) (fun _ => by simp only [zexec]; rw [if_pos ⟨ho, trivial⟩]) kk
theorem pa_strlen {k na a : Nat} {bs : List Int32} (hd : decode m.1 pc = .ok (.invokevirtual k, 3)) (hz : zmth m.2.1 k = some (0, na, mJ0_length_8abf5)) (hs : zsc a = some bs) (hw : zwd st ≤ 8) (hp : pc + 3 = pc') (kk : zPn N scr d m (pc', ls, .inl (nI bs.length) :: st, h) Q) : zPn N scr d m (pc, ls, .inr (.inr (some a)) :: st, h) Q := by
  subst hp
  refine pa_go hd (Or.inr rfl) (fun _ => ?_) kk
  simp only [zexec, hz]
  rw [if_pos trivial, if_pos trivial]
  simp only [zstr, hs]
  rw [if_pos ⟨trivial, hw⟩]
theorem pa_strchar {k na a : Nat} {i : Int32} {bs : List Int32} (hd : decode m.1 pc = .ok (.invokevirtual k, 3)) (hz : zmth m.2.1 k = some (0, na, mJ0_charAt_5068e)) (hs : zsc a = some bs) (hw : zwd st ≤ 8) (hi : zin i bs.length = true) (hp : pc + 3 = pc') (kk : zPn N scr d m (pc', ls, .inl (bs.getD i.toNatClampNeg 0) :: st, h) Q) : zPn N scr d m (pc, ls, .inl i :: .inr (.inr (some a)) :: st, h) Q := by
  subst hp
  refine pa_go hd (Or.inr rfl) (fun _ => ?_) kk
  simp only [zexec, hz]
  rw [if_pos trivial, if_pos trivial]
  simp only [zstr, hs]
  rw [if_pos ⟨trivial, hw, hi⟩]
theorem pa_min {k na : Nat} {cm : zM} {x y v : Int32} (hd : decode m.1 pc = .ok (.invokestatic k, 3)) (hz : zmth m.2.1 k = some (12, na, cm)) (hw : zwd st ≤ 8) (hv : (if y < x then y else x) = v) (hp : pc + 3 = pc') (kk : zPn N scr (d + 1) m (pc', ls, .inl v :: st, h) Q) : zPn N scr (d + 1) m (pc, ls, .inl y :: .inl x :: st, h) Q := by
  subst hp; subst hv
  refine pa_go hd (Or.inr rfl) (fun _ => ?_) kk
  simp only [zexec, hz]
  rw [if_neg (by decide), if_neg (by decide), if_neg (by decide)]
  have e : decide (0 < d + 1) = true := by simp
  rw [e]
  unfold zprim
  rw [if_pos rfl, if_neg (by decide), if_neg (by decide), if_pos rfl]
  simp only
  rw [if_pos hw]
end ZPA
/-! tokens of a text: what both readers read -/
def scan (c : Nat → Bool) : Nat → Nat → Nat
  | 0, p => p
  | f + 1, p => if c p then scan c f (p + 1) else p
theorem scan_no {c : Nat → Bool} {f p : Nat} (h : c p = false) : scan c f p = p := by
  cases f with
  | zero => rfl
  | succ f => unfold scan; rw [if_neg (by rw [h]; decide)]
theorem scan_st {c : Nat → Bool} {n p : Nat} (h : c p = true) (hp : p < n) : scan c (n - p) p = scan c (n - (p + 1)) (p + 1) := by
  obtain ⟨f, e⟩ : ∃ f, n - p = f + 1 := ⟨n - p - 1, by omega⟩
  have e2 : n - (p + 1) = f := by omega
  rw [e, e2]
  show (if c p then scan c f (p + 1) else p) = _
  rw [if_pos h]
theorem scan_sp {c : Nat → Bool} {n : Nat} (hc : ∀ k, c k = true → k < n) : ∀ (f p : Nat), n = p + f → p ≤ scan c f p ∧ scan c f p ≤ n ∧ (∀ j, p ≤ j → j < scan c f p → c j = true) ∧ c (scan c f p) = false := by
  intro f
  induction f with
  | zero =>
    intro p h
    refine ⟨Nat.le_refl _, by show p ≤ n; omega, fun j h1 h2 => absurd h2 (Nat.not_lt.mpr h1), ?_⟩
    show c p = false
    cases e : c p with
    | false => rfl
    | true => have := hc p e; omega
  | succ f ih =>
    intro p h
    cases e : c p with
    | false =>
      rw [scan_no e]
      exact ⟨Nat.le_refl _, by omega, fun j h1 h2 => absurd h2 (Nat.not_lt.mpr h1), e⟩
    | true =>
      have q : scan c (f + 1) p = scan c f (p + 1) := by
        show (if c p then scan c f (p + 1) else p) = _
        rw [if_pos e]
      rw [q]
      obtain ⟨a, b, g, z⟩ := ih (p + 1) (by omega)
      refine ⟨by omega, b, fun j h1 h2 => ?_, z⟩
      rcases Nat.lt_or_ge p j with w | w
      · exact g j (by omega) h2
      · have : j = p := by omega
        subst this
        exact e
def cSp (y : Nat → Int32) (n k : Nat) : Bool := decide (k < n) && decide (y k = 32)
def cIn (lo hi : Int32) (y : Nat → Int32) (n k : Nat) : Bool := decide (k < n) && (decide (lo ≤ y k) && decide (y k ≤ hi))
/-- where the token at p begins; where it ends; its sort: 0 none left, 1 none, 2 a word, 3 a number, 59 -/
def tS (y : Nat → Int32) (n p : Nat) : Nat := scan (cSp y n) (n - p) p
def tE0 (y : Nat → Int32) (n s : Nat) : Nat := if n ≤ s then s else if y s = 59 then s + 1 else if cIn 97 122 y n s then scan (cIn 97 122 y n) (n - s) s else if cIn 48 57 y n s then scan (cIn 48 57 y n) (n - s) s else s + 1
def tT0 (y : Nat → Int32) (n s : Nat) : Int32 := if n ≤ s then 0 else if y s = 59 then 59 else if cIn 97 122 y n s then (if scan (cIn 97 122 y n) (n - s) s - s ≤ 8 then 2 else 1) else if cIn 48 57 y n s then (if scan (cIn 48 57 y n) (n - s) s - s ≤ 4 then 3 else 1) else 1
def tE (y : Nat → Int32) (n p : Nat) : Nat := tE0 y n (tS y n p)
def tT (y : Nat → Int32) (n p : Nat) : Int32 := tT0 y n (tS y n p)
theorem cSp_lt {y : Nat → Int32} {n k : Nat} (h : cSp y n k = true) : k < n := by
  unfold cSp at h
  simp only [Bool.and_eq_true, decide_eq_true_eq] at h
  exact h.1
theorem cIn_lt {lo hi : Int32} {y : Nat → Int32} {n k : Nat} (h : cIn lo hi y n k = true) : k < n := by
  unfold cIn at h
  simp only [Bool.and_eq_true, decide_eq_true_eq] at h
  exact h.1
theorem tS_sp {y : Nat → Int32} {n p : Nat} (hp : p ≤ n) : p ≤ tS y n p ∧ tS y n p ≤ n ∧ cSp y n (tS y n p) = false := by
  obtain ⟨a, b, c, d⟩ := scan_sp (c := cSp y n) (n := n) (fun k h => cSp_lt h) (n - p) p (by omega)
  exact ⟨a, b, d⟩
theorem run_sp {lo hi : Int32} {y : Nat → Int32} {n s : Nat} (hs : s ≤ n) : s ≤ scan (cIn lo hi y n) (n - s) s ∧ scan (cIn lo hi y n) (n - s) s ≤ n ∧ (∀ j, s ≤ j → j < scan (cIn lo hi y n) (n - s) s → cIn lo hi y n j = true) ∧ cIn lo hi y n (scan (cIn lo hi y n) (n - s) s) = false :=
  scan_sp (c := cIn lo hi y n) (n := n) (fun k h => cIn_lt h) (n - s) s (by omega)
theorem run_gt {lo hi : Int32} {y : Nat → Int32} {n s : Nat} (h : cIn lo hi y n s = true) : s < scan (cIn lo hi y n) (n - s) s := by
  have hs := cIn_lt h
  rw [scan_st h hs]
  have := (run_sp (lo := lo) (hi := hi) (y := y) (n := n) (s := s + 1) (by omega)).1
  omega
theorem tE_sp {y : Nat → Int32} {n p : Nat} (hp : p ≤ n) : tS y n p ≤ tE y n p ∧ tE y n p ≤ n ∧ (tT y n p ≠ 0 → tS y n p < tE y n p) := by
  obtain ⟨a, b, c⟩ := tS_sp (y := y) hp
  unfold tE tT tE0 tT0
  generalize tS y n p = s at a b c ⊢
  split
  · exact ⟨Nat.le_refl _, b, fun z => absurd rfl z⟩
  · split
    · exact ⟨by omega, by omega, fun _ => by omega⟩
    · split
      · next q => have := run_gt q; have := (run_sp (lo := 97) (hi := 122) (y := y) b).2.1; exact ⟨by omega, by omega, fun _ => by omega⟩
      · split
        · next q => have := run_gt q; have := (run_sp (lo := 48) (hi := 57) (y := y) b).2.1; exact ⟨by omega, by omega, fun _ => by omega⟩
        · exact ⟨by omega, by omega, fun _ => by omega⟩
/-! writes that meet -/
theorem zH_xt {h h' : zH} (e1 : h'.1 = h.1) (e2 : ∀ a k, h'.2.1 a k = h.2.1 a k) (e3 : h'.2.2 = h.2.2) : h' = h := by
  obtain ⟨a, b, c⟩ := h
  obtain ⟨a', b', c'⟩ := h'
  have f1 : a' = a := e1
  have f3 : c' = c := e3
  have f2 : b' = b := funext (fun x => funext (fun k => e2 x k))
  rw [f1, f2, f3]
theorem zsI_self {h : zH} {a k : Nat} {v : Int32} (e : h.2.1 a k = v) : zsI h a k v = h := by
  refine zH_xt rfl (fun b j => ?_) rfl
  rw [zsI_at]
  split
  · next q => rw [q.1, q.2, e]
  · rfl
theorem zsI_two {h : zH} {a k : Nat} {v w : Int32} : zsI (zsI h a k v) a k w = zsI h a k w := by
  refine zH_xt rfl (fun b j => ?_) rfl
  rw [zsI_at, zsI_at, zsI_at]
  split
  · rfl
  · rfl
theorem zsI_eq {h : zH} {a k : Nat} {v : Int32} : (zsI h a k v).2.1 a k = v := by rw [zsI_at, if_pos ⟨rfl, rfl⟩]
theorem zsI_cm {h : zH} {a k b j : Nat} {v w : Int32} (hn : ¬ (a = b ∧ k = j)) : zsI (zsI h a k v) b j w = zsI (zsI h b j w) a k v := by
  refine zH_xt rfl (fun x i => ?_) rfl
  rw [zsI_at, zsI_at, zsI_at, zsI_at]
  by_cases c1 : x = b ∧ i = j
  · by_cases c2 : x = a ∧ i = k
    · exact absurd ⟨c2.1.symm.trans c1.1, c2.2.symm.trans c1.2⟩ hn
    · rw [if_pos c1, if_neg c2, if_pos c1]
  · rw [if_neg c1, if_neg c1]
theorem nI_sub {a b : Nat} (h : b ≤ a) : nI a - nI b = nI (a - b) := by
  have e := nI_add (a - b) b
  rw [Nat.sub_add_cancel h] at e
  rw [← e]
  exact Int32.add_sub_cancel _ _
/-! the reader of the class: tokens -/
def rx (y : Nat → Int32) (n c : Nat) (h : zH) : Prop := h.1 = hh_487.1 ∧ (∀ a k b, wd.2.2.1 a k = some b → h.2.2.2.1 a k = some b) ∧ h.2.2.2.1 82 6 = some c ∧ h.2.1 1 = y ∧ h.2.1 82 1 = nI n ∧ n ≤ 1000
theorem sh_0 : zsh hh_487 0 = some (11, 16) := by decide +kernel
theorem sh_1 : zsh hh_487 1 = some (13, 1000) := by decide +kernel
theorem sh_82 : zsh hh_487 82 = some (5, 13) := by decide +kernel
theorem sh_83 : zsh hh_487 83 = some (15, 20) := by decide +kernel
theorem sh_84 : zsh hh_487 84 = some (14, 20) := by decide +kernel
theorem sh_85 : zsh hh_487 85 = some (14, 20) := by decide +kernel
theorem rf_82_0 : wd.2.2.1 82 0 = some 1 := by decide +kernel
theorem rf_82_7 : wd.2.2.1 82 7 = some 83 := by decide +kernel
theorem rf_82_8 : wd.2.2.1 82 8 = some 84 := by decide +kernel
theorem rf_82_9 : wd.2.2.1 82 9 = some 85 := by decide +kernel
section RDT
variable {y : Nat → Int32} {n c d N : Nat} {h : zH} {Q : Option zV → zH → Prop}
theorem rx.sh (hx : rx y n c h) {a : Nat} {q : Option (Nat × Nat)} (e : zsh hh_487 a = q) : zsh h a = q := by
  unfold zsh
  rw [hx.1]
  exact e
theorem rx.zs {k : Nat} {v : Int32} (hx : rx y n c h) (hk : k ≠ 1) : rx y n c (zsI h 82 k v) := by
  obtain ⟨a, b, c1, e, f, g⟩ := hx
  refine ⟨a, b, c1, ?_, ?_, g⟩
  · funext j
    rw [zsI_no (by omega)]
    rw [e]
  · rw [zsI_no (fun z => hk z.2.symm)]
    exact f
theorem byte_at {j : Int32} {p : Nat} (hj : j = nI p) (hp : p ≤ 1000) (e : h.2.1 1 = y) : h.2.1 1 j.toNatClampNeg = y p := by
  rw [hj, nI_clamp (by omega), e]
theorem c_skip {ls : zL} (hl0 : zget ls 0 = some (.inr (.inr (some 82)))) : ∀ (N p : Nat) (h : zH), rx y n c h → h.2.1 82 2 = nI p → p ≤ n → (∀ N', N' ≤ N → zPn N' none d mX5_nextToken (38, ls, [], zsI h 82 2 (nI (tS y n p))) Q) → zPn N none d mX5_nextToken (0, ls, [], h) Q := by
  intro N
  induction N with
  | zero => intro p h _ _ _ _; exact zPn.zero
  | succ N ih =>
    intro p h hx hat hp K
    have s82 := hx.sh sh_82
    have s1 := hx.sh sh_1
    have r82_0 := hx.2.1 _ _ _ rf_82_0
    have hn := hx.2.2.2.2.2
    refine pa_aload_n (pc' := 1) dX5_nextToken_0 hl0 rfl ?_
    refine pa_getI (pc' := 4) (n := 13) dX5_nextToken_1 fl_5_15 s82 (by decide) hat rfl ?_
    refine pa_aload_n (pc' := 5) dX5_nextToken_4 hl0 rfl ?_
    refine pa_getI (pc' := 8) (n := 13) dX5_nextToken_5 fl_5_9 s82 (by decide) hx.2.2.2.2.1 rfl ?_
    refine pa_icmp (pc' := 38) (pc2 := 11) dX5_nextToken_8 (by decide) rfl (fun cd => ?_) (fun cd => ?_)
    · have cd := zi_nlt (zk_ge_lt cd)
      rw [nI_toInt (by omega), nI_toInt (by omega)] at cd
      have e : tS y n p = p := scan_no (by unfold cSp; rw [decide_eq_false (by omega)]; rfl)
      have := K (N + 1) (Nat.le_refl _)
      rw [e, zsI_self hat] at this
      exact this
    · have cd := zi_lt (zk_ge_lt cd)
      rw [nI_toInt (by omega), nI_toInt (by omega)] at cd
      refine pa_aload_n (pc' := 12) dX5_nextToken_11 hl0 rfl ?_
      refine pa_getR (pc' := 15) (n := 13) (r := 1) dX5_nextToken_12 fl_5_47 s82 (by decide) r82_0 rfl ?_
      refine pa_aload_n (pc' := 16) dX5_nextToken_15 hl0 rfl ?_
      refine pa_getI (pc' := 19) (n := 13) dX5_nextToken_16 fl_5_15 s82 (by decide) hat rfl ?_
      refine pa_bald (pc' := 20) (n := 1000) dX5_nextToken_19 s1 rfl (fun _ => ?_)
      rw [byte_at rfl (by omega) hx.2.2.2.1]
      refine pa_bipush (v := 32) (pc' := 22) dX5_nextToken_20 (by decide) rfl ?_
      refine pa_icmp (pc' := 38) (pc2 := 25) dX5_nextToken_22 (by decide) rfl (fun cd2 => ?_) (fun cd2 => ?_)
      · have cd2 : ¬ y p = 32 := by simpa [zcond] using cd2
        have e : tS y n p = p := scan_no (by unfold cSp; rw [decide_eq_false cd2]; simp)
        have := K (N + 1) (Nat.le_refl _)
        rw [e, zsI_self hat] at this
        exact this
      · have cd2 : y p = 32 := by simpa [zcond] using cd2
        refine pa_aload_n (pc' := 26) dX5_nextToken_25 hl0 rfl ?_
        refine pa_dup (pc' := 27) dX5_nextToken_26 rfl rfl ?_
        refine pa_getI (pc' := 30) (n := 13) dX5_nextToken_27 fl_5_15 s82 (by decide) hat rfl ?_
        refine pa_iconst (v := nI 1) (pc' := 31) dX5_nextToken_30 (by decide) rfl ?_
        refine pa_iadd (pc' := 32) (v := nI (p + 1)) dX5_nextToken_31 (nI_add _ _) rfl ?_
        refine pa_putI (pc' := 35) (n := 13) dX5_nextToken_32 fl_5_15 s82 (Or.inl rfl) (Or.inl rfl) rfl ?_
        refine pa_gotos (pc' := 0) dX5_nextToken_35 (by decide) ?_
        refine ih (p + 1) _ (hx.zs (by decide)) zsI_eq (by omega) (fun N' hN => ?_)
        rw [zsI_two]
        have e : tS y n p = tS y n (p + 1) := scan_st (c := cSp y n) (by unfold cSp; rw [decide_eq_true (by omega), decide_eq_true cd2]; rfl) (by omega)
        rw [← e]
        exact K N' (by omega)
/-- passAll: on over all between two letters -/
theorem c_passN {lo hi : Int32} {s : Nat} {ls : zL} (hl0 : zget ls 0 = some (.inr (.inr (some 82)))) (hl1 : zget ls 1 = some (.inl lo)) (hl2 : zget ls 2 = some (.inl hi)) : ∀ (N p : Nat) (h : zH), rx y n c h → h.2.1 82 2 = nI p → h.2.1 82 4 = nI s → s ≤ p → p ≤ n → zPn N none d mX5_passAll (0, ls, [], h) (fun v h' => h' = zsI h 82 2 (nI (scan (cIn lo hi y n) (n - p) p)) ∧ v = some (.inl (if s < scan (cIn lo hi y n) (n - p) p then 1 else 0))) := by
  intro N
  induction N with
  | zero => intro p h _ _ _ _ _; exact zPn.zero
  | succ N ih =>
    intro p h hx hat hst hsp hp
    have s82 := hx.sh sh_82
    have s1 := hx.sh sh_1
    have r82_0 := hx.2.1 _ _ _ rf_82_0
    have hn := hx.2.2.2.2.2
    have fin : cIn lo hi y n p = false → zPn (N + 1) none d mX5_passAll (50, ls, [], h) (fun v h' => h' = zsI h 82 2 (nI (scan (cIn lo hi y n) (n - p) p)) ∧ v = some (.inl (if s < scan (cIn lo hi y n) (n - p) p then 1 else 0))) := by
      intro e
      rw [scan_no e, zsI_self hat]
      refine pa_aload_n (pc' := 51) dX5_passAll_50 hl0 rfl ?_
      refine pa_getI (pc' := 54) (n := 13) dX5_passAll_51 fl_5_15 s82 (by decide) hat rfl ?_
      refine pa_aload_n (pc' := 55) dX5_passAll_54 hl0 rfl ?_
      refine pa_getI (pc' := 58) (n := 13) dX5_passAll_55 fl_5_21 s82 (by decide) hst rfl ?_
      refine pa_icmp (pc' := 65) (pc2 := 61) dX5_passAll_58 (by decide) rfl (fun cd => ?_) (fun cd => ?_)
      · have cd := zi_ngt (zk_le_gt cd)
        rw [nI_toInt (by omega), nI_toInt (by omega)] at cd
        refine pa_iconst (v := 0) (pc' := 66) dX5_passAll_65 (by decide) rfl ?_
        refine pa_iret dX5_passAll_66 rfl rfl ⟨rfl, ?_⟩
        rw [if_neg (by omega)]
      · have cd := zi_gt (zk_le_gt cd)
        rw [nI_toInt (by omega), nI_toInt (by omega)] at cd
        refine pa_iconst (v := 1) (pc' := 62) dX5_passAll_61 (by decide) rfl ?_
        refine pa_goto (pc' := 66) dX5_passAll_62 (by decide) ?_
        refine pa_iret dX5_passAll_66 rfl rfl ⟨rfl, ?_⟩
        rw [if_pos (by omega)]
    refine pa_aload_n (pc' := 1) dX5_passAll_0 hl0 rfl ?_
    refine pa_getI (pc' := 4) (n := 13) dX5_passAll_1 fl_5_15 s82 (by decide) hat rfl ?_
    refine pa_aload_n (pc' := 5) dX5_passAll_4 hl0 rfl ?_
    refine pa_getI (pc' := 8) (n := 13) dX5_passAll_5 fl_5_9 s82 (by decide) hx.2.2.2.2.1 rfl ?_
    refine pa_icmp (pc' := 50) (pc2 := 11) dX5_passAll_8 (by decide) rfl (fun cd => ?_) (fun cd => ?_)
    · have cd := zi_nlt (zk_ge_lt cd)
      rw [nI_toInt (by omega), nI_toInt (by omega)] at cd
      exact fin (by unfold cIn; rw [decide_eq_false (by omega)]; rfl)
    · have cd := zi_lt (zk_ge_lt cd)
      rw [nI_toInt (by omega), nI_toInt (by omega)] at cd
      refine pa_aload_n (pc' := 12) dX5_passAll_11 hl0 rfl ?_
      refine pa_getR (pc' := 15) (n := 13) (r := 1) dX5_passAll_12 fl_5_47 s82 (by decide) r82_0 rfl ?_
      refine pa_aload_n (pc' := 16) dX5_passAll_15 hl0 rfl ?_
      refine pa_getI (pc' := 19) (n := 13) dX5_passAll_16 fl_5_15 s82 (by decide) hat rfl ?_
      refine pa_bald (pc' := 20) (n := 1000) dX5_passAll_19 s1 rfl (fun _ => ?_)
      rw [byte_at rfl (by omega) hx.2.2.2.1]
      refine pa_iload_n (pc' := 21) dX5_passAll_20 hl1 rfl ?_
      refine pa_icmp (pc' := 50) (pc2 := 24) dX5_passAll_21 (by decide) rfl (fun cd2 => ?_) (fun cd2 => ?_)
      · have cd2 : y p < lo := by simpa [zcond] using cd2
        exact fin (by unfold cIn; rw [decide_eq_false (show ¬ lo ≤ y p by rw [Int32.le_iff_toInt_le]; rw [Int32.lt_iff_toInt_lt] at cd2; omega)]; simp)
      · have cd2 : ¬ y p < lo := by simpa [zcond] using cd2
        refine pa_aload_n (pc' := 25) dX5_passAll_24 hl0 rfl ?_
        refine pa_getR (pc' := 28) (n := 13) (r := 1) dX5_passAll_25 fl_5_47 s82 (by decide) r82_0 rfl ?_
        refine pa_aload_n (pc' := 29) dX5_passAll_28 hl0 rfl ?_
        refine pa_getI (pc' := 32) (n := 13) dX5_passAll_29 fl_5_15 s82 (by decide) hat rfl ?_
        refine pa_bald (pc' := 33) (n := 1000) dX5_passAll_32 s1 rfl (fun _ => ?_)
        rw [byte_at rfl (by omega) hx.2.2.2.1]
        refine pa_iload_n (pc' := 34) dX5_passAll_33 hl2 rfl ?_
        refine pa_icmp (pc' := 50) (pc2 := 37) dX5_passAll_34 (by decide) rfl (fun cd3 => ?_) (fun cd3 => ?_)
        · have cd3 : hi < y p := by simpa [zcond] using cd3
          exact fin (by unfold cIn; rw [decide_eq_false (show ¬ y p ≤ hi by rw [Int32.le_iff_toInt_le]; rw [Int32.lt_iff_toInt_lt] at cd3; omega)]; simp)
        · have cd3 : ¬ hi < y p := by simpa [zcond] using cd3
          refine pa_aload_n (pc' := 38) dX5_passAll_37 hl0 rfl ?_
          refine pa_dup (pc' := 39) dX5_passAll_38 rfl rfl ?_
          refine pa_getI (pc' := 42) (n := 13) dX5_passAll_39 fl_5_15 s82 (by decide) hat rfl ?_
          refine pa_iconst (v := nI 1) (pc' := 43) dX5_passAll_42 (by decide) rfl ?_
          refine pa_iadd (pc' := 44) (v := nI (p + 1)) dX5_passAll_43 (nI_add _ _) rfl ?_
          refine pa_putI (pc' := 47) (n := 13) dX5_passAll_44 fl_5_15 s82 (Or.inl rfl) (Or.inl rfl) rfl ?_
          refine pa_gotos (pc' := 0) dX5_passAll_47 (by decide) ?_
          have e : scan (cIn lo hi y n) (n - p) p = scan (cIn lo hi y n) (n - (p + 1)) (p + 1) := scan_st (c := cIn lo hi y n) (by
            unfold cIn
            rw [decide_eq_true (show p < n by omega), decide_eq_true (show lo ≤ y p by rw [Int32.le_iff_toInt_le]; rw [Int32.lt_iff_toInt_lt] at cd2; omega), decide_eq_true (show y p ≤ hi by rw [Int32.le_iff_toInt_le]; rw [Int32.lt_iff_toInt_lt] at cd3; omega)]
            rfl) (by omega)
          refine (ih (p + 1) _ (hx.zs (by decide)) zsI_eq (by rw [zsI_no (by omega)]; exact hst) (by omega) (by omega)).mono (fun v h' hq => ?_)
          rw [zsI_two, ← e] at hq
          exact hq
theorem c_pass {lo hi : Int32} {s p : Nat} (hx : rx y n c h) (hat : h.2.1 82 2 = nI p) (hst : h.2.1 82 4 = nI s) (hsp : s ≤ p) (hp : p ≤ n) : zPa d mX5_passAll [.inr (.inr (some 82)), .inl lo, .inl hi] h (fun v h' => h' = zsI h 82 2 (nI (scan (cIn lo hi y n) (n - p) p)) ∧ v = some (.inl (if s < scan (cIn lo hi y n) (n - p) p then 1 else 0))) :=
  fun N => c_passN rfl rfl rfl N p h hx hat hst hsp hp
end RDT
/-! the reader of the class: one token, words, numbers, names -/
def cT (t : Int32) : Int32 := if t = 0 then 0 else if t = 2 then 1 else if t = 3 then 2 else if t = 59 then 3 else 4
def tk (h : zH) (e s : Nat) (t : Int32) : zH := zsI (zsI (zsI h 82 2 (nI e)) 82 4 (nI s)) 82 3 t
def nx (y : Nat → Int32) (n p : Nat) (h h' : zH) : Prop := ∃ e, h' = tk h e (tS y n p) (cT (tT y n p)) ∧ (tT y n p ≠ 1 → e = tE y n p)
def flt (k : Int32) (s : Nat) (h h' : zH) : Prop := h' = zsI (zsI h 82 11 k) 82 12 (nI s)
def ct (y : Nat → Int32) (n c p : Nat) (h : zH) : Prop := rx y n c h ∧ p ≤ n ∧ h.2.1 82 4 = nI (tS y n p) ∧ h.2.1 82 3 = cT (tT y n p) ∧ (tT y n p ≠ 1 → h.2.1 82 2 = nI (tE y n p))
def wIs (y : Nat → Int32) (n p : Nat) (bs : List Int32) : Prop := tT y n p = 2 ∧ tE y n p - tS y n p = bs.length ∧ ∀ k, k < bs.length → y (tS y n p + k) = bs.getD k 0
def numF (y : Nat → Int32) : Nat → Nat → Int32 → Int32
  | 0, _, v => v
  | k + 1, s, v => numF y k (s + 1) (v * 10 + (y s - 48))
def tNum (y : Nat → Int32) (n p : Nat) : Int32 := numF y (tE y n p - tS y n p) (tS y n p) 0
def letF (y : Nat → Int32) : Nat → Nat → Int64 → Int64
  | 0, _, v => v
  | k + 1, s, v => letF y k (s + 1) (v <<< ((5 : Int32).toInt64 &&& 63) ||| (y s - 97 + 1).toInt64)
def tLet (y : Nat → Int32) (n p : Nat) : Int64 := letF y (tE y n p - tS y n p) (tS y n p) 0
section RDU
variable {y : Nat → Int32} {n c d N p : Nat} {h h' : zH} {Q : Option zV → zH → Prop}
theorem nx.ct (hx : rx y n c h) (hp : p ≤ n) (k : nx y n p h h') : ct y n c p h' := by
  obtain ⟨e, e1, e2⟩ := k
  subst e1
  refine ⟨((hx.zs (by decide)).zs (by decide)).zs (by decide), hp, ?_, zsI_eq, fun z => ?_⟩
  · show (zsI (zsI (zsI h 82 2 _) 82 4 _) 82 3 _).2.1 82 4 = _
    rw [zsI_no (by omega), zsI_eq]
  · show (zsI (zsI (zsI h 82 2 _) 82 4 _) 82 3 _).2.1 82 2 = _
    rw [zsI_no (by omega), zsI_no (by omega), zsI_eq, e2 z]
theorem nx.at {a k : Nat} (q : nx y n p h h') (hk : ¬ (a = 82 ∧ 2 ≤ k ∧ k ≤ 4)) : h'.2.1 a k = h.2.1 a k := by
  obtain ⟨e, e1, -⟩ := q
  subst e1
  show (zsI (zsI (zsI h 82 2 _) 82 4 _) 82 3 _).2.1 a k = _
  rw [zsI_no (by omega), zsI_no (by omega), zsI_no (by omega)]
theorem nx.rest (q : nx y n p h h') : h'.1 = h.1 ∧ h'.2.2 = h.2.2 := by
  obtain ⟨e, e1, -⟩ := q
  subst e1
  exact ⟨rfl, rfl⟩
theorem c_next (hx : rx y n c h) (hat : h.2.1 82 2 = nI p) (hp : p ≤ n) : zPa d mX5_nextToken [.inr (.inr (some 82))] h (fun v h' => v = none ∧ nx y n p h h') := by
  intro N
  show zPn N none d mX5_nextToken (0, [(0, .inr (.inr (some 82)))], [], h) _
  refine c_skip rfl N p h hx hat hp (fun N _ => ?_)
  obtain ⟨t1, t2, t3⟩ := tS_sp (y := y) hp
  have hn := hx.2.2.2.2.2
  have s82 := hx.sh sh_82
  have s1 := hx.sh sh_1
  have r82_0 := hx.2.1 _ _ _ rf_82_0
  obtain ⟨s, es⟩ : ∃ s, s = tS y n p := ⟨_, rfl⟩
  have eT : tT y n p = tT0 y n s := by rw [es]; rfl
  have eE : tE y n p = tE0 y n s := by rw [es]; rfl
  rw [← es] at t1 t2 t3 ⊢
  have fin : ∀ (e : Nat) (tt : Int32) (g : zH), g = zsI (zsI h 82 2 (nI e)) 82 4 (nI s) → tt = cT (tT0 y n s) → (tT0 y n s ≠ 1 → e = tE0 y n s) → nx y n p h (zsI g 82 3 tt) := by
    intro e tt g eg et ee
    refine ⟨e, ?_, fun z => ?_⟩
    · rw [eg, et, ← es, eT]
      rfl
    · rw [eT] at z
      rw [eE]
      exact ee z
  have h2e : zsI (zsI h 82 2 (nI s)) 82 4 (nI s) = zsI (zsI h 82 2 (nI s)) 82 4 (nI s) := rfl
  have hx1 : rx y n c (zsI h 82 2 (nI s)) := hx.zs (by decide)
  have hx2 : rx y n c (zsI (zsI h 82 2 (nI s)) 82 4 (nI s)) := hx1.zs (by decide)
  have a1 : (zsI h 82 2 (nI s)).2.1 82 2 = nI s := zsI_eq
  refine pa_aload_n (pc' := 39) dX5_nextToken_38 rfl rfl ?_
  refine pa_aload_n (pc' := 40) dX5_nextToken_39 rfl rfl ?_
  refine pa_getI (pc' := 43) (n := 13) dX5_nextToken_40 fl_5_15 s82 (by decide) a1 rfl ?_
  refine pa_putI (pc' := 46) (n := 13) dX5_nextToken_43 fl_5_21 s82 (Or.inl rfl) (Or.inl rfl) rfl ?_
  have a2 : (zsI (zsI h 82 2 (nI s)) 82 4 (nI s)).2.1 82 2 = nI s := by rw [zsI_no (by omega)]; exact a1
  have a4 : (zsI (zsI h 82 2 (nI s)) 82 4 (nI s)).2.1 82 4 = nI s := zsI_eq
  have en := hx2.2.2.2.2.1
  have ey := hx2.2.2.2.1
  generalize hg : zsI (zsI h 82 2 (nI s)) 82 4 (nI s) = g at a2 a4 en ey hx2 ⊢
  have s82 := hx2.sh sh_82
  have s1 := hx2.sh sh_1
  have r82_0 := hx2.2.1 _ _ _ rf_82_0
  refine pa_aload_n (pc' := 47) dX5_nextToken_46 rfl rfl ?_
  refine pa_getI (pc' := 50) (n := 13) dX5_nextToken_47 fl_5_15 s82 (by decide) a2 rfl ?_
  refine pa_aload_n (pc' := 51) dX5_nextToken_50 rfl rfl ?_
  refine pa_getI (pc' := 54) (n := 13) dX5_nextToken_51 fl_5_9 s82 (by decide) en rfl ?_
  refine pa_icmp (pc' := 65) (pc2 := 57) dX5_nextToken_54 (by decide) rfl (fun cd => ?_) (fun cd => ?_)
  · have cd := zi_lt cd
    rw [nI_toInt (by omega), nI_toInt (by omega)] at cd
    refine pa_aload_n (pc' := 66) dX5_nextToken_65 rfl rfl ?_
    refine pa_getR (pc' := 69) (n := 13) (r := 1) dX5_nextToken_66 fl_5_47 s82 (by decide) r82_0 rfl ?_
    refine pa_aload_n (pc' := 70) dX5_nextToken_69 rfl rfl ?_
    refine pa_getI (pc' := 73) (n := 13) dX5_nextToken_70 fl_5_15 s82 (by decide) a2 rfl ?_
    refine pa_bald (pc' := 74) (n := 1000) dX5_nextToken_73 s1 rfl (fun _ => ?_)
    rw [byte_at rfl (by omega) ey]
    refine pa_bipush (v := 59) (pc' := 76) dX5_nextToken_74 (by decide) rfl ?_
    refine pa_icmp (pc' := 97) (pc2 := 79) dX5_nextToken_76 (by decide) rfl (fun cd2 => ?_) (fun cd2 => ?_)
    · have cd2 : ¬ y s = 59 := by simpa [zcond] using cd2
      refine pa_aload_n (pc' := 98) dX5_nextToken_97 rfl rfl ?_
      refine pa_bipush (v := 97) (pc' := 100) dX5_nextToken_98 (by decide) rfl ?_
      refine pa_bipush (v := 122) (pc' := 102) dX5_nextToken_100 (by decide) rfl ?_
      refine pa_callv (pc' := 105) (vs := [.inl 97, .inl 122]) (rest := []) dX5_nextToken_102 ml_5_278 (by decide) rfl rfl rfl (fun d' _ => c_pass hx2 a2 a4 (Nat.le_refl _) (by omega)) (fun r g1 hq => ?_)
      obtain ⟨eg, er⟩ := hq
      subst er
      obtain ⟨u1, u2, u3, u4⟩ := run_sp (lo := 97) (hi := 122) (y := y) t2
      obtain ⟨e, ee⟩ : ∃ e, e = scan (cIn 97 122 y n) (n - s) s := ⟨_, rfl⟩
      rw [← ee] at eg u1 u2 u3 u4 ⊢
      have eg2 : g1 = zsI (zsI h 82 2 (nI e)) 82 4 (nI s) := by rw [eg, ← hg, zsI_cm (by omega), zsI_two]
      have b2 : g1.2.1 82 2 = nI e := by rw [eg]; exact zsI_eq
      have b4 : g1.2.1 82 4 = nI s := by rw [eg, zsI_no (by omega)]; exact a4
      have hx3 : rx y n c g1 := by rw [eg]; exact hx2.zs (by decide)
      have s82 := hx3.sh sh_82
      by_cases cw : cIn 97 122 y n s = true
      · have hgt : s < e := by rw [ee]; exact run_gt cw
        rw [if_pos hgt]
        refine pa_if_f (pc' := 108) dX5_nextToken_105 (by decide) (by decide) rfl ?_
        refine pa_aload_n (pc' := 109) dX5_nextToken_108 rfl rfl ?_
        refine pa_aload_n (pc' := 110) dX5_nextToken_109 rfl rfl ?_
        refine pa_getI (pc' := 113) (n := 13) dX5_nextToken_110 fl_5_15 s82 (by decide) b2 rfl ?_
        refine pa_aload_n (pc' := 114) dX5_nextToken_113 rfl rfl ?_
        refine pa_getI (pc' := 117) (n := 13) dX5_nextToken_114 fl_5_21 s82 (by decide) b4 rfl ?_
        refine pa_isub (pc' := 118) (v := nI (e - s)) dX5_nextToken_117 (nI_sub (Nat.le_of_lt hgt)) rfl ?_
        refine pa_bipush (v := nI 8) (pc' := 120) dX5_nextToken_118 (by decide) rfl ?_
        refine pa_icmp (pc' := 127) (pc2 := 123) dX5_nextToken_120 (by decide) rfl (fun cd3 => ?_) (fun cd3 => ?_)
        · have cd3 := zi_gt cd3
          rw [nI_toInt (by omega), nI_toInt (by omega)] at cd3
          have et : tT0 y n s = 1 := by unfold tT0; rw [if_neg (by omega), if_neg cd2, if_pos cw, ← ee, if_neg (by omega)]
          refine pa_iconst (v := 4) (pc' := 128) dX5_nextToken_127 (by decide) rfl ?_
          refine pa_putI (pc' := 131) (n := 13) dX5_nextToken_128 fl_5_18 s82 (Or.inl rfl) (Or.inl rfl) rfl ?_
          refine pa_goto (pc' := 175) dX5_nextToken_131 (by decide) ?_
          refine pa_vret dX5_nextToken_175 rfl ⟨rfl, fin e _ _ eg2 (by rw [et]; decide) (fun z => absurd et z)⟩
        · have cd3 := zi_ngt cd3
          rw [nI_toInt (by omega), nI_toInt (by omega)] at cd3
          have et : tT0 y n s = 2 := by unfold tT0; rw [if_neg (by omega), if_neg cd2, if_pos cw, ← ee, if_pos (by omega)]
          refine pa_iconst (v := 1) (pc' := 124) dX5_nextToken_123 (by decide) rfl ?_
          refine pa_goto (pc' := 128) dX5_nextToken_124 (by decide) ?_
          refine pa_putI (pc' := 131) (n := 13) dX5_nextToken_128 fl_5_18 s82 (Or.inl rfl) (Or.inl rfl) rfl ?_
          refine pa_goto (pc' := 175) dX5_nextToken_131 (by decide) ?_
          refine pa_vret dX5_nextToken_175 rfl ⟨rfl, fin e _ _ eg2 (by rw [et]; decide) (fun _ => by unfold tE0; rw [if_neg (by omega), if_neg cd2, if_pos cw, ee])⟩
      · have ees : e = s := by rw [ee]; exact scan_no (by simpa using cw)
        rw [if_neg (by omega)]
        refine pa_if_t (pc' := 134) dX5_nextToken_105 (by decide) (by decide) ?_
        refine pa_aload_n (pc' := 135) dX5_nextToken_134 rfl rfl ?_
        refine pa_bipush (v := 48) (pc' := 137) dX5_nextToken_135 (by decide) rfl ?_
        refine pa_bipush (v := 57) (pc' := 139) dX5_nextToken_137 (by decide) rfl ?_
        refine pa_callv (pc' := 142) (vs := [.inl 48, .inl 57]) (rest := []) dX5_nextToken_139 ml_5_278 (by decide) rfl rfl rfl (fun d' _ => c_pass hx3 (by rw [b2, ees]) b4 (Nat.le_refl _) (by omega)) (fun r g2 hq => ?_)
        obtain ⟨eg3, er⟩ := hq
        subst er
        obtain ⟨u1, u2, u3, u4⟩ := run_sp (lo := 48) (hi := 57) (y := y) t2
        obtain ⟨q, eq⟩ : ∃ q, q = scan (cIn 48 57 y n) (n - s) s := ⟨_, rfl⟩
        rw [← eq] at eg3 u1 u2 u3 u4 ⊢
        have eg4 : g2 = zsI (zsI h 82 2 (nI q)) 82 4 (nI s) := by rw [eg3, eg2, zsI_cm (by omega), zsI_two]
        have b2 : g2.2.1 82 2 = nI q := by rw [eg3]; exact zsI_eq
        have b4 : g2.2.1 82 4 = nI s := by rw [eg3, zsI_no (by omega)]; exact b4
        have hx4 : rx y n c g2 := by rw [eg3]; exact hx3.zs (by decide)
        have s82 := hx4.sh sh_82
        by_cases cq : cIn 48 57 y n s = true
        · have hgt : s < q := by rw [eq]; exact run_gt cq
          rw [if_pos hgt]
          refine pa_if_f (pc' := 145) dX5_nextToken_142 (by decide) (by decide) rfl ?_
          refine pa_aload_n (pc' := 146) dX5_nextToken_145 rfl rfl ?_
          refine pa_aload_n (pc' := 147) dX5_nextToken_146 rfl rfl ?_
          refine pa_getI (pc' := 150) (n := 13) dX5_nextToken_147 fl_5_15 s82 (by decide) b2 rfl ?_
          refine pa_aload_n (pc' := 151) dX5_nextToken_150 rfl rfl ?_
          refine pa_getI (pc' := 154) (n := 13) dX5_nextToken_151 fl_5_21 s82 (by decide) b4 rfl ?_
          refine pa_isub (pc' := 155) (v := nI (q - s)) dX5_nextToken_154 (nI_sub (Nat.le_of_lt hgt)) rfl ?_
          refine pa_iconst (v := nI 4) (pc' := 156) dX5_nextToken_155 (by decide) rfl ?_
          refine pa_icmp (pc' := 163) (pc2 := 159) dX5_nextToken_156 (by decide) rfl (fun cd3 => ?_) (fun cd3 => ?_)
          · have cd3 := zi_gt cd3
            rw [nI_toInt (by omega), nI_toInt (by omega)] at cd3
            have et : tT0 y n s = 1 := by unfold tT0; rw [if_neg (by omega), if_neg cd2, if_neg cw, if_pos cq, ← eq, if_neg (by omega)]
            refine pa_iconst (v := 4) (pc' := 164) dX5_nextToken_163 (by decide) rfl ?_
            refine pa_putI (pc' := 167) (n := 13) dX5_nextToken_164 fl_5_18 s82 (Or.inl rfl) (Or.inl rfl) rfl ?_
            refine pa_goto (pc' := 175) dX5_nextToken_167 (by decide) ?_
            refine pa_vret dX5_nextToken_175 rfl ⟨rfl, fin q _ _ eg4 (by rw [et]; decide) (fun z => absurd et z)⟩
          · have cd3 := zi_ngt cd3
            rw [nI_toInt (by omega), nI_toInt (by omega)] at cd3
            have et : tT0 y n s = 3 := by unfold tT0; rw [if_neg (by omega), if_neg cd2, if_neg cw, if_pos cq, ← eq, if_pos (by omega)]
            refine pa_iconst (v := 2) (pc' := 160) dX5_nextToken_159 (by decide) rfl ?_
            refine pa_goto (pc' := 164) dX5_nextToken_160 (by decide) ?_
            refine pa_putI (pc' := 167) (n := 13) dX5_nextToken_164 fl_5_18 s82 (Or.inl rfl) (Or.inl rfl) rfl ?_
            refine pa_goto (pc' := 175) dX5_nextToken_167 (by decide) ?_
            refine pa_vret dX5_nextToken_175 rfl ⟨rfl, fin q _ _ eg4 (by rw [et]; decide) (fun _ => by unfold tE0; rw [if_neg (by omega), if_neg cd2, if_neg cw, if_pos cq, eq])⟩
        · have eqs : q = s := by rw [eq]; exact scan_no (by simpa using cq)
          rw [if_neg (by omega)]
          refine pa_if_t (pc' := 170) dX5_nextToken_142 (by decide) (by decide) ?_
          have et : tT0 y n s = 1 := by unfold tT0; rw [if_neg (by omega), if_neg cd2, if_neg cw, if_neg cq]
          refine pa_aload_n (pc' := 171) dX5_nextToken_170 rfl rfl ?_
          refine pa_iconst (v := 4) (pc' := 172) dX5_nextToken_171 (by decide) rfl ?_
          refine pa_putI (pc' := 175) (n := 13) dX5_nextToken_172 fl_5_18 s82 (Or.inl rfl) (Or.inl rfl) rfl ?_
          refine pa_vret dX5_nextToken_175 rfl ⟨rfl, fin q _ _ eg4 (by rw [et]; decide) (fun z => absurd et z)⟩
    · have cd2 : y s = 59 := by simpa [zcond] using cd2
      refine pa_aload_n (pc' := 80) dX5_nextToken_79 rfl rfl ?_
      refine pa_dup (pc' := 81) dX5_nextToken_80 rfl rfl ?_
      refine pa_getI (pc' := 84) (n := 13) dX5_nextToken_81 fl_5_15 s82 (by decide) a2 rfl ?_
      refine pa_iconst (v := nI 1) (pc' := 85) dX5_nextToken_84 (by decide) rfl ?_
      refine pa_iadd (pc' := 86) (v := nI (s + 1)) dX5_nextToken_85 (nI_add _ _) rfl ?_
      have et : tT0 y n s = 59 := by unfold tT0; rw [if_neg (by omega), if_pos cd2]
      refine pa_putI (pc' := 89) (n := 13) dX5_nextToken_86 fl_5_15 s82 (Or.inl rfl) (Or.inl rfl) rfl ?_
      refine pa_aload_n (pc' := 90) dX5_nextToken_89 rfl rfl ?_
      refine pa_iconst (v := 3) (pc' := 91) dX5_nextToken_90 (by decide) rfl ?_
      refine pa_putI (pc' := 94) (n := 13) dX5_nextToken_91 fl_5_18 s82 (Or.inl rfl) (Or.inl rfl) rfl ?_
      refine pa_goto (pc' := 175) dX5_nextToken_94 (by decide) ?_
      refine pa_vret dX5_nextToken_175 rfl ⟨rfl, fin (s + 1) _ _ (by rw [← hg, zsI_cm (by omega), zsI_two]) (by rw [et]; decide) (fun _ => by unfold tE0; rw [if_neg (by omega), if_pos cd2])⟩
  · have cd := zi_nlt cd
    rw [nI_toInt (by omega), nI_toInt (by omega)] at cd
    have et : tT0 y n s = 0 := by unfold tT0; rw [if_pos (by omega)]
    refine pa_aload_n (pc' := 58) dX5_nextToken_57 rfl rfl ?_
    refine pa_iconst (v := 0) (pc' := 59) dX5_nextToken_58 (by decide) rfl ?_
    refine pa_putI (pc' := 62) (n := 13) dX5_nextToken_59 fl_5_18 s82 (Or.inl rfl) (Or.inl rfl) rfl ?_
    refine pa_goto (pc' := 175) dX5_nextToken_62 (by decide) ?_
    refine pa_vret dX5_nextToken_175 rfl ⟨rfl, fin s _ _ hg.symm (by rw [et]; decide) (fun _ => by unfold tE0; rw [if_pos (by omega)])⟩
end RDU
section RDV
variable {y : Nat → Int32} {n c d N p : Nat} {h h' : zH} {Q : Option zV → zH → Prop}
theorem ct.tt (k : ct y n c p h) {t : Int32} (ht : t = 0 ∨ t = 2 ∨ t = 3 ∨ t = 59) : (cT (tT y n p) = cT t) ↔ tT y n p = t := by
  refine ⟨fun e => ?_, fun e => by rw [e]⟩
  have h1 : tT y n p = 0 ∨ tT y n p = 2 ∨ tT y n p = 3 ∨ tT y n p = 59 ∨ tT y n p = 1 := by
    unfold tT tT0
    split
    · exact .inl rfl
    · split
      · exact .inr (.inr (.inr (.inl rfl)))
      · split
        · split
          · exact .inr (.inl rfl)
          · exact .inr (.inr (.inr (.inr rfl)))
        · split
          · split
            · exact .inr (.inr (.inl rfl))
            · exact .inr (.inr (.inr (.inr rfl)))
          · exact .inr (.inr (.inr (.inr rfl)))
  rcases h1 with q | q | q | q | q <;> rw [q] at e ⊢ <;> rcases ht with rfl | rfl | rfl | rfl <;> first | rfl | exact absurd e (by decide)
theorem c_flt {k : Int32} {s : Nat} (hx : rx y n c h) (hs : h.2.1 82 4 = nI s) : zPa d mX5_faulty [.inr (.inr (some 82)), .inl k] h (fun v h' => v = some (.inl 0) ∧ flt k s h h') := by
  intro N
  have s82 := hx.sh sh_82
  show zPn N none d mX5_faulty (0, [(0, .inr (.inr (some 82))), (1, .inl k)], [], h) _
  refine pa_aload_n (pc' := 1) dX5_faulty_0 rfl rfl ?_
  refine pa_iload_n (pc' := 2) dX5_faulty_1 rfl rfl ?_
  refine pa_putI (pc' := 5) (n := 13) dX5_faulty_2 fl_5_41 s82 (Or.inl rfl) (Or.inl rfl) rfl ?_
  refine pa_aload_n (pc' := 6) dX5_faulty_5 rfl rfl ?_
  refine pa_aload_n (pc' := 7) dX5_faulty_6 rfl rfl ?_
  refine pa_getI (pc' := 10) (n := 13) (v := nI s) dX5_faulty_7 fl_5_21 s82 (by decide) (by rw [zsI_no (by omega)]; exact hs) rfl ?_
  refine pa_putI (pc' := 13) (n := 13) dX5_faulty_10 fl_5_44 s82 (Or.inl rfl) (Or.inl rfl) rfl ?_
  refine pa_iconst (v := 0) (pc' := 14) dX5_faulty_13 (by decide) rfl ?_
  exact pa_iret dX5_faulty_14 rfl rfl ⟨rfl, rfl⟩
theorem c_isT {a : Nat} {bs : List Int32} (k : ct y n c p h) (hz : zsc a = some bs) : zPa d mX5_isToken [.inr (.inr (some 82)), .inr (.inr (some a))] h (fun v h' => h' = h ∧ ((v = some (.inl 1) ∧ wIs y n p bs) ∨ (v = some (.inl 0) ∧ ¬ wIs y n p bs))) := by
  obtain ⟨hx, hp, hs, ht, he⟩ := k
  have k : ct y n c p h := ⟨hx, hp, hs, ht, he⟩
  have s82 := hx.sh sh_82
  have s1 := hx.sh sh_1
  have r82_0 := hx.2.1 _ _ _ rf_82_0
  have hn := hx.2.2.2.2.2
  obtain ⟨t1, t2, t3⟩ := tS_sp (y := y) hp
  obtain ⟨u1, u2, u3⟩ := tE_sp (y := y) hp
  obtain ⟨-, hl, -⟩ := zsc_get hz
  intro N
  show zPn N none d mX5_isToken (0, [(0, .inr (.inr (some 82))), (1, .inr (.inr (some a)))], [], h) _
  refine pa_aload_n (pc' := 1) dX5_isToken_0 rfl rfl ?_
  refine pa_getI (pc' := 4) (n := 13) dX5_isToken_1 fl_5_18 s82 (by decide) ht rfl ?_
  refine pa_iconst (v := 1) (pc' := 5) dX5_isToken_4 (by decide) rfl ?_
  refine pa_icmp (pc' := 24) (pc2 := 8) dX5_isToken_5 (by decide) rfl (fun cd => ?_) (fun cd => ?_)
  · have cd : ¬ cT (tT y n p) = 1 := by simpa [zcond] using cd
    refine pa_iconst (v := 0) (pc' := 25) dX5_isToken_24 (by decide) rfl ?_
    refine pa_iret dX5_isToken_25 rfl rfl ⟨rfl, .inr ⟨rfl, fun w => cd ((k.tt (t := 2) (by decide)).mpr w.1)⟩⟩
  · have cd : cT (tT y n p) = 1 := by simpa [zcond] using cd
    have e2 : tT y n p = 2 := (k.tt (t := 2) (by decide)).mp cd
    have he := he (by rw [e2]; decide)
    refine pa_aload_n (pc' := 9) dX5_isToken_8 rfl rfl ?_
    refine pa_getI (pc' := 12) (n := 13) dX5_isToken_9 fl_5_15 s82 (by decide) he rfl ?_
    refine pa_aload_n (pc' := 13) dX5_isToken_12 rfl rfl ?_
    refine pa_getI (pc' := 16) (n := 13) dX5_isToken_13 fl_5_21 s82 (by decide) hs rfl ?_
    refine pa_isub (pc' := 17) (v := nI (tE y n p - tS y n p)) dX5_isToken_16 (nI_sub u1) rfl ?_
    refine pa_aload_n (pc' := 18) dX5_isToken_17 rfl rfl ?_
    refine pa_strlen (pc' := 21) dX5_isToken_18 ml_5_269 hz (zble rfl) rfl ?_
    refine pa_icmp (pc' := 26) (pc2 := 24) dX5_isToken_21 (by decide) rfl (fun cd2 => ?_) (fun cd2 => ?_)
    · have cd2 : nI (tE y n p - tS y n p) = nI bs.length := by simpa [zcond] using cd2
      have cd2 : tE y n p - tS y n p = bs.length := by
        have := congrArg Int32.toInt cd2
        rw [nI_toInt (by omega), nI_toInt (by omega)] at this
        omega
      have loop : ∀ (N j : Nat) (ls : zL), zget ls 0 = some (.inr (.inr (some 82))) → zget ls 1 = some (.inr (.inr (some a))) → zget ls 2 = some (.inl (nI j)) → j ≤ bs.length → (∀ k, k < j → y (tS y n p + k) = bs.getD k 0) → zPn N none d mX5_isToken (28, ls, [], h) (fun v h' => h' = h ∧ ((v = some (.inl 1) ∧ wIs y n p bs) ∨ (v = some (.inl 0) ∧ ¬ wIs y n p bs))) := by
        intro N
        induction N with
        | zero => intro j ls _ _ _ _ _; exact zPn.zero
        | succ N ih =>
          intro j ls hl0 hl1 hl2 hj hall
          refine pa_iload_n (pc' := 29) dX5_isToken_28 hl2 rfl ?_
          refine pa_aload_n (pc' := 30) dX5_isToken_29 hl1 rfl ?_
          refine pa_strlen (pc' := 33) dX5_isToken_30 ml_5_269 hz (zble rfl) rfl ?_
          refine pa_icmp (pc' := 63) (pc2 := 36) dX5_isToken_33 (by decide) rfl (fun cd3 => ?_) (fun cd3 => ?_)
          · have cd3 := zi_nlt (zk_ge_lt cd3)
            rw [nI_toInt (by omega), nI_toInt (by omega)] at cd3
            refine pa_iconst (v := 1) (pc' := 64) dX5_isToken_63 (by decide) rfl ?_
            refine pa_iret dX5_isToken_64 rfl rfl ⟨rfl, .inl ⟨rfl, e2, cd2, fun k hk => hall k (by omega)⟩⟩
          · have cd3 := zi_lt (zk_ge_lt cd3)
            rw [nI_toInt (by omega), nI_toInt (by omega)] at cd3
            refine pa_aload_n (pc' := 37) dX5_isToken_36 hl0 rfl ?_
            refine pa_getR (pc' := 40) (n := 13) (r := 1) dX5_isToken_37 fl_5_47 s82 (by decide) r82_0 rfl ?_
            refine pa_aload_n (pc' := 41) dX5_isToken_40 hl0 rfl ?_
            refine pa_getI (pc' := 44) (n := 13) dX5_isToken_41 fl_5_21 s82 (by decide) hs rfl ?_
            refine pa_iload_n (pc' := 45) dX5_isToken_44 hl2 rfl ?_
            refine pa_iadd (pc' := 46) (v := nI (tS y n p + j)) dX5_isToken_45 (nI_add _ _) rfl ?_
            refine pa_bald (pc' := 47) (n := 1000) dX5_isToken_46 s1 rfl (fun _ => ?_)
            rw [byte_at rfl (by omega) hx.2.2.2.1]
            refine pa_aload_n (pc' := 48) dX5_isToken_47 hl1 rfl ?_
            refine pa_iload_n (pc' := 49) dX5_isToken_48 hl2 rfl ?_
            refine pa_strchar (pc' := 52) dX5_isToken_49 ml_5_274 hz (zble rfl) (zn_in (by omega) (by omega)) rfl ?_
            rw [nI_clamp (by omega)]
            refine pa_icmp (pc' := 57) (pc2 := 55) dX5_isToken_52 (by decide) rfl (fun cd4 => ?_) (fun cd4 => ?_)
            · have cd4 : y (tS y n p + j) = bs.getD j 0 := by simpa [zcond] using cd4
              refine pa_iinc (pc' := 60) (v := nI (j + 1)) dX5_isToken_57 hl2 (by decide) (nI_add j 1) rfl rfl ?_
              refine pa_gotos (pc' := 28) dX5_isToken_60 (by decide) ?_
              refine ih (j + 1) _ (zget_s1 hl0 (by decide) (by simp [zcat])) (zget_s1 hl1 (by decide) (by simp [zcat])) zget_s1e (by omega) (fun k hk => ?_)
              rcases Nat.lt_or_ge k j with w | w
              · exact hall k w
              · have : k = j := by omega
                subst this
                exact cd4
            · have cd4 : ¬ y (tS y n p + j) = bs.getD j 0 := by simpa [zcond] using cd4
              refine pa_iconst (v := 0) (pc' := 56) dX5_isToken_55 (by decide) rfl ?_
              refine pa_iret dX5_isToken_56 rfl rfl ⟨rfl, .inr ⟨rfl, fun w => cd4 (w.2.2 j (by omega))⟩⟩
      refine pa_iconst (v := nI 0) (pc' := 27) dX5_isToken_26 (by decide) rfl ?_
      refine pa_istore_n (pc' := 28) dX5_isToken_27 (by decide) rfl rfl ?_
      exact loop N 0 _ rfl rfl rfl (Nat.zero_le _) (fun k hk => absurd hk (Nat.not_lt_zero k))
    · have cd2 : ¬ nI (tE y n p - tS y n p) = nI bs.length := by simpa [zcond] using cd2
      refine pa_iconst (v := 0) (pc' := 25) dX5_isToken_24 (by decide) rfl ?_
      refine pa_iret dX5_isToken_25 rfl rfl ⟨rfl, .inr ⟨rfl, fun w => cd2 (by rw [w.2.1])⟩⟩
/-- a word that must come -/
def wdQ (y : Nat → Int32) (n p : Nat) (bs : List Int32) (h : zH) (v : Option zV) (h' : zH) : Prop := (v = some (.inl 1) ∧ wIs y n p bs ∧ nx y n p h h') ∨ (v = some (.inl 0) ∧ ¬ wIs y n p bs ∧ ∃ h1, nx y n p h h1 ∧ flt 1 (tS y n p) h1 h')
theorem c_word {a : Nat} {bs : List Int32} (hx : rx y n c h) (hat : h.2.1 82 2 = nI p) (hp : p ≤ n) (hz : zsc a = some bs) : zPa d mX5_word [.inr (.inr (some 82)), .inr (.inr (some a))] h (wdQ y n p bs h) := by
  intro N
  show zPn N none d mX5_word (0, [(0, .inr (.inr (some 82))), (1, .inr (.inr (some a)))], [], h) _
  refine pa_aload_n (pc' := 1) dX5_word_0 rfl rfl ?_
  refine pa_callv (pc' := 4) (vs := []) (rest := []) dX5_word_1 ml_5_70 (by decide) rfl rfl rfl (fun d' _ => c_next hx hat hp) (fun r h1 hq => ?_)
  obtain ⟨er, hq⟩ := hq
  subst er
  have k := hq.ct hx hp
  show zPn N none d mX5_word (4, [(0, .inr (.inr (some 82))), (1, .inr (.inr (some a)))], [], h1) _
  refine pa_aload_n (pc' := 5) dX5_word_4 rfl rfl ?_
  refine pa_aload_n (pc' := 6) dX5_word_5 rfl rfl ?_
  refine pa_callv (pc' := 9) (vs := [.inr (.inr (some a))]) (rest := []) dX5_word_6 ml_5_245 (by decide) rfl rfl rfl (fun d' _ => c_isT k hz) (fun r h2 hq2 => ?_)
  obtain ⟨eh, hq2⟩ := hq2
  subst eh
  rcases hq2 with ⟨e, w⟩ | ⟨e, w⟩
  · subst e
    refine pa_if_t (pc' := 20) (x := 1) dX5_word_9 (by decide) (by decide) ?_
    refine pa_iconst (v := 1) (pc' := 21) dX5_word_20 (by decide) rfl ?_
    refine pa_goto (pc' := 25) dX5_word_21 (by decide) ?_
    exact pa_iret dX5_word_25 rfl rfl (.inl ⟨rfl, w, hq⟩)
  · subst e
    refine pa_if_f (pc' := 12) (x := 0) dX5_word_9 (by decide) (by decide) rfl ?_
    refine pa_aload_n (pc' := 13) dX5_word_12 rfl rfl ?_
    refine pa_iconst (v := 1) (pc' := 14) dX5_word_13 (by decide) rfl ?_
    refine pa_callv (pc' := 17) (vs := [.inl 1]) (rest := []) dX5_word_14 ml_5_76 (by decide) rfl rfl rfl (fun d' _ => c_flt k.1 k.2.2.1) (fun r h3 hq3 => ?_)
    obtain ⟨er, hq3⟩ := hq3
    subst er
    refine pa_if_t (pc' := 24) (x := 0) dX5_word_17 (by decide) (by decide) ?_
    refine pa_iconst (v := 0) (pc' := 25) dX5_word_24 (by decide) rfl ?_
    exact pa_iret dX5_word_25 rfl rfl (.inr ⟨rfl, w, h2, hq, hq3⟩)
end RDV
end Pk0
section Pk1
/-! the reader of the class: numbers, names, words that begin a line -/
def wPost : List Int32 := [112, 111, 115, 116]
def wIsland : List Int32 := [105, 115, 108, 97, 110, 100]
def wWay : List Int32 := [119, 97, 121]
def wWhale : List Int32 := [119, 104, 97, 108, 101]
def wBox : List Int32 := [98, 111, 120]
def wSpout : List Int32 := [115, 112, 111, 117, 116]
def srt (y : Nat → Int32) (n p : Nat) (x : Int32) : Prop := (x = 0 ∧ wIs y n p wPost) ∨ (x = 1 ∧ wIs y n p wIsland) ∨ (x = 2 ∧ wIs y n p wWay) ∨ (x = 3 ∧ wIs y n p wWhale) ∨ (x = 4 ∧ wIs y n p wBox) ∨ (x = 5 ∧ wIs y n p wSpout) ∨ (x = -2 ∧ ¬ wIs y n p wPost ∧ ¬ wIs y n p wIsland ∧ ¬ wIs y n p wWay ∧ ¬ wIs y n p wWhale ∧ ¬ wIs y n p wBox ∧ ¬ wIs y n p wSpout)
def knd (y : Nat → Int32) (n p : Nat) (x : Int32) : Prop := (x = 0 ∧ wIs y n p [99, 97, 108, 102]) ∨ (x = 1 ∧ ¬ wIs y n p [99, 97, 108, 102] ∧ wIs y n p [99, 111, 119]) ∨ (x = 2 ∧ ¬ wIs y n p [99, 97, 108, 102] ∧ ¬ wIs y n p [99, 111, 119] ∧ wIs y n p [98, 117, 108, 108]) ∨ (x = 3 ∧ ¬ wIs y n p [99, 97, 108, 102] ∧ ¬ wIs y n p [99, 111, 119] ∧ ¬ wIs y n p [98, 117, 108, 108] ∧ wIs y n p [111, 108, 100]) ∨ (x = -2 ∧ ¬ wIs y n p [99, 97, 108, 102] ∧ ¬ wIs y n p [99, 111, 119] ∧ ¬ wIs y n p [98, 117, 108, 108] ∧ ¬ wIs y n p [111, 108, 100])
section RDW
variable {y : Nat → Int32} {n c d N p : Nat} {h h' : zH} {Q : Option zV → zH → Prop}
theorem c_sort (k : ct y n c p h) : zPa d mX5_sortOfLine [.inr (.inr (some 82))] h (fun v h' => h' = h ∧ ∃ x, v = some (.inl x) ∧ srt y n p x) := by
  intro N
  show zPn N none d mX5_sortOfLine (0, [(0, .inr (.inr (some 82)))], [], h) _
  refine pa_aload_n (pc' := 1) dX5_sortOfLine_0 rfl rfl ?_
  refine pa_ldcw (pc' := 4) dX5_sortOfLine_1 cl_5_263 rfl rfl ?_
  refine pa_callv (pc' := 7) (vs := [.inr (.inr (some 1000010))]) (rest := []) dX5_sortOfLine_4 ml_5_245 (by decide) rfl rfl rfl (fun d' _ => c_isT k (bs := wPost) rfl) (fun r h2 hq => ?_)
  obtain ⟨eh, hq⟩ := hq
  subst eh
  rcases hq with ⟨e, w1⟩ | ⟨e, w1⟩ <;> subst e
  · refine pa_if_f (pc' := 10) (x := 1) dX5_sortOfLine_7 (by decide) (by decide) rfl ?_
    refine pa_iconst (v := 0) (pc' := 11) dX5_sortOfLine_10 (by decide) rfl ?_
    exact pa_iret dX5_sortOfLine_11 rfl rfl ⟨rfl, 0, rfl, .inl ⟨rfl, w1⟩⟩
  refine pa_if_t (pc' := 12) (x := 0) dX5_sortOfLine_7 (by decide) (by decide) ?_
  refine pa_aload_n (pc' := 13) dX5_sortOfLine_12 rfl rfl ?_
  refine pa_ldcw (pc' := 16) dX5_sortOfLine_13 cl_5_264 rfl rfl ?_
  refine pa_callv (pc' := 19) (vs := [.inr (.inr (some 1000011))]) (rest := []) dX5_sortOfLine_16 ml_5_245 (by decide) rfl rfl rfl (fun d' _ => c_isT k (bs := wIsland) rfl) (fun r h2 hq => ?_)
  obtain ⟨eh, hq⟩ := hq
  subst eh
  rcases hq with ⟨e, w2⟩ | ⟨e, w2⟩ <;> subst e
  · refine pa_if_f (pc' := 22) (x := 1) dX5_sortOfLine_19 (by decide) (by decide) rfl ?_
    refine pa_iconst (v := 1) (pc' := 23) dX5_sortOfLine_22 (by decide) rfl ?_
    exact pa_iret dX5_sortOfLine_23 rfl rfl ⟨rfl, 1, rfl, .inr (.inl ⟨rfl, w2⟩)⟩
  refine pa_if_t (pc' := 24) (x := 0) dX5_sortOfLine_19 (by decide) (by decide) ?_
  refine pa_aload_n (pc' := 25) dX5_sortOfLine_24 rfl rfl ?_
  refine pa_ldcw (pc' := 28) dX5_sortOfLine_25 cl_5_265 rfl rfl ?_
  refine pa_callv (pc' := 31) (vs := [.inr (.inr (some 1000012))]) (rest := []) dX5_sortOfLine_28 ml_5_245 (by decide) rfl rfl rfl (fun d' _ => c_isT k (bs := wWay) rfl) (fun r h2 hq => ?_)
  obtain ⟨eh, hq⟩ := hq
  subst eh
  rcases hq with ⟨e, w3⟩ | ⟨e, w3⟩ <;> subst e
  · refine pa_if_f (pc' := 34) (x := 1) dX5_sortOfLine_31 (by decide) (by decide) rfl ?_
    refine pa_iconst (v := 2) (pc' := 35) dX5_sortOfLine_34 (by decide) rfl ?_
    exact pa_iret dX5_sortOfLine_35 rfl rfl ⟨rfl, 2, rfl, .inr (.inr (.inl ⟨rfl, w3⟩))⟩
  refine pa_if_t (pc' := 36) (x := 0) dX5_sortOfLine_31 (by decide) (by decide) ?_
  refine pa_aload_n (pc' := 37) dX5_sortOfLine_36 rfl rfl ?_
  refine pa_ldcw (pc' := 40) dX5_sortOfLine_37 cl_5_266 rfl rfl ?_
  refine pa_callv (pc' := 43) (vs := [.inr (.inr (some 1000013))]) (rest := []) dX5_sortOfLine_40 ml_5_245 (by decide) rfl rfl rfl (fun d' _ => c_isT k (bs := wWhale) rfl) (fun r h2 hq => ?_)
  obtain ⟨eh, hq⟩ := hq
  subst eh
  rcases hq with ⟨e, w4⟩ | ⟨e, w4⟩ <;> subst e
  · refine pa_if_f (pc' := 46) (x := 1) dX5_sortOfLine_43 (by decide) (by decide) rfl ?_
    refine pa_iconst (v := 3) (pc' := 47) dX5_sortOfLine_46 (by decide) rfl ?_
    exact pa_iret dX5_sortOfLine_47 rfl rfl ⟨rfl, 3, rfl, .inr (.inr (.inr (.inl ⟨rfl, w4⟩)))⟩
  refine pa_if_t (pc' := 48) (x := 0) dX5_sortOfLine_43 (by decide) (by decide) ?_
  refine pa_aload_n (pc' := 49) dX5_sortOfLine_48 rfl rfl ?_
  refine pa_ldcw (pc' := 52) dX5_sortOfLine_49 cl_5_267 rfl rfl ?_
  refine pa_callv (pc' := 55) (vs := [.inr (.inr (some 1000014))]) (rest := []) dX5_sortOfLine_52 ml_5_245 (by decide) rfl rfl rfl (fun d' _ => c_isT k (bs := wBox) rfl) (fun r h2 hq => ?_)
  obtain ⟨eh, hq⟩ := hq
  subst eh
  rcases hq with ⟨e, w5⟩ | ⟨e, w5⟩ <;> subst e
  · refine pa_if_f (pc' := 58) (x := 1) dX5_sortOfLine_55 (by decide) (by decide) rfl ?_
    refine pa_iconst (v := 4) (pc' := 59) dX5_sortOfLine_58 (by decide) rfl ?_
    exact pa_iret dX5_sortOfLine_59 rfl rfl ⟨rfl, 4, rfl, .inr (.inr (.inr (.inr (.inl ⟨rfl, w5⟩))))⟩
  refine pa_if_t (pc' := 60) (x := 0) dX5_sortOfLine_55 (by decide) (by decide) ?_
  refine pa_aload_n (pc' := 61) dX5_sortOfLine_60 rfl rfl ?_
  refine pa_ldcw (pc' := 64) dX5_sortOfLine_61 cl_5_268 rfl rfl ?_
  refine pa_callv (pc' := 67) (vs := [.inr (.inr (some 1000015))]) (rest := []) dX5_sortOfLine_64 ml_5_245 (by decide) rfl rfl rfl (fun d' _ => c_isT k (bs := wSpout) rfl) (fun r h2 hq => ?_)
  obtain ⟨eh, hq⟩ := hq
  subst eh
  rcases hq with ⟨e, w6⟩ | ⟨e, w6⟩ <;> subst e
  · refine pa_if_f (pc' := 70) (x := 1) dX5_sortOfLine_67 (by decide) (by decide) rfl ?_
    refine pa_iconst (v := 5) (pc' := 71) dX5_sortOfLine_70 (by decide) rfl ?_
    refine pa_goto (pc' := 76) dX5_sortOfLine_71 (by decide) ?_
    exact pa_iret dX5_sortOfLine_76 rfl rfl ⟨rfl, 5, rfl, .inr (.inr (.inr (.inr (.inr (.inl ⟨rfl, w6⟩)))))⟩
  refine pa_if_t (pc' := 74) (x := 0) dX5_sortOfLine_67 (by decide) (by decide) ?_
  refine pa_bipush (v := (-2)) (pc' := 76) dX5_sortOfLine_74 (by decide) rfl ?_
  exact pa_iret dX5_sortOfLine_76 rfl rfl ⟨rfl, -2, rfl, .inr (.inr (.inr (.inr (.inr (.inr ⟨rfl, w1, w2, w3, w4, w5, w6⟩)))))⟩
theorem c_kind (k : ct y n c p h) : zPa d mX5_kindOfToken [.inr (.inr (some 82))] h (fun v h' => h' = h ∧ ∃ x, v = some (.inl x) ∧ knd y n p x) := by
  intro N
  show zPn N none d mX5_kindOfToken (0, [(0, .inr (.inr (some 82)))], [], h) _
  refine pa_aload_n (pc' := 1) dX5_kindOfToken_0 rfl rfl ?_
  refine pa_ldc (pc' := 3) dX5_kindOfToken_1 cl_5_255 rfl rfl ?_
  refine pa_callv (pc' := 6) (vs := [.inr (.inr (some 1000022))]) (rest := []) dX5_kindOfToken_3 ml_5_245 (by decide) rfl rfl rfl (fun d' _ => c_isT k (bs := [99, 97, 108, 102]) rfl) (fun r h2 hq => ?_)
  obtain ⟨eh, hq⟩ := hq
  subst eh
  rcases hq with ⟨e, w1⟩ | ⟨e, w1⟩ <;> subst e
  · refine pa_if_f (pc' := 9) (x := 1) dX5_kindOfToken_6 (by decide) (by decide) rfl ?_
    refine pa_iconst (v := 0) (pc' := 10) dX5_kindOfToken_9 (by decide) rfl ?_
    exact pa_iret dX5_kindOfToken_10 rfl rfl ⟨rfl, 0, rfl, .inl ⟨rfl, w1⟩⟩
  refine pa_if_t (pc' := 11) (x := 0) dX5_kindOfToken_6 (by decide) (by decide) ?_
  refine pa_aload_n (pc' := 12) dX5_kindOfToken_11 rfl rfl ?_
  refine pa_ldcw (pc' := 15) dX5_kindOfToken_12 cl_5_257 rfl rfl ?_
  refine pa_callv (pc' := 18) (vs := [.inr (.inr (some 1000023))]) (rest := []) dX5_kindOfToken_15 ml_5_245 (by decide) rfl rfl rfl (fun d' _ => c_isT k (bs := [99, 111, 119]) rfl) (fun r h2 hq => ?_)
  obtain ⟨eh, hq⟩ := hq
  subst eh
  rcases hq with ⟨e, w2⟩ | ⟨e, w2⟩ <;> subst e
  · refine pa_if_f (pc' := 21) (x := 1) dX5_kindOfToken_18 (by decide) (by decide) rfl ?_
    refine pa_iconst (v := 1) (pc' := 22) dX5_kindOfToken_21 (by decide) rfl ?_
    exact pa_iret dX5_kindOfToken_22 rfl rfl ⟨rfl, 1, rfl, .inr (.inl ⟨rfl, w1, w2⟩)⟩
  refine pa_if_t (pc' := 23) (x := 0) dX5_kindOfToken_18 (by decide) (by decide) ?_
  refine pa_aload_n (pc' := 24) dX5_kindOfToken_23 rfl rfl ?_
  refine pa_ldcw (pc' := 27) dX5_kindOfToken_24 cl_5_259 rfl rfl ?_
  refine pa_callv (pc' := 30) (vs := [.inr (.inr (some 1000024))]) (rest := []) dX5_kindOfToken_27 ml_5_245 (by decide) rfl rfl rfl (fun d' _ => c_isT k (bs := [98, 117, 108, 108]) rfl) (fun r h2 hq => ?_)
  obtain ⟨eh, hq⟩ := hq
  subst eh
  rcases hq with ⟨e, w3⟩ | ⟨e, w3⟩ <;> subst e
  · refine pa_if_f (pc' := 33) (x := 1) dX5_kindOfToken_30 (by decide) (by decide) rfl ?_
    refine pa_iconst (v := 2) (pc' := 34) dX5_kindOfToken_33 (by decide) rfl ?_
    exact pa_iret dX5_kindOfToken_34 rfl rfl ⟨rfl, 2, rfl, .inr (.inr (.inl ⟨rfl, w1, w2, w3⟩))⟩
  refine pa_if_t (pc' := 35) (x := 0) dX5_kindOfToken_30 (by decide) (by decide) ?_
  refine pa_aload_n (pc' := 36) dX5_kindOfToken_35 rfl rfl ?_
  refine pa_ldcw (pc' := 39) dX5_kindOfToken_36 cl_5_261 rfl rfl ?_
  refine pa_callv (pc' := 42) (vs := [.inr (.inr (some 1000025))]) (rest := []) dX5_kindOfToken_39 ml_5_245 (by decide) rfl rfl rfl (fun d' _ => c_isT k (bs := [111, 108, 100]) rfl) (fun r h2 hq => ?_)
  obtain ⟨eh, hq⟩ := hq
  subst eh
  rcases hq with ⟨e, w4⟩ | ⟨e, w4⟩ <;> subst e
  · refine pa_if_f (pc' := 45) (x := 1) dX5_kindOfToken_42 (by decide) (by decide) rfl ?_
    refine pa_iconst (v := 3) (pc' := 46) dX5_kindOfToken_45 (by decide) rfl ?_
    refine pa_goto (pc' := 51) dX5_kindOfToken_46 (by decide) ?_
    exact pa_iret dX5_kindOfToken_51 rfl rfl ⟨rfl, 3, rfl, .inr (.inr (.inr (.inl ⟨rfl, w1, w2, w3, w4⟩)))⟩
  refine pa_if_t (pc' := 49) (x := 0) dX5_kindOfToken_42 (by decide) (by decide) ?_
  refine pa_bipush (v := (-2)) (pc' := 51) dX5_kindOfToken_49 (by decide) rfl ?_
  exact pa_iret dX5_kindOfToken_51 rfl rfl ⟨rfl, -2, rfl, .inr (.inr (.inr (.inr ⟨rfl, w1, w2, w3, w4⟩)))⟩
def nmQ (y : Nat → Int32) (n p : Nat) (lo hi : Int32) (h : zH) (v : Option zV) (h' : zH) : Prop := ∃ h1, nx y n p h h1 ∧ ((v = some (.inl 0) ∧ tT y n p ≠ 3 ∧ flt 1 (tS y n p) h1 h') ∨ (tT y n p = 3 ∧ v = some (.inl 1) ∧ lo ≤ tNum y n p ∧ tNum y n p ≤ hi ∧ h' = zsI h1 82 5 (tNum y n p)) ∨ (tT y n p = 3 ∧ v = some (.inl 0) ∧ ¬ (lo ≤ tNum y n p ∧ tNum y n p ≤ hi) ∧ flt 4 (tS y n p) (zsI h1 82 5 (tNum y n p)) h'))
theorem c_whole {lo hi : Int32} (hx : rx y n c h) (hat : h.2.1 82 2 = nI p) (hp : p ≤ n) : zPa d mX5_whole [.inr (.inr (some 82)), .inl lo, .inl hi] h (nmQ y n p lo hi h) := by
  intro N
  show zPn N none d mX5_whole (0, [(0, .inr (.inr (some 82))), (1, .inl lo), (2, .inl hi)], [], h) _
  refine pa_aload_n (pc' := 1) dX5_whole_0 rfl rfl ?_
  refine pa_callv (pc' := 4) (vs := []) (rest := []) dX5_whole_1 ml_5_70 (by decide) rfl rfl rfl (fun d' _ => c_next hx hat hp) (fun r h1 hq => ?_)
  obtain ⟨er, hq⟩ := hq
  subst er
  have k := hq.ct hx hp
  obtain ⟨hx1, -, hs, ht, he⟩ := k
  have k := hq.ct hx hp
  have s82 := hx1.sh sh_82
  have s1 := hx1.sh sh_1
  have r82_0 := hx1.2.1 _ _ _ rf_82_0
  have hn := hx1.2.2.2.2.2
  obtain ⟨t1, t2, t3⟩ := tS_sp (y := y) hp
  obtain ⟨u1, u2, u3⟩ := tE_sp (y := y) hp
  show zPn N none d mX5_whole (4, [(0, .inr (.inr (some 82))), (1, .inl lo), (2, .inl hi)], [], h1) _
  refine pa_aload_n (pc' := 5) dX5_whole_4 rfl rfl ?_
  refine pa_getI (pc' := 8) (n := 13) dX5_whole_5 fl_5_18 s82 (by decide) ht rfl ?_
  refine pa_iconst (v := 2) (pc' := 9) dX5_whole_8 (by decide) rfl ?_
  refine pa_icmp (pc' := 18) (pc2 := 12) dX5_whole_9 (by decide) rfl (fun cd => ?_) (fun cd => ?_)
  · have cd : cT (tT y n p) = 2 := by simpa [zcond] using cd
    have e3 : tT y n p = 3 := (k.tt (t := 3) (by decide)).mp cd
    have he := he (by rw [e3]; decide)
    refine pa_aload_n (pc' := 19) dX5_whole_18 rfl rfl ?_
    refine pa_iconst (v := 0) (pc' := 20) dX5_whole_19 (by decide) rfl ?_
    refine pa_putI (pc' := 23) (n := 13) dX5_whole_20 fl_5_24 s82 (Or.inl rfl) (Or.inl rfl) rfl ?_
    have hs2 : (zsI h1 82 5 0).2.1 82 4 = nI (tS y n p) := by rw [zsI_no (by omega)]; exact hs
    refine pa_aload_n (pc' := 24) dX5_whole_23 rfl rfl ?_
    refine pa_getI (pc' := 27) (n := 13) dX5_whole_24 fl_5_21 s82 (by decide) hs2 rfl ?_
    refine pa_istore_n (pc' := 28) dX5_whole_27 (by decide) rfl rfl ?_
    have loop : ∀ (N j : Nat) (ls : zL) (v : Int32), zget ls 0 = some (.inr (.inr (some 82))) → zget ls 1 = some (.inl lo) → zget ls 2 = some (.inl hi) → zget ls 3 = some (.inl (nI j)) → tS y n p ≤ j → j ≤ tE y n p → numF y (tE y n p - j) j v = tNum y n p → zPn N none d mX5_whole (28, ls, [], zsI h1 82 5 v) (nmQ y n p lo hi h) := by
      intro N
      induction N with
      | zero => intro j ls v _ _ _ _ _ _ _; exact zPn.zero
      | succ N ih =>
        intro j ls v hl0 hl1 hl2 hl3 h1j hj hv
        have he2 : (zsI h1 82 5 v).2.1 82 2 = nI (tE y n p) := by rw [zsI_no (by omega)]; exact he
        have hs2 : (zsI h1 82 5 v).2.1 82 4 = nI (tS y n p) := by rw [zsI_no (by omega)]; exact hs
        have v2 : (zsI h1 82 5 v).2.1 82 5 = v := zsI_eq
        have hx2 : rx y n c (zsI h1 82 5 v) := hx1.zs (by decide)
        refine pa_iload_n (pc' := 29) dX5_whole_28 hl3 rfl ?_
        refine pa_aload_n (pc' := 30) dX5_whole_29 hl0 rfl ?_
        refine pa_getI (pc' := 33) (n := 13) dX5_whole_30 fl_5_15 s82 (by decide) he2 rfl ?_
        refine pa_icmp (pc' := 63) (pc2 := 36) dX5_whole_33 (by decide) rfl (fun cd3 => ?_) (fun cd3 => ?_)
        · have cd3 := zi_nlt (zk_ge_lt cd3)
          rw [nI_toInt (by omega), nI_toInt (by omega)] at cd3
          have ej : tE y n p - j = 0 := by omega
          rw [ej] at hv
          have hv : v = tNum y n p := hv
          have bad : ¬ (lo ≤ tNum y n p ∧ tNum y n p ≤ hi) → zPn (N + 1) none d mX5_whole (79, ls, [], zsI h1 82 5 v) (nmQ y n p lo hi h) := by
            intro z
            refine pa_aload_n (pc' := 80) dX5_whole_79 hl0 rfl ?_
            refine pa_iconst (v := 4) (pc' := 81) dX5_whole_80 (by decide) rfl ?_
            refine pa_callv (pc' := 84) (vs := [.inl 4]) (rest := []) dX5_whole_81 ml_5_76 (by decide) rfl rfl rfl (fun d' _ => c_flt hx2 hs2) (fun r h3 hq3 => ?_)
            obtain ⟨er, hq3⟩ := hq3
            subst er
            refine pa_if_t (pc' := 91) (x := 0) dX5_whole_84 (by decide) (by decide) ?_
            refine pa_iconst (v := 0) (pc' := 92) dX5_whole_91 (by decide) rfl ?_
            exact pa_iret dX5_whole_92 rfl rfl ⟨h1, hq, .inr (.inr ⟨e3, rfl, z, by rw [← hv]; exact hq3⟩)⟩
          refine pa_aload_n (pc' := 64) dX5_whole_63 hl0 rfl ?_
          refine pa_getI (pc' := 67) (n := 13) dX5_whole_64 fl_5_24 s82 (by decide) v2 rfl ?_
          refine pa_iload_n (pc' := 68) dX5_whole_67 hl1 rfl ?_
          refine pa_icmp (pc' := 79) (pc2 := 71) dX5_whole_68 (by decide) rfl (fun cd4 => ?_) (fun cd4 => ?_)
          · have cd4 := zi_lt cd4
            exact bad (fun z => by have := Int32.le_iff_toInt_le.mp z.1; rw [hv] at cd4; omega)
          · have cd4 := zi_nlt cd4
            refine pa_aload_n (pc' := 72) dX5_whole_71 hl0 rfl ?_
            refine pa_getI (pc' := 75) (n := 13) dX5_whole_72 fl_5_24 s82 (by decide) v2 rfl ?_
            refine pa_iload_n (pc' := 76) dX5_whole_75 hl2 rfl ?_
            refine pa_icmp (pc' := 87) (pc2 := 79) dX5_whole_76 (by decide) rfl (fun cd5 => ?_) (fun cd5 => ?_)
            · have cd5 := zi_ngt (zk_le_gt cd5)
              rw [hv] at cd4 cd5
              refine pa_iconst (v := 1) (pc' := 88) dX5_whole_87 (by decide) rfl ?_
              refine pa_goto (pc' := 92) dX5_whole_88 (by decide) ?_
              exact pa_iret dX5_whole_92 rfl rfl ⟨h1, hq, .inr (.inl ⟨e3, rfl, Int32.le_iff_toInt_le.mpr cd4, Int32.le_iff_toInt_le.mpr cd5, by rw [hv]⟩)⟩
            · have cd5 := zi_gt (zk_le_gt cd5)
              exact bad (fun z => by have := Int32.le_iff_toInt_le.mp z.2; rw [hv] at cd5; omega)
        · have cd3 := zi_lt (zk_ge_lt cd3)
          rw [nI_toInt (by omega), nI_toInt (by omega)] at cd3
          refine pa_aload_n (pc' := 37) dX5_whole_36 hl0 rfl ?_
          refine pa_aload_n (pc' := 38) dX5_whole_37 hl0 rfl ?_
          refine pa_getI (pc' := 41) (n := 13) dX5_whole_38 fl_5_24 s82 (by decide) v2 rfl ?_
          refine pa_bipush (v := 10) (pc' := 43) dX5_whole_41 (by decide) rfl ?_
          refine pa_imul (pc' := 44) dX5_whole_43 rfl rfl ?_
          refine pa_aload_n (pc' := 45) dX5_whole_44 hl0 rfl ?_
          refine pa_getR (pc' := 48) (n := 13) (r := 1) dX5_whole_45 fl_5_47 s82 (by decide) r82_0 rfl ?_
          refine pa_iload_n (pc' := 49) dX5_whole_48 hl3 rfl ?_
          refine pa_bald (pc' := 50) (n := 1000) dX5_whole_49 s1 rfl (fun _ => ?_)
          rw [byte_at rfl (by omega) hx2.2.2.2.1]
          refine pa_bipush (v := 48) (pc' := 52) dX5_whole_50 (by decide) rfl ?_
          refine pa_isub (pc' := 53) dX5_whole_52 rfl rfl ?_
          refine pa_iadd (pc' := 54) dX5_whole_53 rfl rfl ?_
          refine pa_putI (pc' := 57) (n := 13) dX5_whole_54 fl_5_24 s82 (Or.inl rfl) (Or.inl rfl) rfl ?_
          refine pa_iinc (pc' := 60) (v := nI (j + 1)) dX5_whole_57 hl3 (by decide) (nI_add j 1) rfl rfl ?_
          refine pa_gotos (pc' := 28) dX5_whole_60 (by decide) ?_
          rw [zsI_two]
          refine ih (j + 1) _ _ (zget_s1 hl0 (by decide) (by simp [zcat])) (zget_s1 hl1 (by decide) (by simp [zcat])) (zget_s1 hl2 (by decide) (by simp [zcat])) zget_s1e (by omega) (by omega) ?_
          obtain ⟨q, eq⟩ : ∃ q, tE y n p - j = q + 1 := ⟨tE y n p - j - 1, by omega⟩
          rw [eq] at hv
          rw [show tE y n p - (j + 1) = q by omega]
          exact hv
    exact loop N (tS y n p) _ 0 rfl rfl rfl rfl (Nat.le_refl _) u1 rfl
  · have cd : ¬ cT (tT y n p) = 2 := by simpa [zcond] using cd
    refine pa_aload_n (pc' := 13) dX5_whole_12 rfl rfl ?_
    refine pa_iconst (v := 1) (pc' := 14) dX5_whole_13 (by decide) rfl ?_
    refine pa_callv (pc' := 17) (vs := [.inl 1]) (rest := []) dX5_whole_14 ml_5_76 (by decide) rfl rfl rfl (fun d' _ => c_flt hx1 hs) (fun r h3 hq3 => ?_)
    obtain ⟨er, hq3⟩ := hq3
    subst er
    exact pa_iret (x := 0) dX5_whole_17 rfl rfl ⟨h1, hq, .inl ⟨rfl, fun z => cd ((k.tt (t := 3) (by decide)).mpr z), hq3⟩⟩
theorem c_let (k : ct y n c p h) (h2 : tT y n p = 2) : zPa d mX5_letters [.inr (.inr (some 82))] h (fun v h' => h' = h ∧ v = some (.inr (.inl (tLet y n p)))) := by
  intro N
  obtain ⟨hx, hp, hs, ht, he⟩ := k
  have he := he (by rw [h2]; decide)
  have s82 := hx.sh sh_82
  have s1 := hx.sh sh_1
  have r82_0 := hx.2.1 _ _ _ rf_82_0
  have hn := hx.2.2.2.2.2
  obtain ⟨t1, t2, t3⟩ := tS_sp (y := y) hp
  obtain ⟨u1, u2, u3⟩ := tE_sp (y := y) hp
  show zPn N none d mX5_letters (0, [(0, .inr (.inr (some 82)))], [], h) _
  have loop : ∀ (N j : Nat) (ls : zL) (v : Int64), zget ls 0 = some (.inr (.inr (some 82))) → zget ls 1 = some (.inr (.inl v)) → zget ls 3 = some (.inl (nI j)) → tS y n p ≤ j → j ≤ tE y n p → letF y (tE y n p - j) j v = tLet y n p → zPn N none d mX5_letters (7, ls, [], h) (fun v h' => h' = h ∧ v = some (.inr (.inl (tLet y n p)))) := by
    intro N
    induction N with
    | zero => intro j ls v _ _ _ _ _ _; exact zPn.zero
    | succ N ih =>
      intro j ls v hl0 hl1 hl3 h1j hj hv
      refine pa_iload_n (pc' := 8) dX5_letters_7 hl3 rfl ?_
      refine pa_aload_n (pc' := 9) dX5_letters_8 hl0 rfl ?_
      refine pa_getI (pc' := 12) (n := 13) dX5_letters_9 fl_5_15 s82 (by decide) he rfl ?_
      refine pa_icmp (pc' := 38) (pc2 := 15) dX5_letters_12 (by decide) rfl (fun cd3 => ?_) (fun cd3 => ?_)
      · have cd3 := zi_nlt (zk_ge_lt cd3)
        rw [nI_toInt (by omega), nI_toInt (by omega)] at cd3
        have ej : tE y n p - j = 0 := by omega
        rw [ej] at hv
        have hv : v = tLet y n p := hv
        refine pa_lload_n (pc' := 39) dX5_letters_38 hl1 rfl ?_
        exact pa_lret dX5_letters_39 rfl ⟨rfl, by rw [hv]⟩
      · have cd3 := zi_lt (zk_ge_lt cd3)
        rw [nI_toInt (by omega), nI_toInt (by omega)] at cd3
        refine pa_lload_n (pc' := 16) dX5_letters_15 hl1 rfl ?_
        refine pa_iconst (v := 5) (pc' := 17) dX5_letters_16 (by decide) rfl ?_
        refine pa_lshl (pc' := 18) dX5_letters_17 rfl rfl ?_
        refine pa_aload_n (pc' := 19) dX5_letters_18 hl0 rfl ?_
        refine pa_getR (pc' := 22) (n := 13) (r := 1) dX5_letters_19 fl_5_47 s82 (by decide) r82_0 rfl ?_
        refine pa_iload_n (pc' := 23) dX5_letters_22 hl3 rfl ?_
        refine pa_bald (pc' := 24) (n := 1000) dX5_letters_23 s1 rfl (fun _ => ?_)
        rw [byte_at rfl (by omega) hx.2.2.2.1]
        refine pa_bipush (v := 97) (pc' := 26) dX5_letters_24 (by decide) rfl ?_
        refine pa_isub (pc' := 27) dX5_letters_26 rfl rfl ?_
        refine pa_iconst (v := 1) (pc' := 28) dX5_letters_27 (by decide) rfl ?_
        refine pa_iadd (pc' := 29) dX5_letters_28 rfl rfl ?_
        refine pa_i2l (pc' := 30) dX5_letters_29 rfl rfl ?_
        refine pa_lor (pc' := 31) dX5_letters_30 rfl rfl ?_
        refine pa_lstore_n (pc' := 32) dX5_letters_31 (by decide) rfl rfl ?_
        refine pa_iinc (pc' := 35) (v := nI (j + 1)) dX5_letters_32 (zget_s2 hl3 (by decide) (by decide) (by simp [zcat])) (by decide) (nI_add j 1) rfl rfl ?_
        refine pa_gotos (pc' := 7) dX5_letters_35 (by decide) ?_
        refine ih (j + 1) _ _ (zget_s1 (zget_s2 hl0 (by decide) (by decide) (by simp [zcat])) (by decide) (by simp [zcat])) (zget_s1 zget_s2e (by decide) (by simp [zcat])) zget_s1e (by omega) (by omega) ?_
        obtain ⟨q, eq⟩ : ∃ q, tE y n p - j = q + 1 := ⟨tE y n p - j - 1, by omega⟩
        rw [eq] at hv
        rw [show tE y n p - (j + 1) = q by omega]
        exact hv
  refine pa_lconst (pc' := 1) dX5_letters_0 rfl rfl ?_
  refine pa_lstore_n (pc' := 2) dX5_letters_1 (by decide) rfl rfl ?_
  refine pa_aload_n (pc' := 3) dX5_letters_2 rfl rfl ?_
  refine pa_getI (pc' := 6) (n := 13) dX5_letters_3 fl_5_21 s82 (by decide) hs rfl ?_
  refine pa_istore_n (pc' := 7) dX5_letters_6 (by decide) rfl rfl ?_
  exact loop N (tS y n p) _ 0 rfl rfl rfl (Nat.le_refl _) u1 rfl
end RDW
end Pk1
section Pk2
/-! the reader of the class: names -/
theorem cmp0 (a b : Int64) : lg_cmp a b = 0 ↔ a = b := by
  unfold lg_cmp
  split
  · next q => exact ⟨fun z => absurd z (by decide), fun z => by subst z; exact absurd q (Int64.lt_irrefl)⟩
  · split
    · next q => exact ⟨fun _ => q, fun _ => rfl⟩
    · next q => exact ⟨fun z => absurd z (by decide), fun z => absurd z q⟩
def fnd (h : zH) (m : Nat) (w : Int64) (x : Int32) : Prop := (∃ j, j < m ∧ x = nI j ∧ h.2.2.1 83 j = w ∧ ∀ i, i < j → h.2.2.1 83 i ≠ w) ∨ (x = -2 ∧ ∀ i, i < m → h.2.2.1 83 i ≠ w)
def newN (h : zH) (m : Nat) (w : Int64) (s k : Int32) : zH := zsI (zsI (zsI (zsL h 83 m w) 84 m s) 85 m k) 82 10 (nI (m + 1))
section RDX
variable {y : Nat → Int32} {n c d N p m : Nat} {h h' : zH} {Q : Option zV → zH → Prop}
theorem c_nam (k : ct y n c p h) (h2 : tT y n p = 2) (hm : h.2.1 82 10 = nI m) (hm2 : m ≤ 20) : zPa d mX5_nameOfToken [.inr (.inr (some 82))] h (fun v h' => h' = h ∧ ∃ x, v = some (.inl x) ∧ fnd h m (tLet y n p) x) := by
  intro N
  have hx := k.1
  have s82 := hx.sh sh_82
  have s83 := hx.sh sh_83
  have r82_7 := hx.2.1 _ _ _ rf_82_7
  show zPn N none d mX5_nameOfToken (0, [(0, .inr (.inr (some 82)))], [], h) _
  refine pa_aload_n (pc' := 1) dX5_nameOfToken_0 rfl rfl ?_
  refine pa_callv (pc' := 4) (vs := []) (rest := []) dX5_nameOfToken_1 ml_5_251 (by decide) rfl rfl rfl (fun d' _ => c_let k h2) (fun r h1 hq => ?_)
  obtain ⟨eh, er⟩ := hq
  subst eh; subst er
  have loop : ∀ (N j : Nat) (ls : zL), zget ls 0 = some (.inr (.inr (some 82))) → zget ls 1 = some (.inr (.inl (tLet y n p))) → zget ls 3 = some (.inl (nI j)) → j ≤ m → (∀ i, i < j → h1.2.2.1 83 i ≠ tLet y n p) → zPn N none d mX5_nameOfToken (7, ls, [], h1) (fun v h' => h' = h1 ∧ ∃ x, v = some (.inl x) ∧ fnd h1 m (tLet y n p) x) := by
    intro N
    induction N with
    | zero => intro j ls _ _ _ _ _; exact zPn.zero
    | succ N ih =>
      intro j ls hl0 hl1 hl3 hj hall
      refine pa_iload_n (pc' := 8) dX5_nameOfToken_7 hl3 rfl ?_
      refine pa_aload_n (pc' := 9) dX5_nameOfToken_8 hl0 rfl ?_
      refine pa_getI (pc' := 12) (n := 13) dX5_nameOfToken_9 fl_5_38 s82 (by decide) hm rfl ?_
      refine pa_icmp (pc' := 34) (pc2 := 15) dX5_nameOfToken_12 (by decide) rfl (fun cd3 => ?_) (fun cd3 => ?_)
      · have cd3 := zi_nlt (zk_ge_lt cd3)
        rw [nI_toInt (by omega), nI_toInt (by omega)] at cd3
        refine pa_bipush (v := (-2)) (pc' := 36) dX5_nameOfToken_34 (by decide) rfl ?_
        exact pa_iret dX5_nameOfToken_36 rfl rfl ⟨rfl, -2, rfl, .inr ⟨rfl, fun i hi => hall i (by omega)⟩⟩
      · have cd3 := zi_lt (zk_ge_lt cd3)
        rw [nI_toInt (by omega), nI_toInt (by omega)] at cd3
        refine pa_aload_n (pc' := 16) dX5_nameOfToken_15 hl0 rfl ?_
        refine pa_getR (pc' := 19) (n := 13) (r := 83) dX5_nameOfToken_16 fl_5_27 s82 (by decide) r82_7 rfl ?_
        refine pa_iload_n (pc' := 20) dX5_nameOfToken_19 hl3 rfl ?_
        refine pa_lald (pc' := 21) (n := 20) (v := h1.2.2.1 83 j) dX5_nameOfToken_20 s83 (zn_in (by omega) (by omega)) (by rw [nI_clamp (by omega)]) rfl ?_
        refine pa_lload_n (pc' := 22) dX5_nameOfToken_21 hl1 rfl ?_
        refine pa_lcmp (pc' := 23) dX5_nameOfToken_22 rfl rfl ?_
        refine pa_if (pc' := 28) (pc2 := 26) dX5_nameOfToken_23 (by decide) rfl (fun cd4 => ?_) (fun cd4 => ?_)
        · have cd4 : ¬ lg_cmp (h1.2.2.1 83 j) (tLet y n p) = 0 := by simpa [zcond] using cd4
          rw [cmp0] at cd4
          refine pa_iinc (pc' := 31) (v := nI (j + 1)) dX5_nameOfToken_28 hl3 (by decide) (nI_add j 1) rfl rfl ?_
          refine pa_gotos (pc' := 7) dX5_nameOfToken_31 (by decide) ?_
          refine ih (j + 1) _ (zget_s1 hl0 (by decide) (by simp [zcat])) (zget_s1 hl1 (by decide) (by simp)) zget_s1e (by omega) (fun i hi => ?_)
          rcases Nat.lt_or_ge i j with w | w
          · exact hall i w
          · have : i = j := by omega
            subst this
            exact cd4
        · have cd4 : lg_cmp (h1.2.2.1 83 j) (tLet y n p) = 0 := by simpa [zcond] using cd4
          rw [cmp0] at cd4
          refine pa_iload_n (pc' := 27) dX5_nameOfToken_26 hl3 rfl ?_
          exact pa_iret dX5_nameOfToken_27 rfl rfl ⟨rfl, nI j, rfl, .inl ⟨j, by omega, rfl, cd4, hall⟩⟩
  refine pa_lstore_n (pc' := 5) (v := tLet y n p) dX5_nameOfToken_4 (by decide) rfl rfl ?_
  refine pa_iconst (v := nI 0) (pc' := 6) dX5_nameOfToken_5 (by decide) rfl ?_
  refine pa_istore_n (pc' := 7) dX5_nameOfToken_6 (by decide) rfl rfl ?_
  exact loop N 0 _ rfl rfl rfl (Nat.zero_le _) (fun i hi => absurd hi (Nat.not_lt_zero i))
theorem srt_m2 {x : Int32} (h : srt y n p x) : (x = -2 ↔ srt y n p (-2)) := by
  refine ⟨fun e => by rw [← e]; exact h, fun e => ?_⟩
  have e : ¬ wIs y n p wPost ∧ ¬ wIs y n p wIsland ∧ ¬ wIs y n p wWay ∧ ¬ wIs y n p wWhale ∧ ¬ wIs y n p wBox ∧ ¬ wIs y n p wSpout := by
    rcases e with e | e | e | e | e | e | e
    · exact absurd e.1 (by decide)
    · exact absurd e.1 (by decide)
    · exact absurd e.1 (by decide)
    · exact absurd e.1 (by decide)
    · exact absurd e.1 (by decide)
    · exact absurd e.1 (by decide)
    · exact e.2
  rcases h with h | h | h | h | h | h | h
  · exact absurd h.2 e.1
  · exact absurd h.2 e.2.1
  · exact absurd h.2 e.2.2.1
  · exact absurd h.2 e.2.2.2.1
  · exact absurd h.2 e.2.2.2.2.1
  · exact absurd h.2 e.2.2.2.2.2
  · exact h.1
/-- is a name that may be told or new -/
def isN (y : Nat → Int32) (n p : Nat) : Prop := tT y n p = 2 ∧ srt y n p (-2)
def nwQ (y : Nat → Int32) (n p m : Nat) (s k : Int32) (h : zH) (v : Option zV) (h' : zH) : Prop := ∃ h1, nx y n p h h1 ∧ ((v = some (.inl 0) ∧ ¬ isN y n p ∧ flt 1 (tS y n p) h1 h') ∨ (isN y n p ∧ (∃ i, i < m ∧ h.2.2.1 83 i = tLet y n p) ∧ v = some (.inl 0) ∧ flt 3 (tS y n p) h1 h') ∨ (isN y n p ∧ (∀ i, i < m → h.2.2.1 83 i ≠ tLet y n p) ∧ v = some (.inl 1) ∧ h' = newN h1 m (tLet y n p) s k))
theorem c_new {s k : Int32} (hx : rx y n c h) (hat : h.2.1 82 2 = nI p) (hp : p ≤ n) (hm : h.2.1 82 10 = nI m) (hm2 : m < 20) : zPa d mX5_newName [.inr (.inr (some 82)), .inl s, .inl k] h (nwQ y n p m s k h) := by
  intro N
  show zPn N none d mX5_newName (0, [(0, .inr (.inr (some 82))), (1, .inl s), (2, .inl k)], [], h) _
  refine pa_aload_n (pc' := 1) dX5_newName_0 rfl rfl ?_
  refine pa_callv (pc' := 4) (vs := []) (rest := []) dX5_newName_1 ml_5_70 (by decide) rfl rfl rfl (fun d' _ => c_next hx hat hp) (fun r h1 hq => ?_)
  obtain ⟨er, hq⟩ := hq
  subst er
  have q := hq.ct hx hp
  obtain ⟨hx1, -, hs, ht, he⟩ := q
  have q := hq.ct hx hp
  have s82 := hx1.sh sh_82
  have s83 := hx1.sh sh_83
  have s84 := hx1.sh sh_84
  have s85 := hx1.sh sh_85
  have r82_7 := hx1.2.1 _ _ _ rf_82_7
  have r82_8 := hx1.2.1 _ _ _ rf_82_8
  have r82_9 := hx1.2.1 _ _ _ rf_82_9
  have eL : h1.2.2.1 = h.2.2.1 := congrArg Prod.fst hq.rest.2
  have hm1 : h1.2.1 82 10 = nI m := (hq.at (by omega)).trans hm
  have bad : ¬ isN y n p → zPn N none d mX5_newName (21, [(0, .inr (.inr (some 82))), (1, .inl s), (2, .inl k)], [], h1) (nwQ y n p m s k h) := by
    intro z
    refine pa_aload_n (pc' := 22) dX5_newName_21 rfl rfl ?_
    refine pa_iconst (v := 1) (pc' := 23) dX5_newName_22 (by decide) rfl ?_
    refine pa_callv (pc' := 26) (vs := [.inl 1]) (rest := []) dX5_newName_23 ml_5_76 (by decide) rfl rfl rfl (fun d' _ => c_flt hx1 hs) (fun r h3 hq3 => ?_)
    obtain ⟨er, hq3⟩ := hq3
    subst er
    exact pa_iret (x := 0) dX5_newName_26 rfl rfl ⟨h1, hq, .inl ⟨rfl, z, hq3⟩⟩
  show zPn N none d mX5_newName (4, [(0, .inr (.inr (some 82))), (1, .inl s), (2, .inl k)], [], h1) _
  refine pa_aload_n (pc' := 5) dX5_newName_4 rfl rfl ?_
  refine pa_getI (pc' := 8) (n := 13) dX5_newName_5 fl_5_18 s82 (by decide) ht rfl ?_
  refine pa_iconst (v := 1) (pc' := 9) dX5_newName_8 (by decide) rfl ?_
  refine pa_icmp (pc' := 21) (pc2 := 12) dX5_newName_9 (by decide) rfl (fun cd => ?_) (fun cd => ?_)
  · have cd : ¬ cT (tT y n p) = 1 := by simpa [zcond] using cd
    exact bad (fun z => cd ((q.tt (t := 2) (by decide)).mpr z.1))
  · have cd : cT (tT y n p) = 1 := by simpa [zcond] using cd
    have e2 : tT y n p = 2 := (q.tt (t := 2) (by decide)).mp cd
    refine pa_aload_n (pc' := 13) dX5_newName_12 rfl rfl ?_
    refine pa_callv (pc' := 16) (vs := []) (rest := []) dX5_newName_13 ml_5_80 (by decide) rfl rfl rfl (fun d' _ => c_sort q) (fun r h2 hq2 => ?_)
    obtain ⟨eh, x, er, hsr⟩ := hq2
    subst eh; subst er
    refine pa_bipush (v := -2) (pc' := 18) dX5_newName_16 (by decide) rfl ?_
    refine pa_icmp (pc' := 27) (pc2 := 21) dX5_newName_18 (by decide) rfl (fun cd2 => ?_) (fun cd2 => ?_)
    · have cd2 : x = -2 := by simpa [zcond] using cd2
      have hN : isN y n p := ⟨e2, (srt_m2 hsr).mp cd2⟩
      refine pa_aload_n (pc' := 28) dX5_newName_27 rfl rfl ?_
      refine pa_callv (pc' := 31) (vs := []) (rest := []) dX5_newName_28 ml_5_248 (by decide) rfl rfl rfl (fun d' _ => c_nam q e2 hm1 (by omega)) (fun r h3 hq3 => ?_)
      obtain ⟨eh, x, er, hfn⟩ := hq3
      subst eh; subst er
      refine pa_bipush (v := -2) (pc' := 33) dX5_newName_31 (by decide) rfl ?_
      refine pa_icmp (pc' := 45) (pc2 := 36) dX5_newName_33 (by decide) rfl (fun cd3 => ?_) (fun cd3 => ?_)
      · have cd3 : ¬ x = -2 := by simpa [zcond] using cd3
        rcases hfn with ⟨j, h1j, -, h3j, -⟩ | ⟨z, -⟩
        · refine pa_aload_n (pc' := 46) dX5_newName_45 rfl rfl ?_
          refine pa_iconst (v := 3) (pc' := 47) dX5_newName_46 (by decide) rfl ?_
          refine pa_callv (pc' := 50) (vs := [.inl 3]) (rest := []) dX5_newName_47 ml_5_76 (by decide) rfl rfl rfl (fun d' _ => c_flt hx1 hs) (fun r h4 hq4 => ?_)
          obtain ⟨er, hq4⟩ := hq4
          subst er
          exact pa_iret (x := 0) dX5_newName_50 rfl rfl ⟨_, hq, .inr (.inl ⟨hN, ⟨j, h1j, by rw [← eL]; exact h3j⟩, rfl, hq4⟩)⟩
        · exact absurd z cd3
      · have cd3 : x = -2 := by simpa [zcond] using cd3
        rcases hfn with ⟨j, h1j, z, -, -⟩ | ⟨-, hno⟩
        · rw [cd3] at z
          have := congrArg Int32.toInt z
          rw [nI_toInt (by omega)] at this
          have e : (-2 : Int32).toInt = -2 := by decide
          omega
        · refine pa_aload_n (pc' := 37) dX5_newName_36 rfl rfl ?_
          refine pa_getI (pc' := 40) (n := 13) dX5_newName_37 fl_5_38 s82 (by decide) hm1 rfl ?_
          refine pa_bipush (v := nI 20) (pc' := 42) dX5_newName_40 (by decide) rfl ?_
          refine pa_icmp_t (pc' := 51) dX5_newName_42 (zj_lt (by rw [nI_toInt (by omega), nI_toInt (by omega)]; omega)) (by decide) ?_
          refine pa_aload_n (pc' := 52) dX5_newName_51 rfl rfl ?_
          refine pa_getR (pc' := 55) (n := 13) (r := 83) dX5_newName_52 fl_5_27 s82 (by decide) r82_7 rfl ?_
          refine pa_aload_n (pc' := 56) dX5_newName_55 rfl rfl ?_
          refine pa_getI (pc' := 59) (n := 13) dX5_newName_56 fl_5_38 s82 (by decide) hm1 rfl ?_
          refine pa_aload_n (pc' := 60) dX5_newName_59 rfl rfl ?_
          refine pa_callv (pc' := 63) (vs := []) (rest := [.inl (nI m), .inr (.inr (some 83))]) dX5_newName_60 ml_5_251 (by decide) rfl rfl rfl (fun d' _ => c_let q e2) (fun r h4 hq4 => ?_)
          obtain ⟨eh, er⟩ := hq4
          subst eh; subst er
          refine pa_last (pc' := 64) (n := 20) (v := tLet y n p) dX5_newName_63 s83 (zn_in (by omega) (by omega)) rfl ?_
          rw [nI_clamp (by omega)]
          have hm3 : (zsL h4 83 m (tLet y n p)).2.1 82 10 = nI m := hm1
          refine pa_aload_n (pc' := 65) dX5_newName_64 rfl rfl ?_
          refine pa_getR (pc' := 68) (n := 13) (r := 84) dX5_newName_65 fl_5_31 s82 (by decide) r82_8 rfl ?_
          refine pa_aload_n (pc' := 69) dX5_newName_68 rfl rfl ?_
          refine pa_getI (pc' := 72) (n := 13) dX5_newName_69 fl_5_38 s82 (by decide) hm3 rfl ?_
          refine pa_iload_n (pc' := 73) dX5_newName_72 rfl rfl ?_
          refine pa_iast (pc' := 74) (n := 20) dX5_newName_73 s84 rfl (fun _ => ?_)
          rw [nI_clamp (by omega)]
          have hm4 : (zsI (zsL h4 83 m (tLet y n p)) 84 m s).2.1 82 10 = nI m := by rw [zsI_no (by omega)]; exact hm3
          refine pa_aload_n (pc' := 75) dX5_newName_74 rfl rfl ?_
          refine pa_getR (pc' := 78) (n := 13) (r := 85) dX5_newName_75 fl_5_35 s82 (by decide) r82_9 rfl ?_
          refine pa_aload_n (pc' := 79) dX5_newName_78 rfl rfl ?_
          refine pa_getI (pc' := 82) (n := 13) dX5_newName_79 fl_5_38 s82 (by decide) hm4 rfl ?_
          refine pa_iload_n (pc' := 83) dX5_newName_82 rfl rfl ?_
          refine pa_iast (pc' := 84) (n := 20) dX5_newName_83 s85 rfl (fun _ => ?_)
          rw [nI_clamp (by omega)]
          have hm5 : (zsI (zsI (zsL h4 83 m (tLet y n p)) 84 m s) 85 m k).2.1 82 10 = nI m := by rw [zsI_no (by omega)]; exact hm4
          refine pa_aload_n (pc' := 85) dX5_newName_84 rfl rfl ?_
          refine pa_dup (pc' := 86) dX5_newName_85 rfl rfl ?_
          refine pa_getI (pc' := 89) (n := 13) dX5_newName_86 fl_5_38 s82 (by decide) hm5 rfl ?_
          refine pa_iconst (v := nI 1) (pc' := 90) dX5_newName_89 (by decide) rfl ?_
          refine pa_iadd (pc' := 91) (v := nI (m + 1)) dX5_newName_90 (nI_add _ _) rfl ?_
          refine pa_putI (pc' := 94) (n := 13) dX5_newName_91 fl_5_38 s82 (Or.inl rfl) (Or.inl rfl) rfl ?_
          refine pa_iconst (v := 1) (pc' := 95) dX5_newName_94 (by decide) rfl ?_
          exact pa_iret dX5_newName_95 rfl rfl ⟨_, hq, .inr (.inr ⟨hN, fun i hi => by rw [← eL]; exact hno i hi, rfl, rfl⟩)⟩
    · have cd2 : ¬ x = -2 := by simpa [zcond] using cd2
      exact bad (fun z => cd2 ((srt_m2 hsr).mpr z.2))
def tdQ (y : Nat → Int32) (n p m : Nat) (s : Int32) (h : zH) (v : Option zV) (h' : zH) : Prop := ∃ h1, nx y n p h h1 ∧ ((v = some (.inl 0) ∧ ¬ isN y n p ∧ flt 1 (tS y n p) h1 h') ∨ (isN y n p ∧ ((∀ i, i < m → h.2.2.1 83 i ≠ tLet y n p) ∨ ∃ j, j < m ∧ h.2.2.1 83 j = tLet y n p ∧ (∀ i, i < j → h.2.2.1 83 i ≠ tLet y n p) ∧ h.2.1 84 j ≠ s) ∧ v = some (.inl 0) ∧ flt 2 (tS y n p) h1 h') ∨ (isN y n p ∧ v = some (.inl 1) ∧ ∃ j, j < m ∧ h.2.2.1 83 j = tLet y n p ∧ (∀ i, i < j → h.2.2.1 83 i ≠ tLet y n p) ∧ h.2.1 84 j = s ∧ h' = zsI h1 82 5 (h.2.1 85 j)))
theorem c_told {s : Int32} (hx : rx y n c h) (hat : h.2.1 82 2 = nI p) (hp : p ≤ n) (hm : h.2.1 82 10 = nI m) (hm2 : m ≤ 20) : zPa d mX5_toldName [.inr (.inr (some 82)), .inl s] h (tdQ y n p m s h) := by
  intro N
  show zPn N none d mX5_toldName (0, [(0, .inr (.inr (some 82))), (1, .inl s)], [], h) _
  refine pa_aload_n (pc' := 1) dX5_toldName_0 rfl rfl ?_
  refine pa_callv (pc' := 4) (vs := []) (rest := []) dX5_toldName_1 ml_5_70 (by decide) rfl rfl rfl (fun d' _ => c_next hx hat hp) (fun r h1 hq => ?_)
  obtain ⟨er, hq⟩ := hq
  subst er
  have q := hq.ct hx hp
  obtain ⟨hx1, -, hs, ht, he⟩ := q
  have q := hq.ct hx hp
  have s82 := hx1.sh sh_82
  have s84 := hx1.sh sh_84
  have s85 := hx1.sh sh_85
  have r82_8 := hx1.2.1 _ _ _ rf_82_8
  have r82_9 := hx1.2.1 _ _ _ rf_82_9
  have eL : h1.2.2.1 = h.2.2.1 := congrArg Prod.fst hq.rest.2
  have hm1 : h1.2.1 82 10 = nI m := (hq.at (by omega)).trans hm
  have bad : ¬ isN y n p → zPn N none d mX5_toldName (21, [(0, .inr (.inr (some 82))), (1, .inl s)], [], h1) (tdQ y n p m s h) := by
    intro z
    refine pa_aload_n (pc' := 22) dX5_toldName_21 rfl rfl ?_
    refine pa_iconst (v := 1) (pc' := 23) dX5_toldName_22 (by decide) rfl ?_
    refine pa_callv (pc' := 26) (vs := [.inl 1]) (rest := []) dX5_toldName_23 ml_5_76 (by decide) rfl rfl rfl (fun d' _ => c_flt hx1 hs) (fun r h3 hq3 => ?_)
    obtain ⟨er, hq3⟩ := hq3
    subst er
    exact pa_iret (x := 0) dX5_toldName_26 rfl rfl ⟨h1, hq, .inl ⟨rfl, z, hq3⟩⟩
  have un : ∀ (ls : zL), zget ls 0 = some (.inr (.inr (some 82))) → isN y n p → ((∀ i, i < m → h.2.2.1 83 i ≠ tLet y n p) ∨ ∃ j, j < m ∧ h.2.2.1 83 j = tLet y n p ∧ (∀ i, i < j → h.2.2.1 83 i ≠ tLet y n p) ∧ h.2.1 84 j ≠ s) → zPn N none d mX5_toldName (48, ls, [], h1) (tdQ y n p m s h) := by
    intro ls hl0 hN z
    refine pa_aload_n (pc' := 49) dX5_toldName_48 hl0 rfl ?_
    refine pa_iconst (v := 2) (pc' := 50) dX5_toldName_49 (by decide) rfl ?_
    refine pa_callv (pc' := 53) (vs := [.inl 2]) (rest := []) dX5_toldName_50 ml_5_76 (by decide) rfl rfl rfl (fun d' _ => c_flt hx1 hs) (fun r h3 hq3 => ?_)
    obtain ⟨er, hq3⟩ := hq3
    subst er
    exact pa_iret (x := 0) dX5_toldName_53 rfl rfl ⟨h1, hq, .inr (.inl ⟨hN, z, rfl, hq3⟩)⟩
  show zPn N none d mX5_toldName (4, [(0, .inr (.inr (some 82))), (1, .inl s)], [], h1) _
  refine pa_aload_n (pc' := 5) dX5_toldName_4 rfl rfl ?_
  refine pa_getI (pc' := 8) (n := 13) dX5_toldName_5 fl_5_18 s82 (by decide) ht rfl ?_
  refine pa_iconst (v := 1) (pc' := 9) dX5_toldName_8 (by decide) rfl ?_
  refine pa_icmp (pc' := 21) (pc2 := 12) dX5_toldName_9 (by decide) rfl (fun cd => ?_) (fun cd => ?_)
  · have cd : ¬ cT (tT y n p) = 1 := by simpa [zcond] using cd
    exact bad (fun z => cd ((q.tt (t := 2) (by decide)).mpr z.1))
  · have cd : cT (tT y n p) = 1 := by simpa [zcond] using cd
    have e2 : tT y n p = 2 := (q.tt (t := 2) (by decide)).mp cd
    refine pa_aload_n (pc' := 13) dX5_toldName_12 rfl rfl ?_
    refine pa_callv (pc' := 16) (vs := []) (rest := []) dX5_toldName_13 ml_5_80 (by decide) rfl rfl rfl (fun d' _ => c_sort q) (fun r h2 hq2 => ?_)
    obtain ⟨eh, x, er, hsr⟩ := hq2
    subst eh; subst er
    refine pa_bipush (v := -2) (pc' := 18) dX5_toldName_16 (by decide) rfl ?_
    refine pa_icmp (pc' := 27) (pc2 := 21) dX5_toldName_18 (by decide) rfl (fun cd2 => ?_) (fun cd2 => ?_)
    · have cd2 : x = -2 := by simpa [zcond] using cd2
      have hN : isN y n p := ⟨e2, (srt_m2 hsr).mp cd2⟩
      refine pa_aload_n (pc' := 28) dX5_toldName_27 rfl rfl ?_
      refine pa_callv (pc' := 31) (vs := []) (rest := []) dX5_toldName_28 ml_5_248 (by decide) rfl rfl rfl (fun d' _ => c_nam q e2 hm1 (by omega)) (fun r h3 hq3 => ?_)
      obtain ⟨eh, x, er, hfn⟩ := hq3
      subst eh; subst er
      refine pa_istore_n (pc' := 32) (v := x) dX5_toldName_31 (by decide) rfl rfl ?_
      refine pa_iload_n (pc' := 33) dX5_toldName_32 rfl rfl ?_
      refine pa_bipush (v := -2) (pc' := 35) dX5_toldName_33 (by decide) rfl ?_
      rcases hfn with ⟨j, h1j, z, hj, hno⟩ | ⟨z, hno⟩
      · subst z
        refine pa_icmp_f (pc' := 38) dX5_toldName_35 (decide_eq_false (fun z => by
          have := congrArg Int32.toInt z
          rw [nI_toInt (by omega)] at this
          have e : (-2 : Int32).toInt = -2 := by decide
          omega)) (by decide) rfl ?_
        refine pa_aload_n (pc' := 39) dX5_toldName_38 rfl rfl ?_
        refine pa_getR (pc' := 42) (n := 13) (r := 84) dX5_toldName_39 fl_5_31 s82 (by decide) r82_8 rfl ?_
        refine pa_iload_n (pc' := 43) dX5_toldName_42 rfl rfl ?_
        refine pa_iald (pc' := 44) (n := 20) dX5_toldName_43 s84 rfl (fun _ => ?_)
        rw [nI_clamp (by omega)]
        have e84 : h3.2.1 84 j = h.2.1 84 j := hq.at (by omega)
        have e85 : h3.2.1 85 j = h.2.1 85 j := hq.at (by omega)
        refine pa_iload_n (pc' := 45) dX5_toldName_44 rfl rfl ?_
        rw [eL] at hj hno
        refine pa_icmp (pc' := 54) (pc2 := 48) dX5_toldName_45 (by decide) rfl (fun cd3 => ?_) (fun cd3 => ?_)
        · have cd3 : h3.2.1 84 j = s := by simpa [zcond] using cd3
          refine pa_aload_n (pc' := 55) dX5_toldName_54 rfl rfl ?_
          refine pa_aload_n (pc' := 56) dX5_toldName_55 rfl rfl ?_
          refine pa_getR (pc' := 59) (n := 13) (r := 85) dX5_toldName_56 fl_5_35 s82 (by decide) r82_9 rfl ?_
          refine pa_iload_n (pc' := 60) dX5_toldName_59 rfl rfl ?_
          refine pa_iald (pc' := 61) (n := 20) dX5_toldName_60 s85 rfl (fun _ => ?_)
          rw [nI_clamp (by omega), e85]
          refine pa_putI (pc' := 64) (n := 13) dX5_toldName_61 fl_5_24 s82 (Or.inl rfl) (Or.inl rfl) rfl ?_
          refine pa_iconst (v := 1) (pc' := 65) dX5_toldName_64 (by decide) rfl ?_
          exact pa_iret dX5_toldName_65 rfl rfl ⟨_, hq, .inr (.inr ⟨hN, rfl, j, h1j, hj, hno, by rw [← e84]; exact cd3, rfl⟩)⟩
        · have cd3 : ¬ h3.2.1 84 j = s := by simpa [zcond] using cd3
          exact un _ rfl hN (.inr ⟨j, h1j, hj, hno, by rw [← e84]; exact cd3⟩)
      · subst z
        refine pa_icmp_t (pc' := 48) dX5_toldName_35 (by decide) (by decide) ?_
        rw [eL] at hno
        exact un _ rfl hN (.inl hno)
    · have cd2 : ¬ x = -2 := by simpa [zcond] using cd2
      exact bad (fun z => cd2 ((srt_m2 hsr).mpr z.2))
end RDX
end Pk2
section Pk3
/-! what a text says: the lines, as functions of tokens -/
def seg (y : Nat → Int32) : Nat → Nat → List Int32
  | 0, _ => []
  | k + 1, s => y s :: seg y k (s + 1)
theorem seg_len {y : Nat → Int32} : ∀ {k s : Nat}, (seg y k s).length = k
  | 0, _ => rfl
  | k + 1, s => by show (seg y k (s + 1)).length + 1 = k + 1; rw [seg_len]
theorem seg_get {y : Nat → Int32} : ∀ {k s j : Nat}, j < k → (seg y k s).getD j 0 = y (s + j)
  | 0, _, j, h => absurd h (Nat.not_lt_zero j)
  | k + 1, s, 0, _ => rfl
  | k + 1, s, j + 1, h => by
    show (seg y k (s + 1)).getD j 0 = y (s + (j + 1))
    rw [seg_get (by omega)]
    congr 1
    omega
theorem list_get {a b : List Int32} (hl : a.length = b.length) (h : ∀ j, j < b.length → a.getD j 0 = b.getD j 0) : a = b := by
  refine List.ext_getElem hl (fun j h1 h2 => ?_)
  have := h j h2
  rw [List.getD_eq_getElem?_getD, List.getD_eq_getElem?_getD, List.getElem?_eq_getElem h1, List.getElem?_eq_getElem h2] at this
  exact this
def tW (y : Nat → Int32) (n p : Nat) : List Int32 := seg y (tE y n p - tS y n p) (tS y n p)
theorem wIs_w {y : Nat → Int32} {n p : Nat} {bs : List Int32} : wIs y n p bs ↔ (tT y n p = 2 ∧ tW y n p = bs) := by
  refine ⟨fun ⟨a, b, c⟩ => ⟨a, ?_⟩, fun ⟨a, b⟩ => ⟨a, ?_, fun k hk => ?_⟩⟩
  · refine list_get (by unfold tW; rw [seg_len, b]) (fun j hj => ?_)
    unfold tW
    rw [seg_get (by omega)]
    exact c j hj
  · rw [← b]; unfold tW; rw [seg_len]
  · rw [← b] at hk ⊢
    unfold tW at hk ⊢
    rw [seg_len] at hk
    rw [seg_get hk]
abbrev sF : Type := Int32 × Nat
def kws : List (List Int32) := [wPost, wIsland, wWay, wWhale, wBox, wSpout]
def sWord (y : Nat → Int32) (n : Nat) (bs : List Int32) (p : Nat) : sF ⊕ Nat := if tT y n p = 2 ∧ tW y n p = bs then .inr (tE y n p) else .inl (1, tS y n p)
def sNum (y : Nat → Int32) (n : Nat) (lo hi : Int32) (p : Nat) : sF ⊕ (Int32 × Nat) := if tT y n p = 3 then (if lo ≤ tNum y n p ∧ tNum y n p ≤ hi then .inr (tNum y n p, tE y n p) else .inl (4, tS y n p)) else .inl (1, tS y n p)
def sWN (y : Nat → Int32) (n : Nat) (bs : List Int32) (lo hi : Int32) (p : Nat) : sF ⊕ (Int32 × Nat) := match sWord y n bs p with
  | .inl e => .inl e
  | .inr q => sNum y n lo hi q
def isNb (y : Nat → Int32) (n p : Nat) : Bool := decide (tT y n p = 2) && !(kws.contains (tW y n p))
/-- what was told so far: notes (0: no head), names by their place, songs, ways, spouts, how many of each -/
abbrev pA : Type := Int32 × (Nat → List Int32) × (Nat → List Int32) × (Nat → Nat × Nat) × (Nat → Nat × Int32) × (Nat × Nat × Nat × Nat × Nat)
def nFind (nm : Nat → List Int32) (w : List Int32) : Option Nat := (List.range 20).find? (fun i => decide (nm i = w))
def sNew (y : Nat → Int32) (n : Nat) (nm : Nat → List Int32) (p : Nat) : sF ⊕ Nat := if isNb y n p then (if (nFind nm (tW y n p)).isSome then .inl (3, tS y n p) else .inr (tE y n p)) else .inl (1, tS y n p)
def sOld (y : Nat → Int32) (n : Nat) (nm : Nat → List Int32) (lo hi : Nat) (p : Nat) : sF ⊕ (Nat × Nat) := if isNb y n p then (match nFind nm (tW y n p) with
    | some i => if lo ≤ i ∧ i ≤ hi then .inr (i - lo, tE y n p) else .inl (2, tS y n p)
    | none => .inl (2, tS y n p)) else .inl (1, tS y n p)
def upA {α : Type} (f : Nat → α) (k : Nat) (v : α) : Nat → α := fun j => if j = k then v else f j
/-- a number that was told, at its place in the reference's row -/
def xS (S : Nat → List Int32) (j : Nat) (x : Int32) : Nat → List Int32 := upA S (1000 + j) [x]
def wNotes : List Int32 := [110, 111, 116, 101, 115]
def wErrors : List Int32 := [101, 114, 114, 111, 114, 115]
def wDrift : List Int32 := [100, 114, 105, 102, 116]
def wSlip : List Int32 := [115, 108, 105, 112]
def wDays : List Int32 := [100, 97, 121, 115]
def wOpen : List Int32 := [111, 112, 101, 110]
def wAt : List Int32 := [97, 116]
def wKeeps : List Int32 := [107, 101, 101, 112, 115]
def wLost : List Int32 := [108, 111, 115, 116]
def wFrom : List Int32 := [102, 114, 111, 109]
def wTo : List Int32 := [116, 111]
def wWeighs : List Int32 := [119, 101, 105, 103, 104, 115]
def wDay : List Int32 := [100, 97, 121]
abbrev sR : Type := sF ⊕ (pA × Nat)
def sHead (y : Nat → Int32) (n : Nat) (A : pA) (p : Nat) : sR := match sWN y n wNotes 2 4 p with
  | .inl e => .inl e
  | .inr (t, p) => (match sWN y n wErrors 0 3 p with
    | .inl e => .inl e
    | .inr (u, p) => (match sWN y n wDrift 0 50 p with
      | .inl e => .inl e
      | .inr (v, p) => (match sWN y n wSlip 0 100 p with
        | .inl e => .inl e
        | .inr (w, p) => .inr ((t, A.2.1, xS (xS (xS A.2.2.1 1 u) 2 v) 3 w, A.2.2.2), p))))
def okSong (t : Int32) (w : List Int32) : Bool := decide (2 ≤ w.length) && (decide (w.length ≤ 6) && w.all (fun b => decide (b - 97 < t)))
def sIsland (y : Nat → Int32) (n : Nat) (A : pA) (p : Nat) : sR := match sNew y n A.2.1 p with
  | .inl e => .inl e
  | .inr q => if tT y n q = 2 then (if okSong A.1 (tW y n q) then (if (List.range A.2.2.2.2.2.1).any (fun i => decide (A.2.2.1 i = tW y n q)) then .inl (3, tS y n q) else
      .inr ((A.1, upA A.2.1 A.2.2.2.2.2.1 (tW y n p), upA A.2.2.1 A.2.2.2.2.2.1 (tW y n q), A.2.2.2.1, A.2.2.2.2.1, A.2.2.2.2.2.1 + 1, A.2.2.2.2.2.2), tE y n q)) else .inl (7, tS y n q)) else .inl (1, tS y n q)
def joinsB (wy : Nat → Nat × Nat) (a b k : Nat) : Bool := decide (wy k = (a, b)) || decide (wy k = (b, a))
def sWay (y : Nat → Int32) (n : Nat) (A : pA) (p : Nat) : sR := match sOld y n A.2.1 0 6 p with
  | .inl e => .inl e
  | .inr (a, q) => (match sOld y n A.2.1 0 6 q with
    | .inl e => .inl e
    | .inr (b, r) => if a = b ∨ (List.range A.2.2.2.2.2.2.1).any (joinsB A.2.2.2.1 a b) then .inl (3, tS y n q) else (match sWN y n wDays 1 99 r with
      | .inl e => .inl e
      | .inr (u, r) => (match sWN y n wOpen 1 15 r with
        | .inl e => .inl e
        | .inr (v, r) => .inr ((A.1, A.2.1, xS (xS A.2.2.1 (61 + 4 * A.2.2.2.2.2.2.1) u) (62 + 4 * A.2.2.2.2.2.2.1) v, upA A.2.2.2.1 A.2.2.2.2.2.2.1 (a, b), A.2.2.2.2.1, A.2.2.2.2.2.1, A.2.2.2.2.2.2.1 + 1, A.2.2.2.2.2.2.2), r))))
/-- a whale's kind -/
def kdV (y : Nat → Int32) (n p : Nat) : Int32 := if tW y n p = [99, 97, 108, 102] then 0 else if tW y n p = [99, 111, 119] then 1 else if tW y n p = [98, 117, 108, 108] then 2 else 3
def isKind (y : Nat → Int32) (n p : Nat) : Bool := decide (tT y n p = 2) && ([[99, 97, 108, 102], [99, 111, 119], [98, 117, 108, 108], [111, 108, 100]] : List (List Int32)).contains (tW y n p)
def sWhale (y : Nat → Int32) (n : Nat) (A : pA) (p : Nat) : sR := match sNew y n A.2.1 p with
  | .inl e => .inl e
  | .inr q => if isKind y n q then (match sWord y n wAt (tE y n q) with
    | .inl e => .inl e
    | .inr r => (match sOld y n (upA A.2.1 (7 + A.2.2.2.2.2.2.2.1) (tW y n p)) 0 6 r with
      | .inl e => .inl e
      | .inr (a, r) => (match sWN y n wKeeps 0 99 r with
        | .inl e => .inl e
        | .inr (u, r) => (match sWN y n wLost 0 99 r with
          | .inl e => .inl e
          | .inr (v, r) => .inr ((A.1, upA A.2.1 (7 + A.2.2.2.2.2.2.2.1) (tW y n p), xS (xS (xS (xS A.2.2.1 (107 + 4 * A.2.2.2.2.2.2.2.1) (kdV y n q)) (108 + 4 * A.2.2.2.2.2.2.2.1) (nI a)) (109 + 4 * A.2.2.2.2.2.2.2.1) u) (110 + 4 * A.2.2.2.2.2.2.2.1) v, A.2.2.2.1, A.2.2.2.2.1, A.2.2.2.2.2.1, A.2.2.2.2.2.2.1, A.2.2.2.2.2.2.2.1 + 1, A.2.2.2.2.2.2.2.2), r))))) else .inl (1, tS y n q)
def sBox (y : Nat → Int32) (n : Nat) (A : pA) (p : Nat) : sR := match sNew y n A.2.1 p with
  | .inl e => .inl e
  | .inr q => (match sWord y n wFrom q with
    | .inl e => .inl e
    | .inr r => (match sOld y n (upA A.2.1 (12 + A.2.2.2.2.2.2.2.2.1) (tW y n p)) 0 6 r with
      | .inl e => .inl e
      | .inr (a, r) => (match sWord y n wTo r with
        | .inl e => .inl e
        | .inr r => (match sOld y n (upA A.2.1 (12 + A.2.2.2.2.2.2.2.2.1) (tW y n p)) 0 6 r with
          | .inl e => .inl e
          | .inr (b, r) => (match sWN y n wWeighs 1 99 r with
            | .inl e => .inl e
            | .inr (u, r) => (match sWN y n wDay 0 9999 r with
              | .inl e => .inl e
              | .inr (v, r) => .inr ((A.1, upA A.2.1 (12 + A.2.2.2.2.2.2.2.2.1) (tW y n p), xS (xS (xS (xS A.2.2.1 (127 + 4 * A.2.2.2.2.2.2.2.2.1) (nI a)) (128 + 4 * A.2.2.2.2.2.2.2.2.1) (nI b)) (129 + 4 * A.2.2.2.2.2.2.2.2.1) u) (130 + 4 * A.2.2.2.2.2.2.2.2.1) v, A.2.2.2.1, A.2.2.2.2.1, A.2.2.2.2.2.1, A.2.2.2.2.2.2.1, A.2.2.2.2.2.2.2.1, A.2.2.2.2.2.2.2.2.1 + 1, A.2.2.2.2.2.2.2.2.2), r)))))))
/-- the least day for one more spout of this whale -/
def least (sp : Nat → Nat × Int32) (w : Nat) : Nat → Int32
  | 0 => 0
  | k + 1 => if (sp k).1 = w then (sp k).2 + 1 else least sp w k
def sSpout (y : Nat → Int32) (n : Nat) (A : pA) (p : Nat) : sR := match sOld y n A.2.1 7 11 p with
  | .inl e => .inl e
  | .inr (w, q) => (match sOld y n A.2.1 0 6 q with
    | .inl e => .inl e
    | .inr (i, r) => (match sWN y n wDay (least A.2.2.2.2.1 w A.2.2.2.2.2.2.2.2.2) 9999 r with
      | .inl e => .inl e
      | .inr (g, r) => .inr ((A.1, A.2.1, xS A.2.2.1 (160 + 3 * A.2.2.2.2.2.2.2.2.2) (nI i), A.2.2.2.1, upA A.2.2.2.2.1 A.2.2.2.2.2.2.2.2.2 (w, g), A.2.2.2.2.2.1, A.2.2.2.2.2.2.1, A.2.2.2.2.2.2.2.1, A.2.2.2.2.2.2.2.2.1, A.2.2.2.2.2.2.2.2.2 + 1), r)))
def sLine (y : Nat → Int32) (n : Nat) (A : pA) (p : Nat) : sR :=
  if tT y n p = 2 ∧ tW y n p = wPost then (if A.1 = 0 then sHead y n A (tE y n p) else .inl (3, tS y n p))
  else if tT y n p = 2 ∧ tW y n p = wIsland then (if A.1 = 0 then .inl (6, tS y n p) else if A.2.2.2.2.2.1 < 7 then sIsland y n A (tE y n p) else .inl (5, tS y n p))
  else if tT y n p = 2 ∧ tW y n p = wWay then (if A.1 = 0 then .inl (6, tS y n p) else if A.2.2.2.2.2.2.1 < 12 then sWay y n A (tE y n p) else .inl (5, tS y n p))
  else if tT y n p = 2 ∧ tW y n p = wWhale then (if A.1 = 0 then .inl (6, tS y n p) else if A.2.2.2.2.2.2.2.1 < 5 then sWhale y n A (tE y n p) else .inl (5, tS y n p))
  else if tT y n p = 2 ∧ tW y n p = wBox then (if A.1 = 0 then .inl (6, tS y n p) else if A.2.2.2.2.2.2.2.2.1 < 8 then sBox y n A (tE y n p) else .inl (5, tS y n p))
  else if tT y n p = 2 ∧ tW y n p = wSpout then (if A.1 = 0 then .inl (6, tS y n p) else if A.2.2.2.2.2.2.2.2.2 < 8 then sSpout y n A (tE y n p) else .inl (5, tS y n p))
  else .inl (1, tS y n p)
/-- the lines of a text; what was told, or what is wrong and where -/
def sText (y : Nat → Int32) (n : Nat) : Nat → pA → Nat → sF ⊕ pA
  | 0, _, p => .inl (1, p)
  | f + 1, A, p => match sLine y n A p with
    | .inl e => .inl e
    | .inr (A, p) => if tT y n p = 0 then (if A.2.2.2.2.2.1 = 0 then .inl (6, tS y n p) else .inr A) else if tT y n p = 59 then sText y n f A (tE y n p) else .inl (1, tS y n p)
/-! words and songs as numbers -/
def codeL (w : List Int32) : Int64 := w.foldl (fun v b => v <<< ((5 : Int32).toInt64 &&& 63) ||| (b - 97 + 1).toInt64) 0
def codeS (w : List Int32) : Int32 := w.foldl (fun (v b : Int32) => v <<< (2 &&& 31) ||| (b - 97)) 0
def isLt (b : Int32) : Bool := decide (97 ≤ b) && decide (b ≤ 122)
theorem letF_w {y : Nat → Int32} : ∀ {k s : Nat} {v : Int64}, letF y k s v = (seg y k s).foldl (fun v b => v <<< ((5 : Int32).toInt64 &&& 63) ||| (b - 97 + 1).toInt64) v
  | 0, _, _ => rfl
  | k + 1, s, v => by
    show letF y k (s + 1) _ = (seg y k (s + 1)).foldl _ _
    rw [letF_w]
theorem tLet_w {y : Nat → Int32} {n p : Nat} : tLet y n p = codeL (tW y n p) := letF_w
def cnL (w : List Int32) : Nat := w.foldl (fun v b => 32 * v + (b.toInt.toNat - 96)) 0
theorem isLt_rg {b : Int32} (h : isLt b = true) : 97 ≤ b.toInt ∧ b.toInt ≤ 122 := by
  unfold isLt at h
  simp only [Bool.and_eq_true, decide_eq_true_eq, Int32.le_iff_toInt_le] at h
  exact h
theorem lt_code {b : Int32} (h : isLt b = true) : (b - 97 + 1).toInt64 = Int64.ofNat (b.toInt.toNat - 96) ∧ b.toInt.toNat - 96 < 32 := by
  obtain ⟨h1, h2⟩ := isLt_rg h
  have hk : ∀ q : Fin 26, ((nI (97 + q.val)) - 97 + 1).toInt64 = Int64.ofNat ((nI (97 + q.val)).toInt.toNat - 96) := by decide
  have eb : b = nI (97 + (b.toInt.toNat - 97)) := by
    refine Int32.toInt_inj.mp ?_
    rw [nI_toInt (by omega)]
    omega
  have := hk ⟨b.toInt.toNat - 97, by omega⟩
  rw [← eb] at this
  exact ⟨this, by omega⟩
theorem sh5 {V X : Nat} (hV : V < 2 ^ 40) (hX : X < 32) : Int64.ofNat V <<< ((5 : Int32).toInt64 &&& 63) ||| Int64.ofNat X = Int64.ofNat (32 * V + X) := by
  have e5 : ((5 : Int32).toInt64 &&& 63) = 5 := by decide
  rw [e5]
  refine Int64.toBitVec_inj.mp ?_
  refine BitVec.eq_of_toNat_eq ?_
  have h1 : (Int64.ofNat V).toBitVec = BitVec.ofNat 64 V := rfl
  have h2 : (Int64.ofNat X).toBitVec = BitVec.ofNat 64 X := rfl
  have h3 : (Int64.ofNat (32 * V + X)).toBitVec = BitVec.ofNat 64 (32 * V + X) := rfl
  rw [Int64.toBitVec_or, Int64.toBitVec_shiftLeft, h1, h2, h3]
  have e6 : (Int64.toBitVec 5).smod 64 = BitVec.ofNat 64 5 := by decide
  rw [e6, BitVec.toNat_or]
  have e7 : (BitVec.ofNat 64 V <<< BitVec.ofNat 64 5).toNat = V <<< 5 := by
    rw [BitVec.shiftLeft_eq', BitVec.toNat_shiftLeft, BitVec.toNat_ofNat, BitVec.toNat_ofNat]
    have : (5 % 2 ^ 64) = 5 := by decide
    rw [this, Nat.mod_eq_of_lt (a := V) (by omega), Nat.shiftLeft_eq]
    exact Nat.mod_eq_of_lt (by omega)
  rw [e7, BitVec.toNat_ofNat, BitVec.toNat_ofNat, Nat.mod_eq_of_lt (a := X) (by omega), Nat.mod_eq_of_lt (a := 32 * V + X) (by omega), ← Nat.shiftLeft_add_eq_or_of_lt (by omega : X < 2 ^ 5), Nat.shiftLeft_eq]
  omega
theorem cnL_lt : ∀ (w : List Int32) (v k : Nat), w.all isLt = true → v < 32 ^ k → w.foldl (fun v b => 32 * v + (b.toInt.toNat - 96)) v < 32 ^ (k + w.length)
  | [], v, k, _, hv => hv
  | b :: w, v, k, h, hv => by
    simp only [List.all_cons, Bool.and_eq_true] at h
    have hb := isLt_rg h.1
    have := cnL_lt w (32 * v + (b.toInt.toNat - 96)) (k + 1) h.2 (by rw [Nat.pow_succ]; omega)
    show w.foldl _ (32 * v + (b.toInt.toNat - 96)) < 32 ^ (k + (w.length + 1))
    rw [show k + (w.length + 1) = k + 1 + w.length by omega]
    exact this
theorem codeL_n : ∀ (w : List Int32) (v k : Nat), w.all isLt = true → v < 32 ^ k → k + w.length ≤ 8 → w.foldl (fun v b => v <<< ((5 : Int32).toInt64 &&& 63) ||| (b - 97 + 1).toInt64) (Int64.ofNat v) = Int64.ofNat (w.foldl (fun v b => 32 * v + (b.toInt.toNat - 96)) v)
  | [], v, k, _, _, _ => rfl
  | b :: w, v, k, h, hv, hl => by
    simp only [List.all_cons, Bool.and_eq_true] at h
    simp only [List.length_cons] at hl
    obtain ⟨c1, c2⟩ := lt_code h.1
    show w.foldl _ (Int64.ofNat v <<< _ ||| (b - 97 + 1).toInt64) = Int64.ofNat (w.foldl _ (32 * v + (b.toInt.toNat - 96)))
    have hp : 32 ^ k ≤ 32 ^ 7 := Nat.pow_le_pow_right (by decide) (by omega)
    rw [c1, sh5 (by omega) c2]
    exact codeL_n w _ (k + 1) h.2 (by rw [Nat.pow_succ]; omega) (by omega)
theorem foldl_snoc {f : Nat → Int32 → Nat} {w : List Int32} {b : Int32} {v : Nat} : (w ++ [b]).foldl f v = f (w.foldl f v) b := by rw [List.foldl_append]; rfl
theorem nil_or (w : List Int32) : w = [] ∨ ∃ u b, w = u ++ [b] := by
  rcases List.eq_nil_or_concat w with e | ⟨u, b, e⟩
  · exact .inl e
  · exact .inr ⟨u, b, by rw [e, List.concat_eq_append]⟩
theorem cnL_inj : ∀ (k : Nat) (w w' : List Int32), w.length + w'.length ≤ k → w.all isLt = true → w'.all isLt = true → cnL w = cnL w' → w = w' := by
  intro k
  induction k with
  | zero =>
    intro w w' hk _ _ _
    have e1 : w = [] := List.length_eq_zero_iff.mp (by omega)
    have e2 : w' = [] := List.length_eq_zero_iff.mp (by omega)
    rw [e1, e2]
  | succ k ih =>
    intro w w' hk h1 h2 e
    have pos : ∀ (u : List Int32) (b : Int32), (u ++ [b]).all isLt = true → cnL (u ++ [b]) = 32 * cnL u + (b.toInt.toNat - 96) ∧ 1 ≤ b.toInt.toNat - 96 ∧ b.toInt.toNat - 96 < 32 ∧ u.all isLt = true ∧ isLt b = true := by
      intro u b h
      rw [List.all_append, Bool.and_eq_true] at h
      have hb : isLt b = true := by simpa using h.2
      have := isLt_rg hb
      exact ⟨foldl_snoc, by omega, by omega, h.1, hb⟩
    rcases nil_or w with rfl | ⟨u, b, rfl⟩
    · rcases nil_or w' with rfl | ⟨u', b', rfl⟩
      · rfl
      · obtain ⟨q1, q2, q3, q4, -⟩ := pos u' b' h2
        rw [q1] at e
        have e : 0 = 32 * cnL u' + (b'.toInt.toNat - 96) := e
        omega
    · obtain ⟨p1, p2, p3, p4, p5⟩ := pos u b h1
      rcases nil_or w' with rfl | ⟨u', b', rfl⟩
      · rw [p1] at e
        have e : 32 * cnL u + (b.toInt.toNat - 96) = 0 := e
        omega
      · obtain ⟨q1, q2, q3, q4, q5⟩ := pos u' b' h2
        rw [p1, q1] at e
        have eu : u = u' := ih u u' (by simp only [List.length_append, List.length_cons, List.length_nil] at hk; omega) p4 q4 (by omega)
        have r1 := isLt_rg p5
        have r2 := isLt_rg q5
        have eb : b = b' := Int32.toInt_inj.mp (by omega)
        rw [eu, eb]
theorem codeL_inj {w w' : List Int32} (h1 : w.all isLt = true) (h2 : w'.all isLt = true) (l1 : w.length ≤ 8) (l2 : w'.length ≤ 8) (e : codeL w = codeL w') : w = w' := by
  have a1 := codeL_n w 0 0 h1 (by decide) (by omega)
  have a2 := codeL_n w' 0 0 h2 (by decide) (by omega)
  have b1 := cnL_lt w 0 0 h1 (by decide)
  have b2 := cnL_lt w' 0 0 h2 (by decide)
  have c1 : 32 ^ (0 + w.length) ≤ 32 ^ 8 := Nat.pow_le_pow_right (by decide) (by omega)
  have c2 : 32 ^ (0 + w'.length) ≤ 32 ^ 8 := Nat.pow_le_pow_right (by decide) (by omega)
  have e : Int64.ofNat (cnL w) = Int64.ofNat (cnL w') := a1.symm.trans (e.trans a2)
  have e : cnL w = cnL w' := by
    have q := congrArg (fun z : Int64 => z.toBitVec.toNat) e
    have g1 : ((Int64.ofNat (cnL w)).toBitVec).toNat = cnL w % 2 ^ 64 := BitVec.toNat_ofNat _ _
    have g2 : ((Int64.ofNat (cnL w')).toBitVec).toNat = cnL w' % 2 ^ 64 := BitVec.toNat_ofNat _ _
    have q : ((Int64.ofNat (cnL w)).toBitVec).toNat = ((Int64.ofNat (cnL w')).toBitVec).toNat := q
    rw [g1, g2] at q
    unfold cnL at q ⊢
    omega
  exact cnL_inj _ w w' (Nat.le_refl _) h1 h2 e
/-! songs -/
def cnS (w : List Int32) : Nat := w.foldl (fun v b => 4 * v + (b.toInt.toNat - 97)) 0
def isNt (b : Int32) : Bool := decide (97 ≤ b) && decide (b ≤ 100)
theorem isNt_rg {b : Int32} (h : isNt b = true) : 97 ≤ b.toInt ∧ b.toInt ≤ 100 := by
  unfold isNt at h
  simp only [Bool.and_eq_true, decide_eq_true_eq, Int32.le_iff_toInt_le] at h
  exact h
theorem sh2 {V X : Nat} (hV : V < 2 ^ 20) (hX : X < 4) : nI V <<< (2 &&& 31) ||| nI X = nI (4 * V + X) := by
  have e5 : ((2 : Int32) &&& 31) = 2 := by decide
  rw [e5]
  refine Int32.toBitVec_inj.mp ?_
  refine BitVec.eq_of_toNat_eq ?_
  have h1 : (nI V).toBitVec = BitVec.ofNat 32 V := rfl
  have h2 : (nI X).toBitVec = BitVec.ofNat 32 X := rfl
  have h3 : (nI (4 * V + X)).toBitVec = BitVec.ofNat 32 (4 * V + X) := rfl
  rw [Int32.toBitVec_or, Int32.toBitVec_shiftLeft, h1, h2, h3]
  have e6 : (Int32.toBitVec 2).smod 32 = BitVec.ofNat 32 2 := by decide
  rw [e6, BitVec.toNat_or]
  have e7 : (BitVec.ofNat 32 V <<< BitVec.ofNat 32 2).toNat = V <<< 2 := by
    rw [BitVec.shiftLeft_eq', BitVec.toNat_shiftLeft, BitVec.toNat_ofNat, BitVec.toNat_ofNat]
    have : (2 % 2 ^ 32) = 2 := by decide
    rw [this, Nat.mod_eq_of_lt (a := V) (by omega), Nat.shiftLeft_eq]
    exact Nat.mod_eq_of_lt (by omega)
  rw [e7, BitVec.toNat_ofNat, BitVec.toNat_ofNat, Nat.mod_eq_of_lt (a := X) (by omega), Nat.mod_eq_of_lt (a := 4 * V + X) (by omega), ← Nat.shiftLeft_add_eq_or_of_lt (by omega : X < 2 ^ 2), Nat.shiftLeft_eq]
  omega
theorem nt_code {b : Int32} (h : isNt b = true) : b - 97 = nI (b.toInt.toNat - 97) ∧ b.toInt.toNat - 97 < 4 := by
  obtain ⟨h1, h2⟩ := isNt_rg h
  have eb : b = nI (97 + (b.toInt.toNat - 97)) := by
    refine Int32.toInt_inj.mp ?_
    rw [nI_toInt (by omega)]
    omega
  refine ⟨?_, by omega⟩
  have := nI_sub (a := 97 + (b.toInt.toNat - 97)) (b := 97) (by omega)
  rw [← eb, show 97 + (b.toInt.toNat - 97) - 97 = b.toInt.toNat - 97 by omega] at this
  exact this
theorem cnS_lt : ∀ (w : List Int32) (v k : Nat), w.all isNt = true → v < 4 ^ k → w.foldl (fun v b => 4 * v + (b.toInt.toNat - 97)) v < 4 ^ (k + w.length)
  | [], v, k, _, hv => hv
  | b :: w, v, k, h, hv => by
    simp only [List.all_cons, Bool.and_eq_true] at h
    have hb := isNt_rg h.1
    have := cnS_lt w (4 * v + (b.toInt.toNat - 97)) (k + 1) h.2 (by rw [Nat.pow_succ]; omega)
    show w.foldl _ (4 * v + (b.toInt.toNat - 97)) < 4 ^ (k + (w.length + 1))
    rw [show k + (w.length + 1) = k + 1 + w.length by omega]
    exact this
theorem codeS_n : ∀ (w : List Int32) (v k : Nat), w.all isNt = true → v < 4 ^ k → k + w.length ≤ 6 → w.foldl (fun (v b : Int32) => v <<< (2 &&& 31) ||| (b - 97)) (nI v) = nI (w.foldl (fun v b => 4 * v + (b.toInt.toNat - 97)) v)
  | [], v, k, _, _, _ => rfl
  | b :: w, v, k, h, hv, hl => by
    simp only [List.all_cons, Bool.and_eq_true] at h
    simp only [List.length_cons] at hl
    obtain ⟨c1, c2⟩ := nt_code h.1
    show w.foldl (fun (v b : Int32) => v <<< (2 &&& 31) ||| (b - 97)) (nI v <<< (2 &&& 31) ||| (b - 97)) = nI (w.foldl (fun v b => 4 * v + (b.toInt.toNat - 97)) (4 * v + (b.toInt.toNat - 97)))
    have hp : 4 ^ k ≤ 4 ^ 5 := Nat.pow_le_pow_right (by decide) (by omega)
    rw [c1, sh2 (by omega) c2]
    exact codeS_n w _ (k + 1) h.2 (by rw [Nat.pow_succ]; omega) (by omega)
theorem cnS_inj : ∀ (w w' : List Int32) (v v' : Nat), w.length = w'.length → w.all isNt = true → w'.all isNt = true → w.foldl (fun v b => 4 * v + (b.toInt.toNat - 97)) v = w'.foldl (fun v b => 4 * v + (b.toInt.toNat - 97)) v' → v = v' ∧ w = w'
  | [], [], v, v', _, _, _, e => ⟨e, rfl⟩
  | [], _ :: _, _, _, h, _, _, _ => by cases h
  | _ :: _, [], _, _, h, _, _, _ => by cases h
  | b :: w, b' :: w', v, v', hl, h1, h2, e => by
    simp only [List.all_cons, Bool.and_eq_true] at h1 h2
    simp only [List.length_cons] at hl
    obtain ⟨q1, q2⟩ := cnS_inj w w' _ _ (by omega) h1.2 h2.2 e
    have q1 : 4 * v + (b.toInt.toNat - 97) = 4 * v' + (b'.toInt.toNat - 97) := q1
    have r1 := isNt_rg h1.1
    have r2 := isNt_rg h2.1
    have eb : b = b' := Int32.toInt_inj.mp (by omega)
    exact ⟨by omega, by rw [eb, q2]⟩
theorem codeS_inj {w w' : List Int32} (h1 : w.all isNt = true) (h2 : w'.all isNt = true) (l1 : w.length ≤ 6) (l2 : w.length = w'.length) (e : codeS w = codeS w') : w = w' := by
  have a1 := codeS_n w 0 0 h1 (by decide) (by omega)
  have a2 := codeS_n w' 0 0 h2 (by decide) (by omega)
  have b1 := cnS_lt w 0 0 h1 (by decide)
  have b2 := cnS_lt w' 0 0 h2 (by decide)
  have c1 : 4 ^ (0 + w.length) ≤ 4 ^ 6 := Nat.pow_le_pow_right (by decide) (by omega)
  have c2 : 4 ^ (0 + w'.length) ≤ 4 ^ 6 := Nat.pow_le_pow_right (by decide) (by omega)
  have e := congrArg Int32.toInt (a1.symm.trans (e.trans a2))
  rw [nI_toInt (by omega), nI_toInt (by omega)] at e
  exact (cnS_inj w w' 0 0 l2 h1 h2 (by omega)).2
end Pk3
section Pk4
/-! the class's draft beside what was told -/
abbrev cI (A : pA) : Nat := A.2.2.2.2.2.1
abbrev cW (A : pA) : Nat := A.2.2.2.2.2.2.1
abbrev cH (A : pA) : Nat := A.2.2.2.2.2.2.2.1
abbrev cB (A : pA) : Nat := A.2.2.2.2.2.2.2.2.1
abbrev cS (A : pA) : Nat := A.2.2.2.2.2.2.2.2.2
def occ (A : pA) (i : Nat) : Prop := i < cI A ∨ (7 ≤ i ∧ i < 7 + cH A) ∨ (12 ≤ i ∧ i < 12 + cB A)
def nmI (nm : Nat → List Int32) : Prop := (∀ i, i < 20 → nm i ≠ [] → (nm i).all isLt = true ∧ (nm i).length ≤ 8) ∧ (∀ i j, i < 20 → j < 20 → nm i ≠ [] → nm i = nm j → i = j)
def pI (A : pA) : Prop := (A.1 = 0 ∨ A.1 = 2 ∨ A.1 = 3 ∨ A.1 = 4) ∧ (A.1 = 0 → cI A = 0 ∧ cW A = 0 ∧ cH A = 0 ∧ cB A = 0 ∧ cS A = 0) ∧ (cI A ≤ 7 ∧ cW A ≤ 12 ∧ cH A ≤ 5 ∧ cB A ≤ 8 ∧ cS A ≤ 8) ∧ (∀ i, i < 20 → (A.2.1 i ≠ [] ↔ occ A i)) ∧ nmI A.2.1 ∧ (∀ i, i < cI A → okSong A.1 (A.2.2.1 i) = true ∧ (A.2.2.1 i).all isLt = true) ∧ (∀ k, k < cW A → (A.2.2.2.1 k).1 < 7 ∧ (A.2.2.2.1 k).2 < 7) ∧ (∀ k, k < cS A → (A.2.2.2.2.1 k).1 < 5)
def sN (i : Nat) (s k : Int32) : Prop := (i < 7 ∧ s = 1 ∧ k = nI i) ∨ (7 ≤ i ∧ i < 12 ∧ s = 3 ∧ k = nI (i - 7)) ∨ (12 ≤ i ∧ s = 4 ∧ k = nI (i - 12))
def rcN (nm : Nat → List Int32) (m : Nat) (h : zH) : Prop := h.2.1 82 10 = nI m ∧ m ≤ 20 ∧ ∃ μ : Nat → Nat, (∀ j, j < m → μ j < 20 ∧ nm (μ j) ≠ [] ∧ h.2.2.1 83 j = codeL (nm (μ j)) ∧ sN (μ j) (h.2.1 84 j) (h.2.1 85 j)) ∧ ∀ i, i < 20 → nm i ≠ [] → ∃ j, j < m ∧ μ j = i
/-- numbers told, place by place -/
def okX (A : pA) (j : Nat) : Prop := (1 ≤ j ∧ j ≤ 3 ∧ A.1 ≠ 0) ∨ (59 ≤ j ∧ j < 59 + 4 * cW A) ∨ (107 ≤ j ∧ j < 107 + 4 * cH A) ∨ (127 ≤ j ∧ j < 127 + 4 * cB A) ∨ (159 ≤ j ∧ j < 159 + 3 * cS A)
def oX (j : Nat) : Nat := if j < 4 then 0 else if j < 107 then 7 + (j - 59) / 4 else if j < 127 then 19 + (j - 107) / 4 else if j < 159 then 24 + (j - 127) / 4 else 32 + (j - 159) / 3
def sX (j : Nat) : Nat := if j < 4 then j else if j < 107 then (j - 59) % 4 else if j < 127 then (j - 107) % 4 else if j < 159 then (j - 127) % 4 else (j - 159) % 3
def rX (ok : Nat → Prop) (S : Nat → List Int32) (c : Nat) (h : zH) : Prop := ∀ j, S (1000 + j) ≠ [] → ok j ∧ h.2.1 (c + oX j) (sX j) = (S (1000 + j)).getD 0 0
def rcC (A : pA) (c : Nat) (h : zH) : Prop := h.2.1 c 0 = A.1 ∧ h.2.1 c 4 = nI (cI A) ∧ h.2.1 c 5 = nI (cW A) ∧ h.2.1 c 6 = nI (cH A) ∧ h.2.1 c 7 = nI (cB A) ∧ h.2.1 c 8 = nI (cS A)
  ∧ (∀ i, i < cI A → h.2.1 (c + 2) i = nI (A.2.2.1 i).length ∧ h.2.1 (c + 1) i = codeS (A.2.2.1 i))
  ∧ (∀ k, k < cW A → h.2.1 (c + 7 + k) 0 = nI (A.2.2.2.1 k).1 ∧ h.2.1 (c + 7 + k) 1 = nI (A.2.2.2.1 k).2)
  ∧ (∀ k, k < cS A → h.2.1 (c + 32 + k) 0 = nI (A.2.2.2.2.1 k).1 ∧ h.2.1 (c + 32 + k) 2 = (A.2.2.2.2.1 k).2)
  ∧ rX (okX A) A.2.2.1 c h
def cc2 (c : Nat) : Prop := c = 2 ∨ c = 42
/-- between two tokens -/
def rs (y : Nat → Int32) (n c : Nat) (A : pA) (nm : Nat → List Int32) (m p : Nat) (h : zH) : Prop := rx y n c h ∧ h.2.1 82 2 = nI p ∧ p ≤ n ∧ rcC A c h ∧ rcN nm m h
def fl (e : sF) (h : zH) : Prop := h.2.1 82 11 = e.1 ∧ h.2.1 82 12 = nI e.2
theorem upX {S : Nat → List Int32} {i j : Nat} {x : Int32} : xS S i x (1000 + j) = if j = i then [x] else S (1000 + j) := by
  show (if 1000 + j = 1000 + i then [x] else S (1000 + j)) = _
  by_cases e : j = i
  · rw [if_pos e, if_pos (by omega)]
  · rw [if_neg e, if_neg (by omega)]
theorem upX_lo {S : Nat → List Int32} {i j : Nat} {x : Int32} (h : j < 1000) : xS S i x j = S j := by
  show (if j = 1000 + i then [x] else S j) = _
  rw [if_neg (by omega)]
theorem upI_hi {S : Nat → List Int32} {i j : Nat} {w : List Int32} (h : i < 1000) : upA S i w (1000 + j) = S (1000 + j) := by
  show (if 1000 + j = i then w else S (1000 + j)) = _
  rw [if_neg (by omega)]
theorem rX.add {ok : Nat → Prop} {S : Nat → List Int32} {c i : Nat} {h : zH} {x : Int32} (k : rX ok S c h) (hj : ok i) (hv : h.2.1 (c + oX i) (sX i) = x) : rX ok (xS S i x) c h := by
  intro j hj2
  rw [upX] at hj2 ⊢
  by_cases e : j = i
  · subst e
    rw [if_pos rfl]
    exact ⟨hj, hv⟩
  · rw [if_neg e] at hj2 ⊢
    exact k j hj2
theorem rX.mono {ok ok' : Nat → Prop} {S : Nat → List Int32} {c : Nat} {h : zH} (k : rX ok S c h) (e : ∀ j, ok j → ok' j) : rX ok' S c h := fun j hj => ⟨e j (k j hj).1, (k j hj).2⟩
theorem rX.wr {ok : Nat → Prop} {S : Nat → List Int32} {c a i : Nat} {v : Int32} {h : zH} (k : rX ok S c h) (e : ∀ j, S (1000 + j) ≠ [] → ok j → ¬ (c + oX j = a ∧ sX j = i)) : rX ok S c (zsI h a i v) := fun j hj => ⟨(k j hj).1, (zsI_no (e j hj (k j hj).1)).trans (k j hj).2⟩
theorem rX.isl {ok : Nat → Prop} {S : Nat → List Int32} {c i : Nat} {w : List Int32} {h : zH} (k : rX ok S c h) (hi : i < 1000) : rX ok (upA S i w) c h := fun j hj => by
  rw [upI_hi hi] at hj ⊢
  exact k j hj
theorem okX.up {A A' : pA} {j : Nat} (k : okX A j) (e0 : A.1 ≠ 0 → A'.1 ≠ 0) (h1 : cW A ≤ cW A') (h2 : cH A ≤ cH A') (h3 : cB A ≤ cB A') (h4 : cS A ≤ cS A') : okX A' j := by
  rcases k with ⟨a, b, c⟩ | k | k | k | k
  · exact .inl ⟨a, b, e0 c⟩
  · exact .inr (.inl ⟨k.1, by omega⟩)
  · exact .inr (.inr (.inl ⟨k.1, by omega⟩))
  · exact .inr (.inr (.inr (.inl ⟨k.1, by omega⟩)))
  · exact .inr (.inr (.inr (.inr ⟨k.1, by omega⟩)))
/-- where a told number lies -/
theorem oX_at {A : pA} {j : Nat} (k : okX A j) (b2 : cW A ≤ 12) (b3 : cH A ≤ 5) (b4 : cB A ≤ 8) (b5 : cS A ≤ 8) : (1 ≤ j ∧ j ≤ 3 ∧ A.1 ≠ 0 ∧ oX j = 0 ∧ sX j = j) ∨ (∃ i s, i < cW A ∧ s < 4 ∧ j = 59 + 4 * i + s ∧ oX j = 7 + i ∧ sX j = s) ∨ (∃ i s, i < cH A ∧ s < 4 ∧ j = 107 + 4 * i + s ∧ oX j = 19 + i ∧ sX j = s) ∨ (∃ i s, i < cB A ∧ s < 4 ∧ j = 127 + 4 * i + s ∧ oX j = 24 + i ∧ sX j = s) ∨ (∃ i s, i < cS A ∧ s < 3 ∧ j = 159 + 3 * i + s ∧ oX j = 32 + i ∧ sX j = s) := by
  unfold oX sX
  rcases k with ⟨k1, k2, k3⟩ | ⟨k1, k2⟩ | ⟨k1, k2⟩ | ⟨k1, k2⟩ | ⟨k1, k2⟩
  · exact .inl ⟨k1, k2, k3, by rw [if_pos (by omega)], by rw [if_pos (by omega)]⟩
  · refine .inr (.inl ⟨(j - 59) / 4, (j - 59) % 4, by omega, by omega, by omega, ?_, ?_⟩)
    · rw [if_neg (by omega), if_pos (by omega)]
    · rw [if_neg (by omega), if_pos (by omega)]
  · refine .inr (.inr (.inl ⟨(j - 107) / 4, (j - 107) % 4, by omega, by omega, by omega, ?_, ?_⟩))
    · rw [if_neg (by omega), if_neg (by omega), if_pos (by omega)]
    · rw [if_neg (by omega), if_neg (by omega), if_pos (by omega)]
  · refine .inr (.inr (.inr (.inl ⟨(j - 127) / 4, (j - 127) % 4, by omega, by omega, by omega, ?_, ?_⟩)))
    · rw [if_neg (by omega), if_neg (by omega), if_neg (by omega), if_pos (by omega)]
    · rw [if_neg (by omega), if_neg (by omega), if_neg (by omega), if_pos (by omega)]
  · refine .inr (.inr (.inr (.inr ⟨(j - 159) / 3, (j - 159) % 3, by omega, by omega, by omega, ?_, ?_⟩)))
    · rw [if_neg (by omega), if_neg (by omega), if_neg (by omega), if_neg (by omega)]
    · rw [if_neg (by omega), if_neg (by omega), if_neg (by omega), if_neg (by omega)]
theorem oX_le {A : pA} {j : Nat} (k : okX A j) (b2 : cW A ≤ 12) (b3 : cH A ≤ 5) (b4 : cB A ≤ 8) (b5 : cS A ≤ 8) : oX j ≤ 39 := by
  rcases oX_at k b2 b3 b4 b5 with z | ⟨i, s, z⟩ | ⟨i, s, z⟩ | ⟨i, s, z⟩ | ⟨i, s, z⟩ <;> omega
theorem oX_way {i s : Nat} (hi : i < 12) (hs : s < 4) : oX (59 + 4 * i + s) = 7 + i ∧ sX (59 + 4 * i + s) = s := by
  unfold oX sX
  rw [if_neg (by omega), if_pos (by omega), if_neg (by omega), if_pos (by omega)]
  omega
theorem oX_whl {i s : Nat} (hi : i < 5) (hs : s < 4) : oX (107 + 4 * i + s) = 19 + i ∧ sX (107 + 4 * i + s) = s := by
  unfold oX sX
  rw [if_neg (by omega), if_neg (by omega), if_pos (by omega), if_neg (by omega), if_neg (by omega), if_pos (by omega)]
  omega
theorem oX_box {i s : Nat} (hi : i < 8) (hs : s < 4) : oX (127 + 4 * i + s) = 24 + i ∧ sX (127 + 4 * i + s) = s := by
  unfold oX sX
  rw [if_neg (by omega), if_neg (by omega), if_neg (by omega), if_pos (by omega), if_neg (by omega), if_neg (by omega), if_neg (by omega), if_pos (by omega)]
  omega
theorem oX_spt {i s : Nat} (hs : s < 3) : oX (159 + 3 * i + s) = 32 + i ∧ sX (159 + 3 * i + s) = s := by
  unfold oX sX
  rw [if_neg (by omega), if_neg (by omega), if_neg (by omega), if_neg (by omega), if_neg (by omega), if_neg (by omega), if_neg (by omega), if_neg (by omega)]
  omega
section RDY
variable {y : Nat → Int32} {n c d N p m : Nat} {h h' : zH} {A : pA} {nm : Nat → List Int32} {Q : Option zV → zH → Prop}
theorem rcC.fr (hc : cc2 c) (hI : pI A) (k : rcC A c h) (e : ∀ a j, a < 82 → h'.2.1 a j = h.2.1 a j) : rcC A c h' := by
  obtain ⟨b1, b2, b3, b4, b5⟩ := hI.2.2.1
  have hc : c ≤ 42 := by rcases hc with q | q <;> omega
  obtain ⟨k0, k4, k5, k6, k7, k8, ks, kw, kp, kx⟩ := k
  refine ⟨(e _ _ (by omega)).trans k0, (e _ _ (by omega)).trans k4, (e _ _ (by omega)).trans k5, (e _ _ (by omega)).trans k6, (e _ _ (by omega)).trans k7, (e _ _ (by omega)).trans k8, fun i hi => ?_, fun i hi => ?_, fun i hi => ?_, fun j hj => ⟨(kx j hj).1, (e _ _ (by have := oX_le (kx j hj).1 b2 b3 b4 b5; omega)).trans (kx j hj).2⟩⟩
  · exact ⟨(e _ _ (by omega)).trans (ks i hi).1, (e _ _ (by omega)).trans (ks i hi).2⟩
  · exact ⟨(e _ _ (by omega)).trans (kw i hi).1, (e _ _ (by omega)).trans (kw i hi).2⟩
  · exact ⟨(e _ _ (by omega)).trans (kp i hi).1, (e _ _ (by omega)).trans (kp i hi).2⟩
theorem rcN.fr (k : rcN nm m h) (e10 : h'.2.1 82 10 = h.2.1 82 10) (e84 : ∀ j, h'.2.1 84 j = h.2.1 84 j) (e85 : ∀ j, h'.2.1 85 j = h.2.1 85 j) (eL : h'.2.2.1 = h.2.2.1) : rcN nm m h' := by
  obtain ⟨k1, k2, μ, k3, k4⟩ := k
  refine ⟨e10.trans k1, k2, μ, fun j hj => ?_, k4⟩
  obtain ⟨a, b, g, s⟩ := k3 j hj
  exact ⟨a, b, by rw [eL]; exact g, by rw [e84, e85]; exact s⟩
theorem rs.nx (hc : cc2 c) (hI : pI A) (k : rs y n c A nm m p h) (q : nx y n p h h') (ht : tT y n p ≠ 1) : rs y n c A nm m (tE y n p) h' := by
  obtain ⟨k1, k2, k3, k4, k5⟩ := k
  have g := q.ct k1 k3
  refine ⟨g.1, g.2.2.2.2 ht, (tE_sp k3).2.1, k4.fr hc hI (fun a j ha => q.at (by omega)), k5.fr (q.at (by omega)) (fun j => q.at (by omega)) (fun j => q.at (by omega)) (congrArg Prod.fst q.rest.2)⟩
theorem rs.v5 {v : Int32} (hc : cc2 c) (hI : pI A) (k : rs y n c A nm m p h) : rs y n c A nm m p (zsI h 82 5 v) := by
  obtain ⟨k1, k2, k3, k4, k5⟩ := k
  exact ⟨k1.zs (by decide), by rw [zsI_no (by omega)]; exact k2, k3, k4.fr hc hI (fun a j ha => zsI_no (by omega)), k5.fr (zsI_no (by omega)) (fun j => zsI_no (by omega)) (fun j => zsI_no (by omega)) rfl⟩
theorem flt.fl {k : Int32} {s : Nat} (q : flt k s h h') : fl (k, s) h' := by
  have q : h' = zsI (zsI h 82 11 k) 82 12 (nI s) := q
  subst q
  exact ⟨by rw [zsI_no (by omega)]; exact zsI_eq, zsI_eq⟩
def fr82 (h h' : zH) : Prop := ∀ a j, a < 82 → h'.2.1 a j = h.2.1 a j
def wdR (y : Nat → Int32) (n c : Nat) (A : pA) (nm : Nat → List Int32) (m : Nat) (h : zH) (r : sF ⊕ Nat) (v : Option zV) (h' : zH) : Prop := match r with
  | .inl e => v = some (.inl 0) ∧ fl e h'
  | .inr q => v = some (.inl 1) ∧ rs y n c A nm m q h' ∧ fr82 h h'
def nuR (y : Nat → Int32) (n c : Nat) (A : pA) (nm : Nat → List Int32) (m : Nat) (h : zH) (r : sF ⊕ (Int32 × Nat)) (v : Option zV) (h' : zH) : Prop := match r with
  | .inl e => v = some (.inl 0) ∧ fl e h'
  | .inr q => v = some (.inl 1) ∧ rs y n c A nm m q.2 h' ∧ h'.2.1 82 5 = q.1 ∧ fr82 h h'
def olR (y : Nat → Int32) (n c : Nat) (A : pA) (nm : Nat → List Int32) (m p : Nat) (h : zH) (r : sF ⊕ (Nat × Nat)) (v : Option zV) (h' : zH) : Prop := match r with
  | .inl e => v = some (.inl 0) ∧ fl e h'
  | .inr q => v = some (.inl 1) ∧ rs y n c A nm m q.2 h' ∧ h'.2.1 82 5 = nI q.1 ∧ h'.2.1 82 4 = nI (tS y n p) ∧ fr82 h h'
theorem C_word {a : Nat} {bs : List Int32} (hc : cc2 c) (hI : pI A) (k : rs y n c A nm m p h) (hz : zsc a = some bs) : zPa d mX5_word [.inr (.inr (some 82)), .inr (.inr (some a))] h (wdR y n c A nm m h (sWord y n bs p)) := by
  refine (c_word k.1 k.2.1 k.2.2.1 hz).mono (fun v h' hq => ?_)
  rcases hq with ⟨e, w, q⟩ | ⟨e, w, h1, q, g⟩
  · have w' := wIs_w.mp w
    unfold sWord
    rw [if_pos w']
    exact ⟨e, k.nx hc hI q (by rw [w'.1]; decide), fun a j ha => q.at (by omega)⟩
  · unfold sWord
    rw [if_neg (fun z => w (wIs_w.mpr z))]
    exact ⟨e, g.fl⟩
theorem C_whole {lo hi : Int32} (hc : cc2 c) (hI : pI A) (k : rs y n c A nm m p h) : zPa d mX5_whole [.inr (.inr (some 82)), .inl lo, .inl hi] h (nuR y n c A nm m h (sNum y n lo hi p)) := by
  refine (c_whole k.1 k.2.1 k.2.2.1).mono (fun v h' hq => ?_)
  obtain ⟨h1, q, ⟨e, w, g⟩ | ⟨w, e, a, b, g⟩ | ⟨w, e, a, g⟩⟩ := hq
  · unfold sNum
    rw [if_neg w]
    exact ⟨e, g.fl⟩
  · unfold sNum
    rw [if_pos w, if_pos ⟨a, b⟩]
    subst g
    exact ⟨e, (k.nx hc hI q (by rw [w]; decide)).v5 hc hI, zsI_eq, fun a j ha => by rw [zsI_no (by omega)]; exact q.at (by omega)⟩
  · unfold sNum
    rw [if_pos w, if_neg a]
    exact ⟨e, g.fl⟩
theorem isNb_n : isNb y n p = true ↔ isN y n p := by
  unfold isNb isN kws
  have hs : srt y n p (-2) ↔ (¬ wIs y n p wPost ∧ ¬ wIs y n p wIsland ∧ ¬ wIs y n p wWay ∧ ¬ wIs y n p wWhale ∧ ¬ wIs y n p wBox ∧ ¬ wIs y n p wSpout) := by
    refine ⟨fun e => ?_, fun e => .inr (.inr (.inr (.inr (.inr (.inr ⟨rfl, e⟩)))))⟩
    rcases e with e | e | e | e | e | e | e
    · exact absurd e.1 (by decide)
    · exact absurd e.1 (by decide)
    · exact absurd e.1 (by decide)
    · exact absurd e.1 (by decide)
    · exact absurd e.1 (by decide)
    · exact absurd e.1 (by decide)
    · exact e.2
  rw [hs]
  simp only [wIs_w, Bool.and_eq_true, decide_eq_true_eq, Bool.not_eq_true', ← Bool.not_eq_true, List.contains_iff_mem, List.mem_cons, List.not_mem_nil, or_false, not_or, not_and]
  refine ⟨fun ⟨a, b⟩ => ⟨a, ?_⟩, fun ⟨a, b⟩ => ⟨a, ?_⟩⟩
  · exact ⟨fun _ => b.1, fun _ => b.2.1, fun _ => b.2.2.1, fun _ => b.2.2.2.1, fun _ => b.2.2.2.2.1, fun _ => b.2.2.2.2.2⟩
  · exact ⟨b.1 a, b.2.1 a, b.2.2.1 a, b.2.2.2.1 a, b.2.2.2.2.1 a, b.2.2.2.2.2 a⟩
theorem cIn_lt2 {k : Nat} (q : cIn 97 122 y n k = true) : isLt (y k) = true := by
  unfold cIn at q
  unfold isLt
  rw [Bool.and_eq_true] at q
  exact q.2
theorem seg_all {f : Int32 → Bool} : ∀ {k s : Nat}, (∀ j, s ≤ j → j < s + k → f (y j) = true) → (seg y k s).all f = true
  | 0, _, _ => rfl
  | k + 1, s, hh => by
    show (f (y s) && (seg y k (s + 1)).all f) = true
    rw [hh s (Nat.le_refl _) (by omega), seg_all (fun j h1 h2 => hh j (by omega) (by omega))]
    rfl
theorem tW_ok (hp : p ≤ n) (ht : tT y n p = 2) : (tW y n p).all isLt = true ∧ (tW y n p).length ≤ 8 ∧ tW y n p ≠ [] := by
  obtain ⟨a, b, g⟩ := tS_sp (y := y) hp
  unfold tW tE
  unfold tT at ht
  generalize tS y n p = s at *
  unfold tT0 at ht
  split at ht
  · exact absurd ht (by decide)
  · next c1 =>
    split at ht
    · exact absurd ht (by decide)
    · next c2 =>
      split at ht
      · next c3 =>
        split at ht
        · next c4 =>
          have eE : tE0 y n s = scan (cIn 97 122 y n) (n - s) s := by unfold tE0; rw [if_neg c1, if_neg c2, if_pos c3]
          rw [eE]
          obtain ⟨u1, u2, u3, u4⟩ := run_sp (lo := 97) (hi := 122) (y := y) b
          have hgt := run_gt c3
          refine ⟨seg_all (fun j h1 h2 => cIn_lt2 (u3 j h1 (by omega))), by rw [seg_len]; exact c4, fun z => ?_⟩
          have := congrArg List.length z
          rw [seg_len] at this
          have : scan (cIn 97 122 y n) (n - s) s - s = 0 := this
          omega
        · exact absurd ht (by decide)
      · split at ht
        · split at ht
          · exact absurd ht (by decide)
          · exact absurd ht (by decide)
        · exact absurd ht (by decide)
theorem nFind_some {i : Nat} {w : List Int32} (hn : nmI nm) (hi : i < 20) (hw : w ≠ []) (e : nm i = w) : nFind nm w = some i := by
  unfold nFind
  cases hq : (List.range 20).find? (fun i => decide (nm i = w)) with
  | none =>
    have := List.find?_eq_none.mp hq i (List.mem_range.mpr hi)
    exact absurd (decide_eq_true e) this
  | some j =>
    have h1 := List.find?_some hq
    have h2 := List.mem_of_find?_eq_some hq
    have h1 : nm j = w := of_decide_eq_true h1
    rw [hn.2 i j hi (List.mem_range.mp h2) (by rw [e]; exact hw) (e.trans h1.symm)]
theorem nFind_none {w : List Int32} (e : ∀ i, i < 20 → nm i ≠ w) : nFind nm w = none :=
  List.find?_eq_none.mpr (fun i hi z => e i (List.mem_range.mp hi) (of_decide_eq_true z))
/-- the class's names and the told ones -/
theorem rcN.no (k : rcN nm m h) (hw : tW y n p ≠ []) (hno : ∀ i, i < m → h.2.2.1 83 i ≠ tLet y n p) : nFind nm (tW y n p) = none := by
  obtain ⟨k1, k2, μ, k3, k4⟩ := k
  refine nFind_none (fun i hi z => ?_)
  obtain ⟨j, hj, ej⟩ := k4 i hi (by rw [z]; exact hw)
  refine hno j hj ?_
  rw [(k3 j hj).2.2.1, ej, z, tLet_w]
theorem rcN.yes (k : rcN nm m h) (hn : nmI nm) (hp : p ≤ n) (ht : tT y n p = 2) {j : Nat} (hj : j < m) (e : h.2.2.1 83 j = tLet y n p) : ∃ i, i < 20 ∧ nFind nm (tW y n p) = some i ∧ sN i (h.2.1 84 j) (h.2.1 85 j) := by
  obtain ⟨k1, k2, μ, k3, k4⟩ := k
  obtain ⟨a, b, g, s⟩ := k3 j hj
  obtain ⟨w1, w2, w3⟩ := tW_ok hp ht
  obtain ⟨n1, n2⟩ := hn.1 _ a b
  have ew : nm (μ j) = tW y n p := codeL_inj n1 w1 n2 w2 (by rw [← g, e, tLet_w])
  exact ⟨μ j, a, nFind_some hn a w3 ew, s⟩
theorem C_old {s : Int32} {lo hi : Nat} (hs : (s = 1 ∧ lo = 0 ∧ hi = 6) ∨ (s = 3 ∧ lo = 7 ∧ hi = 11)) (hc : cc2 c) (hI : pI A) (hn : nmI nm) (k : rs y n c A nm m p h) : zPa d mX5_toldName [.inr (.inr (some 82)), .inl s] h (olR y n c A nm m p h (sOld y n nm lo hi p)) := by
  refine (c_told k.1 k.2.1 k.2.2.1 k.2.2.2.2.1 k.2.2.2.2.2.1).mono (fun v h' hq => ?_)
  obtain ⟨h1, q, ⟨e, w, g⟩ | ⟨w, a, e, g⟩ | ⟨w, e, j, hj, ej, -, es, g⟩⟩ := hq
  · unfold sOld
    rw [if_neg (fun z => w (isNb_n.mp z))]
    exact ⟨e, g.fl⟩
  · unfold sOld
    rw [if_pos (isNb_n.mpr w)]
    rcases a with a | ⟨j, hj, ej, -, es⟩
    · rw [k.2.2.2.2.no (tW_ok k.2.2.1 w.1).2.2 a]
      exact ⟨e, g.fl⟩
    · obtain ⟨i, i1, i2, i3⟩ := k.2.2.2.2.yes hn k.2.2.1 w.1 hj ej
      rw [i2]
      dsimp only
      rw [if_neg (fun z => es (by
        rcases hs with ⟨q1, q2, q3⟩ | ⟨q1, q2, q3⟩
        · rcases i3 with z3 | z3 | z3
          · rw [z3.2.1, q1]
          · omega
          · omega
        · rcases i3 with z3 | z3 | z3
          · omega
          · rw [z3.2.2.1, q1]
          · omega))]
      exact ⟨e, g.fl⟩
  · unfold sOld
    obtain ⟨i, i1, i2, i3⟩ := k.2.2.2.2.yes hn k.2.2.1 w.1 hj ej
    rw [if_pos (isNb_n.mpr w), i2]
    dsimp only
    rw [es] at i3
    have hi : lo ≤ i ∧ i ≤ hi ∧ h.2.1 85 j = nI (i - lo) := by
      rcases hs with ⟨q1, q2, q3⟩ | ⟨q1, q2, q3⟩
      · subst q1; subst q2; subst q3
        rcases i3 with z3 | z3 | z3
        · exact ⟨by omega, by omega, z3.2.2⟩
        · exact absurd z3.2.2.1 (by decide)
        · exact absurd z3.2.1 (by decide)
      · subst q1; subst q2; subst q3
        rcases i3 with z3 | z3 | z3
        · exact absurd z3.2.1 (by decide)
        · exact ⟨by omega, by omega, z3.2.2.2⟩
        · exact absurd z3.2.1 (by decide)
    rw [if_pos ⟨hi.1, hi.2.1⟩]
    subst g
    exact ⟨e, (k.nx hc hI q (by rw [w.1]; decide)).v5 hc hI, by rw [zsI_eq]; exact hi.2.2, by rw [zsI_no (by omega)]; exact (q.ct k.1 k.2.2.1).2.2.1, fun a j ha => by rw [zsI_no (by omega)]; exact q.at (by omega)⟩
end RDY
end Pk4
section Pk5
/-! the class's draft: new names, songs, ways, spouts -/
theorem pc_sh {c : Nat} (hc : cc2 c) : zsh hh_487 c = some (4, 15) ∧ zsh hh_487 (c + 1) = some (14, 7) ∧ zsh hh_487 (c + 2) = some (14, 7) ∧ zsh hh_487 (c + 3) = some (19, 12) ∧ zsh hh_487 (c + 4) = some (20, 5) ∧ zsh hh_487 (c + 5) = some (16, 8) ∧ zsh hh_487 (c + 6) = some (18, 8) := by
  rcases hc with rfl | rfl
  · decide +kernel
  · decide +kernel
theorem pc_rf {c : Nat} (hc : cc2 c) : wd.2.2.1 c 9 = some (c + 1) ∧ wd.2.2.1 c 10 = some (c + 2) ∧ wd.2.2.1 c 11 = some (c + 3) ∧ wd.2.2.1 c 12 = some (c + 4) ∧ wd.2.2.1 c 13 = some (c + 5) ∧ wd.2.2.1 c 14 = some (c + 6) := by
  rcases hc with rfl | rfl
  · decide +kernel
  · decide +kernel
theorem pc_way {c k : Nat} (hc : cc2 c) (hk : k < 12) : zsh hh_487 (c + 7 + k) = some (9, 4) ∧ wd.2.2.1 (c + 3) k = some (c + 7 + k) := by
  have h : ∀ k : Fin 12, (zsh hh_487 (2 + 7 + k.val) = some (9, 4) ∧ wd.2.2.1 (2 + 3) k.val = some (2 + 7 + k.val)) ∧ (zsh hh_487 (42 + 7 + k.val) = some (9, 4) ∧ wd.2.2.1 (42 + 3) k.val = some (42 + 7 + k.val)) := by decide +kernel
  rcases hc with rfl | rfl
  · exact (h ⟨k, hk⟩).1
  · exact (h ⟨k, hk⟩).2
theorem pc_whl {c k : Nat} (hc : cc2 c) (hk : k < 5) : zsh hh_487 (c + 19 + k) = some (10, 4) ∧ wd.2.2.1 (c + 4) k = some (c + 19 + k) := by
  have h : ∀ k : Fin 5, (zsh hh_487 (2 + 19 + k.val) = some (10, 4) ∧ wd.2.2.1 (2 + 4) k.val = some (2 + 19 + k.val)) ∧ (zsh hh_487 (42 + 19 + k.val) = some (10, 4) ∧ wd.2.2.1 (42 + 4) k.val = some (42 + 19 + k.val)) := by decide +kernel
  rcases hc with rfl | rfl
  · exact (h ⟨k, hk⟩).1
  · exact (h ⟨k, hk⟩).2
theorem pc_box {c k : Nat} (hc : cc2 c) (hk : k < 8) : zsh hh_487 (c + 24 + k) = some (0, 4) ∧ wd.2.2.1 (c + 5) k = some (c + 24 + k) := by
  have h : ∀ k : Fin 8, (zsh hh_487 (2 + 24 + k.val) = some (0, 4) ∧ wd.2.2.1 (2 + 5) k.val = some (2 + 24 + k.val)) ∧ (zsh hh_487 (42 + 24 + k.val) = some (0, 4) ∧ wd.2.2.1 (42 + 5) k.val = some (42 + 24 + k.val)) := by decide +kernel
  rcases hc with rfl | rfl
  · exact (h ⟨k, hk⟩).1
  · exact (h ⟨k, hk⟩).2
theorem pc_spt {c k : Nat} (hc : cc2 c) (hk : k < 8) : zsh hh_487 (c + 32 + k) = some (8, 3) ∧ wd.2.2.1 (c + 6) k = some (c + 32 + k) := by
  have h : ∀ k : Fin 8, (zsh hh_487 (2 + 32 + k.val) = some (8, 3) ∧ wd.2.2.1 (2 + 6) k.val = some (2 + 32 + k.val)) ∧ (zsh hh_487 (42 + 32 + k.val) = some (8, 3) ∧ wd.2.2.1 (42 + 6) k.val = some (42 + 32 + k.val)) := by decide +kernel
  rcases hc with rfl | rfl
  · exact (h ⟨k, hk⟩).1
  · exact (h ⟨k, hk⟩).2
section RDZ
variable {y : Nat → Int32} {n c d N p m : Nat} {h h' : zH} {A : pA} {nm : Nat → List Int32} {Q : Option zV → zH → Prop}
theorem upA_at {α : Type} {f : Nat → α} {k j : Nat} {v : α} : upA f k v j = if j = k then v else f j := rfl
theorem nmI.new {i : Nat} (hn : nmI nm) (hi : i < 20) (hp : p ≤ n) (ht : tT y n p = 2) (hf : nFind nm (tW y n p) = none) : nmI (upA nm i (tW y n p)) := by
  obtain ⟨w1, w2, w3⟩ := tW_ok hp ht
  have hno : ∀ j, j < 20 → nm j ≠ tW y n p := fun j hj z => by
    have := List.find?_eq_none.mp hf j (List.mem_range.mpr hj)
    exact this (decide_eq_true z)
  refine ⟨fun j hj hne => ?_, fun j k hj hk hne e => ?_⟩
  · rw [upA_at] at hne ⊢
    split
    · exact ⟨w1, w2⟩
    · next q => rw [if_neg q] at hne; exact hn.1 j hj hne
  · rw [upA_at] at hne e
    rw [upA_at] at e
    by_cases c1 : j = i
    · by_cases c2 : k = i
      · omega
      · rw [if_pos c1, if_neg c2] at e
        exact absurd e.symm (hno k hk)
    · rw [if_neg c1] at hne e
      by_cases c2 : k = i
      · rw [if_pos c2] at e
        exact absurd e (hno j hj)
      · rw [if_neg c2] at e
        exact hn.2 j k hj hk hne e
def neR (y : Nat → Int32) (n c : Nat) (A : pA) (nm : Nat → List Int32) (m i p : Nat) (h : zH) (r : sF ⊕ Nat) (v : Option zV) (h' : zH) : Prop := match r with
  | .inl e => v = some (.inl 0) ∧ fl e h'
  | .inr q => v = some (.inl 1) ∧ rs y n c A (upA nm i (tW y n p)) (m + 1) q h' ∧ nmI (upA nm i (tW y n p)) ∧ fr82 h h'
theorem C_new {i : Nat} {s k : Int32} (hs : sN i s k) (hi : i < 20) (hfr : nm i = []) (hm : m < 20) (hc : cc2 c) (hI : pI A) (hn : nmI nm) (K : rs y n c A nm m p h) : zPa d mX5_newName [.inr (.inr (some 82)), .inl s, .inl k] h (neR y n c A nm m i p h (sNew y n nm p)) := by
  refine (c_new K.1 K.2.1 K.2.2.1 K.2.2.2.2.1 hm).mono (fun v h' hq => ?_)
  obtain ⟨h1, q, ⟨e, w, g⟩ | ⟨w, ⟨j, hj, ej⟩, e, g⟩ | ⟨w, a, e, g⟩⟩ := hq
  · unfold sNew
    rw [if_neg (fun z => w (isNb_n.mp z))]
    exact ⟨e, g.fl⟩
  · unfold sNew
    obtain ⟨i, i1, i2, i3⟩ := K.2.2.2.2.yes hn K.2.2.1 w.1 hj ej
    rw [if_pos (isNb_n.mpr w), i2]
    exact ⟨e, g.fl⟩
  · obtain ⟨w1, w2, w3⟩ := tW_ok K.2.2.1 w.1
    have hf := K.2.2.2.2.no w3 a
    unfold sNew
    rw [if_pos (isNb_n.mpr w), hf, if_neg (by decide)]
    have R := K.nx hc hI q (by rw [w.1]; decide)
    subst g
    have at_ : ∀ a j, ¬ (a = 84 ∧ j = m) → ¬ (a = 85 ∧ j = m) → ¬ (a = 82 ∧ j = 10) → (newN h1 m (tLet y n p) s k).2.1 a j = h1.2.1 a j := by
      intro a j z1 z2 z3
      show (zsI (zsI (zsI (zsL h1 83 m (tLet y n p)) 84 m s) 85 m k) 82 10 (nI (m + 1))).2.1 a j = _
      rw [zsI_no z3, zsI_no z2, zsI_no z1]
      rfl
    refine ⟨e, ?_, hn.new hi K.2.2.1 w.1 hf, fun a j ha => (at_ a j (by omega) (by omega) (by omega)).trans (q.at (by omega))⟩
    obtain ⟨r1, r2, r3, r4, r5⟩ := R
    obtain ⟨n1, n2, μ, n3, n4⟩ := r5
    have at_ : ∀ a j, ¬ (a = 84 ∧ j = m) → ¬ (a = 85 ∧ j = m) → ¬ (a = 82 ∧ j = 10) → (newN h1 m (tLet y n p) s k).2.1 a j = h1.2.1 a j := by
      intro a j z1 z2 z3
      show (zsI (zsI (zsI (zsL h1 83 m (tLet y n p)) 84 m s) 85 m k) 82 10 (nI (m + 1))).2.1 a j = _
      rw [zsI_no z3, zsI_no z2, zsI_no z1]
      rfl
    refine ⟨⟨r1.1, r1.2.1, r1.2.2.1, ?_, ?_, r1.2.2.2.2.2⟩, (at_ _ _ (by omega) (by omega) (by omega)).trans r2, r3, r4.fr hc hI (fun a j ha => at_ _ _ (by omega) (by omega) (by omega)), zsI_eq, by omega, upA μ m i, fun j hj => ?_, fun j hj hne => ?_⟩
    · funext j
      rw [at_ _ _ (by omega) (by omega) (by omega)]
      exact congrFun r1.2.2.2.1 j
    · exact (at_ _ _ (by omega) (by omega) (by omega)).trans r1.2.2.2.2.1
    · rcases Nat.lt_or_ge j m with z | z
      · obtain ⟨a1, a2, a3, a4⟩ := n3 j z
        have ne : μ j ≠ i := fun z => a2 (by rw [z]; exact hfr)
        rw [upA_at, if_neg (by omega), upA_at, if_neg ne]
        refine ⟨a1, a2, ?_, ?_⟩
        · show zup h1.2.2.1 83 m (tLet y n p) 83 j = _
          unfold zup
          rw [if_pos rfl, if_neg (by omega)]
          exact a3
        · rw [at_ 84 j (by omega) (by omega) (by omega), at_ 85 j (by omega) (by omega) (by omega)]
          exact a4
      · have ej : j = m := by omega
        subst ej
        rw [upA_at, if_pos rfl, upA_at, if_pos rfl]
        refine ⟨hi, w3, ?_, ?_⟩
        · show zup h1.2.2.1 83 j (tLet y n p) 83 j = _
          unfold zup
          rw [if_pos rfl, if_pos rfl, tLet_w]
        · have e84 : (newN h1 j (tLet y n p) s k).2.1 84 j = s := by
            show (zsI (zsI (zsI (zsL h1 83 j (tLet y n p)) 84 j s) 85 j k) 82 10 (nI (j + 1))).2.1 84 j = s
            rw [zsI_no (by omega), zsI_no (by omega), zsI_eq]
          have e85 : (newN h1 j (tLet y n p) s k).2.1 85 j = k := by
            show (zsI (zsI (zsI (zsL h1 83 j (tLet y n p)) 84 j s) 85 j k) 82 10 (nI (j + 1))).2.1 85 j = k
            rw [zsI_no (by omega), zsI_eq]
          rw [e84, e85]
          exact hs
    · rw [upA_at] at hne
      by_cases z : j = i
      · exact ⟨m, by omega, by rw [upA_at, if_pos rfl, z]⟩
      · rw [if_neg z] at hne
        obtain ⟨q, hq, eq⟩ := n4 j hj hne
        exact ⟨q, by omega, by rw [upA_at, if_neg (by omega)]; exact eq⟩
/-! songs -/
theorem C_song (hc : cc2 c) (k : ct y n c p h) (h2 : tT y n p = 2) {t : Int32} (ht : h.2.1 c 0 = t) : zPa d mX5_songOfToken [.inr (.inr (some 82))] h (fun v h' => h' = h ∧ ((okSong t (tW y n p) = true ∧ v = some (.inl (codeS (tW y n p)))) ∨ (okSong t (tW y n p) = false ∧ v = some (.inl (-2))))) := by
  intro N
  obtain ⟨hx, hp, hs, htk, he⟩ := k
  have he := he (by rw [h2]; decide)
  have s82 := hx.sh sh_82
  have s1 := hx.sh sh_1
  have sc := hx.sh (pc_sh hc).1
  have r82_0 := hx.2.1 _ _ _ rf_82_0
  have r82_6 := hx.2.2.1
  have hn := hx.2.2.2.2.2
  obtain ⟨t1, t2, t3⟩ := tS_sp (y := y) hp
  obtain ⟨u1, u2, u3⟩ := tE_sp (y := y) hp
  have el : (tW y n p).length = tE y n p - tS y n p := seg_len
  show zPn N none d mX5_songOfToken (0, [(0, .inr (.inr (some 82)))], [], h) _
  refine pa_aload_n (pc' := 1) dX5_songOfToken_0 rfl rfl ?_
  refine pa_getI (pc' := 4) (n := 13) dX5_songOfToken_1 fl_5_15 s82 (by decide) he rfl ?_
  refine pa_aload_n (pc' := 5) dX5_songOfToken_4 rfl rfl ?_
  refine pa_getI (pc' := 8) (n := 13) dX5_songOfToken_5 fl_5_21 s82 (by decide) hs rfl ?_
  refine pa_isub (pc' := 9) (v := nI (tE y n p - tS y n p)) dX5_songOfToken_8 (nI_sub u1) rfl ?_
  refine pa_istore_n (pc' := 10) dX5_songOfToken_9 (by decide) rfl rfl ?_
  refine pa_iload_n (pc' := 11) dX5_songOfToken_10 rfl rfl ?_
  refine pa_iconst (v := nI 2) (pc' := 12) dX5_songOfToken_11 (by decide) rfl ?_
  refine pa_icmp (pc' := 21) (pc2 := 15) dX5_songOfToken_12 (by decide) rfl (fun cd => ?_) (fun cd => ?_)
  · have cd := zi_lt cd
    rw [nI_toInt (by omega), nI_toInt (by omega)] at cd
    refine pa_bipush (v := (-2)) (pc' := 23) dX5_songOfToken_21 (by decide) rfl ?_
    exact pa_iret dX5_songOfToken_23 rfl rfl ⟨rfl, .inr ⟨by unfold okSong; rw [el, decide_eq_false (by omega)]; rfl, rfl⟩⟩
  have cd := zi_nlt cd
  rw [nI_toInt (by omega), nI_toInt (by omega)] at cd
  refine pa_iload_n (pc' := 16) dX5_songOfToken_15 rfl rfl ?_
  refine pa_bipush (v := nI 6) (pc' := 18) dX5_songOfToken_16 (by decide) rfl ?_
  refine pa_icmp (pc' := 24) (pc2 := 21) dX5_songOfToken_18 (by decide) rfl (fun cd2 => ?_) (fun cd2 => ?_)
  · have cd2 := zi_ngt (zk_le_gt cd2)
    rw [nI_toInt (by omega), nI_toInt (by omega)] at cd2
    have loop : ∀ (N j : Nat) (ls : zL) (v : Int32), zget ls 0 = some (.inr (.inr (some 82))) → zget ls 2 = some (.inl v) → zget ls 3 = some (.inl (nI j)) → tS y n p ≤ j → j ≤ tE y n p → (seg y (tE y n p - j) j).foldl (fun (v b : Int32) => v <<< (2 &&& 31) ||| (b - 97)) v = codeS (tW y n p) → ((tW y n p).all (fun b => decide (b - 97 < t)) = (seg y (tE y n p - j) j).all (fun b => decide (b - 97 < t))) → zPn N none d mX5_songOfToken (31, ls, [], h) (fun v h' => h' = h ∧ ((okSong t (tW y n p) = true ∧ v = some (.inl (codeS (tW y n p)))) ∨ (okSong t (tW y n p) = false ∧ v = some (.inl (-2))))) := by
      intro N
      induction N with
      | zero => intro j ls v _ _ _ _ _ _ _; exact zPn.zero
      | succ N ih =>
        intro j ls v hl0 hl2 hl3 h1j hj hv hall
        refine pa_iload_n (pc' := 32) dX5_songOfToken_31 hl3 rfl ?_
        refine pa_aload_n (pc' := 33) dX5_songOfToken_32 hl0 rfl ?_
        refine pa_getI (pc' := 36) (n := 13) dX5_songOfToken_33 fl_5_15 s82 (by decide) he rfl ?_
        refine pa_icmp (pc' := 78) (pc2 := 39) dX5_songOfToken_36 (by decide) rfl (fun cd3 => ?_) (fun cd3 => ?_)
        · have cd3 := zi_nlt (zk_ge_lt cd3)
          rw [nI_toInt (by omega), nI_toInt (by omega)] at cd3
          rw [show tE y n p - j = 0 by omega] at hv hall
          have hv : v = codeS (tW y n p) := hv
          have hall : (tW y n p).all (fun b => decide (b - 97 < t)) = true := hall
          refine pa_iload_n (pc' := 79) dX5_songOfToken_78 hl2 rfl ?_
          exact pa_iret dX5_songOfToken_79 rfl rfl ⟨rfl, .inl ⟨by unfold okSong; rw [hall, el, decide_eq_true (show 2 ≤ tE y n p - tS y n p by omega), decide_eq_true (show tE y n p - tS y n p ≤ 6 by omega)]; rfl, by rw [hv]⟩⟩
        · have cd3 := zi_lt (zk_ge_lt cd3)
          rw [nI_toInt (by omega), nI_toInt (by omega)] at cd3
          obtain ⟨q, eq⟩ : ∃ q, tE y n p - j = q + 1 := ⟨tE y n p - j - 1, by omega⟩
          refine pa_aload_n (pc' := 40) dX5_songOfToken_39 hl0 rfl ?_
          refine pa_getR (pc' := 43) (n := 13) (r := 1) dX5_songOfToken_40 fl_5_47 s82 (by decide) r82_0 rfl ?_
          refine pa_iload_n (pc' := 44) dX5_songOfToken_43 hl3 rfl ?_
          refine pa_bald (pc' := 45) (n := 1000) dX5_songOfToken_44 s1 rfl (fun _ => ?_)
          rw [byte_at rfl (by omega) hx.2.2.2.1]
          refine pa_bipush (v := 97) (pc' := 47) dX5_songOfToken_45 (by decide) rfl ?_
          refine pa_isub (pc' := 48) dX5_songOfToken_47 rfl rfl ?_
          refine pa_istore (pc' := 50) (v := y j - 97) dX5_songOfToken_48 (by decide) rfl rfl ?_
          refine pa_iload (pc' := 52) dX5_songOfToken_50 zget_s1e rfl ?_
          refine pa_aload_n (pc' := 53) dX5_songOfToken_52 (zget_s1 hl0 (by decide) (by simp [zcat])) rfl ?_
          refine pa_getR (pc' := 56) (n := 13) (r := c) dX5_songOfToken_53 fl_5_51 s82 (by decide) r82_6 rfl ?_
          refine pa_getI (pc' := 59) (n := 15) dX5_songOfToken_56 fl_5_84 sc (by decide) ht rfl ?_
          rw [eq] at hv hall
          refine pa_icmp (pc' := 65) (pc2 := 62) dX5_songOfToken_59 (by decide) rfl (fun cd4 => ?_) (fun cd4 => ?_)
          · have cd4 : y j - 97 < t := by simpa [zcond] using cd4
            refine pa_iload_n (pc' := 66) dX5_songOfToken_65 (zget_s1 hl2 (by decide) (by simp [zcat])) rfl ?_
            refine pa_iconst (v := 2) (pc' := 67) dX5_songOfToken_66 (by decide) rfl ?_
            refine pa_ishl (pc' := 68) dX5_songOfToken_67 rfl rfl ?_
            refine pa_iload (pc' := 70) dX5_songOfToken_68 zget_s1e rfl ?_
            refine pa_ior (pc' := 71) dX5_songOfToken_70 rfl rfl ?_
            refine pa_istore_n (pc' := 72) dX5_songOfToken_71 (by decide) rfl rfl ?_
            refine pa_iinc (pc' := 75) (v := nI (j + 1)) dX5_songOfToken_72 (zget_s1 (zget_s1 hl3 (by decide) (by simp [zcat])) (by decide) (by simp [zcat])) (by decide) (nI_add j 1) rfl rfl ?_
            refine pa_gotos (pc' := 31) dX5_songOfToken_75 (by decide) ?_
            refine ih (j + 1) _ _ (zget_s1 (zget_s1 (zget_s1 hl0 (by decide) (by simp [zcat])) (by decide) (by simp [zcat])) (by decide) (by simp [zcat])) (zget_s1 zget_s1e (by decide) (by simp [zcat])) zget_s1e (by omega) (by omega) ?_ ?_
            · rw [show tE y n p - (j + 1) = q by omega]
              exact hv
            · rw [show tE y n p - (j + 1) = q by omega, hall]
              show (decide (y j - 97 < t) && (seg y q (j + 1)).all _) = _
              rw [decide_eq_true cd4]
              rfl
          · have cd4 : ¬ y j - 97 < t := by simpa [zcond] using cd4
            refine pa_bipush (v := (-2)) (pc' := 64) dX5_songOfToken_62 (by decide) rfl ?_
            refine pa_iret dX5_songOfToken_64 rfl rfl ⟨rfl, .inr ⟨?_, rfl⟩⟩
            have : (tW y n p).all (fun b => decide (b - 97 < t)) = false := by
              rw [hall]
              show (decide (y j - 97 < t) && (seg y q (j + 1)).all _) = _
              rw [decide_eq_false cd4]
              rfl
            unfold okSong
            rw [this]
            simp
    refine pa_iconst (v := 0) (pc' := 25) dX5_songOfToken_24 (by decide) rfl ?_
    refine pa_istore_n (pc' := 26) dX5_songOfToken_25 (by decide) rfl rfl ?_
    refine pa_aload_n (pc' := 27) dX5_songOfToken_26 rfl rfl ?_
    refine pa_getI (pc' := 30) (n := 13) dX5_songOfToken_27 fl_5_21 s82 (by decide) hs rfl ?_
    refine pa_istore_n (pc' := 31) dX5_songOfToken_30 (by decide) rfl rfl ?_
    exact loop N (tS y n p) _ 0 rfl rfl rfl (Nat.le_refl _) u1 rfl rfl
  · have cd2 := zi_gt (zk_le_gt cd2)
    rw [nI_toInt (by omega), nI_toInt (by omega)] at cd2
    refine pa_bipush (v := (-2)) (pc' := 23) dX5_songOfToken_21 (by decide) rfl ?_
    exact pa_iret dX5_songOfToken_23 rfl rfl ⟨rfl, .inr ⟨by unfold okSong; rw [el, decide_eq_false (show ¬ tE y n p - tS y n p ≤ 6 by omega)]; simp, rfl⟩⟩
theorem ok_nt {t : Int32} {w : List Int32} (ht : t = 2 ∨ t = 3 ∨ t = 4) (ho : okSong t w = true) (hl : w.all isLt = true) : w.all isNt = true ∧ w.length ≤ 6 := by
  unfold okSong at ho
  simp only [Bool.and_eq_true, decide_eq_true_eq] at ho
  refine ⟨List.all_eq_true.mpr (fun b hb => ?_), ho.2.1⟩
  have h1 := isLt_rg (List.all_eq_true.mp hl b hb)
  have h2 := of_decide_eq_true (List.all_eq_true.mp ho.2.2 b hb)
  rw [Int32.lt_iff_toInt_lt] at h2
  have e97 : (97 : Int32).toInt = 97 := by decide
  have e : (b - 97).toInt = b.toInt - 97 := by
    rw [Int32.toInt_sub, e97]
    exact bmod_fit (by omega) (by omega)
  have h3 : t.toInt ≤ 4 := by rcases ht with rfl | rfl | rfl <;> decide
  unfold isNt
  rw [Bool.and_eq_true, decide_eq_true_eq, decide_eq_true_eq, Int32.le_iff_toInt_le, Int32.le_iff_toInt_le, e97]
  have e100 : (100 : Int32).toInt = 100 := by decide
  omega
theorem C_has {w : List Int32} (hc : cc2 c) (hI : pI A) (hx : rx y n c h) (k : rcC A c h) (ht : A.1 ≠ 0) (ho : okSong A.1 w = true) (hl : w.all isLt = true) : zPa d mX4_hasSong [.inr (.inr (some c)), .inl (codeS w), .inl (nI w.length)] h (fun v h' => h' = h ∧ v = some (.inl (if (List.range (cI A)).any (fun i => decide (A.2.2.1 i = w)) then 1 else 0))) := by
  intro N
  have sc := hx.sh (pc_sh hc).1
  have sc1 := hx.sh (pc_sh hc).2.1
  have sc2 := hx.sh (pc_sh hc).2.2.1
  have rc9 := hx.2.1 _ _ _ (pc_rf hc).1
  have rc10 := hx.2.1 _ _ _ (pc_rf hc).2.1
  have k4 := k.2.1
  have bI := hI.2.2.1.1
  have tt : A.1 = 2 ∨ A.1 = 3 ∨ A.1 = 4 := hI.1.resolve_left ht
  obtain ⟨w1, w2⟩ := ok_nt tt ho hl
  show zPn N none d mX4_hasSong (0, [(0, .inr (.inr (some c))), (1, .inl (codeS w)), (2, .inl (nI w.length))], [], h) _
  have loop : ∀ (N j : Nat) (ls : zL), zget ls 0 = some (.inr (.inr (some c))) → zget ls 1 = some (.inl (codeS w)) → zget ls 2 = some (.inl (nI w.length)) → zget ls 3 = some (.inl (nI j)) → j ≤ cI A → (∀ i, i < j → A.2.2.1 i ≠ w) → zPn N none d mX4_hasSong (2, ls, [], h) (fun v h' => h' = h ∧ v = some (.inl (if (List.range (cI A)).any (fun i => decide (A.2.2.1 i = w)) then 1 else 0))) := by
    intro N
    induction N with
    | zero => intro j ls _ _ _ _ _ _; exact zPn.zero
    | succ N ih =>
      intro j ls hl0 hl1 hl2 hl3 hj hall
      refine pa_iload_n (pc' := 3) dX4_hasSong_2 hl3 rfl ?_
      refine pa_aload_n (pc' := 4) dX4_hasSong_3 hl0 rfl ?_
      refine pa_getI (pc' := 7) (n := 15) dX4_hasSong_4 fl_4_59 sc (by decide) k4 rfl ?_
      refine pa_icmp (pc' := 38) (pc2 := 10) dX4_hasSong_7 (by decide) rfl (fun cd3 => ?_) (fun cd3 => ?_)
      · have cd3 := zi_nlt (zk_ge_lt cd3)
        rw [nI_toInt (by omega), nI_toInt (by omega)] at cd3
        refine pa_iconst (v := 0) (pc' := 39) dX4_hasSong_38 (by decide) rfl ?_
        refine pa_iret dX4_hasSong_39 rfl rfl ⟨rfl, ?_⟩
        rw [if_neg (fun z => ?_)]
        obtain ⟨i, h1, h2⟩ := List.any_eq_true.mp z
        have h1 := List.mem_range.mp h1
        exact hall i (by omega) (of_decide_eq_true h2)
      · have cd3 := zi_lt (zk_ge_lt cd3)
        rw [nI_toInt (by omega), nI_toInt (by omega)] at cd3
        have hj2 : j < cI A := by omega
        obtain ⟨v1, v2⟩ := k.2.2.2.2.2.2.1 j hj2
        obtain ⟨o1, o2⟩ := hI.2.2.2.2.2.1 j hj2
        obtain ⟨x1, x2⟩ := ok_nt tt o1 o2
        have step : A.2.2.1 j ≠ w → zPn (N + 1) none d mX4_hasSong (32, ls, [], h) (fun v h' => h' = h ∧ v = some (.inl (if (List.range (cI A)).any (fun i => decide (A.2.2.1 i = w)) then 1 else 0))) := by
          intro ne
          refine pa_iinc (pc' := 35) (v := nI (j + 1)) dX4_hasSong_32 hl3 (by decide) (nI_add j 1) rfl rfl ?_
          refine pa_gotos (pc' := 2) dX4_hasSong_35 (by decide) ?_
          refine ih (j + 1) _ (zget_s1 hl0 (by decide) (by simp [zcat])) (zget_s1 hl1 (by decide) (by simp [zcat])) (zget_s1 hl2 (by decide) (by simp [zcat])) zget_s1e (by omega) (fun i hi => ?_)
          rcases Nat.lt_or_ge i j with z | z
          · exact hall i z
          · have : i = j := by omega
            subst this
            exact ne
        refine pa_aload_n (pc' := 11) dX4_hasSong_10 hl0 rfl ?_
        refine pa_getR (pc' := 14) (n := 15) (r := _) dX4_hasSong_11 fl_4_9 sc (by decide) rc9 rfl ?_
        refine pa_iload_n (pc' := 15) dX4_hasSong_14 hl3 rfl ?_
        refine pa_iald (pc' := 16) (n := 7) dX4_hasSong_15 sc1 rfl (fun _ => ?_)
        rw [nI_clamp (by omega), v2]
        refine pa_iload_n (pc' := 17) dX4_hasSong_16 hl1 rfl ?_
        refine pa_icmp (pc' := 32) (pc2 := 20) dX4_hasSong_17 (by decide) rfl (fun cd4 => ?_) (fun cd4 => ?_)
        · have cd4 : ¬ codeS (A.2.2.1 j) = codeS w := by simpa [zcond] using cd4
          exact step (fun z => cd4 (by rw [z]))
        · have cd4 : codeS (A.2.2.1 j) = codeS w := by simpa [zcond] using cd4
          refine pa_aload_n (pc' := 21) dX4_hasSong_20 hl0 rfl ?_
          refine pa_getR (pc' := 24) (n := 15) (r := _) dX4_hasSong_21 fl_4_15 sc (by decide) rc10 rfl ?_
          refine pa_iload_n (pc' := 25) dX4_hasSong_24 hl3 rfl ?_
          refine pa_iald (pc' := 26) (n := 7) dX4_hasSong_25 sc2 rfl (fun _ => ?_)
          rw [nI_clamp (by omega), v1]
          refine pa_iload_n (pc' := 27) dX4_hasSong_26 hl2 rfl ?_
          refine pa_icmp (pc' := 32) (pc2 := 30) dX4_hasSong_27 (by decide) rfl (fun cd5 => ?_) (fun cd5 => ?_)
          · have cd5 : ¬ nI (A.2.2.1 j).length = nI w.length := by simpa [zcond] using cd5
            exact step (fun z => cd5 (by rw [z]))
          · have cd5 : nI (A.2.2.1 j).length = nI w.length := by simpa [zcond] using cd5
            have cd5 := congrArg Int32.toInt cd5
            rw [nI_toInt (by omega), nI_toInt (by omega)] at cd5
            have ew := codeS_inj x1 w1 x2 (by omega) cd4
            refine pa_iconst (v := 1) (pc' := 31) dX4_hasSong_30 (by decide) rfl ?_
            refine pa_iret dX4_hasSong_31 rfl rfl ⟨rfl, ?_⟩
            rw [if_pos (List.any_eq_true.mpr ⟨j, List.mem_range.mpr hj2, decide_eq_true ew⟩)]
  refine pa_iconst (v := nI 0) (pc' := 1) dX4_hasSong_0 (by decide) rfl ?_
  refine pa_istore_n (pc' := 2) dX4_hasSong_1 (by decide) rfl rfl ?_
  exact loop N 0 _ rfl rfl rfl rfl (Nat.zero_le _) (fun i hi => absurd hi (Nat.not_lt_zero i))
end RDZ
end Pk5
section Pk6
/-! ways and spouts that were told; lines: what they give -/
section RD1
variable {y : Nat → Int32} {n c d N p m : Nat} {h h' : zH} {A : pA} {nm : Nat → List Int32} {Q : Option zV → zH → Prop}
theorem nI_ne {a b : Nat} (ha : a < 1000) (hb : b < 1000) : nI a = nI b ↔ a = b := by
  refine ⟨fun e => ?_, fun e => by rw [e]⟩
  have := congrArg Int32.toInt e
  rw [nI_toInt (by omega), nI_toInt (by omega)] at this
  omega
theorem C_btw {a b : Nat} (ha : a < 7) (hb : b < 7) (hc : cc2 c) (hI : pI A) (hx : rx y n c h) (k : rcC A c h) : zPa d mX4_wayBetween [.inr (.inr (some c)), .inl (nI a), .inl (nI b)] h (fun v h' => h' = h ∧ ∃ x, v = some (.inl x) ∧ ((x = -2 ∧ (List.range (cW A)).any (joinsB A.2.2.2.1 a b) = false) ∨ (x ≠ -2 ∧ (List.range (cW A)).any (joinsB A.2.2.2.1 a b) = true))) := by
  intro N
  have sc := hx.sh (pc_sh hc).1
  have sc3 := hx.sh (pc_sh hc).2.2.2.1
  have rc11 := hx.2.1 _ _ _ (pc_rf hc).2.2.1
  have k5 := k.2.2.1
  have bW := hI.2.2.1.2.1
  show zPn N none d mX4_wayBetween (0, [(0, .inr (.inr (some c))), (1, .inl (nI a)), (2, .inl (nI b))], [], h) _
  have loop : ∀ (N j : Nat) (ls : zL), zget ls 0 = some (.inr (.inr (some c))) → zget ls 1 = some (.inl (nI a)) → zget ls 2 = some (.inl (nI b)) → zget ls 3 = some (.inl (nI j)) → j ≤ cW A → (∀ i, i < j → joinsB A.2.2.2.1 a b i = false) → zPn N none d mX4_wayBetween (2, ls, [], h) (fun v h' => h' = h ∧ ∃ x, v = some (.inl x) ∧ ((x = -2 ∧ (List.range (cW A)).any (joinsB A.2.2.2.1 a b) = false) ∨ (x ≠ -2 ∧ (List.range (cW A)).any (joinsB A.2.2.2.1 a b) = true))) := by
    intro N
    induction N with
    | zero => intro j ls _ _ _ _ _ _; exact zPn.zero
    | succ N ih =>
      intro j ls hl0 hl1 hl2 hl3 hj hall
      refine pa_iload_n (pc' := 3) dX4_wayBetween_2 hl3 rfl ?_
      refine pa_aload_n (pc' := 4) dX4_wayBetween_3 hl0 rfl ?_
      refine pa_getI (pc' := 7) (n := 15) dX4_wayBetween_4 fl_4_62 sc (by decide) k5 rfl ?_
      refine pa_icmp (pc' := 82) (pc2 := 10) dX4_wayBetween_7 (by decide) rfl (fun cd3 => ?_) (fun cd3 => ?_)
      · have cd3 := zi_nlt (zk_ge_lt cd3)
        rw [nI_toInt (by omega), nI_toInt (by omega)] at cd3
        refine pa_bipush (v := (-2)) (pc' := 84) dX4_wayBetween_82 (by decide) rfl ?_
        refine pa_iret dX4_wayBetween_84 rfl rfl ⟨rfl, -2, rfl, .inl ⟨rfl, ?_⟩⟩
        refine List.any_eq_false.mpr (fun i hi z => ?_)
        have hi := List.mem_range.mp hi
        rw [hall i (by omega)] at z
        exact absurd z (by decide)
      · have cd3 := zi_lt (zk_ge_lt cd3)
        rw [nI_toInt (by omega), nI_toInt (by omega)] at cd3
        have hj2 : j < cW A := by omega
        obtain ⟨v1, v2⟩ := k.2.2.2.2.2.2.2.1 j hj2
        obtain ⟨o1, o2⟩ := hI.2.2.2.2.2.2.1 j hj2
        have sw := hx.sh (pc_way hc (show j < 12 by omega)).1
        have rw_ := hx.2.1 _ _ _ (pc_way hc (show j < 12 by omega)).2
        obtain ⟨w1, w2, ew⟩ : ∃ w1 w2, A.2.2.2.1 j = (w1, w2) := ⟨_, _, rfl⟩
        rw [ew] at v1 v2 o1 o2
        dsimp only at v1 v2 o1 o2
        have aa : ∀ {pc pc' : Nat} {ls : zL} {st : List zV} {Q : Option zV → zH → Prop}, decode cX4_wayBetween pc = .ok (.aaload, 1) → pc + 1 = pc' → zPn (N + 1) none d mX4_wayBetween (pc', ls, .inr (.inr (some (c + 7 + j))) :: st, h) Q → zPn (N + 1) none d mX4_wayBetween (pc, ls, .inl (nI j) :: .inr (.inr (some (c + 3))) :: st, h) Q := by
          intro pc pc' ls st Q hd hp kk
          exact pa_aald hd sc3 ⟨by decide, by decide⟩ (zn_in (by omega) (by omega)) (by rw [nI_clamp (by omega)]; exact rw_) hp kk
        have step : ∀ ls : zL, zget ls 0 = some (.inr (.inr (some c))) → zget ls 1 = some (.inl (nI a)) → zget ls 2 = some (.inl (nI b)) → zget ls 3 = some (.inl (nI j)) → joinsB A.2.2.2.1 a b j = false → zPn (N + 1) none d mX4_wayBetween (76, ls, [], h) (fun v h' => h' = h ∧ ∃ x, v = some (.inl x) ∧ ((x = -2 ∧ (List.range (cW A)).any (joinsB A.2.2.2.1 a b) = false) ∨ (x ≠ -2 ∧ (List.range (cW A)).any (joinsB A.2.2.2.1 a b) = true))) := by
          intro ls hl0 hl1 hl2 hl3 ne
          refine pa_iinc (pc' := 79) (v := nI (j + 1)) dX4_wayBetween_76 hl3 (by decide) (nI_add j 1) rfl rfl ?_
          refine pa_gotos (pc' := 2) dX4_wayBetween_79 (by decide) ?_
          refine ih (j + 1) _ (zget_s1 hl0 (by decide) (by simp [zcat])) (zget_s1 hl1 (by decide) (by simp [zcat])) (zget_s1 hl2 (by decide) (by simp [zcat])) zget_s1e (by omega) (fun i hi => ?_)
          rcases Nat.lt_or_ge i j with z | z
          · exact hall i z
          · have : i = j := by omega
            subst this
            exact ne
        have hit : ∀ ls : zL, zget ls 3 = some (.inl (nI j)) → joinsB A.2.2.2.1 a b j = true → zPn (N + 1) none d mX4_wayBetween (74, ls, [], h) (fun v h' => h' = h ∧ ∃ x, v = some (.inl x) ∧ ((x = -2 ∧ (List.range (cW A)).any (joinsB A.2.2.2.1 a b) = false) ∨ (x ≠ -2 ∧ (List.range (cW A)).any (joinsB A.2.2.2.1 a b) = true))) := by
          intro ls hl3 z
          refine pa_iload_n (pc' := 75) dX4_wayBetween_74 hl3 rfl ?_
          refine pa_iret dX4_wayBetween_75 rfl rfl ⟨rfl, nI j, rfl, .inr ⟨fun e => ?_, List.any_eq_true.mpr ⟨j, List.mem_range.mpr hj2, z⟩⟩⟩
          have := congrArg Int32.toInt e
          rw [nI_toInt (by omega)] at this
          have e : (-2 : Int32).toInt = -2 := by decide
          omega
        have jd : joinsB A.2.2.2.1 a b j = (decide ((w1, w2) = (a, b)) || decide ((w1, w2) = (b, a))) := by unfold joinsB; rw [ew]
        -- the second way about
        have two : ∀ ls : zL, zget ls 0 = some (.inr (.inr (some c))) → zget ls 1 = some (.inl (nI a)) → zget ls 2 = some (.inl (nI b)) → zget ls 3 = some (.inl (nI j)) → ¬ (w1 = a ∧ w2 = b) → zPn (N + 1) none d mX4_wayBetween (48, ls, [], h) (fun v h' => h' = h ∧ ∃ x, v = some (.inl x) ∧ ((x = -2 ∧ (List.range (cW A)).any (joinsB A.2.2.2.1 a b) = false) ∨ (x ≠ -2 ∧ (List.range (cW A)).any (joinsB A.2.2.2.1 a b) = true))) := by
          intro ls hl0 hl1 hl2 hl3 no
          refine pa_aload_n (pc' := 49) dX4_wayBetween_48 hl0 rfl ?_
          refine pa_getR (pc' := 52) (n := 15) (r := _) dX4_wayBetween_49 fl_4_20 sc (by decide) rc11 rfl ?_
          refine pa_iload_n (pc' := 53) dX4_wayBetween_52 hl3 rfl ?_
          refine aa dX4_wayBetween_53 rfl ?_
          refine pa_getI (pc' := 57) (n := 4) dX4_wayBetween_54 fl_4_77 sw (by decide) v1 rfl ?_
          refine pa_iload_n (pc' := 58) dX4_wayBetween_57 hl2 rfl ?_
          refine pa_icmp (pc' := 76) (pc2 := 61) dX4_wayBetween_58 (by decide) rfl (fun cd4 => ?_) (fun cd4 => ?_)
          · have cd4 : ¬ nI w1 = nI b := by simpa [zcond] using cd4
            rw [nI_ne (by omega) (by omega)] at cd4
            exact step ls hl0 hl1 hl2 hl3 (by rw [jd, decide_eq_false (by simp only [Prod.mk.injEq]; exact no), decide_eq_false (by simp only [Prod.mk.injEq]; exact fun z => cd4 z.1)]; rfl)
          · have cd4 : nI w1 = nI b := by simpa [zcond] using cd4
            rw [nI_ne (by omega) (by omega)] at cd4
            refine pa_aload_n (pc' := 62) dX4_wayBetween_61 hl0 rfl ?_
            refine pa_getR (pc' := 65) (n := 15) (r := _) dX4_wayBetween_62 fl_4_20 sc (by decide) rc11 rfl ?_
            refine pa_iload_n (pc' := 66) dX4_wayBetween_65 hl3 rfl ?_
            refine aa dX4_wayBetween_66 rfl ?_
            refine pa_getI (pc' := 70) (n := 4) dX4_wayBetween_67 fl_4_80 sw (by decide) v2 rfl ?_
            refine pa_iload_n (pc' := 71) dX4_wayBetween_70 hl1 rfl ?_
            refine pa_icmp (pc' := 76) (pc2 := 74) dX4_wayBetween_71 (by decide) rfl (fun cd5 => ?_) (fun cd5 => ?_)
            · have cd5 : ¬ nI w2 = nI a := by simpa [zcond] using cd5
              rw [nI_ne (by omega) (by omega)] at cd5
              exact step ls hl0 hl1 hl2 hl3 (by rw [jd, decide_eq_false (by simp only [Prod.mk.injEq]; exact no), decide_eq_false (by simp only [Prod.mk.injEq]; exact fun z => cd5 z.2)]; rfl)
            · have cd5 : nI w2 = nI a := by simpa [zcond] using cd5
              rw [nI_ne (by omega) (by omega)] at cd5
              exact hit ls hl3 (by rw [jd, decide_eq_true (p := (w1, w2) = (b, a)) (by rw [cd4, cd5])]; simp)
        refine pa_aload_n (pc' := 11) dX4_wayBetween_10 hl0 rfl ?_
        refine pa_getR (pc' := 14) (n := 15) (r := _) dX4_wayBetween_11 fl_4_20 sc (by decide) rc11 rfl ?_
        refine pa_iload_n (pc' := 15) dX4_wayBetween_14 hl3 rfl ?_
        refine aa dX4_wayBetween_15 rfl ?_
        refine pa_getI (pc' := 19) (n := 4) dX4_wayBetween_16 fl_4_77 sw (by decide) v1 rfl ?_
        refine pa_iload_n (pc' := 20) dX4_wayBetween_19 hl1 rfl ?_
        refine pa_icmp (pc' := 40) (pc2 := 23) dX4_wayBetween_20 (by decide) rfl (fun cd4 => ?_) (fun cd4 => ?_)
        · have cd4 : ¬ nI w1 = nI a := by simpa [zcond] using cd4
          rw [nI_ne (by omega) (by omega)] at cd4
          refine pa_iconst (v := 0) (pc' := 41) dX4_wayBetween_40 (by decide) rfl ?_
          refine pa_istore (pc' := 43) dX4_wayBetween_41 (by decide) rfl rfl ?_
          refine pa_iload (pc' := 45) dX4_wayBetween_43 zget_s1e rfl ?_
          refine pa_if_f (pc' := 48) dX4_wayBetween_45 (by decide) (by decide) rfl ?_
          exact two _ (zget_s1 hl0 (by decide) (by simp [zcat])) (zget_s1 hl1 (by decide) (by simp [zcat])) (zget_s1 hl2 (by decide) (by simp [zcat])) (zget_s1 hl3 (by decide) (by simp [zcat])) (fun z => cd4 z.1)
        · have cd4 : nI w1 = nI a := by simpa [zcond] using cd4
          rw [nI_ne (by omega) (by omega)] at cd4
          refine pa_aload_n (pc' := 24) dX4_wayBetween_23 hl0 rfl ?_
          refine pa_getR (pc' := 27) (n := 15) (r := _) dX4_wayBetween_24 fl_4_20 sc (by decide) rc11 rfl ?_
          refine pa_iload_n (pc' := 28) dX4_wayBetween_27 hl3 rfl ?_
          refine aa dX4_wayBetween_28 rfl ?_
          refine pa_getI (pc' := 32) (n := 4) dX4_wayBetween_29 fl_4_80 sw (by decide) v2 rfl ?_
          refine pa_iload_n (pc' := 33) dX4_wayBetween_32 hl2 rfl ?_
          refine pa_icmp (pc' := 40) (pc2 := 36) dX4_wayBetween_33 (by decide) rfl (fun cd5 => ?_) (fun cd5 => ?_)
          · have cd5 : ¬ nI w2 = nI b := by simpa [zcond] using cd5
            rw [nI_ne (by omega) (by omega)] at cd5
            refine pa_iconst (v := 0) (pc' := 41) dX4_wayBetween_40 (by decide) rfl ?_
            refine pa_istore (pc' := 43) dX4_wayBetween_41 (by decide) rfl rfl ?_
            refine pa_iload (pc' := 45) dX4_wayBetween_43 zget_s1e rfl ?_
            refine pa_if_f (pc' := 48) dX4_wayBetween_45 (by decide) (by decide) rfl ?_
            exact two _ (zget_s1 hl0 (by decide) (by simp [zcat])) (zget_s1 hl1 (by decide) (by simp [zcat])) (zget_s1 hl2 (by decide) (by simp [zcat])) (zget_s1 hl3 (by decide) (by simp [zcat])) (fun z => cd5 z.2)
          · have cd5 : nI w2 = nI b := by simpa [zcond] using cd5
            rw [nI_ne (by omega) (by omega)] at cd5
            refine pa_iconst (v := 1) (pc' := 37) dX4_wayBetween_36 (by decide) rfl ?_
            refine pa_goto (pc' := 41) dX4_wayBetween_37 (by decide) ?_
            refine pa_istore (pc' := 43) dX4_wayBetween_41 (by decide) rfl rfl ?_
            refine pa_iload (pc' := 45) dX4_wayBetween_43 zget_s1e rfl ?_
            refine pa_if_t (pc' := 74) dX4_wayBetween_45 (by decide) (by decide) ?_
            exact hit _ (zget_s1 hl3 (by decide) (by simp [zcat])) (by rw [jd, decide_eq_true (p := (w1, w2) = (a, b)) (by rw [cd4, cd5])]; rfl)
  refine pa_iconst (v := nI 0) (pc' := 1) dX4_wayBetween_0 (by decide) rfl ?_
  refine pa_istore_n (pc' := 2) dX4_wayBetween_1 (by decide) rfl rfl ?_
  exact loop N 0 _ rfl rfl rfl rfl (Nat.zero_le _) (fun i hi => absurd hi (Nat.not_lt_zero i))
theorem least_no {sp : Nat → Nat × Int32} {w : Nat} : ∀ {k : Nat}, (∀ j, j < k → (sp j).1 ≠ w) → least sp w k = 0
  | 0, _ => rfl
  | k + 1, h => by
    unfold least
    rw [if_neg (h k (by omega))]
    exact least_no (fun j hj => h j (by omega))
theorem least_at {sp : Nat → Nat × Int32} {w i : Nat} : ∀ {k : Nat}, i < k → (sp i).1 = w → (∀ j, i < j → j < k → (sp j).1 ≠ w) → least sp w k = (sp i).2 + 1
  | 0, h, _, _ => absurd h (Nat.not_lt_zero i)
  | k + 1, h, e, hn => by
    unfold least
    by_cases c : k = i
    · subst c
      rw [if_pos e]
    · rw [if_neg (hn k (by omega) (by omega))]
      exact least_at (by omega) e (fun j h1 h2 => hn j h1 (by omega))
theorem C_last {w : Nat} (hw : w < 5) (hc : cc2 c) (hI : pI A) (hx : rx y n c h) (k : rcC A c h) : zPa d mX4_lastSpoutOf [.inr (.inr (some c)), .inl (nI w)] h (fun v h' => h' = h ∧ ∃ x, v = some (.inl x) ∧ ((x = -2 ∧ ∀ j, j < cS A → (A.2.2.2.2.1 j).1 ≠ w) ∨ ∃ i, i < cS A ∧ x = nI i ∧ (A.2.2.2.2.1 i).1 = w ∧ ∀ j, i < j → j < cS A → (A.2.2.2.2.1 j).1 ≠ w)) := by
  intro N
  have sc := hx.sh (pc_sh hc).1
  have sc6 := hx.sh (pc_sh hc).2.2.2.2.2.2
  have rc14 := hx.2.1 _ _ _ (pc_rf hc).2.2.2.2.2
  have k8 := k.2.2.2.2.2.1
  have bS := hI.2.2.1.2.2.2.2
  show zPn N none d mX4_lastSpoutOf (0, [(0, .inr (.inr (some c))), (1, .inl (nI w))], [], h) _
  have no : ∀ (N : Nat) (ls : zL) (x : Int32), x.toInt < 0 → zget ls 2 = some (.inl x) → (∀ j, j < cS A → (A.2.2.2.2.1 j).1 ≠ w) → zPn N none d mX4_lastSpoutOf (7, ls, [], h) (fun v h' => h' = h ∧ ∃ x, v = some (.inl x) ∧ ((x = -2 ∧ ∀ j, j < cS A → (A.2.2.2.2.1 j).1 ≠ w) ∨ ∃ i, i < cS A ∧ x = nI i ∧ (A.2.2.2.2.1 i).1 = w ∧ ∀ j, i < j → j < cS A → (A.2.2.2.2.1 j).1 ≠ w)) := by
    intro N ls x hx0 hl2 hall
    refine pa_iload_n (pc' := 8) dX4_lastSpoutOf_7 hl2 rfl ?_
    refine pa_if_t (pc' := 32) dX4_lastSpoutOf_8 (zj_lt (by rw [show (0 : Int32).toInt = 0 by decide]; exact hx0)) (by decide) ?_
    refine pa_bipush (v := (-2)) (pc' := 34) dX4_lastSpoutOf_32 (by decide) rfl ?_
    exact pa_iret dX4_lastSpoutOf_34 rfl rfl ⟨rfl, -2, rfl, .inl ⟨rfl, hall⟩⟩
  have loop : ∀ (N j : Nat) (ls : zL), zget ls 0 = some (.inr (.inr (some c))) → zget ls 1 = some (.inl (nI w)) → zget ls 2 = some (.inl (nI j)) → j < cS A → (∀ i, j < i → i < cS A → (A.2.2.2.2.1 i).1 ≠ w) → zPn N none d mX4_lastSpoutOf (7, ls, [], h) (fun v h' => h' = h ∧ ∃ x, v = some (.inl x) ∧ ((x = -2 ∧ ∀ j, j < cS A → (A.2.2.2.2.1 j).1 ≠ w) ∨ ∃ i, i < cS A ∧ x = nI i ∧ (A.2.2.2.2.1 i).1 = w ∧ ∀ j, i < j → j < cS A → (A.2.2.2.2.1 j).1 ≠ w)) := by
    intro N
    induction N with
    | zero => intro j ls _ _ _ _ _; exact zPn.zero
    | succ N ih =>
      intro j ls hl0 hl1 hl2 hj hall
      obtain ⟨v1, v2⟩ := k.2.2.2.2.2.2.2.2.1 j hj
      have o1 := hI.2.2.2.2.2.2.2 j hj
      have sw := hx.sh (pc_spt hc (show j < 8 by omega)).1
      have rw_ := hx.2.1 _ _ _ (pc_spt hc (show j < 8 by omega)).2
      refine pa_iload_n (pc' := 8) dX4_lastSpoutOf_7 hl2 rfl ?_
      refine pa_if_f (pc' := 11) dX4_lastSpoutOf_8 (zj_nlt (by rw [show (0 : Int32).toInt = 0 by decide, nI_toInt (by omega)]; omega)) (by decide) rfl ?_
      refine pa_aload_n (pc' := 12) dX4_lastSpoutOf_11 hl0 rfl ?_
      refine pa_getR (pc' := 15) (n := 15) (r := _) dX4_lastSpoutOf_12 fl_4_38 sc (by decide) rc14 rfl ?_
      refine pa_iload_n (pc' := 16) dX4_lastSpoutOf_15 hl2 rfl ?_
      refine pa_aald (pc' := 17) dX4_lastSpoutOf_16 sc6 ⟨by decide, by decide⟩ (zn_in (by omega) (by omega)) (by rw [nI_clamp (by omega)]; exact rw_) rfl ?_
      refine pa_getI (pc' := 20) (n := 3) dX4_lastSpoutOf_17 fl_4_83 sw (by decide) v1 rfl ?_
      refine pa_iload_n (pc' := 21) dX4_lastSpoutOf_20 hl1 rfl ?_
      refine pa_icmp (pc' := 26) (pc2 := 24) dX4_lastSpoutOf_21 (by decide) rfl (fun cd4 => ?_) (fun cd4 => ?_)
      · have cd4 : ¬ nI (A.2.2.2.2.1 j).1 = nI w := by simpa [zcond] using cd4
        rw [nI_ne (by omega) (by omega)] at cd4
        have all2 : ∀ i, j ≤ i → i < cS A → (A.2.2.2.2.1 i).1 ≠ w := fun i h1 h2 => by
          rcases Nat.lt_or_ge j i with z | z
          · exact hall i z h2
          · have : i = j := by omega
            subst this
            exact cd4
        cases j with
        | zero =>
          refine pa_iinc (pc' := 29) (v := -1) dX4_lastSpoutOf_26 hl2 (by decide) (by decide) rfl rfl ?_
          refine pa_gotos (pc' := 7) dX4_lastSpoutOf_29 (by decide) ?_
          exact no N _ (-1) (by decide) zget_s1e (fun i hi => all2 i (Nat.zero_le _) hi)
        | succ j =>
          refine pa_iinc (pc' := 29) (v := nI j) dX4_lastSpoutOf_26 hl2 (by decide) (by
            have := nI_sub (a := j + 1) (b := 1) (by omega)
            rw [Nat.add_sub_cancel] at this
            rw [← this, Int32.sub_eq_add_neg]
            rfl) rfl rfl ?_
          refine pa_gotos (pc' := 7) dX4_lastSpoutOf_29 (by decide) ?_
          exact ih j _ (zget_s1 hl0 (by decide) (by simp [zcat])) (zget_s1 hl1 (by decide) (by simp [zcat])) zget_s1e (by omega) (fun i h1 h2 => all2 i (by omega) h2)
      · have cd4 : nI (A.2.2.2.2.1 j).1 = nI w := by simpa [zcond] using cd4
        rw [nI_ne (by omega) (by omega)] at cd4
        refine pa_iload_n (pc' := 25) dX4_lastSpoutOf_24 hl2 rfl ?_
        exact pa_iret dX4_lastSpoutOf_25 rfl rfl ⟨rfl, nI j, rfl, .inr ⟨j, hj, rfl, cd4, hall⟩⟩
  refine pa_aload_n (pc' := 1) dX4_lastSpoutOf_0 rfl rfl ?_
  refine pa_getI (pc' := 4) (n := 15) dX4_lastSpoutOf_1 fl_4_71 sc (by decide) k8 rfl ?_
  cases eS : cS A with
  | zero =>
    rw [eS] at no
    refine pa_iconst (v := 1) (pc' := 5) dX4_lastSpoutOf_4 (by decide) rfl ?_
    refine pa_isub (pc' := 6) (v := -1) dX4_lastSpoutOf_5 (by decide) rfl ?_
    refine pa_istore_n (pc' := 7) dX4_lastSpoutOf_6 (by decide) rfl rfl ?_
    exact no N _ (-1) (by decide) rfl (fun j hj => absurd hj (Nat.not_lt_zero j))
  | succ s =>
    rw [eS] at loop
    refine pa_iconst (v := nI 1) (pc' := 5) dX4_lastSpoutOf_4 (by decide) rfl ?_
    refine pa_isub (pc' := 6) (v := nI s) dX4_lastSpoutOf_5 (by have := nI_sub (a := s + 1) (b := 1) (by omega); rw [Nat.add_sub_cancel] at this; exact this) rfl ?_
    refine pa_istore_n (pc' := 7) dX4_lastSpoutOf_6 (by decide) rfl rfl ?_
    exact loop N s _ rfl rfl rfl (by omega) (fun i h1 h2 => by omega)
/-- a write into the draft that touches nothing told yet -/
def wrOK (A : pA) (c a j : Nat) : Prop := a < 82 ∧ a ≠ 1 ∧ (a = c → j = 1 ∨ j = 2 ∨ j = 3) ∧ (a = c + 1 → cI A ≤ j) ∧ (a = c + 2 → cI A ≤ j) ∧ (∀ k, k < cW A → a ≠ c + 7 + k) ∧ (∀ k, k < cS A → a ≠ c + 32 + k) ∧ (∀ i, A.2.2.1 (1000 + i) ≠ [] → okX A i → ¬ (c + oX i = a ∧ sX i = j))
theorem rs.wr {a j : Nat} {v : Int32} (K : rs y n c A nm m p h) (w : wrOK A c a j) : rs y n c A nm m p (zsI h a j v) := by
  obtain ⟨w1, w2, w3, w4, w5, w6, w7, w8⟩ := w
  obtain ⟨k1, k2, k3, k4, k5⟩ := K
  refine ⟨⟨k1.1, k1.2.1, k1.2.2.1, ?_, ?_, k1.2.2.2.2.2⟩, ?_, k3, ?_, k5.fr (zsI_no (by omega)) (fun j => zsI_no (by omega)) (fun j => zsI_no (by omega)) rfl⟩
  · funext i
    rw [zsI_no (by omega)]
    exact congrFun k1.2.2.2.1 i
  · rw [zsI_no (by omega)]
    exact k1.2.2.2.2.1
  · rw [zsI_no (by omega)]
    exact k2
  · obtain ⟨q0, q4, q5, q6, q7, q8, qs, qw, qp, qx⟩ := k4
    refine ⟨by rw [zsI_no (by omega)]; exact q0, by rw [zsI_no (by omega)]; exact q4, by rw [zsI_no (by omega)]; exact q5, by rw [zsI_no (by omega)]; exact q6, by rw [zsI_no (by omega)]; exact q7, by rw [zsI_no (by omega)]; exact q8, fun i hi => ?_, fun i hi => ?_, fun i hi => ?_, qx.wr w8⟩
    · rw [zsI_no (by omega), zsI_no (by omega)]
      exact qs i hi
    · have := w6 i hi
      rw [zsI_no (by omega), zsI_no (by omega)]
      exact qw i hi
    · have := w7 i hi
      rw [zsI_no (by omega), zsI_no (by omega)]
      exact qp i hi
def lnR (y : Nat → Int32) (n c : Nat) (r : sR) (v : Option zV) (h' : zH) : Prop := match r with
  | .inl e => v = some (.inl 0) ∧ fl e h'
  | .inr q => v = some (.inl 1) ∧ rs y n c q.1 q.1.2.1 (cI q.1 + cH q.1 + cB q.1) q.2 h' ∧ pI q.1
theorem lnl {r : sR} {e : sF} (he : r = .inl e) (hf : fl e h') : lnR y n c r (some (.inl 0)) h' := by rw [he]; exact ⟨rfl, hf⟩
theorem lnr {r : sR} {A : pA} {q : Nat} (he : r = .inr (A, q)) (K : rs y n c A A.2.1 (cI A + cH A + cB A) q h') (hI : pI A) : lnR y n c r (some (.inl 1)) h' := by rw [he]; exact ⟨rfl, K, hI⟩
end RD1
end Pk6
section Pk7
/-! lines: what stays, what grows -/
section RD2
variable {y : Nat → Int32} {n c d N p m q : Nat} {h h' : zH} {A : pA} {nm : Nat → List Int32} {t : Int32}
theorem sNum_24 {x : Int32} (e : sNum y n 2 4 p = .inr (x, q)) : x = 2 ∨ x = 3 ∨ x = 4 := by
  unfold sNum at e
  split at e
  · split at e
    · next z =>
      have e := Sum.inr.inj e
      have ex : tNum y n p = x := congrArg Prod.fst e
      rw [ex] at z
      have z1 := Int32.le_iff_toInt_le.mp z.1
      have z2 := Int32.le_iff_toInt_le.mp z.2
      have e2 : (2 : Int32).toInt = 2 := by decide
      have e4 : (4 : Int32).toInt = 4 := by decide
      have h : x.toInt = 2 ∨ x.toInt = 3 ∨ x.toInt = 4 := by omega
      rcases h with h | h | h
      · exact .inl (Int32.toInt_inj.mp (h.trans (by decide)))
      · exact .inr (.inl (Int32.toInt_inj.mp (h.trans (by decide))))
      · exact .inr (.inr (Int32.toInt_inj.mp (h.trans (by decide))))
    · cases e
  · cases e
theorem pI.songs {S : Nat → List Int32} (hI : pI A) (e : ∀ i, i < 7 → S i = A.2.2.1 i) : pI (A.1, A.2.1, S, A.2.2.2) := by
  obtain ⟨i1, i2, i3, i4, i5, i6, i7, i8⟩ := hI
  refine ⟨i1, i2, i3, i4, i5, fun i hi => ?_, i7, i8⟩
  have hi : i < cI A := hi
  show okSong A.1 (S i) = true ∧ (S i).all isLt = true
  rw [e i (by omega)]
  exact i6 i hi
theorem xS4 {S : Nat → List Int32} {a b c d i : Nat} {x y z w : Int32} (h : i < 7) : xS (xS (xS (xS S a x) b y) c z) d w i = S i := by rw [upX_lo (by omega), upX_lo (by omega), upX_lo (by omega), upX_lo (by omega)]
theorem xS3 {S : Nat → List Int32} {a b c i : Nat} {x y z : Int32} (h : i < 7) : xS (xS (xS S a x) b y) c z i = S i := by rw [upX_lo (by omega), upX_lo (by omega), upX_lo (by omega)]
theorem xS2 {S : Nat → List Int32} {a b i : Nat} {x y : Int32} (h : i < 7) : xS (xS S a x) b y i = S i := by rw [upX_lo (by omega), upX_lo (by omega)]
theorem xS1 {S : Nat → List Int32} {a i : Nat} {x : Int32} (h : i < 7) : xS S a x i = S i := upX_lo (by omega)
theorem rcC.no3 (k : rcC A c h) (h0 : A.1 = 0) (s : Nat) (h1 : 1 ≤ s) (h2 : s ≤ 3) : A.2.2.1 (1000 + s) = [] := by
  cases e : A.2.2.1 (1000 + s) with
  | nil => rfl
  | cons a b =>
    rcases (k.2.2.2.2.2.2.2.2.2 s (by rw [e]; exact List.cons_ne_nil a b)).1 with ⟨_, _, z⟩ | z | z | z | z
    · exact absurd h0 z
    all_goals omega
theorem pI.head (hI : pI A) (ht : t = 2 ∨ t = 3 ∨ t = 4) (h0 : A.1 = 0) : pI (t, A.2) := by
  obtain ⟨i1, i2, i3, i4, i5, i6, i7, i8⟩ := hI
  have z := i2 h0
  refine ⟨.inr ht, fun e => ?_, i3, i4, i5, fun i hi => ?_, i7, i8⟩
  · exact z
  · have hi : i < cI A := hi
    rw [z.1] at hi
    exact absurd hi (Nat.not_lt_zero i)
theorem rs.head (hc : cc2 c) (hI : pI A) (h0 : A.1 = 0) (K : rs y n c A nm m p h) : rs y n c (t, A.2) nm m p (zsI h c 0 t) := by
  obtain ⟨k1, k2, k3, k4, k5⟩ := K
  have z := hI.2.1 h0
  have hc1 : c ≠ 1 ∧ c ≠ 82 ∧ c ≠ 84 ∧ c ≠ 85 := by rcases hc with q | q <;> omega
  refine ⟨⟨k1.1, k1.2.1, k1.2.2.1, ?_, ?_, k1.2.2.2.2.2⟩, ?_, k3, ?_, k5.fr (zsI_no (by omega)) (fun j => zsI_no (by omega)) (fun j => zsI_no (by omega)) rfl⟩
  · funext i
    rw [zsI_no (by omega)]
    exact congrFun k1.2.2.2.1 i
  · rw [zsI_no (by omega)]
    exact k1.2.2.2.2.1
  · rw [zsI_no (by omega)]
    exact k2
  · obtain ⟨q0, q4, q5, q6, q7, q8, qs, qw, qp, qx⟩ := k4
    refine ⟨zsI_eq, by rw [zsI_no (by omega)]; exact q4, by rw [zsI_no (by omega)]; exact q5, by rw [zsI_no (by omega)]; exact q6, by rw [zsI_no (by omega)]; exact q7, by rw [zsI_no (by omega)]; exact q8, fun i hi => ?_, fun i hi => ?_, fun i hi => ?_, fun j hj => ?_⟩
    · have hi : i < cI A := hi
      omega
    · have hi : i < cW A := hi
      omega
    · have hi : i < cS A := hi
      omega
    · rcases (qx j hj).1 with ⟨_, _, z2⟩ | z2 | z2 | z2 | z2
      · exact absurd h0 z2
      all_goals omega
/-- the head's numbers -/
theorem rs.headed {u v w : Int32} (hc : cc2 c) (hI : pI A) (h0 : A.1 ≠ 0) (K : rs y n c A nm m p h) (v1 : h.2.1 c 1 = u) (v2 : h.2.1 c 2 = v) (v3 : h.2.1 c 3 = w) : rs y n c (A.1, A.2.1, xS (xS (xS A.2.2.1 1 u) 2 v) 3 w, A.2.2.2) nm m p h := by
  obtain ⟨b1, b2, b3, b4, b5⟩ := hI.2.2.1
  obtain ⟨k1, k2, k3, ⟨q0, q4, q5, q6, q7, q8, qs, qw, qp, qx⟩, k5⟩ := K
  refine ⟨k1, k2, k3, ⟨q0, q4, q5, q6, q7, q8, fun i hi => ?_, qw, qp, ?_⟩, k5⟩
  · have hi : i < cI A := hi
    show h.2.1 (c + 2) i = nI (xS (xS (xS A.2.2.1 1 u) 2 v) 3 w i).length ∧ h.2.1 (c + 1) i = codeS (xS (xS (xS A.2.2.1 1 u) 2 v) 3 w i)
    rw [xS3 (by omega)]
    exact qs i hi
  · exact ((qx.add (i := 1) (.inl ⟨by omega, by omega, h0⟩) v1).add (i := 2) (.inl ⟨by omega, by omega, h0⟩) v2).add (i := 3) (.inl ⟨by omega, by omega, h0⟩) v3
theorem wr_c {j : Nat} (hc : cc2 c) (hj : j = 1 ∨ j = 2 ∨ j = 3) (hI : pI A) (hno : ∀ s, 1 ≤ s → s ≤ 3 → A.2.2.1 (1000 + s) = []) : wrOK A c c j := by
  obtain ⟨b1, b2, b3, b4, b5⟩ := hI.2.2.1
  have hc : c = 2 ∨ c = 42 := hc
  refine ⟨by omega, by omega, fun _ => hj, fun z => by omega, fun z => by omega, fun k _ => by omega, fun k _ => by omega, fun i ht ho z => ?_⟩
  rcases oX_at ho b2 b3 b4 b5 with q | ⟨_, _, q⟩ | ⟨_, _, q⟩ | ⟨_, _, q⟩ | ⟨_, _, q⟩
  · exact ht (hno i q.1 q.2.1)
  all_goals omega
theorem wr_b {j : Nat} (hc : cc2 c) (hB : cB A < 8) (hI : pI A) : wrOK A c (c + 24 + cB A) j := by
  obtain ⟨b1, b2, b3, b4, b5⟩ := hI.2.2.1
  have hc : c = 2 ∨ c = 42 := hc
  refine ⟨by omega, by omega, fun z => by omega, fun z => by omega, fun z => by omega, fun k hk => by omega, fun k _ => by omega, fun i ht ho z => ?_⟩
  rcases oX_at ho b2 b3 b4 b5 with q | ⟨_, _, q⟩ | ⟨_, _, q⟩ | ⟨_, _, q⟩ | ⟨_, _, q⟩ <;> omega
theorem wr_h {j : Nat} (hc : cc2 c) (hH : cH A < 5) (hI : pI A) : wrOK A c (c + 19 + cH A) j := by
  obtain ⟨b1, b2, b3, b4, b5⟩ := hI.2.2.1
  have hc : c = 2 ∨ c = 42 := hc
  refine ⟨by omega, by omega, fun z => by omega, fun z => by omega, fun z => by omega, fun k hk => by omega, fun k _ => by omega, fun i ht ho z => ?_⟩
  rcases oX_at ho b2 b3 b4 b5 with q | ⟨_, _, q⟩ | ⟨_, _, q⟩ | ⟨_, _, q⟩ | ⟨_, _, q⟩ <;> omega
theorem wr_w {j : Nat} (hc : cc2 c) (hW : cW A < 12) (hI : pI A) : wrOK A c (c + 7 + cW A) j := by
  obtain ⟨b1, b2, b3, b4, b5⟩ := hI.2.2.1
  have hc : c = 2 ∨ c = 42 := hc
  refine ⟨by omega, by omega, fun z => by omega, fun z => by omega, fun z => by omega, fun k hk => by omega, fun k _ => by omega, fun i ht ho z => ?_⟩
  rcases oX_at ho b2 b3 b4 b5 with q | ⟨_, _, q⟩ | ⟨_, _, q⟩ | ⟨_, _, q⟩ | ⟨_, _, q⟩ <;> omega
theorem wr_s {j : Nat} (hc : cc2 c) (hS : cS A < 8) (hI : pI A) : wrOK A c (c + 32 + cS A) j := by
  obtain ⟨b1, b2, b3, b4, b5⟩ := hI.2.2.1
  have hc : c = 2 ∨ c = 42 := hc
  refine ⟨by omega, by omega, fun z => by omega, fun z => by omega, fun z => by omega, fun k hk => by omega, fun k _ => by omega, fun i ht ho z => ?_⟩
  rcases oX_at ho b2 b3 b4 b5 with q | ⟨_, _, q⟩ | ⟨_, _, q⟩ | ⟨_, _, q⟩ | ⟨_, _, q⟩ <;> omega
/-- a count is written: no told number lies there -/
theorem rX.cnt {k : Nat} {v : Int32} (hk : 4 ≤ k) (K : rX (okX A) A.2.2.1 c h) (hI : pI A) : rX (okX A) A.2.2.1 c (zsI h c k v) := by
  obtain ⟨b1, b2, b3, b4, b5⟩ := hI.2.2.1
  refine K.wr (fun i _ ho z => ?_)
  rcases oX_at ho b2 b3 b4 b5 with q | ⟨_, _, q⟩ | ⟨_, _, q⟩ | ⟨_, _, q⟩ | ⟨_, _, q⟩ <;> omega
theorem pI.free {i : Nat} (hI : pI A) (hi : i < 20) (ho : ¬ occ A i) : A.2.1 i = [] := by
  cases e : A.2.1 i with
  | nil => rfl
  | cons a b => exact absurd ((hI.2.2.2.1 i hi).mp (by rw [e]; exact List.cons_ne_nil a b)) ho
theorem sNew_w (hp : p ≤ n) (e : sNew y n nm p = .inr q) : tW y n p ≠ [] := by
  unfold sNew at e
  split at e
  · next z => exact (tW_ok hp (isNb_n.mp z).1).2.2
  · cases e
theorem rx.zw {a j : Nat} {v : Int32} (hx : rx y n c h) (h1 : a ≠ 1) (h2 : a ≠ 82) : rx y n c (zsI h a j v) := by
  obtain ⟨a1, b, c1, e, f, g⟩ := hx
  refine ⟨a1, b, c1, ?_, ?_, g⟩
  · funext i
    rw [zsI_no (by omega), e]
  · rw [zsI_no (by omega)]
    exact f
/-- a count of the post grows -/
theorem rs.cnt {A' : pA} {k : Nat} {v : Int32} (hc : cc2 c) (hk : 4 ≤ k) (K : rs y n c A nm m p h) (e0 : A'.1 = A.1) (r : rcC A c h → rcC A' c (zsI h c k v)) : rs y n c A' nm m p (zsI h c k v) := by
  obtain ⟨k1, k2, k3, k4, k5⟩ := K
  have hc1 : c ≠ 1 ∧ c ≠ 82 ∧ c ≠ 84 ∧ c ≠ 85 := by rcases hc with q | q <;> omega
  exact ⟨k1.zw hc1.1 hc1.2.1, by rw [zsI_no (by omega)]; exact k2, k3, r k4, k5.fr (zsI_no (by omega)) (fun j => zsI_no (by omega)) (fun j => zsI_no (by omega)) rfl⟩
theorem rs.boxed {x0 x1 x2 x3 : Int32} (hc : cc2 c) (hI : pI A) (hB : cB A < 8) (K : rs y n c A nm m p h) (v0 : h.2.1 (c + 24 + cB A) 0 = x0) (v1 : h.2.1 (c + 24 + cB A) 1 = x1) (v2 : h.2.1 (c + 24 + cB A) 2 = x2) (v3 : h.2.1 (c + 24 + cB A) 3 = x3) : rs y n c (A.1, nm, xS (xS (xS (xS A.2.2.1 (127 + 4 * cB A) x0) (128 + 4 * cB A) x1) (129 + 4 * cB A) x2) (130 + 4 * cB A) x3, A.2.2.2.1, A.2.2.2.2.1, cI A, cW A, cH A, cB A + 1, cS A) nm m p (zsI h c 7 (nI (cB A + 1))) := by
  obtain ⟨b1, b2, b3, b4, b5⟩ := hI.2.2.1
  refine K.cnt hc (by decide) rfl (fun ⟨q0, q4, q5, q6, q7, q8, qs, qw, qp, qx⟩ => ?_)
  refine ⟨by rw [zsI_no (by omega)]; exact q0, by rw [zsI_no (by omega)]; exact q4, by rw [zsI_no (by omega)]; exact q5, by rw [zsI_no (by omega)]; exact q6, zsI_eq, by rw [zsI_no (by omega)]; exact q8, fun i hi => ?_, fun i hi => ?_, fun i hi => ?_, ?_⟩
  · have hi : i < cI A := hi
    show (zsI h c 7 _).2.1 (c + 2) i = nI (xS (xS (xS (xS A.2.2.1 (127 + 4 * cB A) x0) (128 + 4 * cB A) x1) (129 + 4 * cB A) x2) (130 + 4 * cB A) x3 i).length ∧ (zsI h c 7 _).2.1 (c + 1) i = codeS (xS (xS (xS (xS A.2.2.1 (127 + 4 * cB A) x0) (128 + 4 * cB A) x1) (129 + 4 * cB A) x2) (130 + 4 * cB A) x3 i)
    rw [zsI_no (by omega), zsI_no (by omega), xS4 (by omega)]; exact qs i hi
  · rw [zsI_no (by omega), zsI_no (by omega)]; exact qw i hi
  · rw [zsI_no (by omega), zsI_no (by omega)]; exact qp i hi
  · have g : rX (okX (A.1, nm, A.2.2.1, A.2.2.2.1, A.2.2.2.2.1, cI A, cW A, cH A, cB A + 1, cS A)) A.2.2.1 c (zsI h c 7 (nI (cB A + 1))) := (qx.cnt (k := 7) (v := nI (cB A + 1)) (by decide) hI).mono (fun j ok => ok.up id (Nat.le_refl _) (Nat.le_refl _) (Nat.le_succ _) (Nat.le_refl _))
    have ok : ∀ s, s < 4 → okX (A.1, nm, A.2.2.1, A.2.2.2.1, A.2.2.2.2.1, cI A, cW A, cH A, cB A + 1, cS A) (127 + 4 * cB A + s) := fun s hs => .inr (.inr (.inr (.inl ⟨by omega, by show 127 + 4 * cB A + s < 127 + 4 * (cB A + 1); omega⟩)))
    have va : ∀ s x, s < 4 → h.2.1 (c + 24 + cB A) s = x → (zsI h c 7 (nI (cB A + 1))).2.1 (c + oX (127 + 4 * cB A + s)) (sX (127 + 4 * cB A + s)) = x := fun s x hs e => by
      rw [(oX_box hB hs).1, (oX_box hB hs).2, zsI_no (by omega), ← Nat.add_assoc]
      exact e
    have e1 : 128 + 4 * cB A = 127 + 4 * cB A + 1 := by omega
    have e2 : 129 + 4 * cB A = 127 + 4 * cB A + 2 := by omega
    have e3 : 130 + 4 * cB A = 127 + 4 * cB A + 3 := by omega
    rw [e1, e2, e3]
    exact (((g.add (ok 0 (by decide)) (va 0 x0 (by decide) v0)).add (ok 1 (by decide)) (va 1 x1 (by decide) v1)).add (ok 2 (by decide)) (va 2 x2 (by decide) v2)).add (ok 3 (by decide)) (va 3 x3 (by decide) v3)
theorem rs.whaled {x0 x1 x2 x3 : Int32} (hc : cc2 c) (hI : pI A) (hH : cH A < 5) (K : rs y n c A nm m p h) (v0 : h.2.1 (c + 19 + cH A) 0 = x0) (v1 : h.2.1 (c + 19 + cH A) 1 = x1) (v2 : h.2.1 (c + 19 + cH A) 2 = x2) (v3 : h.2.1 (c + 19 + cH A) 3 = x3) : rs y n c (A.1, nm, xS (xS (xS (xS A.2.2.1 (107 + 4 * cH A) x0) (108 + 4 * cH A) x1) (109 + 4 * cH A) x2) (110 + 4 * cH A) x3, A.2.2.2.1, A.2.2.2.2.1, cI A, cW A, cH A + 1, cB A, cS A) nm m p (zsI h c 6 (nI (cH A + 1))) := by
  obtain ⟨b1, b2, b3, b4, b5⟩ := hI.2.2.1
  refine K.cnt hc (by decide) rfl (fun ⟨q0, q4, q5, q6, q7, q8, qs, qw, qp, qx⟩ => ?_)
  refine ⟨by rw [zsI_no (by omega)]; exact q0, by rw [zsI_no (by omega)]; exact q4, by rw [zsI_no (by omega)]; exact q5, zsI_eq, by rw [zsI_no (by omega)]; exact q7, by rw [zsI_no (by omega)]; exact q8, fun i hi => ?_, fun i hi => ?_, fun i hi => ?_, ?_⟩
  · have hi : i < cI A := hi
    show (zsI h c 6 _).2.1 (c + 2) i = nI (xS (xS (xS (xS A.2.2.1 (107 + 4 * cH A) x0) (108 + 4 * cH A) x1) (109 + 4 * cH A) x2) (110 + 4 * cH A) x3 i).length ∧ (zsI h c 6 _).2.1 (c + 1) i = codeS (xS (xS (xS (xS A.2.2.1 (107 + 4 * cH A) x0) (108 + 4 * cH A) x1) (109 + 4 * cH A) x2) (110 + 4 * cH A) x3 i)
    rw [zsI_no (by omega), zsI_no (by omega), xS4 (by omega)]; exact qs i hi
  · rw [zsI_no (by omega), zsI_no (by omega)]; exact qw i hi
  · rw [zsI_no (by omega), zsI_no (by omega)]; exact qp i hi
  · have g : rX (okX (A.1, nm, A.2.2.1, A.2.2.2.1, A.2.2.2.2.1, cI A, cW A, cH A + 1, cB A, cS A)) A.2.2.1 c (zsI h c 6 (nI (cH A + 1))) := (qx.cnt (k := 6) (v := nI (cH A + 1)) (by decide) hI).mono (fun j ok => ok.up id (Nat.le_refl _) (Nat.le_succ _) (Nat.le_refl _) (Nat.le_refl _))
    have ok : ∀ s, s < 4 → okX (A.1, nm, A.2.2.1, A.2.2.2.1, A.2.2.2.2.1, cI A, cW A, cH A + 1, cB A, cS A) (107 + 4 * cH A + s) := fun s hs => .inr (.inr (.inl ⟨by omega, by show 107 + 4 * cH A + s < 107 + 4 * (cH A + 1); omega⟩))
    have va : ∀ s x, s < 4 → h.2.1 (c + 19 + cH A) s = x → (zsI h c 6 (nI (cH A + 1))).2.1 (c + oX (107 + 4 * cH A + s)) (sX (107 + 4 * cH A + s)) = x := fun s x hs e => by
      rw [(oX_whl hH hs).1, (oX_whl hH hs).2, zsI_no (by omega), ← Nat.add_assoc]
      exact e
    have e1 : 108 + 4 * cH A = 107 + 4 * cH A + 1 := by omega
    have e2 : 109 + 4 * cH A = 107 + 4 * cH A + 2 := by omega
    have e3 : 110 + 4 * cH A = 107 + 4 * cH A + 3 := by omega
    rw [e1, e2, e3]
    exact (((g.add (ok 0 (by decide)) (va 0 x0 (by decide) v0)).add (ok 1 (by decide)) (va 1 x1 (by decide) v1)).add (ok 2 (by decide)) (va 2 x2 (by decide) v2)).add (ok 3 (by decide)) (va 3 x3 (by decide) v3)
theorem pI.boxed {S : Nat → List Int32} (hI : pI A) (hs : ∀ i, i < 7 → S i = A.2.2.1 i) (h1 : A.1 ≠ 0) (hB : cB A < 8) {w : List Int32} (hn : nmI (upA A.2.1 (12 + cB A) w)) (hw : w ≠ []) : pI (A.1, upA A.2.1 (12 + cB A) w, S, A.2.2.2.1, A.2.2.2.2.1, cI A, cW A, cH A, cB A + 1, cS A) := by
  obtain ⟨i1, i2, ⟨b1, b2, b3, b4, b5⟩, i4, i5, i6, i7, i8⟩ := hI
  have i6 : ∀ i, i < cI A → okSong A.1 (S i) = true ∧ (S i).all isLt = true := fun i hi => by
    rw [hs i (by omega)]
    exact i6 i hi
  refine ⟨i1, fun e => absurd e h1, ⟨b1, b2, b3, by show cB A + 1 ≤ 8; omega, b5⟩, fun i hi => ?_, hn, i6, i7, i8⟩
  show upA A.2.1 (12 + cB A) w i ≠ [] ↔ (i < cI A ∨ (7 ≤ i ∧ i < 7 + cH A) ∨ (12 ≤ i ∧ i < 12 + (cB A + 1)))
  rw [upA_at]
  have := i4 i hi
  unfold occ at this
  split
  · next z => exact ⟨fun _ => by omega, fun _ => hw⟩
  · next z => rw [this]; omega
theorem pI.whaled {S : Nat → List Int32} (hI : pI A) (hs : ∀ i, i < 7 → S i = A.2.2.1 i) (h1 : A.1 ≠ 0) (hH : cH A < 5) {w : List Int32} (hn : nmI (upA A.2.1 (7 + cH A) w)) (hw : w ≠ []) : pI (A.1, upA A.2.1 (7 + cH A) w, S, A.2.2.2.1, A.2.2.2.2.1, cI A, cW A, cH A + 1, cB A, cS A) := by
  obtain ⟨i1, i2, ⟨b1, b2, b3, b4, b5⟩, i4, i5, i6, i7, i8⟩ := hI
  have i6 : ∀ i, i < cI A → okSong A.1 (S i) = true ∧ (S i).all isLt = true := fun i hi => by
    rw [hs i (by omega)]
    exact i6 i hi
  refine ⟨i1, fun e => absurd e h1, ⟨b1, b2, by show cH A + 1 ≤ 5; omega, b4, b5⟩, fun i hi => ?_, hn, i6, i7, i8⟩
  show upA A.2.1 (7 + cH A) w i ≠ [] ↔ (i < cI A ∨ (7 ≤ i ∧ i < 7 + (cH A + 1)) ∨ (12 ≤ i ∧ i < 12 + cB A))
  rw [upA_at]
  have := i4 i hi
  unfold occ at this
  split
  · next z => exact ⟨fun _ => by omega, fun _ => hw⟩
  · next z => rw [this]; omega
theorem isKind_w : isKind y n p = true ↔ (wIs y n p [99, 97, 108, 102] ∨ wIs y n p [99, 111, 119] ∨ wIs y n p [98, 117, 108, 108] ∨ wIs y n p [111, 108, 100]) := by
  unfold isKind
  simp only [wIs_w, Bool.and_eq_true, decide_eq_true_eq, List.contains_iff_mem, List.mem_cons, List.not_mem_nil, or_false]
  constructor
  · rintro ⟨a, b | b | b | b⟩
    · exact .inl ⟨a, b⟩
    · exact .inr (.inl ⟨a, b⟩)
    · exact .inr (.inr (.inl ⟨a, b⟩))
    · exact .inr (.inr (.inr ⟨a, b⟩))
  · rintro (⟨a, b⟩ | ⟨a, b⟩ | ⟨a, b⟩ | ⟨a, b⟩)
    · exact ⟨a, .inl b⟩
    · exact ⟨a, .inr (.inl b)⟩
    · exact ⟨a, .inr (.inr (.inl b))⟩
    · exact ⟨a, .inr (.inr (.inr b))⟩
theorem knd_k {x : Int32} (k : knd y n p x) : (x = -2 ∧ isKind y n p = false) ∨ (x ≠ -2 ∧ isKind y n p = true) := by
  rcases k with ⟨e, w⟩ | ⟨e, _, w⟩ | ⟨e, _, _, w⟩ | ⟨e, _, _, _, w⟩ | ⟨e, w1, w2, w3, w4⟩
  · exact .inr ⟨by rw [e]; decide, isKind_w.mpr (.inl w)⟩
  · exact .inr ⟨by rw [e]; decide, isKind_w.mpr (.inr (.inl w))⟩
  · exact .inr ⟨by rw [e]; decide, isKind_w.mpr (.inr (.inr (.inl w)))⟩
  · exact .inr ⟨by rw [e]; decide, isKind_w.mpr (.inr (.inr (.inr w)))⟩
  · refine .inl ⟨e, ?_⟩
    cases z : isKind y n p with
    | false => rfl
    | true =>
      rcases isKind_w.mp z with q | q | q | q
      · exact absurd q w1
      · exact absurd q w2
      · exact absurd q w3
      · exact absurd q w4
theorem knd_v {x : Int32} (k : knd y n p x) (hx : x ≠ -2) : x = kdV y n p := by
  unfold kdV
  rcases k with ⟨e, w⟩ | ⟨e, w1, w⟩ | ⟨e, w1, w2, w⟩ | ⟨e, w1, w2, w3, w⟩ | ⟨e, w⟩
  · rw [if_pos (wIs_w.mp w).2]
    exact e
  · have z := wIs_w.mp w
    rw [if_neg (by rw [z.2]; decide), if_pos z.2]
    exact e
  · have z := wIs_w.mp w
    rw [if_neg (by rw [z.2]; decide), if_neg (by rw [z.2]; decide), if_pos z.2]
    exact e
  · have z := wIs_w.mp w
    rw [if_neg (by rw [z.2]; decide), if_neg (by rw [z.2]; decide), if_neg (by rw [z.2]; decide)]
    exact e
  · exact absurd e hx
theorem isKind_t (e : isKind y n p = true) : tT y n p ≠ 1 := by
  unfold isKind at e
  rw [Bool.and_eq_true, decide_eq_true_eq] at e
  rw [e.1]
  decide
theorem rs.mm {m' : Nat} (K : rs y n c A nm m p h) (e : m = m') : rs y n c A nm m' p h := by rw [← e]; exact K
theorem sOld_6 {x : Nat} (e : sOld y n nm 0 6 p = .inr (x, q)) : x < 7 := by
  unfold sOld at e
  split at e
  · split at e
    · split at e
      · next z =>
        have e := congrArg Prod.fst (Sum.inr.inj e)
        dsimp only at e
        omega
      · cases e
    · cases e
  · cases e
theorem sOld_11 {x : Nat} (e : sOld y n nm 7 11 p = .inr (x, q)) : x < 5 := by
  unfold sOld at e
  split at e
  · split at e
    · split at e
      · next z =>
        have e := congrArg Prod.fst (Sum.inr.inj e)
        dsimp only at e
        omega
      · cases e
    · cases e
  · cases e
theorem rs.wayed {a b : Nat} {u w : Int32} (hc : cc2 c) (hI : pI A) (hW : cW A < 12) (K : rs y n c A nm m p h) (va : h.2.1 (c + 7 + cW A) 0 = nI a) (vb : h.2.1 (c + 7 + cW A) 1 = nI b) (v2 : h.2.1 (c + 7 + cW A) 2 = u) (v3 : h.2.1 (c + 7 + cW A) 3 = w) : rs y n c (A.1, nm, xS (xS A.2.2.1 (61 + 4 * cW A) u) (62 + 4 * cW A) w, upA A.2.2.2.1 (cW A) (a, b), A.2.2.2.2.1, cI A, cW A + 1, cH A, cB A, cS A) nm m p (zsI h c 5 (nI (cW A + 1))) := by
  obtain ⟨b1, b2, b3, b4, b5⟩ := hI.2.2.1
  refine K.cnt hc (by decide) rfl (fun ⟨q0, q4, q5, q6, q7, q8, qs, qw, qp, qx⟩ => ?_)
  refine ⟨by rw [zsI_no (by omega)]; exact q0, by rw [zsI_no (by omega)]; exact q4, zsI_eq, by rw [zsI_no (by omega)]; exact q6, by rw [zsI_no (by omega)]; exact q7, by rw [zsI_no (by omega)]; exact q8, fun i hi => ?_, fun i hi => ?_, fun i hi => ?_, ?_⟩
  · have hi : i < cI A := hi
    show (zsI h c 5 _).2.1 (c + 2) i = nI (xS (xS A.2.2.1 (61 + 4 * cW A) u) (62 + 4 * cW A) w i).length ∧ (zsI h c 5 _).2.1 (c + 1) i = codeS (xS (xS A.2.2.1 (61 + 4 * cW A) u) (62 + 4 * cW A) w i)
    rw [zsI_no (by omega), zsI_no (by omega), xS2 (by omega)]; exact qs i hi
  · have hi : i < cW A + 1 := hi
    show (zsI h c 5 _).2.1 (c + 7 + i) 0 = nI (upA A.2.2.2.1 (cW A) (a, b) i).1 ∧ (zsI h c 5 _).2.1 (c + 7 + i) 1 = nI (upA A.2.2.2.1 (cW A) (a, b) i).2
    rw [zsI_no (by omega), zsI_no (by omega), upA_at]
    split
    · next z => subst z; exact ⟨va, vb⟩
    · exact qw i (by omega)
  · rw [zsI_no (by omega), zsI_no (by omega)]; exact qp i hi
  · have g : rX (okX (A.1, nm, A.2.2.1, A.2.2.2.1, A.2.2.2.2.1, cI A, cW A + 1, cH A, cB A, cS A)) A.2.2.1 c (zsI h c 5 (nI (cW A + 1))) := (qx.cnt (k := 5) (v := nI (cW A + 1)) (by decide) hI).mono (fun j ok => ok.up id (Nat.le_succ _) (Nat.le_refl _) (Nat.le_refl _) (Nat.le_refl _))
    have ok : ∀ s, s < 4 → okX (A.1, nm, A.2.2.1, A.2.2.2.1, A.2.2.2.2.1, cI A, cW A + 1, cH A, cB A, cS A) (59 + 4 * cW A + s) := fun s hs => .inr (.inl ⟨by omega, by show 59 + 4 * cW A + s < 59 + 4 * (cW A + 1); omega⟩)
    have va : ∀ s x, s < 4 → h.2.1 (c + 7 + cW A) s = x → (zsI h c 5 (nI (cW A + 1))).2.1 (c + oX (59 + 4 * cW A + s)) (sX (59 + 4 * cW A + s)) = x := fun s x hs e => by
      rw [(oX_way hW hs).1, (oX_way hW hs).2, zsI_no (by omega), ← Nat.add_assoc]
      exact e
    have e1 : 61 + 4 * cW A = 59 + 4 * cW A + 2 := by omega
    have e2 : 62 + 4 * cW A = 59 + 4 * cW A + 3 := by omega
    rw [e1, e2]
    exact (g.add (ok 2 (by decide)) (va 2 u (by decide) v2)).add (ok 3 (by decide)) (va 3 w (by decide) v3)
theorem pI.wayed {a b : Nat} {S : Nat → List Int32} (hI : pI A) (hs : ∀ i, i < 7 → S i = A.2.2.1 i) (h1 : A.1 ≠ 0) (hW : cW A < 12) (ha : a < 7) (hb : b < 7) : pI (A.1, A.2.1, S, upA A.2.2.2.1 (cW A) (a, b), A.2.2.2.2.1, cI A, cW A + 1, cH A, cB A, cS A) := by
  obtain ⟨i1, i2, ⟨b1, b2, b3, b4, b5⟩, i4, i5, i6, i7, i8⟩ := hI
  have i6 : ∀ i, i < cI A → okSong A.1 (S i) = true ∧ (S i).all isLt = true := fun i hi => by
    rw [hs i (by omega)]
    exact i6 i hi
  refine ⟨i1, fun e => absurd e h1, ⟨b1, by show cW A + 1 ≤ 12; omega, b3, b4, b5⟩, i4, i5, i6, fun k hk => ?_, i8⟩
  have hk : k < cW A + 1 := hk
  show (upA A.2.2.2.1 (cW A) (a, b) k).1 < 7 ∧ (upA A.2.2.2.1 (cW A) (a, b) k).2 < 7
  rw [upA_at]
  split
  · exact ⟨ha, hb⟩
  · exact i7 k (by omega)
theorem rs.spouted {a : Nat} {b u : Int32} (hc : cc2 c) (hI : pI A) (K : rs y n c A nm m p h) (va : h.2.1 (c + 32 + cS A) 0 = nI a) (v1 : h.2.1 (c + 32 + cS A) 1 = u) (vb : h.2.1 (c + 32 + cS A) 2 = b) : rs y n c (A.1, nm, xS A.2.2.1 (160 + 3 * cS A) u, A.2.2.2.1, upA A.2.2.2.2.1 (cS A) (a, b), cI A, cW A, cH A, cB A, cS A + 1) nm m p (zsI h c 8 (nI (cS A + 1))) := by
  obtain ⟨b1, b2, b3, b4, b5⟩ := hI.2.2.1
  refine K.cnt hc (by decide) rfl (fun ⟨q0, q4, q5, q6, q7, q8, qs, qw, qp, qx⟩ => ?_)
  refine ⟨by rw [zsI_no (by omega)]; exact q0, by rw [zsI_no (by omega)]; exact q4, by rw [zsI_no (by omega)]; exact q5, by rw [zsI_no (by omega)]; exact q6, by rw [zsI_no (by omega)]; exact q7, zsI_eq, fun i hi => ?_, fun i hi => ?_, fun i hi => ?_, ?_⟩
  · have hi : i < cI A := hi
    show (zsI h c 8 _).2.1 (c + 2) i = nI (xS A.2.2.1 (160 + 3 * cS A) u i).length ∧ (zsI h c 8 _).2.1 (c + 1) i = codeS (xS A.2.2.1 (160 + 3 * cS A) u i)
    rw [zsI_no (by omega), zsI_no (by omega), xS1 (by omega)]; exact qs i hi
  · rw [zsI_no (by omega), zsI_no (by omega)]; exact qw i hi
  · have hi : i < cS A + 1 := hi
    show (zsI h c 8 _).2.1 (c + 32 + i) 0 = nI (upA A.2.2.2.2.1 (cS A) (a, b) i).1 ∧ (zsI h c 8 _).2.1 (c + 32 + i) 2 = (upA A.2.2.2.2.1 (cS A) (a, b) i).2
    rw [zsI_no (by omega), zsI_no (by omega), upA_at]
    split
    · next z => subst z; exact ⟨va, vb⟩
    · exact qp i (by omega)
  · have g : rX (okX (A.1, nm, A.2.2.1, A.2.2.2.1, A.2.2.2.2.1, cI A, cW A, cH A, cB A, cS A + 1)) A.2.2.1 c (zsI h c 8 (nI (cS A + 1))) := (qx.cnt (k := 8) (v := nI (cS A + 1)) (by decide) hI).mono (fun j ok => ok.up id (Nat.le_refl _) (Nat.le_refl _) (Nat.le_refl _) (Nat.le_succ _))
    have e1 : 160 + 3 * cS A = 159 + 3 * cS A + 1 := by omega
    rw [e1]
    refine g.add (.inr (.inr (.inr (.inr ⟨by omega, by show 159 + 3 * cS A + 1 < 159 + 3 * (cS A + 1); omega⟩)))) ?_
    rw [(oX_spt (by decide)).1, (oX_spt (by decide)).2, zsI_no (by omega), ← Nat.add_assoc]
    exact v1
theorem pI.spouted {a : Nat} {b : Int32} {S : Nat → List Int32} (hI : pI A) (hs : ∀ i, i < 7 → S i = A.2.2.1 i) (h1 : A.1 ≠ 0) (hS : cS A < 8) (ha : a < 5) : pI (A.1, A.2.1, S, A.2.2.2.1, upA A.2.2.2.2.1 (cS A) (a, b), cI A, cW A, cH A, cB A, cS A + 1) := by
  obtain ⟨i1, i2, ⟨b1, b2, b3, b4, b5⟩, i4, i5, i6, i7, i8⟩ := hI
  have i6 : ∀ i, i < cI A → okSong A.1 (S i) = true ∧ (S i).all isLt = true := fun i hi => by
    rw [hs i (by omega)]
    exact i6 i hi
  refine ⟨i1, fun e => absurd e h1, ⟨b1, b2, b3, b4, by show cS A + 1 ≤ 8; omega⟩, i4, i5, i6, i7, fun k hk => ?_⟩
  have hk : k < cS A + 1 := hk
  show (upA A.2.2.2.2.1 (cS A) (a, b) k).1 < 5
  rw [upA_at]
  split
  · exact ha
  · exact i8 k (by omega)
theorem rs.landed {w : List Int32} (hc : cc2 c) (hI : pI A) (hi7 : cI A < 7) (K : rs y n c A nm m p h) : rs y n c (A.1, nm, upA A.2.2.1 (cI A) w, A.2.2.2.1, A.2.2.2.2.1, cI A + 1, cW A, cH A, cB A, cS A) nm m p (zsI (zsI (zsI h (c + 1) (cI A) (codeS w)) (c + 2) (cI A) (nI w.length)) c 4 (nI (cI A + 1))) := by
  obtain ⟨b1, b2, b3, b4, b5⟩ := hI.2.2.1
  have hcc : c = 2 ∨ c = 42 := hc
  have K1 := K.wr (a := c + 1) (j := cI A) (v := codeS w) ⟨by omega, by omega, fun z => by omega, fun _ => Nat.le_refl _, fun z => by omega, fun k hk => by omega, fun k hk => by omega, fun i _ ho z => by rcases oX_at ho b2 b3 b4 b5 with q | ⟨_, _, q⟩ | ⟨_, _, q⟩ | ⟨_, _, q⟩ | ⟨_, _, q⟩ <;> omega⟩
  have K2 := K1.wr (a := c + 2) (j := cI A) (v := nI w.length) ⟨by omega, by omega, fun z => by omega, fun z => by omega, fun _ => Nat.le_refl _, fun k hk => by omega, fun k hk => by omega, fun i _ ho z => by rcases oX_at ho b2 b3 b4 b5 with q | ⟨_, _, q⟩ | ⟨_, _, q⟩ | ⟨_, _, q⟩ | ⟨_, _, q⟩ <;> omega⟩
  refine K2.cnt hc (by decide) rfl (fun ⟨q0, q4, q5, q6, q7, q8, qs, qw, qp, qx⟩ => ?_)
  refine ⟨by rw [zsI_no (by omega)]; exact q0, zsI_eq, by rw [zsI_no (by omega)]; exact q5, by rw [zsI_no (by omega)]; exact q6, by rw [zsI_no (by omega)]; exact q7, by rw [zsI_no (by omega)]; exact q8, fun i hi => ?_, fun i hi => ?_, fun i hi => ?_, ((qx.cnt (k := 4) (by decide) hI).mono (fun j ok => ok.up id (Nat.le_refl _) (Nat.le_refl _) (Nat.le_refl _) (Nat.le_refl _))).isl (by omega)⟩
  · have hi : i < cI A + 1 := hi
    show (zsI _ c 4 _).2.1 (c + 2) i = nI (upA A.2.2.1 (cI A) w i).length ∧ (zsI _ c 4 _).2.1 (c + 1) i = codeS (upA A.2.2.1 (cI A) w i)
    rw [upA_at]
    split
    · next z =>
      subst z
      exact ⟨(zsI_no (by omega)).trans zsI_eq, (zsI_no (by omega)).trans ((zsI_no (by omega)).trans zsI_eq)⟩
    · exact ⟨(zsI_no (by omega)).trans (qs i (by omega)).1, (zsI_no (by omega)).trans (qs i (by omega)).2⟩
  · exact ⟨(zsI_no (by omega)).trans (qw i hi).1, (zsI_no (by omega)).trans (qw i hi).2⟩
  · exact ⟨(zsI_no (by omega)).trans (qp i hi).1, (zsI_no (by omega)).trans (qp i hi).2⟩
theorem pI.landed (hI : pI A) (h1 : A.1 ≠ 0) (hi7 : cI A < 7) {w u : List Int32} (hn : nmI (upA A.2.1 (cI A) w)) (hw : w ≠ []) (hu : okSong A.1 u = true ∧ u.all isLt = true) : pI (A.1, upA A.2.1 (cI A) w, upA A.2.2.1 (cI A) u, A.2.2.2.1, A.2.2.2.2.1, cI A + 1, cW A, cH A, cB A, cS A) := by
  obtain ⟨i1, i2, ⟨b1, b2, b3, b4, b5⟩, i4, i5, i6, i7, i8⟩ := hI
  refine ⟨i1, fun e => absurd e h1, ⟨by show cI A + 1 ≤ 7; omega, b2, b3, b4, b5⟩, fun i hi => ?_, hn, fun i hi => ?_, i7, i8⟩
  · show upA A.2.1 (cI A) w i ≠ [] ↔ (i < cI A + 1 ∨ (7 ≤ i ∧ i < 7 + cH A) ∨ (12 ≤ i ∧ i < 12 + cB A))
    rw [upA_at]
    have := i4 i hi
    unfold occ at this
    split
    · next z => exact ⟨fun _ => by omega, fun _ => hw⟩
    · next z => rw [this]; omega
  · have hi : i < cI A + 1 := hi
    show okSong A.1 (upA A.2.2.1 (cI A) u i) = true ∧ (upA A.2.2.1 (cI A) u i).all isLt = true
    rw [upA_at]
    split
    · exact hu
    · exact i6 i (by omega)
end RD2
end Pk7
section Pk8
theorem C_head {y : Nat → Int32} {n c d p : Nat} {h : zH} {A : pA} (hc : cc2 c) (hI : pI A) (h0 : A.1 = 0) (K : rs y n c A A.2.1 (cI A + cH A + cB A) p h) : zPa d mX5_readHead [.inr (.inr (some 82))] h (lnR y n c (sHead y n A p)) := by
  intro N
  show zPn N none d mX5_readHead (0, [(0, .inr (.inr (some 82)))], [], h) _
  have hno := fun s h1 h2 => rcC.no3 K.2.2.2.1 h0 s h1 h2
  refine pa_aload_n (pc' := 1) dX5_readHead_0 rfl rfl ?_
  refine pa_ldc (pc' := 3) dX5_readHead_1 cl_5_137 rfl rfl ?_
  refine pa_callv (pc' := 6) (vs := [.inr (.inr (some 1000016))]) (rest := []) dX5_readHead_3 ml_5_138 (by decide) rfl rfl rfl (fun d' _ => C_word hc hI K (bs := wNotes) rfl) (fun r g1 hq => ?_)
  cases Ew1 : sWord y n wNotes p with
  | inl e =>
    rw [Ew1] at hq
    obtain ⟨er, hf⟩ := hq
    subst er
    refine pa_if_t (x := 0) (pc' := 18) dX5_readHead_6 (by decide) (by decide) ?_
    refine pa_iconst (v := 0) (pc' := 19) dX5_readHead_18 (by decide) rfl ?_
    exact pa_iret dX5_readHead_19 rfl rfl (lnl (by simp only [sHead, sWN, Ew1]) hf)
  | inr q1 =>
    rw [Ew1] at hq
    obtain ⟨er, K, hfr⟩ := hq
    subst er
    refine pa_if_f (x := 1) (pc' := 9) dX5_readHead_6 (by decide) (by decide) rfl ?_
    refine pa_aload_n (pc' := 10) dX5_readHead_9 rfl rfl ?_
    refine pa_iconst (v := 2) (pc' := 11) dX5_readHead_10 (by decide) rfl ?_
    refine pa_iconst (v := 4) (pc' := 12) dX5_readHead_11 (by decide) rfl ?_
    refine pa_callv (pc' := 15) (vs := [.inl 2, .inl 4]) (rest := []) dX5_readHead_12 ml_5_142 (by decide) rfl rfl rfl (fun d' _ => C_whole hc hI K) (fun r g2 hq => ?_)
    cases En2 : sNum y n 2 4 q1 with
    | inl e =>
      rw [En2] at hq
      obtain ⟨er, hf⟩ := hq
      subst er
      refine pa_if_f (x := 0) (pc' := 18) dX5_readHead_15 (by decide) (by decide) rfl ?_
      refine pa_iconst (v := 0) (pc' := 19) dX5_readHead_18 (by decide) rfl ?_
      exact pa_iret dX5_readHead_19 rfl rfl (lnl (by simp only [sHead, sWN, Ew1, En2]) hf)
    | inr q2 =>
      rw [En2] at hq
      obtain ⟨x2, q2⟩ := q2
      obtain ⟨er, K, hv, hfr⟩ := hq
      subst er
      refine pa_if_t (x := 1) (pc' := 20) dX5_readHead_15 (by decide) (by decide) ?_
      refine pa_aload_n (pc' := 21) dX5_readHead_20 rfl rfl ?_
      refine pa_getR (pc' := 24) (n := 13) (r := c) dX5_readHead_21 fl_5_51 (K.1.sh sh_82) (by decide) K.1.2.2.1 rfl ?_
      refine pa_aload_n (pc' := 25) dX5_readHead_24 rfl rfl ?_
      refine pa_getI (pc' := 28) (n := 13) dX5_readHead_25 fl_5_24 (K.1.sh sh_82) (by decide) hv rfl ?_
      refine pa_putI (pc' := 31) (n := 15) dX5_readHead_28 fl_5_84 (K.1.sh (pc_sh hc).1) (Or.inl rfl) (Or.inl rfl) rfl ?_
      have ht : x2 = 2 ∨ x2 = 3 ∨ x2 = 4 := sNum_24 En2
      have hne : x2 ≠ 0 := by rcases ht with z | z | z <;> rw [z] <;> decide
      have hI2 := hI.head ht h0
      have K := K.head hc hI h0 (t := x2)
      clear hI h0
      have hI := hI2
      refine pa_aload_n (pc' := 32) dX5_readHead_31 rfl rfl ?_
      refine pa_ldc (pc' := 34) dX5_readHead_32 cl_5_146 rfl rfl ?_
      refine pa_callv (pc' := 37) (vs := [.inr (.inr (some 1000017))]) (rest := []) dX5_readHead_34 ml_5_138 (by decide) rfl rfl rfl (fun d' _ => C_word hc hI K (bs := wErrors) rfl) (fun r g3 hq => ?_)
      cases Ew3 : sWord y n wErrors q2 with
      | inl e =>
        rw [Ew3] at hq
        obtain ⟨er, hf⟩ := hq
        subst er
        refine pa_if_t (x := 0) (pc' := 49) dX5_readHead_37 (by decide) (by decide) ?_
        refine pa_iconst (v := 0) (pc' := 50) dX5_readHead_49 (by decide) rfl ?_
        exact pa_iret dX5_readHead_50 rfl rfl (lnl (by simp only [sHead, sWN, Ew1, En2, Ew3]) hf)
      | inr q3 =>
        rw [Ew3] at hq
        obtain ⟨er, K, hfr⟩ := hq
        subst er
        refine pa_if_f (x := 1) (pc' := 40) dX5_readHead_37 (by decide) (by decide) rfl ?_
        refine pa_aload_n (pc' := 41) dX5_readHead_40 rfl rfl ?_
        refine pa_iconst (v := 0) (pc' := 42) dX5_readHead_41 (by decide) rfl ?_
        refine pa_iconst (v := 3) (pc' := 43) dX5_readHead_42 (by decide) rfl ?_
        refine pa_callv (pc' := 46) (vs := [.inl 0, .inl 3]) (rest := []) dX5_readHead_43 ml_5_142 (by decide) rfl rfl rfl (fun d' _ => C_whole hc hI K) (fun r g4 hq => ?_)
        cases En4 : sNum y n 0 3 q3 with
        | inl e =>
          rw [En4] at hq
          obtain ⟨er, hf⟩ := hq
          subst er
          refine pa_if_f (x := 0) (pc' := 49) dX5_readHead_46 (by decide) (by decide) rfl ?_
          refine pa_iconst (v := 0) (pc' := 50) dX5_readHead_49 (by decide) rfl ?_
          exact pa_iret dX5_readHead_50 rfl rfl (lnl (by simp only [sHead, sWN, Ew1, En2, Ew3, En4]) hf)
        | inr q4 =>
          rw [En4] at hq
          obtain ⟨x4, q4⟩ := q4
          obtain ⟨er, K, hv, hfr⟩ := hq
          subst er
          refine pa_if_t (x := 1) (pc' := 51) dX5_readHead_46 (by decide) (by decide) ?_
          refine pa_aload_n (pc' := 52) dX5_readHead_51 rfl rfl ?_
          refine pa_getR (pc' := 55) (n := 13) (r := c) dX5_readHead_52 fl_5_51 (K.1.sh sh_82) (by decide) K.1.2.2.1 rfl ?_
          refine pa_aload_n (pc' := 56) dX5_readHead_55 rfl rfl ?_
          refine pa_getI (pc' := 59) (n := 13) dX5_readHead_56 fl_5_24 (K.1.sh sh_82) (by decide) hv rfl ?_
          refine pa_putI (pc' := 62) (n := 15) dX5_readHead_59 fl_5_148 (K.1.sh (pc_sh hc).1) (Or.inl rfl) (Or.inl rfl) rfl ?_
          have K := K.wr (a := c) (j := 1) (v := x4) (wr_c hc (.inl rfl) hI hno)
          have v1 : (zsI g4 (c) 1 (x4)).2.1 (c) 1 = x4 := zsI_eq
          refine pa_aload_n (pc' := 63) dX5_readHead_62 rfl rfl ?_
          refine pa_ldc (pc' := 65) dX5_readHead_63 cl_5_150 rfl rfl ?_
          refine pa_callv (pc' := 68) (vs := [.inr (.inr (some 1000018))]) (rest := []) dX5_readHead_65 ml_5_138 (by decide) rfl rfl rfl (fun d' _ => C_word hc hI K (bs := wDrift) rfl) (fun r g5 hq => ?_)
          cases Ew5 : sWord y n wDrift q4 with
          | inl e =>
            rw [Ew5] at hq
            obtain ⟨er, hf⟩ := hq
            subst er
            refine pa_if_t (x := 0) (pc' := 81) dX5_readHead_68 (by decide) (by decide) ?_
            refine pa_iconst (v := 0) (pc' := 82) dX5_readHead_81 (by decide) rfl ?_
            exact pa_iret dX5_readHead_82 rfl rfl (lnl (by simp only [sHead, sWN, Ew1, En2, Ew3, En4, Ew5]) hf)
          | inr q5 =>
            rw [Ew5] at hq
            obtain ⟨er, K, hfr⟩ := hq
            subst er
            have v1 := (hfr _ _ (by rcases hc with z | z <;> omega)).trans v1
            refine pa_if_f (x := 1) (pc' := 71) dX5_readHead_68 (by decide) (by decide) rfl ?_
            refine pa_aload_n (pc' := 72) dX5_readHead_71 rfl rfl ?_
            refine pa_iconst (v := 0) (pc' := 73) dX5_readHead_72 (by decide) rfl ?_
            refine pa_bipush (v := 50) (pc' := 75) dX5_readHead_73 (by decide) rfl ?_
            refine pa_callv (pc' := 78) (vs := [.inl 0, .inl 50]) (rest := []) dX5_readHead_75 ml_5_142 (by decide) rfl rfl rfl (fun d' _ => C_whole hc hI K) (fun r g6 hq => ?_)
            cases En6 : sNum y n 0 50 q5 with
            | inl e =>
              rw [En6] at hq
              obtain ⟨er, hf⟩ := hq
              subst er
              refine pa_if_f (x := 0) (pc' := 81) dX5_readHead_78 (by decide) (by decide) rfl ?_
              refine pa_iconst (v := 0) (pc' := 82) dX5_readHead_81 (by decide) rfl ?_
              exact pa_iret dX5_readHead_82 rfl rfl (lnl (by simp only [sHead, sWN, Ew1, En2, Ew3, En4, Ew5, En6]) hf)
            | inr q6 =>
              rw [En6] at hq
              obtain ⟨x6, q6⟩ := q6
              obtain ⟨er, K, hv, hfr⟩ := hq
              subst er
              have v1 := (hfr _ _ (by rcases hc with z | z <;> omega)).trans v1
              refine pa_if_t (x := 1) (pc' := 83) dX5_readHead_78 (by decide) (by decide) ?_
              refine pa_aload_n (pc' := 84) dX5_readHead_83 rfl rfl ?_
              refine pa_getR (pc' := 87) (n := 13) (r := c) dX5_readHead_84 fl_5_51 (K.1.sh sh_82) (by decide) K.1.2.2.1 rfl ?_
              refine pa_aload_n (pc' := 88) dX5_readHead_87 rfl rfl ?_
              refine pa_getI (pc' := 91) (n := 13) dX5_readHead_88 fl_5_24 (K.1.sh sh_82) (by decide) hv rfl ?_
              refine pa_putI (pc' := 94) (n := 15) dX5_readHead_91 fl_5_152 (K.1.sh (pc_sh hc).1) (Or.inl rfl) (Or.inl rfl) rfl ?_
              have K := K.wr (a := c) (j := 2) (v := x6) (wr_c hc (.inr (.inl rfl)) hI hno)
              have v1 := (zsI_no (h := g6) (a := c) (k := 2) (x := x6) (by omega)).trans v1
              have v2 : (zsI g6 (c) 2 (x6)).2.1 (c) 2 = x6 := zsI_eq
              refine pa_aload_n (pc' := 95) dX5_readHead_94 rfl rfl ?_
              refine pa_ldc (pc' := 97) dX5_readHead_95 cl_5_154 rfl rfl ?_
              refine pa_callv (pc' := 100) (vs := [.inr (.inr (some 1000019))]) (rest := []) dX5_readHead_97 ml_5_138 (by decide) rfl rfl rfl (fun d' _ => C_word hc hI K (bs := wSlip) rfl) (fun r g7 hq => ?_)
              cases Ew7 : sWord y n wSlip q6 with
              | inl e =>
                rw [Ew7] at hq
                obtain ⟨er, hf⟩ := hq
                subst er
                refine pa_if_t (x := 0) (pc' := 113) dX5_readHead_100 (by decide) (by decide) ?_
                refine pa_iconst (v := 0) (pc' := 114) dX5_readHead_113 (by decide) rfl ?_
                exact pa_iret dX5_readHead_114 rfl rfl (lnl (by simp only [sHead, sWN, Ew1, En2, Ew3, En4, Ew5, En6, Ew7]) hf)
              | inr q7 =>
                rw [Ew7] at hq
                obtain ⟨er, K, hfr⟩ := hq
                subst er
                have v1 := (hfr _ _ (by rcases hc with z | z <;> omega)).trans v1
                have v2 := (hfr _ _ (by rcases hc with z | z <;> omega)).trans v2
                refine pa_if_f (x := 1) (pc' := 103) dX5_readHead_100 (by decide) (by decide) rfl ?_
                refine pa_aload_n (pc' := 104) dX5_readHead_103 rfl rfl ?_
                refine pa_iconst (v := 0) (pc' := 105) dX5_readHead_104 (by decide) rfl ?_
                refine pa_bipush (v := 100) (pc' := 107) dX5_readHead_105 (by decide) rfl ?_
                refine pa_callv (pc' := 110) (vs := [.inl 0, .inl 100]) (rest := []) dX5_readHead_107 ml_5_142 (by decide) rfl rfl rfl (fun d' _ => C_whole hc hI K) (fun r g8 hq => ?_)
                cases En8 : sNum y n 0 100 q7 with
                | inl e =>
                  rw [En8] at hq
                  obtain ⟨er, hf⟩ := hq
                  subst er
                  refine pa_if_f (x := 0) (pc' := 113) dX5_readHead_110 (by decide) (by decide) rfl ?_
                  refine pa_iconst (v := 0) (pc' := 114) dX5_readHead_113 (by decide) rfl ?_
                  exact pa_iret dX5_readHead_114 rfl rfl (lnl (by simp only [sHead, sWN, Ew1, En2, Ew3, En4, Ew5, En6, Ew7, En8]) hf)
                | inr q8 =>
                  rw [En8] at hq
                  obtain ⟨x8, q8⟩ := q8
                  obtain ⟨er, K, hv, hfr⟩ := hq
                  subst er
                  have v1 := (hfr _ _ (by rcases hc with z | z <;> omega)).trans v1
                  have v2 := (hfr _ _ (by rcases hc with z | z <;> omega)).trans v2
                  refine pa_if_t (x := 1) (pc' := 115) dX5_readHead_110 (by decide) (by decide) ?_
                  refine pa_aload_n (pc' := 116) dX5_readHead_115 rfl rfl ?_
                  refine pa_getR (pc' := 119) (n := 13) (r := c) dX5_readHead_116 fl_5_51 (K.1.sh sh_82) (by decide) K.1.2.2.1 rfl ?_
                  refine pa_aload_n (pc' := 120) dX5_readHead_119 rfl rfl ?_
                  refine pa_getI (pc' := 123) (n := 13) dX5_readHead_120 fl_5_24 (K.1.sh sh_82) (by decide) hv rfl ?_
                  refine pa_putI (pc' := 126) (n := 15) dX5_readHead_123 fl_5_156 (K.1.sh (pc_sh hc).1) (Or.inl rfl) (Or.inl rfl) rfl ?_
                  have K := K.wr (a := c) (j := 3) (v := x8) (wr_c hc (.inr (.inr rfl)) hI hno)
                  have v1 := (zsI_no (h := g8) (a := c) (k := 3) (x := x8) (by omega)).trans v1
                  have v2 := (zsI_no (h := g8) (a := c) (k := 3) (x := x8) (by omega)).trans v2
                  have v3 : (zsI g8 (c) 3 (x8)).2.1 (c) 3 = x8 := zsI_eq
                  refine pa_iconst (v := 1) (pc' := 127) dX5_readHead_126 (by decide) rfl ?_
                  refine pa_iret dX5_readHead_127 rfl rfl (lnr (A := (x2, A.2.1, xS (xS (xS A.2.2.1 1 x4) 2 x6) 3 x8, A.2.2.2)) (by simp only [sHead, sWN, Ew1, En2, Ew3, En4, Ew5, En6, Ew7, En8]) (K.headed hc hI hne v1 v2 v3) (hI.songs (fun i hi => xS3 hi)))
theorem C_box {y : Nat → Int32} {n c d p : Nat} {h : zH} {A : pA} (hc : cc2 c) (hI : pI A) (h1 : A.1 ≠ 0) (hB : cB A < 8) (K : rs y n c A A.2.1 (cI A + cH A + cB A) p h) : zPa d mX5_readBox [.inr (.inr (some 82)), .inr (.inr (some (c + 24 + cB A)))] h (lnR y n c (sBox y n A p)) := by
  intro N
  show zPn N none d mX5_readBox (0, [(0, .inr (.inr (some 82))), (1, .inr (.inr (some (c + 24 + cB A))))], [], h) _
  have hn := hI.2.2.2.2.1
  obtain ⟨b1, b2, b3, b4, b5⟩ := hI.2.2.1
  have so := pc_box hc hB
  have hp := K.2.2.1
  refine pa_aload_n (pc' := 1) dX5_readBox_0 rfl rfl ?_
  refine pa_iconst (v := 4) (pc' := 2) dX5_readBox_1 (by decide) rfl ?_
  refine pa_aload_n (pc' := 3) dX5_readBox_2 rfl rfl ?_
  refine pa_getR (pc' := 6) (n := 13) (r := c) dX5_readBox_3 fl_5_51 (K.1.sh sh_82) (by decide) K.1.2.2.1 rfl ?_
  refine pa_getI (pc' := 9) (n := 15) dX5_readBox_6 fl_5_115 (K.1.sh (pc_sh hc).1) (by decide) K.2.2.2.1.2.2.2.2.1 rfl ?_
  refine pa_callv (pc' := 12) (vs := [.inl 4, .inl (nI (cB A))]) (rest := []) dX5_readBox_9 ml_5_158 (by decide) rfl rfl rfl (fun d' _ => C_new (i := 12 + cB A) (.inr (.inr ⟨by omega, rfl, by congr 1; omega⟩)) (by omega) (hI.free (by omega) (fun z => by unfold occ at z; omega)) (by omega) hc hI hn K) (fun r g1 hq => ?_)
  cases Ex1 : sNew y n A.2.1 p with
  | inl e =>
    rw [Ex1] at hq
    obtain ⟨er, hf⟩ := hq
    subst er
    refine pa_if_t (x := 0) (pc' := 32) dX5_readBox_12 (by decide) (by decide) ?_
    refine pa_iconst (v := 0) (pc' := 33) dX5_readBox_32 (by decide) rfl ?_
    exact pa_iret dX5_readBox_33 rfl rfl (lnl (by simp only [sBox, sWN, Ex1]) hf)
  | inr q1 =>
    rw [Ex1] at hq
    obtain ⟨er, K, hn, hfr⟩ := hq
    subst er
    refine pa_if_f (x := 1) (pc' := 15) dX5_readBox_12 (by decide) (by decide) rfl ?_
    refine pa_aload_n (pc' := 16) dX5_readBox_15 rfl rfl ?_
    refine pa_ldc (pc' := 18) dX5_readBox_16 cl_5_215 rfl rfl ?_
    refine pa_callv (pc' := 21) (vs := [.inr (.inr (some 1000029))]) (rest := []) dX5_readBox_18 ml_5_138 (by decide) rfl rfl rfl (fun d' _ => C_word hc hI K (bs := wFrom) rfl) (fun r g2 hq => ?_)
    cases Ew2 : sWord y n wFrom q1 with
    | inl e =>
      rw [Ew2] at hq
      obtain ⟨er, hf⟩ := hq
      subst er
      refine pa_if_t (x := 0) (pc' := 32) dX5_readBox_21 (by decide) (by decide) ?_
      refine pa_iconst (v := 0) (pc' := 33) dX5_readBox_32 (by decide) rfl ?_
      exact pa_iret dX5_readBox_33 rfl rfl (lnl (by simp only [sBox, sWN, Ex1, Ew2]) hf)
    | inr q2 =>
      rw [Ew2] at hq
      obtain ⟨er, K, hfr⟩ := hq
      subst er
      refine pa_if_f (x := 1) (pc' := 24) dX5_readBox_21 (by decide) (by decide) rfl ?_
      refine pa_aload_n (pc' := 25) dX5_readBox_24 rfl rfl ?_
      refine pa_iconst (v := 1) (pc' := 26) dX5_readBox_25 (by decide) rfl ?_
      refine pa_callv (pc' := 29) (vs := [.inl 1]) (rest := []) dX5_readBox_26 ml_5_173 (by decide) rfl rfl rfl (fun d' _ => C_old (.inl ⟨rfl, rfl, rfl⟩) hc hI hn K) (fun r g3 hq => ?_)
      cases Eo3 : sOld y n (upA A.2.1 (12 + cB A) (tW y n p)) 0 6 q2 with
      | inl e =>
        rw [Eo3] at hq
        obtain ⟨er, hf⟩ := hq
        subst er
        refine pa_if_f (x := 0) (pc' := 32) dX5_readBox_29 (by decide) (by decide) rfl ?_
        refine pa_iconst (v := 0) (pc' := 33) dX5_readBox_32 (by decide) rfl ?_
        exact pa_iret dX5_readBox_33 rfl rfl (lnl (by simp only [sBox, sWN, Ex1, Ew2, Eo3]) hf)
      | inr q3 =>
        rw [Eo3] at hq
        obtain ⟨x3, q3⟩ := q3
        obtain ⟨er, K, hv, h84, hfr⟩ := hq
        subst er
        refine pa_if_t (x := 1) (pc' := 34) dX5_readBox_29 (by decide) (by decide) ?_
        refine pa_aload_n (pc' := 35) dX5_readBox_34 rfl rfl ?_
        refine pa_aload_n (pc' := 36) dX5_readBox_35 rfl rfl ?_
        refine pa_getI (pc' := 39) (n := 13) dX5_readBox_36 fl_5_24 (K.1.sh sh_82) (by decide) hv rfl ?_
        refine pa_putI (pc' := 42) (n := 4) dX5_readBox_39 fl_5_217 (K.1.sh so.1) (Or.inl rfl) (Or.inl rfl) rfl ?_
        have K := K.wr (a := c + 24 + cB A) (j := 0) (v := nI x3) (wr_b hc hB hI)
        have v0 : (zsI g3 (c + 24 + cB A) 0 (nI x3)).2.1 (c + 24 + cB A) 0 = nI x3 := zsI_eq
        refine pa_aload_n (pc' := 43) dX5_readBox_42 rfl rfl ?_
        refine pa_ldc (pc' := 45) dX5_readBox_43 cl_5_221 rfl rfl ?_
        refine pa_callv (pc' := 48) (vs := [.inr (.inr (some 1000030))]) (rest := []) dX5_readBox_45 ml_5_138 (by decide) rfl rfl rfl (fun d' _ => C_word hc hI K (bs := wTo) rfl) (fun r g4 hq => ?_)
        cases Ew4 : sWord y n wTo q3 with
        | inl e =>
          rw [Ew4] at hq
          obtain ⟨er, hf⟩ := hq
          subst er
          refine pa_if_t (x := 0) (pc' := 59) dX5_readBox_48 (by decide) (by decide) ?_
          refine pa_iconst (v := 0) (pc' := 60) dX5_readBox_59 (by decide) rfl ?_
          exact pa_iret dX5_readBox_60 rfl rfl (lnl (by simp only [sBox, sWN, Ex1, Ew2, Eo3, Ew4]) hf)
        | inr q4 =>
          rw [Ew4] at hq
          obtain ⟨er, K, hfr⟩ := hq
          subst er
          have v0 := (hfr _ _ (by rcases hc with z | z <;> omega)).trans v0
          refine pa_if_f (x := 1) (pc' := 51) dX5_readBox_48 (by decide) (by decide) rfl ?_
          refine pa_aload_n (pc' := 52) dX5_readBox_51 rfl rfl ?_
          refine pa_iconst (v := 1) (pc' := 53) dX5_readBox_52 (by decide) rfl ?_
          refine pa_callv (pc' := 56) (vs := [.inl 1]) (rest := []) dX5_readBox_53 ml_5_173 (by decide) rfl rfl rfl (fun d' _ => C_old (.inl ⟨rfl, rfl, rfl⟩) hc hI hn K) (fun r g5 hq => ?_)
          cases Eo5 : sOld y n (upA A.2.1 (12 + cB A) (tW y n p)) 0 6 q4 with
          | inl e =>
            rw [Eo5] at hq
            obtain ⟨er, hf⟩ := hq
            subst er
            refine pa_if_f (x := 0) (pc' := 59) dX5_readBox_56 (by decide) (by decide) rfl ?_
            refine pa_iconst (v := 0) (pc' := 60) dX5_readBox_59 (by decide) rfl ?_
            exact pa_iret dX5_readBox_60 rfl rfl (lnl (by simp only [sBox, sWN, Ex1, Ew2, Eo3, Ew4, Eo5]) hf)
          | inr q5 =>
            rw [Eo5] at hq
            obtain ⟨x5, q5⟩ := q5
            obtain ⟨er, K, hv, h84, hfr⟩ := hq
            subst er
            have v0 := (hfr _ _ (by rcases hc with z | z <;> omega)).trans v0
            refine pa_if_t (x := 1) (pc' := 61) dX5_readBox_56 (by decide) (by decide) ?_
            refine pa_aload_n (pc' := 62) dX5_readBox_61 rfl rfl ?_
            refine pa_aload_n (pc' := 63) dX5_readBox_62 rfl rfl ?_
            refine pa_getI (pc' := 66) (n := 13) dX5_readBox_63 fl_5_24 (K.1.sh sh_82) (by decide) hv rfl ?_
            refine pa_putI (pc' := 69) (n := 4) dX5_readBox_66 fl_5_223 (K.1.sh so.1) (Or.inl rfl) (Or.inl rfl) rfl ?_
            have K := K.wr (a := c + 24 + cB A) (j := 1) (v := nI x5) (wr_b hc hB hI)
            have v0 := (zsI_no (h := g5) (a := c + 24 + cB A) (k := 1) (x := nI x5) (by omega)).trans v0
            have v1 : (zsI g5 (c + 24 + cB A) 1 (nI x5)).2.1 (c + 24 + cB A) 1 = nI x5 := zsI_eq
            refine pa_aload_n (pc' := 70) dX5_readBox_69 rfl rfl ?_
            refine pa_ldc (pc' := 72) dX5_readBox_70 cl_5_225 rfl rfl ?_
            refine pa_callv (pc' := 75) (vs := [.inr (.inr (some 1000031))]) (rest := []) dX5_readBox_72 ml_5_138 (by decide) rfl rfl rfl (fun d' _ => C_word hc hI K (bs := wWeighs) rfl) (fun r g6 hq => ?_)
            cases Ew6 : sWord y n wWeighs q5 with
            | inl e =>
              rw [Ew6] at hq
              obtain ⟨er, hf⟩ := hq
              subst er
              refine pa_if_t (x := 0) (pc' := 88) dX5_readBox_75 (by decide) (by decide) ?_
              refine pa_iconst (v := 0) (pc' := 89) dX5_readBox_88 (by decide) rfl ?_
              exact pa_iret dX5_readBox_89 rfl rfl (lnl (by simp only [sBox, sWN, Ex1, Ew2, Eo3, Ew4, Eo5, Ew6]) hf)
            | inr q6 =>
              rw [Ew6] at hq
              obtain ⟨er, K, hfr⟩ := hq
              subst er
              have v0 := (hfr _ _ (by rcases hc with z | z <;> omega)).trans v0
              have v1 := (hfr _ _ (by rcases hc with z | z <;> omega)).trans v1
              refine pa_if_f (x := 1) (pc' := 78) dX5_readBox_75 (by decide) (by decide) rfl ?_
              refine pa_aload_n (pc' := 79) dX5_readBox_78 rfl rfl ?_
              refine pa_iconst (v := 1) (pc' := 80) dX5_readBox_79 (by decide) rfl ?_
              refine pa_bipush (v := 99) (pc' := 82) dX5_readBox_80 (by decide) rfl ?_
              refine pa_callv (pc' := 85) (vs := [.inl 1, .inl 99]) (rest := []) dX5_readBox_82 ml_5_142 (by decide) rfl rfl rfl (fun d' _ => C_whole hc hI K) (fun r g7 hq => ?_)
              cases En7 : sNum y n 1 99 q6 with
              | inl e =>
                rw [En7] at hq
                obtain ⟨er, hf⟩ := hq
                subst er
                refine pa_if_f (x := 0) (pc' := 88) dX5_readBox_85 (by decide) (by decide) rfl ?_
                refine pa_iconst (v := 0) (pc' := 89) dX5_readBox_88 (by decide) rfl ?_
                exact pa_iret dX5_readBox_89 rfl rfl (lnl (by simp only [sBox, sWN, Ex1, Ew2, Eo3, Ew4, Eo5, Ew6, En7]) hf)
              | inr q7 =>
                rw [En7] at hq
                obtain ⟨x7, q7⟩ := q7
                obtain ⟨er, K, hv, hfr⟩ := hq
                subst er
                have v0 := (hfr _ _ (by rcases hc with z | z <;> omega)).trans v0
                have v1 := (hfr _ _ (by rcases hc with z | z <;> omega)).trans v1
                refine pa_if_t (x := 1) (pc' := 90) dX5_readBox_85 (by decide) (by decide) ?_
                refine pa_aload_n (pc' := 91) dX5_readBox_90 rfl rfl ?_
                refine pa_aload_n (pc' := 92) dX5_readBox_91 rfl rfl ?_
                refine pa_getI (pc' := 95) (n := 13) dX5_readBox_92 fl_5_24 (K.1.sh sh_82) (by decide) hv rfl ?_
                refine pa_putI (pc' := 98) (n := 4) dX5_readBox_95 fl_5_227 (K.1.sh so.1) (Or.inl rfl) (Or.inl rfl) rfl ?_
                have K := K.wr (a := c + 24 + cB A) (j := 2) (v := x7) (wr_b hc hB hI)
                have v0 := (zsI_no (h := g7) (a := c + 24 + cB A) (k := 2) (x := x7) (by omega)).trans v0
                have v1 := (zsI_no (h := g7) (a := c + 24 + cB A) (k := 2) (x := x7) (by omega)).trans v1
                have v2 : (zsI g7 (c + 24 + cB A) 2 (x7)).2.1 (c + 24 + cB A) 2 = x7 := zsI_eq
                refine pa_aload_n (pc' := 99) dX5_readBox_98 rfl rfl ?_
                refine pa_ldc (pc' := 101) dX5_readBox_99 cl_5_229 rfl rfl ?_
                refine pa_callv (pc' := 104) (vs := [.inr (.inr (some 1000032))]) (rest := []) dX5_readBox_101 ml_5_138 (by decide) rfl rfl rfl (fun d' _ => C_word hc hI K (bs := wDay) rfl) (fun r g8 hq => ?_)
                cases Ew8 : sWord y n wDay q7 with
                | inl e =>
                  rw [Ew8] at hq
                  obtain ⟨er, hf⟩ := hq
                  subst er
                  refine pa_if_t (x := 0) (pc' := 118) dX5_readBox_104 (by decide) (by decide) ?_
                  refine pa_iconst (v := 0) (pc' := 119) dX5_readBox_118 (by decide) rfl ?_
                  exact pa_iret dX5_readBox_119 rfl rfl (lnl (by simp only [sBox, sWN, Ex1, Ew2, Eo3, Ew4, Eo5, Ew6, En7, Ew8]) hf)
                | inr q8 =>
                  rw [Ew8] at hq
                  obtain ⟨er, K, hfr⟩ := hq
                  subst er
                  have v0 := (hfr _ _ (by rcases hc with z | z <;> omega)).trans v0
                  have v1 := (hfr _ _ (by rcases hc with z | z <;> omega)).trans v1
                  have v2 := (hfr _ _ (by rcases hc with z | z <;> omega)).trans v2
                  refine pa_if_f (x := 1) (pc' := 107) dX5_readBox_104 (by decide) (by decide) rfl ?_
                  refine pa_aload_n (pc' := 108) dX5_readBox_107 rfl rfl ?_
                  refine pa_iconst (v := 0) (pc' := 109) dX5_readBox_108 (by decide) rfl ?_
                  refine pa_sipush (v := 9999) (pc' := 112) dX5_readBox_109 (by decide) rfl ?_
                  refine pa_callv (pc' := 115) (vs := [.inl 0, .inl 9999]) (rest := []) dX5_readBox_112 ml_5_142 (by decide) rfl rfl rfl (fun d' _ => C_whole hc hI K) (fun r g9 hq => ?_)
                  cases En9 : sNum y n 0 9999 q8 with
                  | inl e =>
                    rw [En9] at hq
                    obtain ⟨er, hf⟩ := hq
                    subst er
                    refine pa_if_f (x := 0) (pc' := 118) dX5_readBox_115 (by decide) (by decide) rfl ?_
                    refine pa_iconst (v := 0) (pc' := 119) dX5_readBox_118 (by decide) rfl ?_
                    exact pa_iret dX5_readBox_119 rfl rfl (lnl (by simp only [sBox, sWN, Ex1, Ew2, Eo3, Ew4, Eo5, Ew6, En7, Ew8, En9]) hf)
                  | inr q9 =>
                    rw [En9] at hq
                    obtain ⟨x9, q9⟩ := q9
                    obtain ⟨er, K, hv, hfr⟩ := hq
                    subst er
                    have v0 := (hfr _ _ (by rcases hc with z | z <;> omega)).trans v0
                    have v1 := (hfr _ _ (by rcases hc with z | z <;> omega)).trans v1
                    have v2 := (hfr _ _ (by rcases hc with z | z <;> omega)).trans v2
                    refine pa_if_t (x := 1) (pc' := 120) dX5_readBox_115 (by decide) (by decide) ?_
                    refine pa_aload_n (pc' := 121) dX5_readBox_120 rfl rfl ?_
                    refine pa_aload_n (pc' := 122) dX5_readBox_121 rfl rfl ?_
                    refine pa_getI (pc' := 125) (n := 13) dX5_readBox_122 fl_5_24 (K.1.sh sh_82) (by decide) hv rfl ?_
                    refine pa_putI (pc' := 128) (n := 4) dX5_readBox_125 fl_5_231 (K.1.sh so.1) (Or.inl rfl) (Or.inl rfl) rfl ?_
                    have K := K.wr (a := c + 24 + cB A) (j := 3) (v := x9) (wr_b hc hB hI)
                    have v0 := (zsI_no (h := g9) (a := c + 24 + cB A) (k := 3) (x := x9) (by omega)).trans v0
                    have v1 := (zsI_no (h := g9) (a := c + 24 + cB A) (k := 3) (x := x9) (by omega)).trans v1
                    have v2 := (zsI_no (h := g9) (a := c + 24 + cB A) (k := 3) (x := x9) (by omega)).trans v2
                    have v3 : (zsI g9 (c + 24 + cB A) 3 (x9)).2.1 (c + 24 + cB A) 3 = x9 := zsI_eq
                    refine pa_aload_n (pc' := 129) dX5_readBox_128 rfl rfl ?_
                    refine pa_getR (pc' := 132) (n := 13) (r := c) dX5_readBox_129 fl_5_51 (K.1.sh sh_82) (by decide) K.1.2.2.1 rfl ?_
                    refine pa_dup (pc' := 133) dX5_readBox_132 rfl rfl ?_
                    refine pa_getI (pc' := 136) (n := 15) dX5_readBox_133 fl_5_115 (K.1.sh (pc_sh hc).1) (by decide) K.2.2.2.1.2.2.2.2.1 rfl ?_
                    refine pa_iconst (v := nI 1) (pc' := 137) dX5_readBox_136 (by decide) rfl ?_
                    refine pa_iadd (pc' := 138) (v := nI ((cB A) + 1)) dX5_readBox_137 (nI_add _ _) rfl ?_
                    refine pa_putI (pc' := 141) (n := 15) dX5_readBox_138 fl_5_115 (K.1.sh (pc_sh hc).1) (Or.inl rfl) (Or.inl rfl) rfl ?_
                    refine pa_iconst (v := 1) (pc' := 142) dX5_readBox_141 (by decide) rfl ?_
                    refine pa_iret dX5_readBox_142 rfl rfl (lnr (A := (A.1, upA A.2.1 (12 + cB A) (tW y n p), xS (xS (xS (xS A.2.2.1 (127 + 4 * cB A) (nI x3)) (128 + 4 * cB A) (nI x5)) (129 + 4 * cB A) (x7)) (130 + 4 * cB A) (x9), A.2.2.2.1, A.2.2.2.2.1, cI A, cW A, cH A, cB A + 1, cS A)) (by simp only [sBox, sWN, Ex1, Ew2, Eo3, Ew4, Eo5, Ew6, En7, Ew8, En9]) (K.boxed hc hI hB v0 v1 v2 v3) (hI.boxed (fun i hi => xS4 hi) h1 hB hn (sNew_w hp Ex1)))
theorem C_whale {y : Nat → Int32} {n c d p : Nat} {h : zH} {A : pA} (hc : cc2 c) (hI : pI A) (h1 : A.1 ≠ 0) (hH : cH A < 5) (K : rs y n c A A.2.1 (cI A + cH A + cB A) p h) : zPa d mX5_readWhale [.inr (.inr (some 82)), .inr (.inr (some (c + 19 + cH A)))] h (lnR y n c (sWhale y n A p)) := by
  intro N
  show zPn N none d mX5_readWhale (0, [(0, .inr (.inr (some 82))), (1, .inr (.inr (some (c + 19 + cH A))))], [], h) _
  have hn := hI.2.2.2.2.1
  obtain ⟨b1, b2, b3, b4, b5⟩ := hI.2.2.1
  have so := pc_whl hc hH
  have hp := K.2.2.1
  refine pa_aload_n (pc' := 1) dX5_readWhale_0 rfl rfl ?_
  refine pa_iconst (v := 3) (pc' := 2) dX5_readWhale_1 (by decide) rfl ?_
  refine pa_aload_n (pc' := 3) dX5_readWhale_2 rfl rfl ?_
  refine pa_getR (pc' := 6) (n := 13) (r := c) dX5_readWhale_3 fl_5_51 (K.1.sh sh_82) (by decide) K.1.2.2.1 rfl ?_
  refine pa_getI (pc' := 9) (n := 15) dX5_readWhale_6 fl_5_104 (K.1.sh (pc_sh hc).1) (by decide) K.2.2.2.1.2.2.2.1 rfl ?_
  refine pa_callv (pc' := 12) (vs := [.inl 3, .inl (nI (cH A))]) (rest := []) dX5_readWhale_9 ml_5_158 (by decide) rfl rfl rfl (fun d' _ => C_new (i := 7 + cH A) (.inr (.inl ⟨by omega, by omega, rfl, by congr 1; omega⟩)) (by omega) (hI.free (by omega) (fun z => by unfold occ at z; omega)) (by omega) hc hI hn K) (fun r g1 hq => ?_)
  cases Ex1 : sNew y n A.2.1 p with
  | inl e =>
    rw [Ex1] at hq
    obtain ⟨er, hf⟩ := hq
    subst er
    refine pa_if_f (x := 0) (pc' := 15) dX5_readWhale_12 (by decide) (by decide) rfl ?_
    refine pa_iconst (v := 0) (pc' := 16) dX5_readWhale_15 (by decide) rfl ?_
    exact pa_iret dX5_readWhale_16 rfl rfl (lnl (by simp only [sWhale, sWN, Ex1]) hf)
  | inr q1 =>
    rw [Ex1] at hq
    obtain ⟨er, K, hn, hfr⟩ := hq
    subst er
    refine pa_if_t (x := 1) (pc' := 17) dX5_readWhale_12 (by decide) (by decide) ?_
    refine pa_aload_n (pc' := 18) dX5_readWhale_17 rfl rfl ?_
    refine pa_callv (pc' := 21) (vs := []) (rest := []) dX5_readWhale_18 ml_5_70 (by decide) rfl rfl rfl (fun d' _ => c_next K.1 K.2.1 K.2.2.1) (fun r gk hq => ?_)
    obtain ⟨er, hq⟩ := hq
    subst er
    have kt := hq.ct K.1 K.2.2.1
    show zPn N none d mX5_readWhale (21, [(0, .inr (.inr (some 82))), (1, .inr (.inr (some (c + 19 + cH A))))], [], gk) _
    refine pa_aload_n (pc' := 22) dX5_readWhale_21 rfl rfl ?_
    refine pa_aload_n (pc' := 23) dX5_readWhale_22 rfl rfl ?_
    refine pa_callv (pc' := 26) (vs := []) (rest := [.inr (.inr (some (c + 19 + cH A)))]) dX5_readWhale_23 ml_5_195 (by decide) rfl rfl rfl (fun d' _ => c_kind kt) (fun r gl hq2 => ?_)
    obtain ⟨eh, kx, er, hkx⟩ := hq2
    subst eh
    subst er
    refine pa_putI (pc' := 29) (n := 4) (v := kx) dX5_readWhale_26 fl_5_198 (kt.1.sh so.1) (Or.inl rfl) (Or.inl rfl) rfl ?_
    refine pa_aload_n (pc' := 30) dX5_readWhale_29 rfl rfl ?_
    refine pa_getI (pc' := 33) (n := 4) (v := kx) dX5_readWhale_30 fl_5_198 (kt.1.sh so.1) (by decide) zsI_eq rfl ?_
    refine pa_bipush (v := (-2)) (pc' := 35) dX5_readWhale_33 (by decide) rfl ?_
    rcases knd_k hkx with ⟨ek, ek2⟩ | ⟨ek, ek2⟩
    · have hs4 : (zsI gl (c + 19 + cH A) 0 kx).2.1 82 4 = nI (tS y n q1) := by rw [zsI_no (by rcases hc with z | z <;> omega)]; exact kt.2.2.1
      refine pa_icmp_f (pc' := 38) dX5_readWhale_35 (by rw [ek]; decide) (by decide) rfl ?_
      refine pa_aload_n (pc' := 39) dX5_readWhale_38 rfl rfl ?_
      refine pa_iconst (v := 1) (pc' := 40) dX5_readWhale_39 (by decide) rfl ?_
      refine pa_callv (pc' := 43) (vs := [.inl 1]) (rest := []) dX5_readWhale_40 ml_5_76 (by decide) rfl rfl rfl (fun d' _ => c_flt (kt.1.zw (by rcases hc with z | z <;> omega) (by rcases hc with z | z <;> omega)) hs4) (fun r h3 hq3 => ?_)
      obtain ⟨er, hq3⟩ := hq3
      subst er
      exact pa_iret (x := 0) dX5_readWhale_43 rfl rfl (lnl (by simp only [sWhale, Ex1]; rw [if_neg (by rw [ek2]; decide)]) hq3.fl)
    refine pa_icmp_t (pc' := 44) dX5_readWhale_35 (by simpa [zcond] using ek) (by decide) ?_
    have ek3 : isKind y n q1 = true := ek2
    have K := (K.nx hc hI hq (isKind_t ek3)).wr (a := c + 19 + cH A) (j := 0) (v := kx) (wr_h hc hH hI)
    have v0 : (zsI gl (c + 19 + cH A) 0 kx).2.1 (c + 19 + cH A) 0 = kdV y n q1 := zsI_eq.trans (knd_v hkx ek)
    refine pa_aload_n (pc' := 45) dX5_readWhale_44 rfl rfl ?_
    refine pa_ldc (pc' := 47) dX5_readWhale_45 cl_5_203 rfl rfl ?_
    refine pa_callv (pc' := 50) (vs := [.inr (.inr (some 1000026))]) (rest := []) dX5_readWhale_47 ml_5_138 (by decide) rfl rfl rfl (fun d' _ => C_word hc hI K (bs := wAt) rfl) (fun r g2 hq => ?_)
    cases Ew2 : sWord y n wAt (tE y n q1) with
    | inl e =>
      rw [Ew2] at hq
      obtain ⟨er, hf⟩ := hq
      subst er
      refine pa_if_t (x := 0) (pc' := 61) dX5_readWhale_50 (by decide) (by decide) ?_
      refine pa_iconst (v := 0) (pc' := 62) dX5_readWhale_61 (by decide) rfl ?_
      exact pa_iret dX5_readWhale_62 rfl rfl (lnl (by simp only [sWhale, sWN, Ex1, ek3, eq_self, if_true, Ew2]) hf)
    | inr q2 =>
      rw [Ew2] at hq
      obtain ⟨er, K, hfr⟩ := hq
      subst er
      have v0 := (hfr _ _ (by rcases hc with z | z <;> omega)).trans v0
      refine pa_if_f (x := 1) (pc' := 53) dX5_readWhale_50 (by decide) (by decide) rfl ?_
      refine pa_aload_n (pc' := 54) dX5_readWhale_53 rfl rfl ?_
      refine pa_iconst (v := 1) (pc' := 55) dX5_readWhale_54 (by decide) rfl ?_
      refine pa_callv (pc' := 58) (vs := [.inl 1]) (rest := []) dX5_readWhale_55 ml_5_173 (by decide) rfl rfl rfl (fun d' _ => C_old (.inl ⟨rfl, rfl, rfl⟩) hc hI hn K) (fun r g3 hq => ?_)
      cases Eo3 : sOld y n (upA A.2.1 (7 + cH A) (tW y n p)) 0 6 q2 with
      | inl e =>
        rw [Eo3] at hq
        obtain ⟨er, hf⟩ := hq
        subst er
        refine pa_if_f (x := 0) (pc' := 61) dX5_readWhale_58 (by decide) (by decide) rfl ?_
        refine pa_iconst (v := 0) (pc' := 62) dX5_readWhale_61 (by decide) rfl ?_
        exact pa_iret dX5_readWhale_62 rfl rfl (lnl (by simp only [sWhale, sWN, Ex1, ek3, eq_self, if_true, Ew2, Eo3]) hf)
      | inr q3 =>
        rw [Eo3] at hq
        obtain ⟨x3, q3⟩ := q3
        obtain ⟨er, K, hv, h84, hfr⟩ := hq
        subst er
        have v0 := (hfr _ _ (by rcases hc with z | z <;> omega)).trans v0
        refine pa_if_t (x := 1) (pc' := 63) dX5_readWhale_58 (by decide) (by decide) ?_
        refine pa_aload_n (pc' := 64) dX5_readWhale_63 rfl rfl ?_
        refine pa_aload_n (pc' := 65) dX5_readWhale_64 rfl rfl ?_
        refine pa_getI (pc' := 68) (n := 13) dX5_readWhale_65 fl_5_24 (K.1.sh sh_82) (by decide) hv rfl ?_
        refine pa_putI (pc' := 71) (n := 4) dX5_readWhale_68 fl_5_204 (K.1.sh so.1) (Or.inl rfl) (Or.inl rfl) rfl ?_
        have K := K.wr (a := c + 19 + cH A) (j := 1) (v := nI x3) (wr_h hc hH hI)
        have v0 := (zsI_no (h := g3) (a := c + 19 + cH A) (k := 1) (x := nI x3) (by omega)).trans v0
        have v1 : (zsI g3 (c + 19 + cH A) 1 (nI x3)).2.1 (c + 19 + cH A) 1 = nI x3 := zsI_eq
        refine pa_aload_n (pc' := 72) dX5_readWhale_71 rfl rfl ?_
        refine pa_ldc (pc' := 74) dX5_readWhale_72 cl_5_207 rfl rfl ?_
        refine pa_callv (pc' := 77) (vs := [.inr (.inr (some 1000027))]) (rest := []) dX5_readWhale_74 ml_5_138 (by decide) rfl rfl rfl (fun d' _ => C_word hc hI K (bs := wKeeps) rfl) (fun r g4 hq => ?_)
        cases Ew4 : sWord y n wKeeps q3 with
        | inl e =>
          rw [Ew4] at hq
          obtain ⟨er, hf⟩ := hq
          subst er
          refine pa_if_t (x := 0) (pc' := 90) dX5_readWhale_77 (by decide) (by decide) ?_
          refine pa_iconst (v := 0) (pc' := 91) dX5_readWhale_90 (by decide) rfl ?_
          exact pa_iret dX5_readWhale_91 rfl rfl (lnl (by simp only [sWhale, sWN, Ex1, ek3, eq_self, if_true, Ew2, Eo3, Ew4]) hf)
        | inr q4 =>
          rw [Ew4] at hq
          obtain ⟨er, K, hfr⟩ := hq
          subst er
          have v0 := (hfr _ _ (by rcases hc with z | z <;> omega)).trans v0
          have v1 := (hfr _ _ (by rcases hc with z | z <;> omega)).trans v1
          refine pa_if_f (x := 1) (pc' := 80) dX5_readWhale_77 (by decide) (by decide) rfl ?_
          refine pa_aload_n (pc' := 81) dX5_readWhale_80 rfl rfl ?_
          refine pa_iconst (v := 0) (pc' := 82) dX5_readWhale_81 (by decide) rfl ?_
          refine pa_bipush (v := 99) (pc' := 84) dX5_readWhale_82 (by decide) rfl ?_
          refine pa_callv (pc' := 87) (vs := [.inl 0, .inl 99]) (rest := []) dX5_readWhale_84 ml_5_142 (by decide) rfl rfl rfl (fun d' _ => C_whole hc hI K) (fun r g5 hq => ?_)
          cases En5 : sNum y n 0 99 q4 with
          | inl e =>
            rw [En5] at hq
            obtain ⟨er, hf⟩ := hq
            subst er
            refine pa_if_f (x := 0) (pc' := 90) dX5_readWhale_87 (by decide) (by decide) rfl ?_
            refine pa_iconst (v := 0) (pc' := 91) dX5_readWhale_90 (by decide) rfl ?_
            exact pa_iret dX5_readWhale_91 rfl rfl (lnl (by simp only [sWhale, sWN, Ex1, ek3, eq_self, if_true, Ew2, Eo3, Ew4, En5]) hf)
          | inr q5 =>
            rw [En5] at hq
            obtain ⟨x5, q5⟩ := q5
            obtain ⟨er, K, hv, hfr⟩ := hq
            subst er
            have v0 := (hfr _ _ (by rcases hc with z | z <;> omega)).trans v0
            have v1 := (hfr _ _ (by rcases hc with z | z <;> omega)).trans v1
            refine pa_if_t (x := 1) (pc' := 92) dX5_readWhale_87 (by decide) (by decide) ?_
            refine pa_aload_n (pc' := 93) dX5_readWhale_92 rfl rfl ?_
            refine pa_aload_n (pc' := 94) dX5_readWhale_93 rfl rfl ?_
            refine pa_getI (pc' := 97) (n := 13) dX5_readWhale_94 fl_5_24 (K.1.sh sh_82) (by decide) hv rfl ?_
            refine pa_putI (pc' := 100) (n := 4) dX5_readWhale_97 fl_5_209 (K.1.sh so.1) (Or.inl rfl) (Or.inl rfl) rfl ?_
            have K := K.wr (a := c + 19 + cH A) (j := 2) (v := x5) (wr_h hc hH hI)
            have v0 := (zsI_no (h := g5) (a := c + 19 + cH A) (k := 2) (x := x5) (by omega)).trans v0
            have v1 := (zsI_no (h := g5) (a := c + 19 + cH A) (k := 2) (x := x5) (by omega)).trans v1
            have v2 : (zsI g5 (c + 19 + cH A) 2 (x5)).2.1 (c + 19 + cH A) 2 = x5 := zsI_eq
            refine pa_aload_n (pc' := 101) dX5_readWhale_100 rfl rfl ?_
            refine pa_ldc (pc' := 103) dX5_readWhale_101 cl_5_211 rfl rfl ?_
            refine pa_callv (pc' := 106) (vs := [.inr (.inr (some 1000028))]) (rest := []) dX5_readWhale_103 ml_5_138 (by decide) rfl rfl rfl (fun d' _ => C_word hc hI K (bs := wLost) rfl) (fun r g6 hq => ?_)
            cases Ew6 : sWord y n wLost q5 with
            | inl e =>
              rw [Ew6] at hq
              obtain ⟨er, hf⟩ := hq
              subst er
              refine pa_if_t (x := 0) (pc' := 119) dX5_readWhale_106 (by decide) (by decide) ?_
              refine pa_iconst (v := 0) (pc' := 120) dX5_readWhale_119 (by decide) rfl ?_
              exact pa_iret dX5_readWhale_120 rfl rfl (lnl (by simp only [sWhale, sWN, Ex1, ek3, eq_self, if_true, Ew2, Eo3, Ew4, En5, Ew6]) hf)
            | inr q6 =>
              rw [Ew6] at hq
              obtain ⟨er, K, hfr⟩ := hq
              subst er
              have v0 := (hfr _ _ (by rcases hc with z | z <;> omega)).trans v0
              have v1 := (hfr _ _ (by rcases hc with z | z <;> omega)).trans v1
              have v2 := (hfr _ _ (by rcases hc with z | z <;> omega)).trans v2
              refine pa_if_f (x := 1) (pc' := 109) dX5_readWhale_106 (by decide) (by decide) rfl ?_
              refine pa_aload_n (pc' := 110) dX5_readWhale_109 rfl rfl ?_
              refine pa_iconst (v := 0) (pc' := 111) dX5_readWhale_110 (by decide) rfl ?_
              refine pa_bipush (v := 99) (pc' := 113) dX5_readWhale_111 (by decide) rfl ?_
              refine pa_callv (pc' := 116) (vs := [.inl 0, .inl 99]) (rest := []) dX5_readWhale_113 ml_5_142 (by decide) rfl rfl rfl (fun d' _ => C_whole hc hI K) (fun r g7 hq => ?_)
              cases En7 : sNum y n 0 99 q6 with
              | inl e =>
                rw [En7] at hq
                obtain ⟨er, hf⟩ := hq
                subst er
                refine pa_if_f (x := 0) (pc' := 119) dX5_readWhale_116 (by decide) (by decide) rfl ?_
                refine pa_iconst (v := 0) (pc' := 120) dX5_readWhale_119 (by decide) rfl ?_
                exact pa_iret dX5_readWhale_120 rfl rfl (lnl (by simp only [sWhale, sWN, Ex1, ek3, eq_self, if_true, Ew2, Eo3, Ew4, En5, Ew6, En7]) hf)
              | inr q7 =>
                rw [En7] at hq
                obtain ⟨x7, q7⟩ := q7
                obtain ⟨er, K, hv, hfr⟩ := hq
                subst er
                have v0 := (hfr _ _ (by rcases hc with z | z <;> omega)).trans v0
                have v1 := (hfr _ _ (by rcases hc with z | z <;> omega)).trans v1
                have v2 := (hfr _ _ (by rcases hc with z | z <;> omega)).trans v2
                refine pa_if_t (x := 1) (pc' := 121) dX5_readWhale_116 (by decide) (by decide) ?_
                refine pa_aload_n (pc' := 122) dX5_readWhale_121 rfl rfl ?_
                refine pa_aload_n (pc' := 123) dX5_readWhale_122 rfl rfl ?_
                refine pa_getI (pc' := 126) (n := 13) dX5_readWhale_123 fl_5_24 (K.1.sh sh_82) (by decide) hv rfl ?_
                refine pa_putI (pc' := 129) (n := 4) dX5_readWhale_126 fl_5_213 (K.1.sh so.1) (Or.inl rfl) (Or.inl rfl) rfl ?_
                have K := K.wr (a := c + 19 + cH A) (j := 3) (v := x7) (wr_h hc hH hI)
                have v0 := (zsI_no (h := g7) (a := c + 19 + cH A) (k := 3) (x := x7) (by omega)).trans v0
                have v1 := (zsI_no (h := g7) (a := c + 19 + cH A) (k := 3) (x := x7) (by omega)).trans v1
                have v2 := (zsI_no (h := g7) (a := c + 19 + cH A) (k := 3) (x := x7) (by omega)).trans v2
                have v3 : (zsI g7 (c + 19 + cH A) 3 (x7)).2.1 (c + 19 + cH A) 3 = x7 := zsI_eq
                refine pa_aload_n (pc' := 130) dX5_readWhale_129 rfl rfl ?_
                refine pa_getR (pc' := 133) (n := 13) (r := c) dX5_readWhale_130 fl_5_51 (K.1.sh sh_82) (by decide) K.1.2.2.1 rfl ?_
                refine pa_dup (pc' := 134) dX5_readWhale_133 rfl rfl ?_
                refine pa_getI (pc' := 137) (n := 15) dX5_readWhale_134 fl_5_104 (K.1.sh (pc_sh hc).1) (by decide) K.2.2.2.1.2.2.2.1 rfl ?_
                refine pa_iconst (v := nI 1) (pc' := 138) dX5_readWhale_137 (by decide) rfl ?_
                refine pa_iadd (pc' := 139) (v := nI ((cH A) + 1)) dX5_readWhale_138 (nI_add _ _) rfl ?_
                refine pa_putI (pc' := 142) (n := 15) dX5_readWhale_139 fl_5_104 (K.1.sh (pc_sh hc).1) (Or.inl rfl) (Or.inl rfl) rfl ?_
                refine pa_iconst (v := 1) (pc' := 143) dX5_readWhale_142 (by decide) rfl ?_
                refine pa_iret dX5_readWhale_143 rfl rfl (lnr (A := (A.1, upA A.2.1 (7 + cH A) (tW y n p), xS (xS (xS (xS A.2.2.1 (107 + 4 * cH A) (kdV y n q1)) (108 + 4 * cH A) (nI x3)) (109 + 4 * cH A) (x5)) (110 + 4 * cH A) (x7), A.2.2.2.1, A.2.2.2.2.1, cI A, cW A, cH A + 1, cB A, cS A)) (by simp only [sWhale, sWN, Ex1, ek3, eq_self, if_true, Ew2, Eo3, Ew4, En5, Ew6, En7]) ((K.whaled hc hI hH v0 v1 v2 v3).mm (by show cI A + cH A + cB A + 1 = cI A + (cH A + 1) + cB A; omega)) (hI.whaled (fun i hi => xS4 hi) h1 hH hn (sNew_w hp Ex1)))
theorem C_way {y : Nat → Int32} {n c d p : Nat} {h : zH} {A : pA} (hc : cc2 c) (hI : pI A) (h1 : A.1 ≠ 0) (hW : cW A < 12) (K : rs y n c A A.2.1 (cI A + cH A + cB A) p h) : zPa d mX5_readWay [.inr (.inr (some 82)), .inr (.inr (some (c + 7 + cW A)))] h (lnR y n c (sWay y n A p)) := by
  intro N
  show zPn N none d mX5_readWay (0, [(0, .inr (.inr (some 82))), (1, .inr (.inr (some (c + 7 + cW A))))], [], h) _
  have hn := hI.2.2.2.2.1
  obtain ⟨b1, b2, b3, b4, b5⟩ := hI.2.2.1
  have so := pc_way hc hW
  have hp := K.2.2.1
  refine pa_aload_n (pc' := 1) dX5_readWay_0 rfl rfl ?_
  refine pa_iconst (v := 1) (pc' := 2) dX5_readWay_1 (by decide) rfl ?_
  refine pa_callv (pc' := 5) (vs := [.inl 1]) (rest := []) dX5_readWay_2 ml_5_173 (by decide) rfl rfl rfl (fun d' _ => C_old (.inl ⟨rfl, rfl, rfl⟩) hc hI hn K) (fun r g1 hq => ?_)
  cases Eo1 : sOld y n A.2.1 0 6 p with
  | inl e =>
    rw [Eo1] at hq
    obtain ⟨er, hf⟩ := hq
    subst er
    refine pa_if_f (x := 0) (pc' := 8) dX5_readWay_5 (by decide) (by decide) rfl ?_
    refine pa_iconst (v := 0) (pc' := 9) dX5_readWay_8 (by decide) rfl ?_
    exact pa_iret dX5_readWay_9 rfl rfl (lnl (by simp only [sWay, sWN, Eo1]) hf)
  | inr q1 =>
    rw [Eo1] at hq
    obtain ⟨x1, q1⟩ := q1
    obtain ⟨er, K, hv, h84, hfr⟩ := hq
    subst er
    refine pa_if_t (x := 1) (pc' := 10) dX5_readWay_5 (by decide) (by decide) ?_
    refine pa_aload_n (pc' := 11) dX5_readWay_10 rfl rfl ?_
    refine pa_aload_n (pc' := 12) dX5_readWay_11 rfl rfl ?_
    refine pa_getI (pc' := 15) (n := 13) dX5_readWay_12 fl_5_24 (K.1.sh sh_82) (by decide) hv rfl ?_
    refine pa_putI (pc' := 18) (n := 4) dX5_readWay_15 fl_5_176 (K.1.sh so.1) (Or.inl rfl) (Or.inl rfl) rfl ?_
    have K := K.wr (a := c + 7 + cW A) (j := 0) (v := nI x1) (wr_w hc hW hI)
    have va : (zsI g1 (c + 7 + cW A) 0 (nI x1)).2.1 (c + 7 + cW A) 0 = nI x1 := zsI_eq
    have la := sOld_6 Eo1
    refine pa_aload_n (pc' := 19) dX5_readWay_18 rfl rfl ?_
    refine pa_iconst (v := 1) (pc' := 20) dX5_readWay_19 (by decide) rfl ?_
    refine pa_callv (pc' := 23) (vs := [.inl 1]) (rest := []) dX5_readWay_20 ml_5_173 (by decide) rfl rfl rfl (fun d' _ => C_old (.inl ⟨rfl, rfl, rfl⟩) hc hI hn K) (fun r g2 hq => ?_)
    cases Eo2 : sOld y n A.2.1 0 6 q1 with
    | inl e =>
      rw [Eo2] at hq
      obtain ⟨er, hf⟩ := hq
      subst er
      refine pa_if_f (x := 0) (pc' := 26) dX5_readWay_23 (by decide) (by decide) rfl ?_
      refine pa_iconst (v := 0) (pc' := 27) dX5_readWay_26 (by decide) rfl ?_
      exact pa_iret dX5_readWay_27 rfl rfl (lnl (by simp only [sWay, sWN, Eo1, Eo2]) hf)
    | inr q2 =>
      rw [Eo2] at hq
      obtain ⟨x2, q2⟩ := q2
      obtain ⟨er, K, hv, h84, hfr⟩ := hq
      subst er
      have va := (hfr _ _ (by rcases hc with z | z <;> omega)).trans va
      refine pa_if_t (x := 1) (pc' := 28) dX5_readWay_23 (by decide) (by decide) ?_
      have lb := sOld_6 Eo2
      refine pa_aload_n (pc' := 29) dX5_readWay_28 rfl rfl ?_
      refine pa_aload_n (pc' := 30) dX5_readWay_29 rfl rfl ?_
      refine pa_getI (pc' := 33) (n := 13) dX5_readWay_30 fl_5_24 (K.1.sh sh_82) (by decide) hv rfl ?_
      refine pa_putI (pc' := 36) (n := 4) dX5_readWay_33 fl_5_181 (K.1.sh so.1) (Or.inl rfl) (Or.inl rfl) rfl ?_
      have K := K.wr (a := c + 7 + cW A) (j := 1) (v := nI x2) (wr_w hc hW hI)
      have va : (zsI g2 (c + 7 + cW A) 1 (nI x2)).2.1 (c + 7 + cW A) 0 = nI x1 := by rw [zsI_no (by omega)]; exact va
      have vb : (zsI g2 (c + 7 + cW A) 1 (nI x2)).2.1 (c + 7 + cW A) 1 = nI x2 := zsI_eq
      have h84 : (zsI g2 (c + 7 + cW A) 1 (nI x2)).2.1 82 4 = nI (tS y n q1) := by rw [zsI_no (by rcases hc with z | z <;> omega)]; exact h84
      have bad : (x1 = x2 ∨ (List.range (cW A)).any (joinsB A.2.2.2.1 x1 x2) = true) → zPn N none d mX5_readWay (67, [(0, .inr (.inr (some 82))), (1, .inr (.inr (some (c + 7 + cW A))))], [], zsI g2 (c + 7 + cW A) 1 (nI x2)) (lnR y n c (sWay y n A p)) := by
        intro z
        refine pa_aload_n (pc' := 68) dX5_readWay_67 rfl rfl ?_
        refine pa_iconst (v := 3) (pc' := 69) dX5_readWay_68 (by decide) rfl ?_
        refine pa_callv (pc' := 72) (vs := [.inl 3]) (rest := []) dX5_readWay_69 ml_5_76 (by decide) rfl rfl rfl (fun d' _ => c_flt K.1 h84) (fun r h3 hq3 => ?_)
        obtain ⟨er, hq3⟩ := hq3
        subst er
        exact pa_iret (x := 0) dX5_readWay_72 rfl rfl (lnl (by simp only [sWay, Eo1, Eo2]; rw [if_pos z]) hq3.fl)
      refine pa_aload_n (pc' := 37) dX5_readWay_36 rfl rfl ?_
      refine pa_getI (pc' := 40) (n := 4) dX5_readWay_37 fl_5_176 (K.1.sh so.1) (by decide) va rfl ?_
      refine pa_aload_n (pc' := 41) dX5_readWay_40 rfl rfl ?_
      refine pa_getI (pc' := 44) (n := 4) dX5_readWay_41 fl_5_181 (K.1.sh so.1) (by decide) vb rfl ?_
      refine pa_icmp (pc' := 67) (pc2 := 47) dX5_readWay_44 (by decide) rfl (fun cd => bad (.inl ((nI_ne (by omega) (by omega)).mp (by simpa [zcond] using cd)))) (fun cd => ?_)
      have cd : ¬ nI x1 = nI x2 := by simpa [zcond] using cd
      rw [nI_ne (by omega) (by omega)] at cd
      refine pa_aload_n (pc' := 48) dX5_readWay_47 rfl rfl ?_
      refine pa_getR (pc' := 51) (n := 13) (r := c) dX5_readWay_48 fl_5_51 (K.1.sh sh_82) (by decide) K.1.2.2.1 rfl ?_
      refine pa_aload_n (pc' := 52) dX5_readWay_51 rfl rfl ?_
      refine pa_getI (pc' := 55) (n := 4) dX5_readWay_52 fl_5_176 (K.1.sh so.1) (by decide) va rfl ?_
      refine pa_aload_n (pc' := 56) dX5_readWay_55 rfl rfl ?_
      refine pa_getI (pc' := 59) (n := 4) dX5_readWay_56 fl_5_181 (K.1.sh so.1) (by decide) vb rfl ?_
      refine pa_callv (pc' := 62) (vs := [.inl (nI x1), .inl (nI x2)]) (rest := []) dX5_readWay_59 ml_5_184 (by decide) rfl rfl rfl (fun d' _ => C_btw la lb hc hI K.1 K.2.2.2.1) (fun r g3 hq => ?_)
      obtain ⟨eh, x, er, hq⟩ := hq
      subst eh
      subst er
      refine pa_bipush (v := (-2)) (pc' := 64) dX5_readWay_62 (by decide) rfl ?_
      rcases hq with ⟨ex, eA⟩ | ⟨ex, eA⟩
      rotate_left
      · exact pa_icmp_f (pc' := 67) dX5_readWay_64 (decide_eq_false ex) (by decide) rfl (bad (.inr eA))
      refine pa_icmp_t (pc' := 73) dX5_readWay_64 (decide_eq_true ex) (by decide) ?_
      have Eq : ¬ (x1 = x2 ∨ (List.range A.2.2.2.2.2.2.1).any (joinsB A.2.2.2.1 x1 x2) = true) := by rw [not_or, eA]; exact ⟨cd, by decide⟩
      refine pa_aload_n (pc' := 74) dX5_readWay_73 rfl rfl ?_
      refine pa_ldc (pc' := 76) dX5_readWay_74 cl_5_187 rfl rfl ?_
      refine pa_callv (pc' := 79) (vs := [.inr (.inr (some 1000020))]) (rest := []) dX5_readWay_76 ml_5_138 (by decide) rfl rfl rfl (fun d' _ => C_word hc hI K (bs := wDays) rfl) (fun r g4 hq => ?_)
      cases Ew4 : sWord y n wDays q2 with
      | inl e =>
        rw [Ew4] at hq
        obtain ⟨er, hf⟩ := hq
        subst er
        refine pa_if_t (x := 0) (pc' := 92) dX5_readWay_79 (by decide) (by decide) ?_
        refine pa_iconst (v := 0) (pc' := 93) dX5_readWay_92 (by decide) rfl ?_
        exact pa_iret dX5_readWay_93 rfl rfl (lnl (by simp only [sWay, sWN, Eo1, Eo2, if_neg Eq, Ew4]) hf)
      | inr q4 =>
        rw [Ew4] at hq
        obtain ⟨er, K, hfr⟩ := hq
        subst er
        have va := (hfr _ _ (by rcases hc with z | z <;> omega)).trans va
        have vb := (hfr _ _ (by rcases hc with z | z <;> omega)).trans vb
        refine pa_if_f (x := 1) (pc' := 82) dX5_readWay_79 (by decide) (by decide) rfl ?_
        refine pa_aload_n (pc' := 83) dX5_readWay_82 rfl rfl ?_
        refine pa_iconst (v := 1) (pc' := 84) dX5_readWay_83 (by decide) rfl ?_
        refine pa_bipush (v := 99) (pc' := 86) dX5_readWay_84 (by decide) rfl ?_
        refine pa_callv (pc' := 89) (vs := [.inl 1, .inl 99]) (rest := []) dX5_readWay_86 ml_5_142 (by decide) rfl rfl rfl (fun d' _ => C_whole hc hI K) (fun r g5 hq => ?_)
        cases En5 : sNum y n 1 99 q4 with
        | inl e =>
          rw [En5] at hq
          obtain ⟨er, hf⟩ := hq
          subst er
          refine pa_if_f (x := 0) (pc' := 92) dX5_readWay_89 (by decide) (by decide) rfl ?_
          refine pa_iconst (v := 0) (pc' := 93) dX5_readWay_92 (by decide) rfl ?_
          exact pa_iret dX5_readWay_93 rfl rfl (lnl (by simp only [sWay, sWN, Eo1, Eo2, if_neg Eq, Ew4, En5]) hf)
        | inr q5 =>
          rw [En5] at hq
          obtain ⟨x5, q5⟩ := q5
          obtain ⟨er, K, hv, hfr⟩ := hq
          subst er
          have va := (hfr _ _ (by rcases hc with z | z <;> omega)).trans va
          have vb := (hfr _ _ (by rcases hc with z | z <;> omega)).trans vb
          refine pa_if_t (x := 1) (pc' := 94) dX5_readWay_89 (by decide) (by decide) ?_
          refine pa_aload_n (pc' := 95) dX5_readWay_94 rfl rfl ?_
          refine pa_aload_n (pc' := 96) dX5_readWay_95 rfl rfl ?_
          refine pa_getI (pc' := 99) (n := 13) dX5_readWay_96 fl_5_24 (K.1.sh sh_82) (by decide) hv rfl ?_
          refine pa_putI (pc' := 102) (n := 4) dX5_readWay_99 fl_5_189 (K.1.sh so.1) (Or.inl rfl) (Or.inl rfl) rfl ?_
          have K := K.wr (a := c + 7 + cW A) (j := 2) (v := x5) (wr_w hc hW hI)
          have va := (zsI_no (h := g5) (a := c + 7 + cW A) (k := 2) (x := x5) (by omega)).trans va
          have vb := (zsI_no (h := g5) (a := c + 7 + cW A) (k := 2) (x := x5) (by omega)).trans vb
          have v2 : (zsI g5 (c + 7 + cW A) 2 (x5)).2.1 (c + 7 + cW A) 2 = x5 := zsI_eq
          refine pa_aload_n (pc' := 103) dX5_readWay_102 rfl rfl ?_
          refine pa_ldc (pc' := 105) dX5_readWay_103 cl_5_191 rfl rfl ?_
          refine pa_callv (pc' := 108) (vs := [.inr (.inr (some 1000021))]) (rest := []) dX5_readWay_105 ml_5_138 (by decide) rfl rfl rfl (fun d' _ => C_word hc hI K (bs := wOpen) rfl) (fun r g6 hq => ?_)
          cases Ew6 : sWord y n wOpen q5 with
          | inl e =>
            rw [Ew6] at hq
            obtain ⟨er, hf⟩ := hq
            subst er
            refine pa_if_t (x := 0) (pc' := 121) dX5_readWay_108 (by decide) (by decide) ?_
            refine pa_iconst (v := 0) (pc' := 122) dX5_readWay_121 (by decide) rfl ?_
            exact pa_iret dX5_readWay_122 rfl rfl (lnl (by simp only [sWay, sWN, Eo1, Eo2, if_neg Eq, Ew4, En5, Ew6]) hf)
          | inr q6 =>
            rw [Ew6] at hq
            obtain ⟨er, K, hfr⟩ := hq
            subst er
            have va := (hfr _ _ (by rcases hc with z | z <;> omega)).trans va
            have vb := (hfr _ _ (by rcases hc with z | z <;> omega)).trans vb
            have v2 := (hfr _ _ (by rcases hc with z | z <;> omega)).trans v2
            refine pa_if_f (x := 1) (pc' := 111) dX5_readWay_108 (by decide) (by decide) rfl ?_
            refine pa_aload_n (pc' := 112) dX5_readWay_111 rfl rfl ?_
            refine pa_iconst (v := 1) (pc' := 113) dX5_readWay_112 (by decide) rfl ?_
            refine pa_bipush (v := 15) (pc' := 115) dX5_readWay_113 (by decide) rfl ?_
            refine pa_callv (pc' := 118) (vs := [.inl 1, .inl 15]) (rest := []) dX5_readWay_115 ml_5_142 (by decide) rfl rfl rfl (fun d' _ => C_whole hc hI K) (fun r g7 hq => ?_)
            cases En7 : sNum y n 1 15 q6 with
            | inl e =>
              rw [En7] at hq
              obtain ⟨er, hf⟩ := hq
              subst er
              refine pa_if_f (x := 0) (pc' := 121) dX5_readWay_118 (by decide) (by decide) rfl ?_
              refine pa_iconst (v := 0) (pc' := 122) dX5_readWay_121 (by decide) rfl ?_
              exact pa_iret dX5_readWay_122 rfl rfl (lnl (by simp only [sWay, sWN, Eo1, Eo2, if_neg Eq, Ew4, En5, Ew6, En7]) hf)
            | inr q7 =>
              rw [En7] at hq
              obtain ⟨x7, q7⟩ := q7
              obtain ⟨er, K, hv, hfr⟩ := hq
              subst er
              have va := (hfr _ _ (by rcases hc with z | z <;> omega)).trans va
              have vb := (hfr _ _ (by rcases hc with z | z <;> omega)).trans vb
              have v2 := (hfr _ _ (by rcases hc with z | z <;> omega)).trans v2
              refine pa_if_t (x := 1) (pc' := 123) dX5_readWay_118 (by decide) (by decide) ?_
              refine pa_aload_n (pc' := 124) dX5_readWay_123 rfl rfl ?_
              refine pa_aload_n (pc' := 125) dX5_readWay_124 rfl rfl ?_
              refine pa_getI (pc' := 128) (n := 13) dX5_readWay_125 fl_5_24 (K.1.sh sh_82) (by decide) hv rfl ?_
              refine pa_putI (pc' := 131) (n := 4) dX5_readWay_128 fl_5_193 (K.1.sh so.1) (Or.inl rfl) (Or.inl rfl) rfl ?_
              have K := K.wr (a := c + 7 + cW A) (j := 3) (v := x7) (wr_w hc hW hI)
              have va := (zsI_no (h := g7) (a := c + 7 + cW A) (k := 3) (x := x7) (by omega)).trans va
              have vb := (zsI_no (h := g7) (a := c + 7 + cW A) (k := 3) (x := x7) (by omega)).trans vb
              have v2 := (zsI_no (h := g7) (a := c + 7 + cW A) (k := 3) (x := x7) (by omega)).trans v2
              have v3 : (zsI g7 (c + 7 + cW A) 3 (x7)).2.1 (c + 7 + cW A) 3 = x7 := zsI_eq
              refine pa_aload_n (pc' := 132) dX5_readWay_131 rfl rfl ?_
              refine pa_getR (pc' := 135) (n := 13) (r := c) dX5_readWay_132 fl_5_51 (K.1.sh sh_82) (by decide) K.1.2.2.1 rfl ?_
              refine pa_dup (pc' := 136) dX5_readWay_135 rfl rfl ?_
              refine pa_getI (pc' := 139) (n := 15) dX5_readWay_136 fl_5_93 (K.1.sh (pc_sh hc).1) (by decide) K.2.2.2.1.2.2.1 rfl ?_
              refine pa_iconst (v := nI 1) (pc' := 140) dX5_readWay_139 (by decide) rfl ?_
              refine pa_iadd (pc' := 141) (v := nI ((cW A) + 1)) dX5_readWay_140 (nI_add _ _) rfl ?_
              refine pa_putI (pc' := 144) (n := 15) dX5_readWay_141 fl_5_93 (K.1.sh (pc_sh hc).1) (Or.inl rfl) (Or.inl rfl) rfl ?_
              refine pa_iconst (v := 1) (pc' := 145) dX5_readWay_144 (by decide) rfl ?_
              refine pa_iret dX5_readWay_145 rfl rfl (lnr (A := (A.1, A.2.1, xS (xS A.2.2.1 (61 + 4 * cW A) x5) (62 + 4 * cW A) x7, upA A.2.2.2.1 (cW A) (x1, x2), A.2.2.2.2.1, cI A, cW A + 1, cH A, cB A, cS A)) (by simp only [sWay, sWN, Eo1, Eo2, if_neg Eq, Ew4, En5, Ew6, En7]) (K.wayed hc hI hW va vb v2 v3) (hI.wayed (fun i hi => xS2 hi) h1 hW la lb))
theorem C_island {y : Nat → Int32} {n c d p : Nat} {h : zH} {A : pA} (hc : cc2 c) (hI : pI A) (h1 : A.1 ≠ 0) (hi7 : cI A < 7) (K : rs y n c A A.2.1 (cI A + cH A + cB A) p h) : zPa d mX5_readIsland [.inr (.inr (some 82))] h (lnR y n c (sIsland y n A p)) := by
  intro N
  show zPn N none d mX5_readIsland (0, [(0, .inr (.inr (some 82)))], [], h) _
  have hn := hI.2.2.2.2.1
  obtain ⟨b1, b2, b3, b4, b5⟩ := hI.2.2.1
  have hp := K.2.2.1
  refine pa_aload_n (pc' := 1) dX5_readIsland_0 rfl rfl ?_
  refine pa_iconst (v := 1) (pc' := 2) dX5_readIsland_1 (by decide) rfl ?_
  refine pa_aload_n (pc' := 3) dX5_readIsland_2 rfl rfl ?_
  refine pa_getR (pc' := 6) (n := 13) (r := c) dX5_readIsland_3 fl_5_51 (K.1.sh sh_82) (by decide) K.1.2.2.1 rfl ?_
  refine pa_getI (pc' := 9) (n := 15) dX5_readIsland_6 fl_5_73 (K.1.sh (pc_sh hc).1) (by decide) K.2.2.2.1.2.1 rfl ?_
  refine pa_callv (pc' := 12) (vs := [.inl 1, .inl (nI (cI A))]) (rest := []) dX5_readIsland_9 ml_5_158 (by decide) rfl rfl rfl (fun d' _ => C_new (i := cI A) (.inl ⟨by omega, rfl, rfl⟩) (by omega) (hI.free (by omega) (fun z => by unfold occ at z; omega)) (by omega) hc hI hn K) (fun r g1 hq => ?_)
  cases Ex1 : sNew y n A.2.1 p with
  | inl e =>
    rw [Ex1] at hq
    obtain ⟨er, hf⟩ := hq
    subst er
    refine pa_if_f (x := 0) (pc' := 15) dX5_readIsland_12 (by decide) (by decide) rfl ?_
    refine pa_iconst (v := 0) (pc' := 16) dX5_readIsland_15 (by decide) rfl ?_
    exact pa_iret dX5_readIsland_16 rfl rfl (lnl (by simp only [sIsland, Ex1]) hf)
  | inr q1 =>
    rw [Ex1] at hq
    obtain ⟨er, K, hn, hfr⟩ := hq
    subst er
    refine pa_if_t (x := 1) (pc' := 17) dX5_readIsland_12 (by decide) (by decide) ?_
    refine pa_aload_n (pc' := 18) dX5_readIsland_17 rfl rfl ?_
    refine pa_callv (pc' := 21) (vs := []) (rest := []) dX5_readIsland_18 ml_5_70 (by decide) rfl rfl rfl (fun d' _ => c_next K.1 K.2.1 K.2.2.1) (fun r gk hq => ?_)
    obtain ⟨er, hq⟩ := hq
    subst er
    have kt := hq.ct K.1 K.2.2.1
    obtain ⟨hx1, -, hs, ht, he⟩ := kt
    have kt := hq.ct K.1 K.2.2.1
    show zPn N none d mX5_readIsland (21, [(0, .inr (.inr (some 82)))], [], gk) _
    refine pa_aload_n (pc' := 22) dX5_readIsland_21 rfl rfl ?_
    refine pa_getI (pc' := 25) (n := 13) dX5_readIsland_22 fl_5_18 (hx1.sh sh_82) (by decide) ht rfl ?_
    refine pa_iconst (v := 1) (pc' := 26) dX5_readIsland_25 (by decide) rfl ?_
    refine pa_icmp (pc' := 35) (pc2 := 29) dX5_readIsland_26 (by decide) rfl (fun cd => ?_) (fun cd => ?_)
    · have cd : cT (tT y n q1) = 1 := by simpa [zcond] using cd
      have e2 : tT y n q1 = 2 := (kt.tt (t := 2) (by decide)).mp cd
      have K2 := K.nx hc hI hq (by rw [e2]; decide)
      have he := he (by rw [e2]; decide)
      obtain ⟨w1, w2, w3⟩ := tW_ok K.2.2.1 e2
      have el : (tW y n q1).length = tE y n q1 - tS y n q1 := seg_len
      have u1 := (tE_sp (y := y) K.2.2.1).1
      refine pa_aload_n (pc' := 36) dX5_readIsland_35 rfl rfl ?_
      refine pa_getI (pc' := 39) (n := 13) dX5_readIsland_36 fl_5_15 (hx1.sh sh_82) (by decide) he rfl ?_
      refine pa_aload_n (pc' := 40) dX5_readIsland_39 rfl rfl ?_
      refine pa_getI (pc' := 43) (n := 13) dX5_readIsland_40 fl_5_21 (hx1.sh sh_82) (by decide) hs rfl ?_
      refine pa_isub (pc' := 44) (v := nI (tW y n q1).length) dX5_readIsland_43 (by rw [el]; exact nI_sub u1) rfl ?_
      refine pa_istore_n (pc' := 45) dX5_readIsland_44 (by decide) rfl rfl ?_
      refine pa_aload_n (pc' := 46) dX5_readIsland_45 rfl rfl ?_
      refine pa_callv (pc' := 49) (vs := []) (rest := []) dX5_readIsland_46 ml_5_161 (by decide) rfl rfl rfl (fun d' _ => C_song hc kt e2 K2.2.2.2.1.1) (fun r g3 hq3 => ?_)
      obtain ⟨eh, hq3⟩ := hq3
      subst eh
      rcases hq3 with ⟨ok, er⟩ | ⟨ok, er⟩
      · subst er
        obtain ⟨o1, o2⟩ := ok_nt (hI.1.resolve_left h1) ok w1
        have cpos : ¬ codeS (tW y n q1) = -2 := fun z => by
          have a1 := codeS_n (tW y n q1) 0 0 o1 (by decide) (by omega)
          have b1 := cnS_lt (tW y n q1) 0 0 o1 (by decide)
          have c1 : 4 ^ (0 + (tW y n q1).length) ≤ 4 ^ 6 := Nat.pow_le_pow_right (by decide) (by omega)
          have := congrArg Int32.toInt (a1.symm.trans z)
          rw [nI_toInt (by omega)] at this
          have e : (-2 : Int32).toInt = -2 := by decide
          omega
        refine pa_istore_n (pc' := 50) (v := codeS (tW y n q1)) dX5_readIsland_49 (by decide) rfl rfl ?_
        refine pa_iload_n (pc' := 51) dX5_readIsland_50 rfl rfl ?_
        refine pa_bipush (v := (-2)) (pc' := 53) dX5_readIsland_51 (by decide) rfl ?_
        refine pa_icmp_t (pc' := 63) dX5_readIsland_53 (decide_eq_true cpos) (by decide) ?_
        refine pa_aload_n (pc' := 64) dX5_readIsland_63 rfl rfl ?_
        refine pa_getR (pc' := 67) (n := 13) (r := c) dX5_readIsland_64 fl_5_51 (hx1.sh sh_82) (by decide) hx1.2.2.1 rfl ?_
        refine pa_iload_n (pc' := 68) dX5_readIsland_67 rfl rfl ?_
        refine pa_iload_n (pc' := 69) dX5_readIsland_68 rfl rfl ?_
        refine pa_callv (pc' := 72) (vs := [.inl (codeS (tW y n q1)), .inl (nI (tW y n q1).length)]) (rest := []) dX5_readIsland_69 ml_5_164 (by decide) rfl rfl rfl (fun d' _ => C_has hc hI hx1 K2.2.2.2.1 h1 ok w1) (fun r g4 hq4 => ?_)
        obtain ⟨eh, er⟩ := hq4
        subst eh; subst er
        by_cases any : (List.range (cI A)).any (fun i => decide (A.2.2.1 i = tW y n q1)) = true
        · rw [if_pos any]
          refine pa_if_f (x := 1) (pc' := 75) dX5_readIsland_72 (by decide) (by decide) rfl ?_
          refine pa_aload_n (pc' := 76) dX5_readIsland_75 rfl rfl ?_
          refine pa_iconst (v := 3) (pc' := 77) dX5_readIsland_76 (by decide) rfl ?_
          refine pa_callv (pc' := 80) (vs := [.inl 3]) (rest := []) dX5_readIsland_77 ml_5_76 (by decide) rfl rfl rfl (fun d' _ => c_flt hx1 hs) (fun r h3 hq5 => ?_)
          obtain ⟨er, hq5⟩ := hq5
          subst er
          exact pa_iret (x := 0) dX5_readIsland_80 rfl rfl (lnl (by simp only [sIsland, Ex1]; rw [if_pos e2, if_pos ok, if_pos any]) hq5.fl)
        · rw [if_neg any]
          refine pa_if_t (x := 0) (pc' := 81) dX5_readIsland_72 (by decide) (by decide) ?_
          have sc := hx1.sh (pc_sh hc).1
          have sc1 := hx1.sh (pc_sh hc).2.1
          have sc2 := hx1.sh (pc_sh hc).2.2.1
          have k4 := K2.2.2.2.1.2.1
          have r9 := hx1.2.1 _ _ _ (pc_rf hc).1
          have r10 := hx1.2.1 _ _ _ (pc_rf hc).2.1
          refine pa_aload_n (pc' := 82) dX5_readIsland_81 rfl rfl ?_
          refine pa_getR (pc' := 85) (n := 13) (r := c) dX5_readIsland_82 fl_5_51 (hx1.sh sh_82) (by decide) hx1.2.2.1 rfl ?_
          refine pa_getR (pc' := 88) (n := 15) (r := c + 1) dX5_readIsland_85 fl_5_167 sc (by decide) r9 rfl ?_
          refine pa_aload_n (pc' := 89) dX5_readIsland_88 rfl rfl ?_
          refine pa_getR (pc' := 92) (n := 13) (r := c) dX5_readIsland_89 fl_5_51 (hx1.sh sh_82) (by decide) hx1.2.2.1 rfl ?_
          refine pa_getI (pc' := 95) (n := 15) dX5_readIsland_92 fl_5_73 sc (by decide) k4 rfl ?_
          refine pa_iload_n (pc' := 96) dX5_readIsland_95 rfl rfl ?_
          refine pa_iast (pc' := 97) (n := 7) dX5_readIsland_96 sc1 rfl (fun _ => ?_)
          rw [nI_clamp (by omega)]
          have k4b : (zsI g4 (c + 1) (cI A) (codeS (tW y n q1))).2.1 c 4 = nI (cI A) := by rw [zsI_no (by omega)]; exact k4
          refine pa_aload_n (pc' := 98) dX5_readIsland_97 rfl rfl ?_
          refine pa_getR (pc' := 101) (n := 13) (r := c) dX5_readIsland_98 fl_5_51 (hx1.sh sh_82) (by decide) hx1.2.2.1 rfl ?_
          refine pa_getR (pc' := 104) (n := 15) (r := c + 2) dX5_readIsland_101 fl_5_170 sc (by decide) r10 rfl ?_
          refine pa_aload_n (pc' := 105) dX5_readIsland_104 rfl rfl ?_
          refine pa_getR (pc' := 108) (n := 13) (r := c) dX5_readIsland_105 fl_5_51 (hx1.sh sh_82) (by decide) hx1.2.2.1 rfl ?_
          refine pa_getI (pc' := 111) (n := 15) dX5_readIsland_108 fl_5_73 sc (by decide) k4b rfl ?_
          refine pa_iload_n (pc' := 112) dX5_readIsland_111 rfl rfl ?_
          refine pa_iast (pc' := 113) (n := 7) dX5_readIsland_112 sc2 rfl (fun _ => ?_)
          rw [nI_clamp (by omega)]
          have k4c : (zsI (zsI g4 (c + 1) (cI A) (codeS (tW y n q1))) (c + 2) (cI A) (nI (tW y n q1).length)).2.1 c 4 = nI (cI A) := by rw [zsI_no (by omega)]; exact k4b
          refine pa_aload_n (pc' := 114) dX5_readIsland_113 rfl rfl ?_
          refine pa_getR (pc' := 117) (n := 13) (r := c) dX5_readIsland_114 fl_5_51 (hx1.sh sh_82) (by decide) hx1.2.2.1 rfl ?_
          refine pa_dup (pc' := 118) dX5_readIsland_117 rfl rfl ?_
          refine pa_getI (pc' := 121) (n := 15) dX5_readIsland_118 fl_5_73 sc (by decide) k4c rfl ?_
          refine pa_iconst (v := nI 1) (pc' := 122) dX5_readIsland_121 (by decide) rfl ?_
          refine pa_iadd (pc' := 123) (v := nI (cI A + 1)) dX5_readIsland_122 (nI_add _ _) rfl ?_
          refine pa_putI (pc' := 126) (n := 15) dX5_readIsland_123 fl_5_73 sc (Or.inl rfl) (Or.inl rfl) rfl ?_
          refine pa_iconst (v := 1) (pc' := 127) dX5_readIsland_126 (by decide) rfl ?_
          refine pa_iret dX5_readIsland_127 rfl rfl (lnr (A := (A.1, upA A.2.1 (cI A) (tW y n p), upA A.2.2.1 (cI A) (tW y n q1), A.2.2.2.1, A.2.2.2.2.1, cI A + 1, cW A, cH A, cB A, cS A)) (by simp only [sIsland, Ex1]; rw [if_pos e2, if_pos ok, if_neg any]) ((K2.landed hc hI hi7).mm (by show cI A + cH A + cB A + 1 = cI A + 1 + cH A + cB A; omega)) (hI.landed h1 hi7 hn (sNew_w hp Ex1) ⟨ok, w1⟩))
      · subst er
        refine pa_istore_n (pc' := 50) (v := -2) dX5_readIsland_49 (by decide) rfl rfl ?_
        refine pa_iload_n (pc' := 51) dX5_readIsland_50 rfl rfl ?_
        refine pa_bipush (v := (-2)) (pc' := 53) dX5_readIsland_51 (by decide) rfl ?_
        refine pa_icmp_f (pc' := 56) dX5_readIsland_53 (by decide) (by decide) rfl ?_
        refine pa_aload_n (pc' := 57) dX5_readIsland_56 rfl rfl ?_
        refine pa_bipush (v := 7) (pc' := 59) dX5_readIsland_57 (by decide) rfl ?_
        refine pa_callv (pc' := 62) (vs := [.inl 7]) (rest := []) dX5_readIsland_59 ml_5_76 (by decide) rfl rfl rfl (fun d' _ => c_flt hx1 hs) (fun r h3 hq5 => ?_)
        obtain ⟨er, hq5⟩ := hq5
        subst er
        exact pa_iret (x := 0) dX5_readIsland_62 rfl rfl (lnl (by simp only [sIsland, Ex1]; rw [if_pos e2, if_neg (by rw [ok]; decide)]) hq5.fl)
    · have cd : ¬ cT (tT y n q1) = 1 := by simpa [zcond] using cd
      refine pa_aload_n (pc' := 30) dX5_readIsland_29 rfl rfl ?_
      refine pa_iconst (v := 1) (pc' := 31) dX5_readIsland_30 (by decide) rfl ?_
      refine pa_callv (pc' := 34) (vs := [.inl 1]) (rest := []) dX5_readIsland_31 ml_5_76 (by decide) rfl rfl rfl (fun d' _ => c_flt hx1 hs) (fun r h3 hq5 => ?_)
      obtain ⟨er, hq5⟩ := hq5
      subst er
      exact pa_iret (x := 0) dX5_readIsland_34 rfl rfl (lnl (by simp only [sIsland, Ex1]; rw [if_neg (fun z => cd ((kt.tt (t := 2) (by decide)).mpr z))]) hq5.fl)
theorem C_spout {y : Nat → Int32} {n c d p : Nat} {h : zH} {A : pA} (hc : cc2 c) (hI : pI A) (h1 : A.1 ≠ 0) (hS : cS A < 8) (K : rs y n c A A.2.1 (cI A + cH A + cB A) p h) : zPa d mX5_readSpout [.inr (.inr (some 82)), .inr (.inr (some (c + 32 + cS A)))] h (lnR y n c (sSpout y n A p)) := by
  intro N
  show zPn N none d mX5_readSpout (0, [(0, .inr (.inr (some 82))), (1, .inr (.inr (some (c + 32 + cS A))))], [], h) _
  have hn := hI.2.2.2.2.1
  obtain ⟨b1, b2, b3, b4, b5⟩ := hI.2.2.1
  have so := pc_spt hc hS
  have hp := K.2.2.1
  refine pa_aload_n (pc' := 1) dX5_readSpout_0 rfl rfl ?_
  refine pa_iconst (v := 3) (pc' := 2) dX5_readSpout_1 (by decide) rfl ?_
  refine pa_callv (pc' := 5) (vs := [.inl 3]) (rest := []) dX5_readSpout_2 ml_5_173 (by decide) rfl rfl rfl (fun d' _ => C_old (.inr ⟨rfl, rfl, rfl⟩) hc hI hn K) (fun r g1 hq => ?_)
  cases Eo1 : sOld y n A.2.1 7 11 p with
  | inl e =>
    rw [Eo1] at hq
    obtain ⟨er, hf⟩ := hq
    subst er
    refine pa_if_f (x := 0) (pc' := 8) dX5_readSpout_5 (by decide) (by decide) rfl ?_
    refine pa_iconst (v := 0) (pc' := 9) dX5_readSpout_8 (by decide) rfl ?_
    exact pa_iret dX5_readSpout_9 rfl rfl (lnl (by simp only [sSpout, sWN, Eo1]) hf)
  | inr q1 =>
    rw [Eo1] at hq
    obtain ⟨x1, q1⟩ := q1
    obtain ⟨er, K, hv, h84, hfr⟩ := hq
    subst er
    refine pa_if_t (x := 1) (pc' := 10) dX5_readSpout_5 (by decide) (by decide) ?_
    refine pa_aload_n (pc' := 11) dX5_readSpout_10 rfl rfl ?_
    refine pa_aload_n (pc' := 12) dX5_readSpout_11 rfl rfl ?_
    refine pa_getI (pc' := 15) (n := 13) dX5_readSpout_12 fl_5_24 (K.1.sh sh_82) (by decide) hv rfl ?_
    refine pa_putI (pc' := 18) (n := 3) dX5_readSpout_15 fl_5_233 (K.1.sh so.1) (Or.inl rfl) (Or.inl rfl) rfl ?_
    have K := K.wr (a := c + 32 + cS A) (j := 0) (v := nI x1) (wr_s hc hS hI)
    have va : (zsI g1 (c + 32 + cS A) 0 (nI x1)).2.1 (c + 32 + cS A) 0 = nI x1 := zsI_eq
    have la := sOld_11 Eo1
    refine pa_aload_n (pc' := 19) dX5_readSpout_18 rfl rfl ?_
    refine pa_iconst (v := 1) (pc' := 20) dX5_readSpout_19 (by decide) rfl ?_
    refine pa_callv (pc' := 23) (vs := [.inl 1]) (rest := []) dX5_readSpout_20 ml_5_173 (by decide) rfl rfl rfl (fun d' _ => C_old (.inl ⟨rfl, rfl, rfl⟩) hc hI hn K) (fun r g2 hq => ?_)
    cases Eo2 : sOld y n A.2.1 0 6 q1 with
    | inl e =>
      rw [Eo2] at hq
      obtain ⟨er, hf⟩ := hq
      subst er
      refine pa_if_f (x := 0) (pc' := 26) dX5_readSpout_23 (by decide) (by decide) rfl ?_
      refine pa_iconst (v := 0) (pc' := 27) dX5_readSpout_26 (by decide) rfl ?_
      exact pa_iret dX5_readSpout_27 rfl rfl (lnl (by simp only [sSpout, sWN, Eo1, Eo2]) hf)
    | inr q2 =>
      rw [Eo2] at hq
      obtain ⟨x2, q2⟩ := q2
      obtain ⟨er, K, hv, h84, hfr⟩ := hq
      subst er
      have va := (hfr _ _ (by rcases hc with z | z <;> omega)).trans va
      refine pa_if_t (x := 1) (pc' := 28) dX5_readSpout_23 (by decide) (by decide) ?_
      refine pa_aload_n (pc' := 29) dX5_readSpout_28 rfl rfl ?_
      refine pa_aload_n (pc' := 30) dX5_readSpout_29 rfl rfl ?_
      refine pa_getI (pc' := 33) (n := 13) dX5_readSpout_30 fl_5_24 (K.1.sh sh_82) (by decide) hv rfl ?_
      refine pa_putI (pc' := 36) (n := 3) dX5_readSpout_33 fl_5_237 (K.1.sh so.1) (Or.inl rfl) (Or.inl rfl) rfl ?_
      have K := K.wr (a := c + 32 + cS A) (j := 1) (v := nI x2) (wr_s hc hS hI)
      have va := (zsI_no (h := g2) (a := c + 32 + cS A) (k := 1) (x := nI x2) (by omega)).trans va
      have v1 : (zsI g2 (c + 32 + cS A) 1 (nI x2)).2.1 (c + 32 + cS A) 1 = nI x2 := zsI_eq
      refine pa_aload_n (pc' := 37) dX5_readSpout_36 rfl rfl ?_
      refine pa_getR (pc' := 40) (n := 13) (r := c) dX5_readSpout_37 fl_5_51 (K.1.sh sh_82) (by decide) K.1.2.2.1 rfl ?_
      refine pa_aload_n (pc' := 41) dX5_readSpout_40 rfl rfl ?_
      refine pa_getI (pc' := 44) (n := 3) dX5_readSpout_41 fl_5_233 (K.1.sh so.1) (by decide) va rfl ?_
      refine pa_callv (pc' := 47) (vs := [.inl (nI x1)]) (rest := []) dX5_readSpout_44 ml_5_240 (by decide) rfl rfl rfl (fun d' _ => C_last la hc hI K.1 K.2.2.2.1) (fun r g3 hq => ?_)
      obtain ⟨eh, x, er, hq⟩ := hq
      subst eh
      subst er
      refine pa_istore_n (pc' := 48) (v := x) dX5_readSpout_47 (by decide) rfl rfl ?_
      refine pa_iload_n (pc' := 49) dX5_readSpout_48 rfl rfl ?_
      refine pa_bipush (v := (-2)) (pc' := 51) dX5_readSpout_49 (by decide) rfl ?_
      have kk : ∀ ls : zL, zget ls 0 = some (.inr (.inr (some 82))) → zget ls 1 = some (.inr (.inr (some (c + 32 + cS A)))) → zget ls 3 = some (.inl (least A.2.2.2.2.1 x1 (cS A))) → zPn N none d mX5_readSpout (73, ls, [], zsI g2 (c + 32 + cS A) 1 (nI x2)) (lnR y n c (sSpout y n A p)) := by
        intro ls hl0 hl1 hl3
        refine pa_aload_n (pc' := 74) dX5_readSpout_73 hl0 rfl ?_
        refine pa_ldc (pc' := 76) dX5_readSpout_74 cl_5_229 rfl rfl ?_
        refine pa_callv (pc' := 79) (vs := [.inr (.inr (some 1000032))]) (rest := []) dX5_readSpout_76 ml_5_138 (by decide) rfl rfl rfl (fun d' _ => C_word hc hI K (bs := wDay) rfl) (fun r g4 hq => ?_)
        cases Ew4 : sWord y n wDay q2 with
        | inl e =>
          rw [Ew4] at hq
          obtain ⟨er, hf⟩ := hq
          subst er
          refine pa_if_t (x := 0) (pc' := 93) dX5_readSpout_79 (by decide) (by decide) ?_
          refine pa_iconst (v := 0) (pc' := 94) dX5_readSpout_93 (by decide) rfl ?_
          exact pa_iret dX5_readSpout_94 rfl rfl (lnl (by simp only [sSpout, sWN, Eo1, Eo2, Ew4]) hf)
        | inr q4 =>
          rw [Ew4] at hq
          obtain ⟨er, K, hfr⟩ := hq
          subst er
          have va := (hfr _ _ (by rcases hc with z | z <;> omega)).trans va
          have v1 := (hfr _ _ (by rcases hc with z | z <;> omega)).trans v1
          refine pa_if_f (x := 1) (pc' := 82) dX5_readSpout_79 (by decide) (by decide) rfl ?_
          refine pa_aload_n (pc' := 83) dX5_readSpout_82 hl0 rfl ?_
          refine pa_iload_n (pc' := 84) dX5_readSpout_83 hl3 rfl ?_
          refine pa_sipush (v := 9999) (pc' := 87) dX5_readSpout_84 (by decide) rfl ?_
          refine pa_callv (pc' := 90) (vs := [.inl (least A.2.2.2.2.1 x1 (cS A)), .inl 9999]) (rest := []) dX5_readSpout_87 ml_5_142 (by decide) rfl rfl rfl (fun d' _ => C_whole hc hI K) (fun r g5 hq => ?_)
          cases En5 : sNum y n (least A.2.2.2.2.1 x1 (cS A)) 9999 q4 with
          | inl e =>
            rw [En5] at hq
            obtain ⟨er, hf⟩ := hq
            subst er
            refine pa_if_f (x := 0) (pc' := 93) dX5_readSpout_90 (by decide) (by decide) rfl ?_
            refine pa_iconst (v := 0) (pc' := 94) dX5_readSpout_93 (by decide) rfl ?_
            exact pa_iret dX5_readSpout_94 rfl rfl (lnl (by simp only [sSpout, sWN, Eo1, Eo2, Ew4, En5]) hf)
          | inr q5 =>
            rw [En5] at hq
            obtain ⟨x5, q5⟩ := q5
            obtain ⟨er, K, hv, hfr⟩ := hq
            subst er
            have va := (hfr _ _ (by rcases hc with z | z <;> omega)).trans va
            have v1 := (hfr _ _ (by rcases hc with z | z <;> omega)).trans v1
            refine pa_if_t (x := 1) (pc' := 95) dX5_readSpout_90 (by decide) (by decide) ?_
            refine pa_aload_n (pc' := 96) dX5_readSpout_95 hl1 rfl ?_
            refine pa_aload_n (pc' := 97) dX5_readSpout_96 hl0 rfl ?_
            refine pa_getI (pc' := 100) (n := 13) dX5_readSpout_97 fl_5_24 (K.1.sh sh_82) (by decide) hv rfl ?_
            refine pa_putI (pc' := 103) (n := 3) dX5_readSpout_100 fl_5_244 (K.1.sh so.1) (Or.inl rfl) (Or.inl rfl) rfl ?_
            have K := K.wr (a := c + 32 + cS A) (j := 2) (v := x5) (wr_s hc hS hI)
            have va := (zsI_no (h := g5) (a := c + 32 + cS A) (k := 2) (x := x5) (by omega)).trans va
            have v1 := (zsI_no (h := g5) (a := c + 32 + cS A) (k := 2) (x := x5) (by omega)).trans v1
            have vb : (zsI g5 (c + 32 + cS A) 2 x5).2.1 (c + 32 + cS A) 2 = x5 := zsI_eq
            refine pa_aload_n (pc' := 104) dX5_readSpout_103 hl0 rfl ?_
            refine pa_getR (pc' := 107) (n := 13) (r := c) dX5_readSpout_104 fl_5_51 (K.1.sh sh_82) (by decide) K.1.2.2.1 rfl ?_
            refine pa_dup (pc' := 108) dX5_readSpout_107 rfl rfl ?_
            refine pa_getI (pc' := 111) (n := 15) dX5_readSpout_108 fl_5_126 (K.1.sh (pc_sh hc).1) (by decide) K.2.2.2.1.2.2.2.2.2.1 rfl ?_
            refine pa_iconst (v := nI 1) (pc' := 112) dX5_readSpout_111 (by decide) rfl ?_
            refine pa_iadd (pc' := 113) (v := nI ((cS A) + 1)) dX5_readSpout_112 (nI_add _ _) rfl ?_
            refine pa_putI (pc' := 116) (n := 15) dX5_readSpout_113 fl_5_126 (K.1.sh (pc_sh hc).1) (Or.inl rfl) (Or.inl rfl) rfl ?_
            refine pa_iconst (v := 1) (pc' := 117) dX5_readSpout_116 (by decide) rfl ?_
            refine pa_iret dX5_readSpout_117 rfl rfl (lnr (A := (A.1, A.2.1, xS A.2.2.1 (160 + 3 * cS A) (nI x2), A.2.2.2.1, upA A.2.2.2.2.1 (cS A) (x1, x5), cI A, cW A, cH A, cB A, cS A + 1)) (by simp only [sSpout, sWN, Eo1, Eo2, Ew4, En5]) (K.spouted hc hI va v1 vb) (hI.spouted (fun i hi => xS1 hi) h1 hS la))
      rcases hq with ⟨ex, hno⟩ | ⟨i, hi, ex, hw, hno⟩
      · refine pa_icmp_f (pc' := 54) dX5_readSpout_51 (by rw [ex]; decide) (by decide) rfl ?_
        refine pa_iconst (v := 0) (pc' := 55) dX5_readSpout_54 (by decide) rfl ?_
        refine pa_goto (pc' := 72) dX5_readSpout_55 (by decide) ?_
        refine pa_istore_n (pc' := 73) dX5_readSpout_72 (by decide) rfl rfl ?_
        exact kk _ rfl rfl (by rw [least_no hno]; rfl)
      · subst ex
        refine pa_icmp_t (pc' := 58) dX5_readSpout_51 (decide_eq_true (fun z => by
          have := congrArg Int32.toInt z
          rw [nI_toInt (by omega)] at this
          have e : (-2 : Int32).toInt = -2 := by decide
          omega)) (by decide) ?_
        have si := pc_spt hc (show i < 8 by omega)
        have v2 := (K.2.2.2.1.2.2.2.2.2.2.2.2.1 i hi).2
        refine pa_aload_n (pc' := 59) dX5_readSpout_58 rfl rfl ?_
        refine pa_getR (pc' := 62) (n := 13) (r := c) dX5_readSpout_59 fl_5_51 (K.1.sh sh_82) (by decide) K.1.2.2.1 rfl ?_
        refine pa_getR (pc' := 65) (n := 15) (r := c + 6) dX5_readSpout_62 fl_5_129 (K.1.sh (pc_sh hc).1) (by decide) (K.1.2.1 _ _ _ (pc_rf hc).2.2.2.2.2) rfl ?_
        refine pa_iload_n (pc' := 66) dX5_readSpout_65 rfl rfl ?_
        refine pa_aald (pc' := 67) dX5_readSpout_66 (K.1.sh (pc_sh hc).2.2.2.2.2.2) ⟨by decide, by decide⟩ (zn_in (by omega) (by omega)) (by rw [nI_clamp (by omega)]; exact K.1.2.1 _ _ _ si.2) rfl ?_
        refine pa_getI (pc' := 70) (n := 3) dX5_readSpout_67 fl_5_244 (K.1.sh si.1) (by decide) v2 rfl ?_
        refine pa_iconst (v := 1) (pc' := 71) dX5_readSpout_70 (by decide) rfl ?_
        refine pa_iadd (pc' := 72) dX5_readSpout_71 rfl rfl ?_
        refine pa_istore_n (pc' := 73) dX5_readSpout_72 (by decide) rfl rfl ?_
        exact kk _ rfl rfl (by rw [least_at hi hw hno]; rfl)
end Pk8
section Pk9
/-! the class reads a line, and a whole text -/
section RD3
variable {y : Nat → Int32} {n c d N p m q : Nat} {h h' : zH} {A : pA} {nm : Nat → List Int32}
theorem lnR_v {r : sR} {v : Option zV} (k : lnR y n c r v h') : ∃ x : Int32, v = some (.inl x) ∧ (x = 0 ∨ x = 1) := by
  unfold lnR at k
  split at k
  · exact ⟨0, k.1, .inl rfl⟩
  · exact ⟨1, k.1, .inr rfl⟩
theorem kw_no {w v : List Int32} (e : tT y n p = 2 ∧ tW y n p = w) (ne : w ≠ v) : ¬ (tT y n p = 2 ∧ tW y n p = v) := fun z => ne (e.2.symm.trans z.2)
theorem ln_post (e : tT y n p = 2 ∧ tW y n p = wPost) : sLine y n A p = if A.1 = 0 then sHead y n A (tE y n p) else .inl (3, tS y n p) := by
  unfold sLine
  rw [if_pos e]
theorem ln_island (e : tT y n p = 2 ∧ tW y n p = wIsland) : sLine y n A p = if A.1 = 0 then .inl (6, tS y n p) else if cI A < 7 then sIsland y n A (tE y n p) else .inl (5, tS y n p) := by
  unfold sLine
  rw [if_neg (kw_no e (by decide)), if_pos e]
theorem ln_way (e : tT y n p = 2 ∧ tW y n p = wWay) : sLine y n A p = if A.1 = 0 then .inl (6, tS y n p) else if cW A < 12 then sWay y n A (tE y n p) else .inl (5, tS y n p) := by
  unfold sLine
  rw [if_neg (kw_no e (by decide)), if_neg (kw_no e (by decide)), if_pos e]
theorem ln_whale (e : tT y n p = 2 ∧ tW y n p = wWhale) : sLine y n A p = if A.1 = 0 then .inl (6, tS y n p) else if cH A < 5 then sWhale y n A (tE y n p) else .inl (5, tS y n p) := by
  unfold sLine
  rw [if_neg (kw_no e (by decide)), if_neg (kw_no e (by decide)), if_neg (kw_no e (by decide)), if_pos e]
theorem ln_box (e : tT y n p = 2 ∧ tW y n p = wBox) : sLine y n A p = if A.1 = 0 then .inl (6, tS y n p) else if cB A < 8 then sBox y n A (tE y n p) else .inl (5, tS y n p) := by
  unfold sLine
  rw [if_neg (kw_no e (by decide)), if_neg (kw_no e (by decide)), if_neg (kw_no e (by decide)), if_neg (kw_no e (by decide)), if_pos e]
theorem ln_spout (e : tT y n p = 2 ∧ tW y n p = wSpout) : sLine y n A p = if A.1 = 0 then .inl (6, tS y n p) else if cS A < 8 then sSpout y n A (tE y n p) else .inl (5, tS y n p) := by
  unfold sLine
  rw [if_neg (kw_no e (by decide)), if_neg (kw_no e (by decide)), if_neg (kw_no e (by decide)), if_neg (kw_no e (by decide)), if_neg (kw_no e (by decide)), if_pos e]
theorem ln_no (k : srt y n p (-2)) : sLine y n A p = .inl (1, tS y n p) := by
  have k : ¬ wIs y n p wPost ∧ ¬ wIs y n p wIsland ∧ ¬ wIs y n p wWay ∧ ¬ wIs y n p wWhale ∧ ¬ wIs y n p wBox ∧ ¬ wIs y n p wSpout := by
    rcases k with e | e | e | e | e | e | e
    · exact absurd e.1 (by decide)
    · exact absurd e.1 (by decide)
    · exact absurd e.1 (by decide)
    · exact absurd e.1 (by decide)
    · exact absurd e.1 (by decide)
    · exact absurd e.1 (by decide)
    · exact e.2
  obtain ⟨a1, a2, a3, a4, a5, a6⟩ := k
  unfold sLine
  rw [if_neg (fun z => a1 (wIs_w.mpr z)), if_neg (fun z => a2 (wIs_w.mpr z)), if_neg (fun z => a3 (wIs_w.mpr z)), if_neg (fun z => a4 (wIs_w.mpr z)), if_neg (fun z => a5 (wIs_w.mpr z)), if_neg (fun z => a6 (wIs_w.mpr z))]
theorem C_line (hc : cc2 c) (hI : pI A) (K : rs y n c A A.2.1 (cI A + cH A + cB A) p h) : zPa d mX5_readLine [.inr (.inr (some 82))] h (lnR y n c (sLine y n A p)) := by
  intro N
  obtain ⟨b1, b2, b3, b4, b5⟩ := hI.2.2.1
  show zPn N none d mX5_readLine (0, [(0, .inr (.inr (some 82)))], [], h) _
  refine pa_aload_n (pc' := 1) dX5_readLine_0 rfl rfl ?_
  refine pa_callv (pc' := 4) (vs := []) (rest := []) dX5_readLine_1 ml_5_70 (by decide) rfl rfl rfl (fun d' _ => c_next K.1 K.2.1 K.2.2.1) (fun r gk hq => ?_)
  obtain ⟨er, hq⟩ := hq
  subst er
  have kt := hq.ct K.1 K.2.2.1
  obtain ⟨hx1, -, hs, ht, he⟩ := kt
  have kt := hq.ct K.1 K.2.2.1
  have s82 := hx1.sh sh_82
  have sc := hx1.sh (pc_sh hc).1
  show zPn N none d mX5_readLine (4, [(0, .inr (.inr (some 82)))], [], gk) _
  refine pa_aload_n (pc' := 5) dX5_readLine_4 rfl rfl ?_
  refine pa_callv (pc' := 8) (vs := []) (rest := []) dX5_readLine_5 ml_5_80 (by decide) rfl rfl rfl (fun d' _ => c_sort kt) (fun r h2 hq2 => ?_)
  obtain ⟨eh, x, er, hsr⟩ := hq2
  subst eh; subst er
  refine pa_istore_n (pc' := 9) (v := x) dX5_readLine_8 (by decide) rfl rfl ?_
  refine pa_iload_n (pc' := 10) dX5_readLine_9 rfl rfl ?_
  refine pa_bipush (v := (-2)) (pc' := 12) dX5_readLine_10 (by decide) rfl ?_
  by_cases hx : x = -2
  · refine pa_icmp_f (pc' := 15) dX5_readLine_12 (by rw [hx]; decide) (by decide) rfl ?_
    refine pa_aload_n (pc' := 16) dX5_readLine_15 rfl rfl ?_
    refine pa_iconst (v := 1) (pc' := 17) dX5_readLine_16 (by decide) rfl ?_
    refine pa_callv (pc' := 20) (vs := [.inl 1]) (rest := []) dX5_readLine_17 ml_5_76 (by decide) rfl rfl rfl (fun d' _ => c_flt hx1 hs) (fun r h3 hq5 => ?_)
    obtain ⟨er, hq5⟩ := hq5
    subst er
    exact pa_iret (x := 0) dX5_readLine_20 rfl rfl (lnl (ln_no ((srt_m2 hsr).mp hx)) hq5.fl)
  refine pa_icmp_t (pc' := 21) dX5_readLine_12 (decide_eq_true hx) (by decide) ?_
  have t2 : tT y n p = 2 := by
    rcases hsr with z | z | z | z | z | z | z
    · exact z.2.1
    · exact z.2.1
    · exact z.2.1
    · exact z.2.1
    · exact z.2.1
    · exact z.2.1
    · exact absurd z.1 hx
  have K2 := K.nx hc hI hq (by rw [t2]; decide)
  have k0 := K2.2.2.2.1.1
  refine pa_aload_n (pc' := 22) dX5_readLine_21 rfl rfl ?_
  refine pa_getR (pc' := 25) (n := 13) (r := c) dX5_readLine_22 fl_5_51 s82 (by decide) hx1.2.2.1 rfl ?_
  refine pa_getI (pc' := 28) (n := 15) dX5_readLine_25 fl_5_84 sc (by decide) k0 rfl ?_
  have fin : ∀ {r : Option zV} {g : zH} {ls : zL} {pc : Nat}, decode cX5_readLine pc = .ok (.ireturn, 1) → lnR y n c (sLine y n A p) r g → zPn N none d mX5_readLine (pc, ls, r.toList ++ [], g) (lnR y n c (sLine y n A p)) := by
    intro r g ls pc hd k
    obtain ⟨z, e, hz⟩ := lnR_v k
    subst e
    rcases hz with rfl | rfl
    · exact pa_iret (x := 0) hd rfl rfl k
    · exact pa_iret (x := 1) hd rfl rfl k
  have flt_ : ∀ {k : Int32} {ls : zL} {pc : Nat} {g : zH} {r : Option zV}, decode cX5_readLine pc = .ok (.ireturn, 1) → sLine y n A p = .inl (k, tS y n p) → (r = some (.inl 0) ∧ flt k (tS y n p) h2 g) → zPn N none d mX5_readLine (pc, ls, r.toList ++ [], g) (lnR y n c (sLine y n A p)) := by
    intro k ls pc g r hd e hq
    obtain ⟨er, hq⟩ := hq
    subst er
    exact pa_iret (x := 0) hd rfl rfl (lnl e hq.fl)
  have rest : ∀ (b : Int32) (ls : zL), (b = 0 ↔ A.1 = 0) → zget ls 0 = some (.inr (.inr (some 82))) → zget ls 1 = some (.inl x) → zget ls 2 = some (.inl b) → zPn N none d mX5_readLine (37, ls, [], h2) (lnR y n c (sLine y n A p)) := by
    intro b ls hb hl0 hl1 hl2
    refine pa_iload_n (pc' := 38) dX5_readLine_37 hl1 rfl ?_
    by_cases x0 : x = 0
    · have w : tT y n p = 2 ∧ tW y n p = wPost := by
        rcases hsr with z | z | z | z | z | z | z
        · exact wIs_w.mp z.2
        all_goals exact absurd (x0.symm.trans z.1) (by decide)
      refine pa_if_f (pc' := 41) dX5_readLine_38 (by rw [x0]; decide) (by decide) rfl ?_
      refine pa_iload_n (pc' := 42) dX5_readLine_41 hl2 rfl ?_
      by_cases a0 : A.1 = 0
      · refine pa_if_t (pc' := 53) dX5_readLine_42 (by rw [hb.mpr a0]; decide) (by decide) ?_
        refine pa_aload_n (pc' := 54) dX5_readLine_53 hl0 rfl ?_
        refine pa_callv (pc' := 57) (vs := []) (rest := []) dX5_readLine_54 ml_5_87 (by decide) rfl rfl rfl (fun d' _ => C_head hc hI a0 K2) (fun r h3 hq5 => ?_)
        rw [ln_post w, if_pos a0] at fin ⊢
        exact fin dX5_readLine_57 hq5
      · refine pa_if_f (pc' := 45) dX5_readLine_42 (decide_eq_false (fun z => a0 (hb.mp z))) (by decide) rfl ?_
        refine pa_aload_n (pc' := 46) dX5_readLine_45 hl0 rfl ?_
        refine pa_iconst (v := 3) (pc' := 47) dX5_readLine_46 (by decide) rfl ?_
        refine pa_callv (pc' := 50) (vs := [.inl 3]) (rest := []) dX5_readLine_47 ml_5_76 (by decide) rfl rfl rfl (fun d' _ => c_flt hx1 hs) (fun r h3 hq5 => ?_)
        refine pa_goto (pc' := 57) dX5_readLine_50 (by decide) ?_
        exact flt_ dX5_readLine_57 (by rw [ln_post w, if_neg a0]) hq5
    · refine pa_if_t (pc' := 58) dX5_readLine_38 (decide_eq_true x0) (by decide) ?_
      refine pa_iload_n (pc' := 59) dX5_readLine_58 hl2 rfl ?_
      by_cases a0 : A.1 = 0
      · refine pa_if_f (pc' := 62) dX5_readLine_59 (by rw [hb.mpr a0]; decide) (by decide) rfl ?_
        refine pa_aload_n (pc' := 63) dX5_readLine_62 hl0 rfl ?_
        refine pa_bipush (v := 6) (pc' := 65) dX5_readLine_63 (by decide) rfl ?_
        refine pa_callv (pc' := 68) (vs := [.inl 6]) (rest := []) dX5_readLine_65 ml_5_76 (by decide) rfl rfl rfl (fun d' _ => c_flt hx1 hs) (fun r h3 hq5 => ?_)
        refine flt_ dX5_readLine_68 ?_ hq5
        rcases hsr with z | z | z | z | z | z | z
        · exact absurd z.1 x0
        · rw [ln_island (wIs_w.mp z.2), if_pos a0]
        · rw [ln_way (wIs_w.mp z.2), if_pos a0]
        · rw [ln_whale (wIs_w.mp z.2), if_pos a0]
        · rw [ln_box (wIs_w.mp z.2), if_pos a0]
        · rw [ln_spout (wIs_w.mp z.2), if_pos a0]
        · exact absurd z.1 hx
      · refine pa_if_t (pc' := 69) dX5_readLine_59 (decide_eq_true (fun z => a0 (hb.mp z))) (by decide) ?_
        refine pa_iload_n (pc' := 70) dX5_readLine_69 hl1 rfl ?_
        rcases hsr with z | z | z | z | z | z | z
        · exact absurd z.1 x0
        · have w := wIs_w.mp z.2
          refine pa_switch (pc' := 100) dX5_readLine_70 (fun q => by rw [z.1] at q; exact absurd q (by decide)) (fun _ => ⟨30, by rw [z.1]; rfl, rfl⟩) ?_
          refine pa_aload_n (pc' := 101) dX5_readLine_100 hl0 rfl ?_
          refine pa_getR (pc' := 104) (n := 13) (r := c) dX5_readLine_101 fl_5_51 s82 (by decide) hx1.2.2.1 rfl ?_
          refine pa_getI (pc' := 107) (n := 15) dX5_readLine_104 fl_5_73 sc (by decide) K2.2.2.2.1.2.1 rfl ?_
          refine pa_bipush (v := nI 7) (pc' := 109) dX5_readLine_107 (by decide) rfl ?_
          refine pa_icmp (pc' := 119) (pc2 := 112) dX5_readLine_109 (by decide) rfl (fun cd => ?_) (fun cd => ?_)
          · have cd := zi_nlt (zk_ge_lt cd)
            rw [nI_toInt (by omega), nI_toInt (by omega)] at cd
            refine pa_aload_n (pc' := 120) dX5_readLine_119 hl0 rfl ?_
            refine pa_iconst (v := 5) (pc' := 121) dX5_readLine_120 (by decide) rfl ?_
            refine pa_callv (pc' := 124) (vs := [.inl 5]) (rest := []) dX5_readLine_121 ml_5_76 (by decide) rfl rfl rfl (fun d' _ => c_flt hx1 hs) (fun r h3 hq5 => ?_)
            exact flt_ dX5_readLine_124 (by rw [ln_island w, if_neg a0, if_neg (by omega)]) hq5
          · have cd := zi_lt (zk_ge_lt cd)
            rw [nI_toInt (by omega), nI_toInt (by omega)] at cd
            have cd : cI A < 7 := by omega
            refine pa_aload_n (pc' := 113) dX5_readLine_112 hl0 rfl ?_
            refine pa_callv (pc' := 116) (vs := []) (rest := []) dX5_readLine_113 ml_5_90 (by decide) rfl rfl rfl (fun d' _ => C_island hc hI a0 cd K2) (fun r h3 hq5 => ?_)
            refine pa_goto (pc' := 124) dX5_readLine_116 (by decide) ?_
            rw [ln_island w, if_neg a0, if_pos cd] at fin ⊢
            exact fin dX5_readLine_124 hq5
        · have w := wIs_w.mp z.2
          refine pa_switch (pc' := 125) dX5_readLine_70 (fun q => by rw [z.1] at q; exact absurd q (by decide)) (fun _ => ⟨55, by rw [z.1]; rfl, rfl⟩) ?_
          refine pa_aload_n (pc' := 126) dX5_readLine_125 hl0 rfl ?_
          refine pa_getR (pc' := 129) (n := 13) (r := c) dX5_readLine_126 fl_5_51 s82 (by decide) hx1.2.2.1 rfl ?_
          refine pa_getI (pc' := 132) (n := 15) dX5_readLine_129 fl_5_93 sc (by decide) K2.2.2.2.1.2.2.1 rfl ?_
          refine pa_bipush (v := nI 12) (pc' := 134) dX5_readLine_132 (by decide) rfl ?_
          refine pa_icmp (pc' := 159) (pc2 := 137) dX5_readLine_134 (by decide) rfl (fun cd => ?_) (fun cd => ?_)
          · have cd := zi_nlt (zk_ge_lt cd)
            rw [nI_toInt (by omega), nI_toInt (by omega)] at cd
            refine pa_aload_n (pc' := 160) dX5_readLine_159 hl0 rfl ?_
            refine pa_iconst (v := 5) (pc' := 161) dX5_readLine_160 (by decide) rfl ?_
            refine pa_callv (pc' := 164) (vs := [.inl 5]) (rest := []) dX5_readLine_161 ml_5_76 (by decide) rfl rfl rfl (fun d' _ => c_flt hx1 hs) (fun r h3 hq5 => ?_)
            exact flt_ dX5_readLine_164 (by rw [ln_way w, if_neg a0, if_neg (by omega)]) hq5
          · have cd := zi_lt (zk_ge_lt cd)
            rw [nI_toInt (by omega), nI_toInt (by omega)] at cd
            have cd : cW A < 12 := by omega
            refine pa_aload_n (pc' := 138) dX5_readLine_137 hl0 rfl ?_
            refine pa_aload_n (pc' := 139) dX5_readLine_138 hl0 rfl ?_
            refine pa_getR (pc' := 142) (n := 13) (r := c) dX5_readLine_139 fl_5_51 s82 (by decide) hx1.2.2.1 rfl ?_
            refine pa_getR (pc' := 145) (n := 15) (r := c + 3) dX5_readLine_142 fl_5_96 sc (by decide) (hx1.2.1 _ _ _ (pc_rf hc).2.2.1) rfl ?_
            refine pa_aload_n (pc' := 146) dX5_readLine_145 hl0 rfl ?_
            refine pa_getR (pc' := 149) (n := 13) (r := c) dX5_readLine_146 fl_5_51 s82 (by decide) hx1.2.2.1 rfl ?_
            refine pa_getI (pc' := 152) (n := 15) dX5_readLine_149 fl_5_93 sc (by decide) K2.2.2.2.1.2.2.1 rfl ?_
            refine pa_aald (pc' := 153) (r := c + 7 + cW A) dX5_readLine_152 (hx1.sh (pc_sh hc).2.2.2.1) ⟨by decide, by decide⟩ (zn_in (by omega) (by omega)) (by rw [nI_clamp (by omega)]; exact hx1.2.1 _ _ _ (pc_way hc cd).2) rfl ?_
            refine pa_callv (pc' := 156) (vs := [.inr (.inr (some (c + 7 + cW A)))]) (rest := []) dX5_readLine_153 ml_5_100 (by decide) rfl rfl rfl (fun d' _ => C_way hc hI a0 cd K2) (fun r h3 hq5 => ?_)
            refine pa_goto (pc' := 164) dX5_readLine_156 (by decide) ?_
            rw [ln_way w, if_neg a0, if_pos cd] at fin ⊢
            exact fin dX5_readLine_164 hq5
        · have w := wIs_w.mp z.2
          refine pa_switch (pc' := 165) dX5_readLine_70 (fun q => by rw [z.1] at q; exact absurd q (by decide)) (fun _ => ⟨95, by rw [z.1]; rfl, rfl⟩) ?_
          refine pa_aload_n (pc' := 166) dX5_readLine_165 hl0 rfl ?_
          refine pa_getR (pc' := 169) (n := 13) (r := c) dX5_readLine_166 fl_5_51 s82 (by decide) hx1.2.2.1 rfl ?_
          refine pa_getI (pc' := 172) (n := 15) dX5_readLine_169 fl_5_104 sc (by decide) K2.2.2.2.1.2.2.2.1 rfl ?_
          refine pa_iconst (v := nI 5) (pc' := 173) dX5_readLine_172 (by decide) rfl ?_
          refine pa_icmp (pc' := 198) (pc2 := 176) dX5_readLine_173 (by decide) rfl (fun cd => ?_) (fun cd => ?_)
          · have cd := zi_nlt (zk_ge_lt cd)
            rw [nI_toInt (by omega), nI_toInt (by omega)] at cd
            refine pa_aload_n (pc' := 199) dX5_readLine_198 hl0 rfl ?_
            refine pa_iconst (v := 5) (pc' := 200) dX5_readLine_199 (by decide) rfl ?_
            refine pa_callv (pc' := 203) (vs := [.inl 5]) (rest := []) dX5_readLine_200 ml_5_76 (by decide) rfl rfl rfl (fun d' _ => c_flt hx1 hs) (fun r h3 hq5 => ?_)
            exact flt_ dX5_readLine_203 (by rw [ln_whale w, if_neg a0, if_neg (by omega)]) hq5
          · have cd := zi_lt (zk_ge_lt cd)
            rw [nI_toInt (by omega), nI_toInt (by omega)] at cd
            have cd : cH A < 5 := by omega
            refine pa_aload_n (pc' := 177) dX5_readLine_176 hl0 rfl ?_
            refine pa_aload_n (pc' := 178) dX5_readLine_177 hl0 rfl ?_
            refine pa_getR (pc' := 181) (n := 13) (r := c) dX5_readLine_178 fl_5_51 s82 (by decide) hx1.2.2.1 rfl ?_
            refine pa_getR (pc' := 184) (n := 15) (r := c + 4) dX5_readLine_181 fl_5_107 sc (by decide) (hx1.2.1 _ _ _ (pc_rf hc).2.2.2.1) rfl ?_
            refine pa_aload_n (pc' := 185) dX5_readLine_184 hl0 rfl ?_
            refine pa_getR (pc' := 188) (n := 13) (r := c) dX5_readLine_185 fl_5_51 s82 (by decide) hx1.2.2.1 rfl ?_
            refine pa_getI (pc' := 191) (n := 15) dX5_readLine_188 fl_5_104 sc (by decide) K2.2.2.2.1.2.2.2.1 rfl ?_
            refine pa_aald (pc' := 192) (r := c + 19 + cH A) dX5_readLine_191 (hx1.sh (pc_sh hc).2.2.2.2.1) ⟨by decide, by decide⟩ (zn_in (by omega) (by omega)) (by rw [nI_clamp (by omega)]; exact hx1.2.1 _ _ _ (pc_whl hc cd).2) rfl ?_
            refine pa_callv (pc' := 195) (vs := [.inr (.inr (some (c + 19 + cH A)))]) (rest := []) dX5_readLine_192 ml_5_111 (by decide) rfl rfl rfl (fun d' _ => C_whale hc hI a0 cd K2) (fun r h3 hq5 => ?_)
            refine pa_goto (pc' := 203) dX5_readLine_195 (by decide) ?_
            rw [ln_whale w, if_neg a0, if_pos cd] at fin ⊢
            exact fin dX5_readLine_203 hq5
        · have w := wIs_w.mp z.2
          refine pa_switch (pc' := 204) dX5_readLine_70 (fun q => by rw [z.1] at q; exact absurd q (by decide)) (fun _ => ⟨134, by rw [z.1]; rfl, rfl⟩) ?_
          refine pa_aload_n (pc' := 205) dX5_readLine_204 hl0 rfl ?_
          refine pa_getR (pc' := 208) (n := 13) (r := c) dX5_readLine_205 fl_5_51 s82 (by decide) hx1.2.2.1 rfl ?_
          refine pa_getI (pc' := 211) (n := 15) dX5_readLine_208 fl_5_115 sc (by decide) K2.2.2.2.1.2.2.2.2.1 rfl ?_
          refine pa_bipush (v := nI 8) (pc' := 213) dX5_readLine_211 (by decide) rfl ?_
          refine pa_icmp (pc' := 238) (pc2 := 216) dX5_readLine_213 (by decide) rfl (fun cd => ?_) (fun cd => ?_)
          · have cd := zi_nlt (zk_ge_lt cd)
            rw [nI_toInt (by omega), nI_toInt (by omega)] at cd
            refine pa_aload_n (pc' := 239) dX5_readLine_238 hl0 rfl ?_
            refine pa_iconst (v := 5) (pc' := 240) dX5_readLine_239 (by decide) rfl ?_
            refine pa_callv (pc' := 243) (vs := [.inl 5]) (rest := []) dX5_readLine_240 ml_5_76 (by decide) rfl rfl rfl (fun d' _ => c_flt hx1 hs) (fun r h3 hq5 => ?_)
            exact flt_ dX5_readLine_243 (by rw [ln_box w, if_neg a0, if_neg (by omega)]) hq5
          · have cd := zi_lt (zk_ge_lt cd)
            rw [nI_toInt (by omega), nI_toInt (by omega)] at cd
            have cd : cB A < 8 := by omega
            refine pa_aload_n (pc' := 217) dX5_readLine_216 hl0 rfl ?_
            refine pa_aload_n (pc' := 218) dX5_readLine_217 hl0 rfl ?_
            refine pa_getR (pc' := 221) (n := 13) (r := c) dX5_readLine_218 fl_5_51 s82 (by decide) hx1.2.2.1 rfl ?_
            refine pa_getR (pc' := 224) (n := 15) (r := c + 5) dX5_readLine_221 fl_5_118 sc (by decide) (hx1.2.1 _ _ _ (pc_rf hc).2.2.2.2.1) rfl ?_
            refine pa_aload_n (pc' := 225) dX5_readLine_224 hl0 rfl ?_
            refine pa_getR (pc' := 228) (n := 13) (r := c) dX5_readLine_225 fl_5_51 s82 (by decide) hx1.2.2.1 rfl ?_
            refine pa_getI (pc' := 231) (n := 15) dX5_readLine_228 fl_5_115 sc (by decide) K2.2.2.2.1.2.2.2.2.1 rfl ?_
            refine pa_aald (pc' := 232) (r := c + 24 + cB A) dX5_readLine_231 (hx1.sh (pc_sh hc).2.2.2.2.2.1) ⟨by decide, by decide⟩ (zn_in (by omega) (by omega)) (by rw [nI_clamp (by omega)]; exact hx1.2.1 _ _ _ (pc_box hc cd).2) rfl ?_
            refine pa_callv (pc' := 235) (vs := [.inr (.inr (some (c + 24 + cB A)))]) (rest := []) dX5_readLine_232 ml_5_122 (by decide) rfl rfl rfl (fun d' _ => C_box hc hI a0 cd K2) (fun r h3 hq5 => ?_)
            refine pa_goto (pc' := 243) dX5_readLine_235 (by decide) ?_
            rw [ln_box w, if_neg a0, if_pos cd] at fin ⊢
            exact fin dX5_readLine_243 hq5
        · have w := wIs_w.mp z.2
          refine pa_switch (pc' := 244) dX5_readLine_70 (fun _ => rfl) (fun q => absurd (by rw [z.1]; decide) q) ?_
          refine pa_aload_n (pc' := 245) dX5_readLine_244 hl0 rfl ?_
          refine pa_getR (pc' := 248) (n := 13) (r := c) dX5_readLine_245 fl_5_51 s82 (by decide) hx1.2.2.1 rfl ?_
          refine pa_getI (pc' := 251) (n := 15) dX5_readLine_248 fl_5_126 sc (by decide) K2.2.2.2.1.2.2.2.2.2.1 rfl ?_
          refine pa_bipush (v := nI 8) (pc' := 253) dX5_readLine_251 (by decide) rfl ?_
          refine pa_icmp (pc' := 278) (pc2 := 256) dX5_readLine_253 (by decide) rfl (fun cd => ?_) (fun cd => ?_)
          · have cd := zi_nlt (zk_ge_lt cd)
            rw [nI_toInt (by omega), nI_toInt (by omega)] at cd
            refine pa_aload_n (pc' := 279) dX5_readLine_278 hl0 rfl ?_
            refine pa_iconst (v := 5) (pc' := 280) dX5_readLine_279 (by decide) rfl ?_
            refine pa_callv (pc' := 283) (vs := [.inl 5]) (rest := []) dX5_readLine_280 ml_5_76 (by decide) rfl rfl rfl (fun d' _ => c_flt hx1 hs) (fun r h3 hq5 => ?_)
            exact flt_ dX5_readLine_283 (by rw [ln_spout w, if_neg a0, if_neg (by omega)]) hq5
          · have cd := zi_lt (zk_ge_lt cd)
            rw [nI_toInt (by omega), nI_toInt (by omega)] at cd
            have cd : cS A < 8 := by omega
            refine pa_aload_n (pc' := 257) dX5_readLine_256 hl0 rfl ?_
            refine pa_aload_n (pc' := 258) dX5_readLine_257 hl0 rfl ?_
            refine pa_getR (pc' := 261) (n := 13) (r := c) dX5_readLine_258 fl_5_51 s82 (by decide) hx1.2.2.1 rfl ?_
            refine pa_getR (pc' := 264) (n := 15) (r := c + 6) dX5_readLine_261 fl_5_129 sc (by decide) (hx1.2.1 _ _ _ (pc_rf hc).2.2.2.2.2) rfl ?_
            refine pa_aload_n (pc' := 265) dX5_readLine_264 hl0 rfl ?_
            refine pa_getR (pc' := 268) (n := 13) (r := c) dX5_readLine_265 fl_5_51 s82 (by decide) hx1.2.2.1 rfl ?_
            refine pa_getI (pc' := 271) (n := 15) dX5_readLine_268 fl_5_126 sc (by decide) K2.2.2.2.1.2.2.2.2.2.1 rfl ?_
            refine pa_aald (pc' := 272) (r := c + 32 + cS A) dX5_readLine_271 (hx1.sh (pc_sh hc).2.2.2.2.2.2) ⟨by decide, by decide⟩ (zn_in (by omega) (by omega)) (by rw [nI_clamp (by omega)]; exact hx1.2.1 _ _ _ (pc_spt hc cd).2) rfl ?_
            refine pa_callv (pc' := 275) (vs := [.inr (.inr (some (c + 32 + cS A)))]) (rest := []) dX5_readLine_272 ml_5_133 (by decide) rfl rfl rfl (fun d' _ => C_spout hc hI a0 cd K2) (fun r h3 hq5 => ?_)
            refine pa_goto (pc' := 283) dX5_readLine_275 (by decide) ?_
            rw [ln_spout w, if_neg a0, if_pos cd] at fin ⊢
            exact fin dX5_readLine_283 hq5
        · exact absurd z.1 hx
  refine pa_if (pc' := 35) (pc2 := 31) dX5_readLine_28 (by decide) rfl (fun cd => ?_) (fun cd => ?_)
  · refine pa_iconst (v := 0) (pc' := 36) dX5_readLine_35 (by decide) rfl ?_
    refine pa_istore_n (pc' := 37) dX5_readLine_36 (by decide) rfl rfl ?_
    have a0 : A.1 = 0 := by
      rcases hI.1 with z | z | z | z
      · exact z
      all_goals rw [z] at cd; exact absurd cd (by decide)
    exact rest 0 _ ⟨fun _ => a0, fun _ => rfl⟩ rfl rfl rfl
  · refine pa_iconst (v := 1) (pc' := 32) dX5_readLine_31 (by decide) rfl ?_
    refine pa_goto (pc' := 36) dX5_readLine_32 (by decide) ?_
    refine pa_istore_n (pc' := 37) dX5_readLine_36 (by decide) rfl rfl ?_
    exact rest 1 _ ⟨fun z => absurd z (by decide), fun z => by rw [z] at cd; exact absurd cd (by decide)⟩ rfl rfl rfl
end RD3
end Pk9
