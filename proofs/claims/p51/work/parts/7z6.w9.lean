/-! FLOW: runs that leave the shape of the heap and both troubles alone -/
def pQ (K : Nat → Nat → Bool) (own : Nat) (i : Instr) : Bool := match i with
  | .iconst _ => true
  | .bipush _ => true
  | .sipush _ => true
  | .lconst _ => true
  | .ldc _ => true
  | .ldc_w _ => true
  | .ldc2_w _ => true
  | .iload _ => true
  | .iload_n _ => true
  | .lload _ => true
  | .lload_n _ => true
  | .aload _ => true
  | .aload_n _ => true
  | .istore _ => true
  | .istore_n _ => true
  | .lstore _ => true
  | .lstore_n _ => true
  | .astore _ => true
  | .astore_n _ => true
  | .iinc _ _ => true
  | .ifCond _ _ => true
  | .if_icmp _ _ => true
  | .goto _ => true
  | .tableswitch _ _ _ _ => true
  | .iadd => true
  | .isub => true
  | .imul => true
  | .idiv => true
  | .irem => true
  | .iand => true
  | .ior => true
  | .ixor => true
  | .ishl => true
  | .ishr => true
  | .iushr => true
  | .i2l => true
  | .lcmp => true
  | .lor => true
  | .ldiv => true
  | .lrem => true
  | .dup => true
  | .pop => true
  | .getfield _ => true
  | .putfield k => (match zfld own k with
    | some (ci, f) => !((Nat.beq ci 11 && Nat.beq f 2) || (Nat.beq ci 12 && Nat.beq f 11))
    | none => true)
  | .iaload => true
  | .aaload => true
  | .iastore => true
  | .arraylength => true
  | .getstatic _ => true
  | .ireturn => true
  | .lreturn => true
  | .return_ => true
  | .invokevirtual k => K own k
  | .invokestatic k => K own k
  | _ => false
def nx2 (i : Instr) (len pc : Nat) : List Nat := match i with
  | .goto off => [((pc : Int) + off).toNat]
  | .ifCond _ off => [((pc : Int) + off).toNat, pc + len]
  | .if_icmp _ off => [((pc : Int) + off).toNat, pc + len]
  | .tableswitch d _ _ offs => ((pc : Int) + d).toNat :: offs.toList.map (fun o => ((pc : Int) + o).toNat)
  | .invokevirtual _ => [pc + 3]
  | .invokestatic _ => [pc + 3]
  | .ireturn => []
  | .lreturn => []
  | .return_ => []
  | _ => [pc + len]
def pRt (i : Instr) : Bool := match i with
  | .ireturn => true
  | .lreturn => true
  | .return_ => true
  | _ => false
def hQ (h h' : zH) : Prop := h'.1 = h.1 ∧ (∀ n, zsh h 0 = some (11, n) → h'.2.1 0 2 = h.2.1 0 2) ∧ (∀ n, zsh h 196 = some (12, n) → h'.2.1 196 11 = h.2.1 196 11)
theorem hQ_rf {h : zH} : hQ h h := ⟨rfl, fun _ _ => rfl, fun _ _ => rfl⟩
theorem zsh_1 {h h' : zH} (e : h'.1 = h.1) (a : Nat) : zsh h' a = zsh h a := by unfold zsh; rw [e]
theorem hQ_tr {h h' h2 : zH} (a : hQ h h') (b : hQ h' h2) : hQ h h2 :=
  ⟨b.1.trans a.1, fun n q => (b.2.1 n ((zsh_1 a.1 0).trans q)).trans (a.2.1 n q), fun n q => (b.2.2 n ((zsh_1 a.1 196).trans q)).trans (a.2.2 n q)⟩
theorem hQ_I {h : zH} {a k kd n : Nat} {v : Int32} (hs : zsh h a = some (kd, n)) (h1 : ¬ (kd = 11 ∧ k = 2)) (h2 : ¬ (kd = 12 ∧ k = 11)) : hQ h (zsI h a k v) := by
  refine ⟨rfl, fun n' q => ?_, fun n' q => ?_⟩
  · rw [zsI_at]
    split
    · next e =>
      have e1 : zsh h a = some (11, n') := e.1 ▸ q
      rw [hs] at e1
      exact absurd ⟨congrArg Prod.fst (Option.some.inj e1), e.2.symm⟩ h1
    · rfl
  · rw [zsI_at]
    split
    · next e =>
      have e1 : zsh h a = some (12, n') := e.1 ▸ q
      rw [hs] at e1
      exact absurd ⟨congrArg Prod.fst (Option.some.inj e1), e.2.symm⟩ h2
    · rfl
theorem zarith_hq {i : Instr} {len pc : Nat} {ls : zL} {st : List zV} {h : zH} {g : zC} (hx : zarith i len pc ls st h = some (.inl g)) : g.2.2.2 = h := by
  unfold zarith at hx
  (repeat' split at hx) <;> first | (cases hx; done) | (cases hx; rfl)
section FX
variable {F : zM → Prop} {K : Nat → Nat → Bool} {h : zH} {call : zM → List zV → zH → Option zR} {deep : Bool} {m : zM} {i : Instr} {len pc : Nat} {ls : zL} {st : List zV}
def fX (i : Instr) (len pc : Nat) (h : zH) (x : zC ⊕ zR) : Prop := (∃ c : zC, x = .inl c ∧ c.1 ∈ nx2 i len pc ∧ hQ h c.2.2.2) ∨ (∃ r : zR, x = .inr r ∧ r.2 = h ∧ pRt i = true)
theorem fx_ar {x : zC ⊕ zR} (hx : zarith i len pc ls st h = some x) (hn : nx2 i len pc = [pc + len]) : fX i len pc h x := by
  cases x with
  | inl c => exact .inl ⟨c, rfl, by rw [hn]; exact List.mem_singleton.mpr (zarith_pc hx), by rw [zarith_hq hx]; exact hQ_rf⟩
  | inr r => exact absurd hx (fun e => zarith_nr e)
theorem fx_call {k kd na : Nat} {cm : zM} {x : zC ⊕ zR} (hF : F cm) (hcall : ∀ cm vs r h1, F cm → call cm vs h = some (r, h1) → hQ h h1) (hx : zcall call cm kd na pc ls st h = some x) (hn : nx2 i len pc = [pc + 3]) : fX i len pc h x := by
  unfold zcall at hx
  (repeat' split at hx)
  all_goals first | (cases hx; done) | skip
  all_goals (next e => have hx := Option.some.inj hx; subst hx; exact .inl ⟨_, rfl, by rw [hn]; exact List.mem_singleton.mpr rfl, hcall _ _ _ _ hF e⟩)
theorem fx_all {x : zC ⊕ zR} (hp : pQ K m.2.1 i = true) (hK : ∀ own k, K own k = true → ∀ kd na cm, zmth own k = some (kd, na, cm) → (kd = 11 ∨ kd = 12 ∨ kd = 13) ∨ ((kd = 0 ∨ kd = 1 ∨ kd = 3) ∧ F cm)) (hcall : ∀ cm vs r h1, F cm → call cm vs h = some (r, h1) → hQ h h1) (hx : zexec none call deep m i len pc ls st h = some x) : fX i len pc h x := by
  cases i <;> first | (exact absurd hp Bool.false_ne_true) | skip
  case invokevirtual k =>
    simp only [zexec] at hx
    split at hx
    · next kd na cm e1 =>
      split at hx
      · next e2 =>
        rcases hK _ k hp kd na cm e1 with q | q
        · exfalso; omega
        · split at hx
          · unfold zstr at hx
            (repeat' split at hx)
            all_goals first | (cases hx; done) | (have hx := Option.some.inj hx; subst hx; exact .inl ⟨_, rfl, List.mem_singleton.mpr rfl, hQ_rf⟩)
          · exact fx_call (k := k) q.2 hcall hx rfl
      · cases hx
    · cases hx
  case invokestatic k =>
    simp only [zexec] at hx
    split at hx
    · next kd na cm e1 =>
      rcases hK _ k hp kd na cm e1 with q | q
      · rw [if_neg (by omega), if_neg (by omega), if_neg (by omega)] at hx
        unfold zprim at hx
        (repeat' split at hx)
        all_goals first | (cases hx; done) | (exfalso; omega) | (have hx := Option.some.inj hx; subst hx; exact .inl ⟨_, rfl, List.mem_singleton.mpr rfl, hQ_rf⟩)
      · split at hx
        · exact fx_call (k := k) q.2 hcall hx rfl
        · next e2 =>
          rw [if_neg (by omega), if_neg (by omega)] at hx
          unfold zprim at hx
          (repeat' split at hx) <;> first | (cases hx; done) | (exfalso; omega)
    · cases hx
  case putfield k =>
    simp only [zexec] at hx
    unfold pQ at hp
    dsimp only at hp
    split at hx
    · next v a st' =>
      split at hx
      · next ci f kd n e1 e2 =>
        rw [e1] at hp
        split at hx
        · next e3 =>
          split at hx
          · next h' e4 =>
            have hx := Option.some.inj hx
            subst hx
            refine .inl ⟨_, rfl, List.mem_singleton.mpr rfl, ?_⟩
            obtain ⟨ek, -⟩ := e3
            subst ek
            have n1 : ¬ (kd = 11 ∧ f = 2) := fun q => by rw [q.1, q.2] at hp; exact absurd hp (by decide)
            have n2 : ¬ (kd = 12 ∧ f = 11) := fun q => by rw [q.1, q.2] at hp; exact absurd hp (by decide)
            unfold zput at e4
            (repeat' split at e4)
            all_goals first | (cases e4; done) | skip
            · have e4 := Option.some.inj e4; subst e4; exact hQ_I e2 n1 n2
            · have e4 := Option.some.inj e4; subst e4; exact ⟨rfl, fun _ _ => rfl, fun _ _ => rfl⟩
          · cases hx
        · cases hx
      · cases hx
    · cases hx
  case iastore =>
    simp only [zexec] at hx
    split at hx
    · split at hx
      · next h' e =>
        have hx := Option.some.inj hx
        subst hx
        refine .inl ⟨_, rfl, List.mem_singleton.mpr rfl, ?_⟩
        unfold zst at e
        split at e
        · next k n e1 =>
          split at e
          · next e2 =>
            split at e
            · have e := Option.some.inj e; subst e; exact hQ_I e1 (by omega) (by omega)
            · cases e
          · cases e
        · cases e
      · cases hx
    · cases hx
  case ireturn =>
    simp only [zexec] at hx
    (repeat' split at hx)
    all_goals first | (cases hx; done) | (have hx := Option.some.inj hx; subst hx; exact .inr ⟨_, rfl, rfl, rfl⟩)
  case lreturn =>
    simp only [zexec] at hx
    (repeat' split at hx)
    all_goals first | (cases hx; done) | (have hx := Option.some.inj hx; subst hx; exact .inr ⟨_, rfl, rfl, rfl⟩)
  case return_ =>
    simp only [zexec] at hx
    (repeat' split at hx)
    all_goals first | (cases hx; done) | (have hx := Option.some.inj hx; subst hx; exact .inr ⟨_, rfl, rfl, rfl⟩)
  case tableswitch d lo hi offs =>
    simp only [zexec, zjump, zgo] at hx
    (repeat' split at hx)
    all_goals first | (cases hx; done) | skip
    · have hx := Option.some.inj hx; subst hx; exact .inl ⟨_, rfl, List.mem_cons_self, hQ_rf⟩
    · next off e _ =>
      have hx := Option.some.inj hx; subst hx
      exact .inl ⟨_, rfl, List.mem_cons_of_mem _ (List.mem_map.mpr ⟨off, Array.mem_toList_iff.mpr (Array.mem_of_getElem? e), rfl⟩), hQ_rf⟩
  case iadd => exact fx_ar (by unfold zexec at hx; exact hx) rfl
  case isub => exact fx_ar (by unfold zexec at hx; exact hx) rfl
  case imul => exact fx_ar (by unfold zexec at hx; exact hx) rfl
  case idiv => exact fx_ar (by unfold zexec at hx; exact hx) rfl
  case irem => exact fx_ar (by unfold zexec at hx; exact hx) rfl
  case iand => exact fx_ar (by unfold zexec at hx; exact hx) rfl
  case ior => exact fx_ar (by unfold zexec at hx; exact hx) rfl
  case ixor => exact fx_ar (by unfold zexec at hx; exact hx) rfl
  case ishl => exact fx_ar (by unfold zexec at hx; exact hx) rfl
  case ishr => exact fx_ar (by unfold zexec at hx; exact hx) rfl
  case iushr => exact fx_ar (by unfold zexec at hx; exact hx) rfl
  case i2l => exact fx_ar (by unfold zexec at hx; exact hx) rfl
  case lcmp => exact fx_ar (by unfold zexec at hx; exact hx) rfl
  case lor => exact fx_ar (by unfold zexec at hx; exact hx) rfl
  case ldiv => exact fx_ar (by unfold zexec at hx; exact hx) rfl
  case lrem => exact fx_ar (by unfold zexec at hx; exact hx) rfl
  all_goals simp only [zexec, zload, zstore, zldv, zbr, zjump, zgo] at hx
  all_goals (repeat' split at hx)
  all_goals first | (cases hx; done) | (have hx := Option.some.inj hx; subst hx; exact .inl ⟨_, rfl, by simp [nx2], hQ_rf⟩)
def aFl (K : Nat → Nat → Bool) (own : Nat) (S : aCd) : Bool := S.all (fun q => pQ K own q.2.1 && (nx2 q.2.1 q.2.2 q.1).all (fun t => S.any (fun p => Nat.beq p.1 t)))
def aF (K : Nat → Nat → Bool) (m : zM) : Prop := ∃ S : aCd, (∀ q ∈ S, decode m.1 q.1 = .ok (q.2.1, q.2.2)) ∧ aFl K m.2.1 S = true ∧ S.any (fun p => Nat.beq p.1 0) = true
theorem fstep {n d : Nat} {m : zM} {pc : Nat} {ls : zL} {st : List zV} {h h1 : zH} {v : Option zV} {i : Instr} {len : Nat} (hd : decode m.1 pc = .ok (i, len)) (hz : zrun (n + 1) none d m (pc, ls, st, h) = some (v, h1)) : ∃ x, zexec none (zcf n d) (decide (0 < d)) m i len pc ls st h = some x ∧ ((∃ c, x = .inl c ∧ zrun n none d m c = some (v, h1)) ∨ x = .inr (v, h1)) := by
  rw [zrun_succ] at hz
  unfold zstep at hz
  dsimp only at hz
  rw [hd] at hz
  dsimp only at hz
  by_cases hl : zilen i = 0 ∨ len = zilen i
  · rw [if_pos hl] at hz
    cases ex : zexec none (zcf n d) (decide (0 < d)) m i len pc ls st h with
    | none => rw [ex] at hz; cases hz
    | some x =>
      rw [ex] at hz
      refine ⟨x, rfl, ?_⟩
      cases x with
      | inl c => exact .inl ⟨c, rfl, hz⟩
      | inr r => exact .inr (congrArg Sum.inr (Option.some.inj hz))
  · rw [if_neg hl] at hz
    cases hz
def fKok (K : Nat → Nat → Bool) : Prop := ∀ own k, K own k = true → ∀ kd na cm, zmth own k = some (kd, na, cm) → (kd = 11 ∨ kd = 12 ∨ kd = 13) ∨ ((kd = 0 ∨ kd = 1 ∨ kd = 3) ∧ aF K cm)
theorem fkeep (hK : fKok K) : ∀ (n d : Nat) (m : zM) (S : aCd) (pc : Nat) (ls : zL) (st : List zV) (v : Option zV) (h h1 : zH), (∀ q ∈ S, decode m.1 q.1 = .ok (q.2.1, q.2.2)) → aFl K m.2.1 S = true → S.any (fun p => Nat.beq p.1 pc) = true → zrun n none d m (pc, ls, st, h) = some (v, h1) → hQ h h1 := by
  intro n
  induction n with
  | zero => intro d m S pc ls st v h h1 _ _ _ hz; cases hz
  | succ n ih =>
    intro d m S pc ls st v h h1 hS hC hpc hz
    have hC' := hC
    simp only [aFl, Bool.and_eq_true, List.all_eq_true] at hC
    obtain ⟨q, hq, eq⟩ := List.any_eq_true.mp hpc
    have eq : q.1 = pc := by simpa using eq
    subst eq
    obtain ⟨p1, p2⟩ := hC q hq
    obtain ⟨x, ex, hx⟩ := fstep (hS q hq) hz
    have hcall : ∀ cm vs r h1, aF K cm → zcf n d cm vs h = some (r, h1) → hQ h h1 := by
      intro cm vs r h1 hF hc
      unfold zcf at hc
      cases d with
      | zero => cases hc
      | succ d =>
        dsimp only at hc
        split at hc
        · obtain ⟨S', s1, s2, s3⟩ := hF
          exact ih d cm S' 0 _ _ r h h1 s1 s2 s3 hc
        · cases hc
    rcases fx_all p1 hK hcall ex with ⟨c, e1, e2, e3⟩ | ⟨r, e1, e2, -⟩
    · rcases hx with ⟨c', e4, e5⟩ | e4
      · have : c = c' := Sum.inl.inj (e1.symm.trans e4)
        subst this
        obtain ⟨pc', ls', st', g⟩ := c
        exact hQ_tr e3 (ih d m S pc' ls' st' v g h1 hS hC' (p2 pc' e2) e5)
      · exact absurd (e1.symm.trans e4) (by intro z; cases z)
    · rcases hx with ⟨c', e4, e5⟩ | e4
      · exact absurd (e1.symm.trans e4) (by intro z; cases z)
      · have : r = (v, h1) := Sum.inr.inj (e1.symm.trans e4)
        subst this
        rw [show h1 = h from e2]
        exact hQ_rf
/-- from here on nothing touches either trouble -/
theorem fl_keep {N d : Nat} {S : aCd} {Q : Option zV → zH → Prop} (hK : fKok K) (hS : ∀ q ∈ S, decode m.1 q.1 = .ok (q.2.1, q.2.2)) (hC : aFl K m.2.1 S = true) (hpc : S.any (fun p => Nat.beq p.1 pc) = true) (hq : ∀ v g, hQ h g → Q v g) : zPn N none d m (pc, ls, st, h) Q :=
  fun n _ v h' e => hq v h' (fkeep hK n d m S pc ls st v h h' hS hC hpc e)
/-! the class's granted: it clears trouble, whoever the answer is -/
theorem gr_run (hK : fKok K) {d : Nat} {vs : List zV} {h : zH} (hs : zsh h 0 = some (11, 16)) : zPa d mX11_granted (.inr (.inr (some 0)) :: vs) h (fun _ g => g.2.1 0 2 = 0 ∧ g.1 = h.1) := by
  intro N
  refine pa_aload_n dX11_granted_0 rfl rfl ?_
  refine pa_iconst dX11_granted_1 rfl rfl ?_
  refine pa_putI dX11_granted_2 rfl hs (.inl rfl) (by decide) rfl ?_
  refine fl_keep hK (S := [(5, .iload_n 1, 1), (6, .ireturn, 1)]) ?_ rfl rfl (fun v g q => ⟨(q.2.1 16 hs).trans zsI_eq, q.1⟩)
  intro q hq
  rcases List.mem_cons.mp hq with rfl | hq
  · exact dX11_granted_5
  · rw [List.mem_singleton.mp hq]; exact dX11_granted_6
def aGr (K : Nat → Nat → Bool) (own kg : Nat) (S1 S2 : aCd) : Bool := S1.all (fun q => match q.2.1 with
  | .invokevirtual k => if Nat.beq k kg then S2.any (fun p => Nat.beq p.1 (q.1 + 3)) else K own k && S1.any (fun p => Nat.beq p.1 (q.1 + 3))
  | i => pQ K own i && (!pRt i && (nx2 i q.2.2 q.1).all (fun t => S1.any (fun p => Nat.beq p.1 t))))
theorem fgrant (hK : fKok K) {own kg : Nat} (hm : zmth own kg = some (0, 2, mX11_granted)) {S1 S2 : aCd} (hm1 : m.2.1 = own) (hS1 : ∀ q ∈ S1, decode m.1 q.1 = .ok (q.2.1, q.2.2)) (hS2 : ∀ q ∈ S2, decode m.1 q.1 = .ok (q.2.1, q.2.2)) (hC1 : aGr K own kg S1 S2 = true) (hC2 : aFl K own S2 = true) : ∀ (n d pc : Nat) (ls : zL) (st : List zV) (v : Option zV) (h h1 : zH), zsh h 0 = some (11, 16) → (∀ a n, zsh h a = some (11, n) → a = 0) → S1.any (fun p => Nat.beq p.1 pc) = true → zrun n none d m (pc, ls, st, h) = some (v, h1) → h1.2.1 0 2 = 0 := by
  intro n
  induction n with
  | zero => intro d pc ls st v h h1 _ _ _ hz; cases hz
  | succ n ih =>
    intro d pc ls st v h h1 hs h0 hpc hz
    have hC := hC1
    simp only [aGr, List.all_eq_true] at hC
    obtain ⟨q, hq, eq⟩ := List.any_eq_true.mp hpc
    have eq : q.1 = pc := by simpa using eq
    subst eq
    have p := hC q hq
    obtain ⟨x, ex, hx⟩ := fstep (hS1 q hq) hz
    have hcall : ∀ cm vs r h1, aF K cm → zcf n d cm vs h = some (r, h1) → hQ h h1 := by
      intro cm vs r h1 hF hc
      unfold zcf at hc
      cases d with
      | zero => cases hc
      | succ d =>
        dsimp only at hc
        split at hc
        · obtain ⟨S', s1, s2, s3⟩ := hF
          exact fkeep hK n d cm S' 0 _ _ r h h1 s1 s2 s3 hc
        · cases hc
    have go : ∀ (i : Instr) (len : Nat), zexec none (zcf n d) (decide (0 < d)) m i len q.1 ls st h = some x → pQ K own i = true → pRt i = false → (∀ t ∈ nx2 i len q.1, S1.any (fun p => Nat.beq p.1 t) = true) → h1.2.1 0 2 = 0 := by
      intro i len ex a1 a2 a3
      rcases fx_all (by rw [hm1]; exact a1) hK hcall ex with ⟨c, e1, e2, e3⟩ | ⟨r, e1, e2, e3⟩
      · rcases hx with ⟨c', e4, e5⟩ | e4
        · have : c = c' := Sum.inl.inj (e1.symm.trans e4)
          subst this
          obtain ⟨pc', ls', st', g⟩ := c
          exact ih d pc' ls' st' v g h1 ((zsh_1 e3.1 0).trans hs) (fun a n z => h0 a n ((zsh_1 e3.1 a).symm.trans z)) (a3 pc' e2) e5
        · exact absurd (e1.symm.trans e4) (by intro z; cases z)
      · rw [a2] at e3; cases e3
    obtain ⟨qp, i, len⟩ := q
    cases i with
    | invokevirtual k =>
      dsimp only at p
      by_cases ek : Nat.beq k kg = true
      · rw [if_pos ek] at p
        have ek : k = kg := by simpa using ek
        subst ek
        dsimp only at ex hx
        simp only [zexec] at ex
        rw [hm1, hm] at ex
        dsimp only at ex
        rw [if_pos rfl] at ex
        split at ex
        · next e14 => exact absurd e14 (by decide)
        unfold zcall at ex
        split at ex
        · rw [if_neg (by decide)] at ex
          split at ex
          · next a vs e3 =>
            split at ex
            · next kk n' e4 =>
              split at ex
              · next e5 =>
                split at ex
                · next r h2 e6 =>
                  have ex := Option.some.inj ex
                  subst ex
                  have ek : kk = 11 := e5.1
                  subst ek
                  have ea := h0 a n' e4
                  subst ea
                  have e7 : h2.2.1 0 2 = 0 ∧ h2.1 = h.1 := by
                    unfold zcf at e6
                    cases d with
                    | zero => cases e6
                    | succ d =>
                      dsimp only at e6
                      split at e6
                      · exact gr_run hK hs n n (Nat.le_refl n) _ _ e6
                      · cases e6
                  rcases hx with ⟨c', e8, e9⟩ | e8
                  · have e8 := Sum.inl.inj e8
                    subst e8
                    have k2 := fkeep hK n d m S2 _ _ _ v h2 h1 hS2 (by rw [hm1]; exact hC2) p e9
                    exact (k2.2.1 16 ((zsh_1 e7.2 0).trans hs)).trans e7.1
                  · cases e8
                · cases ex
              · cases ex
            · cases ex
          · cases ex
        · cases ex
      · rw [if_neg ek] at p
        simp only [Bool.and_eq_true] at p
        exact go _ _ ex p.1 rfl (fun t ht => by rw [List.mem_singleton.mp ht]; exact p.2)
    | _ =>
      simp only [Bool.and_eq_true, List.all_eq_true, Bool.not_eq_true'] at p
      exact go _ _ ex p.1 p.2.1 p.2.2
theorem fl_grant (hK : fKok K) {N d own kg : Nat} {Q : Option zV → zH → Prop} (hm : zmth own kg = some (0, 2, mX11_granted)) {S1 S2 : aCd} (hm1 : m.2.1 = own) (hS1 : ∀ q ∈ S1, decode m.1 q.1 = .ok (q.2.1, q.2.2)) (hS2 : ∀ q ∈ S2, decode m.1 q.1 = .ok (q.2.1, q.2.2)) (hC1 : aGr K own kg S1 S2 = true) (hC2 : aFl K own S2 = true) (hs : zsh h 0 = some (11, 16)) (h0 : ∀ a n, zsh h a = some (11, n) → a = 0) (hpc : S1.any (fun p => Nat.beq p.1 pc) = true) (hq : ∀ v g, g.2.1 0 2 = 0 → Q v g) : zPn N none d m (pc, ls, st, h) Q :=
  fun n _ v h' e => hq v h' (fgrant hK hm hm1 hS1 hS2 hC1 hC2 n d pc ls st v h h' hs h0 hpc e)
end FX
/-! FLOW: the rows of the methods -/
def fKs : List (Nat × Nat) := [(1, 28), (1, 34), (1, 38), (1, 44), (1, 49), (3, 31), (3, 35), (3, 55), (3, 59), (3, 63), (3, 67), (3, 76), (3, 81), (6, 38), (6, 64), (6, 70), (6, 80), (6, 84), (6, 96), (6, 115), (6, 122), (6, 136), (6, 143), (6, 155), (6, 161), (6, 164), (6, 185), (6, 188), (6, 192), (6, 197), (6, 200), (6, 203), (7, 40), (7, 50), (7, 54), (7, 60), (7, 67), (7, 70), (7, 73), (7, 77), (7, 81), (7, 85), (7, 92), (11, 183), (11, 187), (11, 198), (11, 201), (11, 207), (11, 210), (11, 236), (11, 242), (11, 245), (11, 248), (11, 251), (11, 255), (11, 261), (11, 277), (11, 280), (11, 283), (11, 286), (11, 289), (11, 292), (11, 295), (11, 298), (11, 310), (11, 313), (11, 316), (11, 319), (11, 325), (11, 328), (11, 338), (11, 399), (11, 404), (11, 408), (11, 411), (12, 149), (12, 176), (12, 230), (12, 262), (12, 265), (12, 271), (12, 280), (12, 284), (12, 287), (12, 291), (12, 295), (12, 298), (12, 302), (12, 305), (12, 308), (12, 312), (12, 318), (12, 321), (12, 327), (12, 331), (12, 334), (12, 337), (12, 342), (12, 346), (12, 349), (12, 352), (12, 355), (12, 364), (12, 367), (12, 370), (12, 375), (12, 385), (12, 389), (12, 398), (12, 401), (12, 404), (12, 407), (12, 413), (12, 416), (12, 419)]
def fK (own k : Nat) : Bool := fKs.any (fun q => Nat.beq q.1 own && Nat.beq q.2 k)
def fIn (l : List Nat) (p : Nat) : Bool := l.any (fun q => Nat.beq q p)
set_option maxRecDepth 100000 in
theorem fa_J6_bitCount_0f7a4 : aF fK mJ6_bitCount_0f7a4 := ⟨oJ6_bitCount_0f7a4, odJ6_bitCount_0f7a4, by decide +kernel, by decide +kernel⟩
set_option maxRecDepth 100000 in
theorem fa_J7_fill_53178 : aF fK mJ7_fill_53178 := ⟨oJ7_fill_53178, odJ7_fill_53178, by decide +kernel, by decide +kernel⟩
set_option maxRecDepth 100000 in
theorem fa_X11_commonDivisor : aF fK mX11_commonDivisor := ⟨oX11_commonDivisor, odX11_commonDivisor, by decide +kernel, by decide +kernel⟩
set_option maxRecDepth 100000 in
theorem fa_X11_heardWithSlips : aF fK mX11_heardWithSlips := ⟨oX11_heardWithSlips, odX11_heardWithSlips, by decide +kernel, by decide +kernel⟩
set_option maxRecDepth 100000 in
theorem fa_X11_hearerIn : aF fK mX11_hearerIn := ⟨oX11_hearerIn, odX11_hearerIn, by decide +kernel, by decide +kernel⟩
set_option maxRecDepth 100000 in
theorem fa_X11_noteAt : aF fK mX11_noteAt := ⟨oX11_noteAt, odX11_noteAt, by decide +kernel, by decide +kernel⟩
set_option maxRecDepth 100000 in
theorem fa_X11_sentPart : aF fK mX11_sentPart := ⟨oX11_sentPart, odX11_sentPart, by decide +kernel, by decide +kernel⟩
set_option maxRecDepth 100000 in
theorem fa_X11_solveMatch : aF fK mX11_solveMatch := ⟨oX11_solveMatch, odX11_solveMatch, by decide +kernel, by decide +kernel⟩
set_option maxRecDepth 100000 in
theorem fa_X11_unlikeNotes : aF fK mX11_unlikeNotes := ⟨oX11_unlikeNotes, odX11_unlikeNotes, by decide +kernel, by decide +kernel⟩
set_option maxRecDepth 100000 in
theorem fa_X11_withNote : aF fK mX11_withNote := ⟨oX11_withNote, odX11_withNote, by decide +kernel, by decide +kernel⟩
set_option maxRecDepth 100000 in
theorem fa_X12_apartOf : aF fK mX12_apartOf := ⟨oX12_apartOf, odX12_apartOf, by decide +kernel, by decide +kernel⟩
set_option maxRecDepth 100000 in
theorem fa_X12_arrivalOf : aF fK mX12_arrivalOf := ⟨oX12_arrivalOf, odX12_arrivalOf, by decide +kernel, by decide +kernel⟩
set_option maxRecDepth 100000 in
theorem fa_X12_boxLong : aF fK mX12_boxLong := ⟨oX12_boxLong, odX12_boxLong, by decide +kernel, by decide +kernel⟩
set_option maxRecDepth 100000 in
theorem fa_X12_bringsOf : aF fK mX12_bringsOf := ⟨oX12_bringsOf, odX12_bringsOf, by decide +kernel, by decide +kernel⟩
set_option maxRecDepth 100000 in
theorem fa_X12_copy : aF fK mX12_copy := ⟨oX12_copy, odX12_copy, by decide +kernel, by decide +kernel⟩
set_option maxRecDepth 100000 in
theorem fa_X12_dayBy : aF fK mX12_dayBy := ⟨oX12_dayBy, odX12_dayBy, by decide +kernel, by decide +kernel⟩
set_option maxRecDepth 100000 in
theorem fa_X12_digitsApart : aF fK mX12_digitsApart := ⟨oX12_digitsApart, odX12_digitsApart, by decide +kernel, by decide +kernel⟩
set_option maxRecDepth 100000 in
theorem fa_X12_doLead : aF fK mX12_doLead := ⟨oX12_doLead, odX12_doLead, by decide +kernel, by decide +kernel⟩
set_option maxRecDepth 100000 in
theorem fa_X12_fitsAll : aF fK mX12_fitsAll := ⟨oX12_fitsAll, odX12_fitsAll, by decide +kernel, by decide +kernel⟩
set_option maxRecDepth 100000 in
theorem fa_X12_goesBy : aF fK mX12_goesBy := ⟨oX12_goesBy, odX12_goesBy, by decide +kernel, by decide +kernel⟩
set_option maxRecDepth 100000 in
theorem fa_X12_hasBit : aF fK mX12_hasBit := ⟨oX12_hasBit, odX12_hasBit, by decide +kernel, by decide +kernel⟩
set_option maxRecDepth 100000 in
theorem fa_X12_heardNow : aF fK mX12_heardNow := ⟨oX12_heardNow, odX12_heardNow, by decide +kernel, by decide +kernel⟩
set_option maxRecDepth 100000 in
theorem fa_X12_hearsIn : aF fK mX12_hearsIn := ⟨oX12_hearsIn, odX12_hearsIn, by decide +kernel, by decide +kernel⟩
set_option maxRecDepth 100000 in
theorem fa_X12_hearsItself : aF fK mX12_hearsItself := ⟨oX12_hearsItself, odX12_hearsItself, by decide +kernel, by decide +kernel⟩
set_option maxRecDepth 100000 in
theorem fa_X12_in : aF fK mX12_in := ⟨oX12_in, odX12_in, by decide +kernel, by decide +kernel⟩
set_option maxRecDepth 100000 in
theorem fa_X12_isClosed : aF fK mX12_isClosed := ⟨oX12_isClosed, odX12_isClosed, by decide +kernel, by decide +kernel⟩
set_option maxRecDepth 100000 in
theorem fa_X12_joins : aF fK mX12_joins := ⟨oX12_joins, odX12_joins, by decide +kernel, by decide +kernel⟩
set_option maxRecDepth 100000 in
theorem fa_X12_later : aF fK mX12_later := ⟨oX12_later, odX12_later, by decide +kernel, by decide +kernel⟩
set_option maxRecDepth 100000 in
theorem fa_X12_layDays : aF fK mX12_layDays := ⟨oX12_layDays, odX12_layDays, by decide +kernel, by decide +kernel⟩
set_option maxRecDepth 100000 in
theorem fa_X12_layFar : aF fK mX12_layFar := ⟨oX12_layFar, odX12_layFar, by decide +kernel, by decide +kernel⟩
set_option maxRecDepth 100000 in
theorem fa_X12_lays : aF fK mX12_lays := ⟨oX12_lays, odX12_lays, by decide +kernel, by decide +kernel⟩
set_option maxRecDepth 100000 in
theorem fa_X12_lowest : aF fK mX12_lowest := ⟨oX12_lowest, odX12_lowest, by decide +kernel, by decide +kernel⟩
set_option maxRecDepth 100000 in
theorem fa_X12_nearOf : aF fK mX12_nearOf := ⟨oX12_nearOf, odX12_nearOf, by decide +kernel, by decide +kernel⟩
set_option maxRecDepth 100000 in
theorem fa_X12_newSongs : aF fK mX12_newSongs := ⟨oX12_newSongs, odX12_newSongs, by decide +kernel, by decide +kernel⟩
set_option maxRecDepth 100000 in
theorem fa_X12_noteIn : aF fK mX12_noteIn := ⟨oX12_noteIn, odX12_noteIn, by decide +kernel, by decide +kernel⟩
set_option maxRecDepth 100000 in
theorem fa_X12_ofBox : aF fK mX12_ofBox := ⟨oX12_ofBox, odX12_ofBox, by decide +kernel, by decide +kernel⟩
set_option maxRecDepth 100000 in
theorem fa_X12_ofWhale : aF fK mX12_ofWhale := ⟨oX12_ofWhale, odX12_ofWhale, by decide +kernel, by decide +kernel⟩
set_option maxRecDepth 100000 in
theorem fa_X12_ones : aF fK mX12_ones := ⟨oX12_ones, odX12_ones, by decide +kernel, by decide +kernel⟩
set_option maxRecDepth 100000 in
theorem fa_X12_power : aF fK mX12_power := ⟨oX12_power, odX12_power, by decide +kernel, by decide +kernel⟩
set_option maxRecDepth 100000 in
theorem fa_X12_reachOf : aF fK mX12_reachOf := ⟨oX12_reachOf, odX12_reachOf, by decide +kernel, by decide +kernel⟩
set_option maxRecDepth 100000 in
theorem fa_X12_seasonOf : aF fK mX12_seasonOf := ⟨oX12_seasonOf, odX12_seasonOf, by decide +kernel, by decide +kernel⟩
set_option maxRecDepth 100000 in
theorem fa_X12_seekMatch : aF fK mX12_seekMatch := ⟨oX12_seekMatch, odX12_seekMatch, by decide +kernel, by decide +kernel⟩
set_option maxRecDepth 100000 in
theorem fa_X12_seekRound : aF fK mX12_seekRound := ⟨oX12_seekRound, odX12_seekRound, by decide +kernel, by decide +kernel⟩
set_option maxRecDepth 100000 in
theorem fa_X12_setsOut : aF fK mX12_setsOut := ⟨oX12_setsOut, odX12_setsOut, by decide +kernel, by decide +kernel⟩
set_option maxRecDepth 100000 in
theorem fa_X12_songLong : aF fK mX12_songLong := ⟨oX12_songLong, odX12_songLong, by decide +kernel, by decide +kernel⟩
set_option maxRecDepth 100000 in
theorem fa_X12_surestBut : aF fK mX12_surestBut := ⟨oX12_surestBut, odX12_surestBut, by decide +kernel, by decide +kernel⟩
set_option maxRecDepth 100000 in
theorem fa_X12_tryMatch : aF fK mX12_tryMatch := ⟨oX12_tryMatch, odX12_tryMatch, by decide +kernel, by decide +kernel⟩
set_option maxRecDepth 100000 in
theorem fa_X12_tryRound : aF fK mX12_tryRound := ⟨oX12_tryRound, odX12_tryRound, by decide +kernel, by decide +kernel⟩
set_option maxRecDepth 100000 in
theorem fa_X12_unlike : aF fK mX12_unlike := ⟨oX12_unlike, odX12_unlike, by decide +kernel, by decide +kernel⟩
set_option maxRecDepth 100000 in
theorem fa_X12_wayOf : aF fK mX12_wayOf := ⟨oX12_wayOf, odX12_wayOf, by decide +kernel, by decide +kernel⟩
set_option maxRecDepth 100000 in
theorem fa_X1_choose : aF fK mX1_choose := ⟨oX1_choose, odX1_choose, by decide +kernel, by decide +kernel⟩
set_option maxRecDepth 100000 in
theorem fa_X1_firstBest : aF fK mX1_firstBest := ⟨oX1_firstBest, odX1_firstBest, by decide +kernel, by decide +kernel⟩
set_option maxRecDepth 100000 in
theorem fa_X1_solve : aF fK mX1_solve := ⟨oX1_solve, odX1_solve, by decide +kernel, by decide +kernel⟩
set_option maxRecDepth 100000 in
theorem fa_X1_worth : aF fK mX1_worth := ⟨oX1_worth, odX1_worth, by decide +kernel, by decide +kernel⟩
set_option maxRecDepth 100000 in
theorem fa_X2_isClosed : aF fK mX2_isClosed := ⟨oX2_isClosed, odX2_isClosed, by decide +kernel, by decide +kernel⟩
set_option maxRecDepth 100000 in
theorem fa_X2_isSent : aF fK mX2_isSent := ⟨oX2_isSent, odX2_isSent, by decide +kernel, by decide +kernel⟩
set_option maxRecDepth 100000 in
theorem fa_X3_daysOver : aF fK mX3_daysOver := ⟨oX3_daysOver, odX3_daysOver, by decide +kernel, by decide +kernel⟩
set_option maxRecDepth 100000 in
theorem fa_X3_fewestToWatch : aF fK mX3_fewestToWatch := ⟨oX3_fewestToWatch, odX3_fewestToWatch, by decide +kernel, by decide +kernel⟩
set_option maxRecDepth 100000 in
theorem fa_X3_findRests : aF fK mX3_findRests := ⟨oX3_findRests, odX3_findRests, by decide +kernel, by decide +kernel⟩
set_option maxRecDepth 100000 in
theorem fa_X3_findRound : aF fK mX3_findRound := ⟨oX3_findRound, odX3_findRound, by decide +kernel, by decide +kernel⟩
set_option maxRecDepth 100000 in
theorem fa_X3_findShortest : aF fK mX3_findShortest := ⟨oX3_findShortest, odX3_findShortest, by decide +kernel, by decide +kernel⟩
set_option maxRecDepth 100000 in
theorem fa_X3_nextOf : aF fK mX3_nextOf := ⟨oX3_nextOf, odX3_nextOf, by decide +kernel, by decide +kernel⟩
set_option maxRecDepth 100000 in
theorem fa_X3_waysOutOf : aF fK mX3_waysOutOf := ⟨oX3_waysOutOf, odX3_waysOutOf, by decide +kernel, by decide +kernel⟩
set_option maxRecDepth 100000 in
theorem fa_X4_boxLength : aF fK mX4_boxLength := ⟨oX4_boxLength, odX4_boxLength, by decide +kernel, by decide +kernel⟩
set_option maxRecDepth 100000 in
theorem fa_X4_lastSpoutOf : aF fK mX4_lastSpoutOf := ⟨oX4_lastSpoutOf, odX4_lastSpoutOf, by decide +kernel, by decide +kernel⟩
set_option maxRecDepth 100000 in
theorem fa_X4_wayBetween : aF fK mX4_wayBetween := ⟨oX4_wayBetween, odX4_wayBetween, by decide +kernel, by decide +kernel⟩
set_option maxRecDepth 100000 in
theorem fa_X6_bestPier : aF fK mX6_bestPier := ⟨oX6_bestPier, odX6_bestPier, by decide +kernel, by decide +kernel⟩
set_option maxRecDepth 100000 in
theorem fa_X6_bringersBy : aF fK mX6_bringersBy := ⟨oX6_bringersBy, odX6_bringersBy, by decide +kernel, by decide +kernel⟩
set_option maxRecDepth 100000 in
theorem fa_X6_dayOfBringing : aF fK mX6_dayOfBringing := ⟨oX6_dayOfBringing, odX6_dayOfBringing, by decide +kernel, by decide +kernel⟩
set_option maxRecDepth 100000 in
theorem fa_X6_dayOfLeaving : aF fK mX6_dayOfLeaving := ⟨oX6_dayOfLeaving, odX6_dayOfLeaving, by decide +kernel, by decide +kernel⟩
set_option maxRecDepth 100000 in
theorem fa_X6_dayOfMeeting : aF fK mX6_dayOfMeeting := ⟨oX6_dayOfMeeting, odX6_dayOfMeeting, by decide +kernel, by decide +kernel⟩
set_option maxRecDepth 100000 in
theorem fa_X6_findFirstDays : aF fK mX6_findFirstDays := ⟨oX6_findFirstDays, odX6_findFirstDays, by decide +kernel, by decide +kernel⟩
set_option maxRecDepth 100000 in
theorem fa_X6_firstDayAt : aF fK mX6_firstDayAt := ⟨oX6_firstDayAt, odX6_firstDayAt, by decide +kernel, by decide +kernel⟩
set_option maxRecDepth 100000 in
theorem fa_X6_fittingWhales : aF fK mX6_fittingWhales := ⟨oX6_fittingWhales, odX6_fittingWhales, by decide +kernel, by decide +kernel⟩
set_option maxRecDepth 100000 in
theorem fa_X6_goes : aF fK mX6_goes := ⟨oX6_goes, odX6_goes, by decide +kernel, by decide +kernel⟩
set_option maxRecDepth 100000 in
theorem fa_X6_isFitting : aF fK mX6_isFitting := ⟨oX6_isFitting, odX6_isFitting, by decide +kernel, by decide +kernel⟩
set_option maxRecDepth 100000 in
theorem fa_X6_islandsReached : aF fK mX6_islandsReached := ⟨oX6_islandsReached, odX6_islandsReached, by decide +kernel, by decide +kernel⟩
set_option maxRecDepth 100000 in
theorem fa_X6_soonestBringer : aF fK mX6_soonestBringer := ⟨oX6_soonestBringer, odX6_soonestBringer, by decide +kernel, by decide +kernel⟩
set_option maxRecDepth 100000 in
theorem fa_X6_surestBringer : aF fK mX6_surestBringer := ⟨oX6_surestBringer, odX6_surestBringer, by decide +kernel, by decide +kernel⟩
set_option maxRecDepth 100000 in
theorem fa_X6_whalesReaching : aF fK mX6_whalesReaching := ⟨oX6_whalesReaching, odX6_whalesReaching, by decide +kernel, by decide +kernel⟩
set_option maxRecDepth 100000 in
theorem fa_X7_apartness : aF fK mX7_apartness := ⟨oX7_apartness, odX7_apartness, by decide +kernel, by decide +kernel⟩
set_option maxRecDepth 100000 in
theorem fa_X7_bearable : aF fK mX7_bearable := ⟨oX7_bearable, odX7_bearable, by decide +kernel, by decide +kernel⟩
set_option maxRecDepth 100000 in
theorem fa_X7_draw : aF fK mX7_draw := ⟨oX7_draw, odX7_draw, by decide +kernel, by decide +kernel⟩
set_option maxRecDepth 100000 in
theorem fa_X7_fallIn : aF fK mX7_fallIn := ⟨oX7_fallIn, odX7_fallIn, by decide +kernel, by decide +kernel⟩
set_option maxRecDepth 100000 in
theorem fa_X7_findNew : aF fK mX7_findNew := ⟨oX7_findNew, odX7_findNew, by decide +kernel, by decide +kernel⟩
set_option maxRecDepth 100000 in
theorem fa_X7_hearerOf : aF fK mX7_hearerOf := ⟨oX7_hearerOf, odX7_hearerOf, by decide +kernel, by decide +kernel⟩
set_option maxRecDepth 100000 in
theorem fa_X7_isFarFromKept : aF fK mX7_isFarFromKept := ⟨oX7_isFarFromKept, odX7_isFarFromKept, by decide +kernel, by decide +kernel⟩
set_option maxRecDepth 100000 in
theorem fa_X7_isOfNotes : aF fK mX7_isOfNotes := ⟨oX7_isOfNotes, odX7_isOfNotes, by decide +kernel, by decide +kernel⟩
set_option maxRecDepth 100000 in
theorem fa_X7_keepSongsOf : aF fK mX7_keepSongsOf := ⟨oX7_keepSongsOf, odX7_keepSongsOf, by decide +kernel, by decide +kernel⟩
set_option maxRecDepth 100000 in
theorem fa_X7_mixedPairs : aF fK mX7_mixedPairs := ⟨oX7_mixedPairs, odX7_mixedPairs, by decide +kernel, by decide +kernel⟩
set_option maxRecDepth 100000 in
theorem fa_X7_raised : aF fK mX7_raised := ⟨oX7_raised, odX7_raised, by decide +kernel, by decide +kernel⟩
set_option maxRecDepth 100000 in
theorem fa_X7_slipped : aF fK mX7_slipped := ⟨oX7_slipped, odX7_slipped, by decide +kernel, by decide +kernel⟩
set_option maxRecDepth 100000 in
theorem fa_X7_songIn : aF fK mX7_songIn := ⟨oX7_songIn, odX7_songIn, by decide +kernel, by decide +kernel⟩
def fKs0 : List (Nat × Nat) := [(1, 28), (1, 34), (1, 38), (1, 44), (1, 49), (3, 31), (3, 35), (3, 55), (3, 59), (3, 63), (3, 67), (3, 76), (3, 81), (6, 38), (6, 64), (6, 70), (6, 80), (6, 84), (6, 96), (6, 115), (6, 122), (6, 136), (6, 143), (6, 155), (6, 161), (6, 164), (6, 185), (6, 188), (6, 192), (6, 197), (6, 200), (6, 203), (7, 40), (7, 50), (7, 54), (7, 60), (7, 67), (7, 70), (7, 73), (7, 77)]
set_option maxRecDepth 100000 in
theorem fKa0 : ∀ q ∈ fKs0, ∃ kd na cm, zmth q.1 q.2 = some (kd, na, cm) ∧ ((kd = 11 ∨ kd = 12 ∨ kd = 13) ∨ ((kd = 0 ∨ kd = 1 ∨ kd = 3) ∧ aF fK cm)) := (List.forall_mem_cons.mpr ⟨⟨1, 2, mJ7_fill_53178, ml_1_28, .inr ⟨by decide, fa_J7_fill_53178⟩⟩, (List.forall_mem_cons.mpr ⟨⟨0, 4, mX1_worth, ml_1_34, .inr ⟨by decide, fa_X1_worth⟩⟩, (List.forall_mem_cons.mpr ⟨⟨11, _, _, ml_1_38, .inl (by decide)⟩, (List.forall_mem_cons.mpr ⟨⟨0, 3, mX1_choose, ml_1_44, .inr ⟨by decide, fa_X1_choose⟩⟩, (List.forall_mem_cons.mpr ⟨⟨0, 4, mX1_firstBest, ml_1_49, .inr ⟨by decide, fa_X1_firstBest⟩⟩, (List.forall_mem_cons.mpr ⟨⟨0, 2, mX3_waysOutOf, ml_3_31, .inr ⟨by decide, fa_X3_waysOutOf⟩⟩, (List.forall_mem_cons.mpr ⟨⟨1, 1, mJ6_bitCount_0f7a4, ml_3_35, .inr ⟨by decide, fa_J6_bitCount_0f7a4⟩⟩, (List.forall_mem_cons.mpr ⟨⟨0, 2, mX3_findShortest, ml_3_55, .inr ⟨by decide, fa_X3_findShortest⟩⟩, (List.forall_mem_cons.mpr ⟨⟨0, 1, mX3_findRests, ml_3_59, .inr ⟨by decide, fa_X3_findRests⟩⟩, (List.forall_mem_cons.mpr ⟨⟨0, 3, mX3_nextOf, ml_3_63, .inr ⟨by decide, fa_X3_nextOf⟩⟩, (List.forall_mem_cons.mpr ⟨⟨1, 2, mJ7_fill_53178, ml_3_67, .inr ⟨by decide, fa_J7_fill_53178⟩⟩, (List.forall_mem_cons.mpr ⟨⟨12, _, _, ml_3_76, .inl (by decide)⟩, (List.forall_mem_cons.mpr ⟨⟨0, 4, mX3_daysOver, ml_3_81, .inr ⟨by decide, fa_X3_daysOver⟩⟩, (List.forall_mem_cons.mpr ⟨⟨1, 2, mJ7_fill_53178, ml_6_38, .inr ⟨by decide, fa_J7_fill_53178⟩⟩, (List.forall_mem_cons.mpr ⟨⟨0, 2, mX2_isClosed, ml_6_64, .inr ⟨by decide, fa_X2_isClosed⟩⟩, (List.forall_mem_cons.mpr ⟨⟨0, 5, mX6_goes, ml_6_70, .inr ⟨by decide, fa_X6_goes⟩⟩, (List.forall_mem_cons.mpr ⟨⟨0, 4, mX6_dayOfLeaving, ml_6_80, .inr ⟨by decide, fa_X6_dayOfLeaving⟩⟩, (List.forall_mem_cons.mpr ⟨⟨0, 4, mX6_findFirstDays, ml_6_84, .inr ⟨by decide, fa_X6_findFirstDays⟩⟩, (List.forall_mem_cons.mpr ⟨⟨0, 2, mX2_isSent, ml_6_96, .inr ⟨by decide, fa_X2_isSent⟩⟩, (List.forall_mem_cons.mpr ⟨⟨0, 2, mX4_boxLength, ml_6_115, .inr ⟨by decide, fa_X4_boxLength⟩⟩, (List.forall_mem_cons.mpr ⟨⟨0, 4, mX7_hearerOf, ml_6_122, .inr ⟨by decide, fa_X7_hearerOf⟩⟩, (List.forall_mem_cons.mpr ⟨⟨0, 5, mX6_firstDayAt, ml_6_136, .inr ⟨by decide, fa_X6_firstDayAt⟩⟩, (List.forall_mem_cons.mpr ⟨⟨11, _, _, ml_6_143, .inl (by decide)⟩, (List.forall_mem_cons.mpr ⟨⟨0, 3, mX6_dayOfBringing, ml_6_155, .inr ⟨by decide, fa_X6_dayOfBringing⟩⟩, (List.forall_mem_cons.mpr ⟨⟨12, _, _, ml_6_161, .inl (by decide)⟩, (List.forall_mem_cons.mpr ⟨⟨0, 2, mX6_isFitting, ml_6_164, .inr ⟨by decide, fa_X6_isFitting⟩⟩, (List.forall_mem_cons.mpr ⟨⟨0, 2, mX4_lastSpoutOf, ml_6_185, .inr ⟨by decide, fa_X4_lastSpoutOf⟩⟩, (List.forall_mem_cons.mpr ⟨⟨0, 1, mX6_fittingWhales, ml_6_188, .inr ⟨by decide, fa_X6_fittingWhales⟩⟩, (List.forall_mem_cons.mpr ⟨⟨1, 1, mJ6_bitCount_0f7a4, ml_6_192, .inr ⟨by decide, fa_J6_bitCount_0f7a4⟩⟩, (List.forall_mem_cons.mpr ⟨⟨0, 3, mX6_whalesReaching, ml_6_197, .inr ⟨by decide, fa_X6_whalesReaching⟩⟩, (List.forall_mem_cons.mpr ⟨⟨13, _, _, ml_6_200, .inl (by decide)⟩, (List.forall_mem_cons.mpr ⟨⟨0, 3, mX6_islandsReached, ml_6_203, .inr ⟨by decide, fa_X6_islandsReached⟩⟩, (List.forall_mem_cons.mpr ⟨⟨3, 3, mX11_noteAt, ml_7_40, .inr ⟨by decide, fa_X11_noteAt⟩⟩, (List.forall_mem_cons.mpr ⟨⟨0, 2, mX7_fallIn, ml_7_50, .inr ⟨by decide, fa_X7_fallIn⟩⟩, (List.forall_mem_cons.mpr ⟨⟨0, 4, mX7_raised, ml_7_54, .inr ⟨by decide, fa_X7_raised⟩⟩, (List.forall_mem_cons.mpr ⟨⟨3, 2, mX11_unlikeNotes, ml_7_60, .inr ⟨by decide, fa_X11_unlikeNotes⟩⟩, (List.forall_mem_cons.mpr ⟨⟨0, 3, mX7_apartness, ml_7_67, .inr ⟨by decide, fa_X7_apartness⟩⟩, (List.forall_mem_cons.mpr ⟨⟨0, 3, mX7_keepSongsOf, ml_7_70, .inr ⟨by decide, fa_X7_keepSongsOf⟩⟩, (List.forall_mem_cons.mpr ⟨⟨0, 3, mX7_isOfNotes, ml_7_73, .inr ⟨by decide, fa_X7_isOfNotes⟩⟩, (List.forall_mem_cons.mpr ⟨⟨0, 4, mX7_isFarFromKept, ml_7_77, .inr ⟨by decide, fa_X7_isFarFromKept⟩⟩, (fun _ q => nomatch q)⟩)⟩)⟩)⟩)⟩)⟩)⟩)⟩)⟩)⟩)⟩)⟩)⟩)⟩)⟩)⟩)⟩)⟩)⟩)⟩)⟩)⟩)⟩)⟩)⟩)⟩)⟩)⟩)⟩)⟩)⟩)⟩)⟩)⟩)⟩)⟩)⟩)⟩)⟩)⟩)
def fKs1 : List (Nat × Nat) := [(7, 81), (7, 85), (7, 92), (11, 183), (11, 187), (11, 198), (11, 201), (11, 207), (11, 210), (11, 236), (11, 242), (11, 245), (11, 248), (11, 251), (11, 255), (11, 261), (11, 277), (11, 280), (11, 283), (11, 286), (11, 289), (11, 292), (11, 295), (11, 298), (11, 310), (11, 313), (11, 316), (11, 319), (11, 325), (11, 328), (11, 338), (11, 399), (11, 404), (11, 408), (11, 411), (12, 149), (12, 176), (12, 230), (12, 262), (12, 265)]
set_option maxRecDepth 100000 in
theorem fKa1 : ∀ q ∈ fKs1, ∃ kd na cm, zmth q.1 q.2 = some (kd, na, cm) ∧ ((kd = 11 ∨ kd = 12 ∨ kd = 13) ∨ ((kd = 0 ∨ kd = 1 ∨ kd = 3) ∧ aF fK cm)) := (List.forall_mem_cons.mpr ⟨⟨0, 3, mX7_songIn, ml_7_81, .inr ⟨by decide, fa_X7_songIn⟩⟩, (List.forall_mem_cons.mpr ⟨⟨0, 1, mX7_draw, ml_7_85, .inr ⟨by decide, fa_X7_draw⟩⟩, (List.forall_mem_cons.mpr ⟨⟨3, 4, mX11_withNote, ml_7_92, .inr ⟨by decide, fa_X11_withNote⟩⟩, (List.forall_mem_cons.mpr ⟨⟨0, 3, mX7_songIn, ml_11_183, .inr ⟨by decide, fa_X7_songIn⟩⟩, (List.forall_mem_cons.mpr ⟨⟨1, 3, mX11_noteAt, ml_11_187, .inr ⟨by decide, fa_X11_noteAt⟩⟩, (List.forall_mem_cons.mpr ⟨⟨0, 2, mX4_boxLength, ml_11_198, .inr ⟨by decide, fa_X4_boxLength⟩⟩, (List.forall_mem_cons.mpr ⟨⟨0, 3, mX11_hearerIn, ml_11_201, .inr ⟨by decide, fa_X11_hearerIn⟩⟩, (List.forall_mem_cons.mpr ⟨⟨0, 3, mX4_wayBetween, ml_11_207, .inr ⟨by decide, fa_X4_wayBetween⟩⟩, (List.forall_mem_cons.mpr ⟨⟨0, 2, mX2_isClosed, ml_11_210, .inr ⟨by decide, fa_X2_isClosed⟩⟩, (List.forall_mem_cons.mpr ⟨⟨0, 4, mX6_dayOfLeaving, ml_11_236, .inr ⟨by decide, fa_X6_dayOfLeaving⟩⟩, (List.forall_mem_cons.mpr ⟨⟨0, 2, mX2_isSent, ml_11_242, .inr ⟨by decide, fa_X2_isSent⟩⟩, (List.forall_mem_cons.mpr ⟨⟨0, 3, mX11_sentPart, ml_11_245, .inr ⟨by decide, fa_X11_sentPart⟩⟩, (List.forall_mem_cons.mpr ⟨⟨0, 3, mX7_apartness, ml_11_248, .inr ⟨by decide, fa_X7_apartness⟩⟩, (List.forall_mem_cons.mpr ⟨⟨0, 1, mX7_bearable, ml_11_251, .inr ⟨by decide, fa_X7_bearable⟩⟩, (List.forall_mem_cons.mpr ⟨⟨0, 1, mX7_mixedPairs, ml_11_255, .inr ⟨by decide, fa_X7_mixedPairs⟩⟩, (List.forall_mem_cons.mpr ⟨⟨0, 5, mX7_findNew, ml_11_261, .inr ⟨by decide, fa_X7_findNew⟩⟩, (List.forall_mem_cons.mpr ⟨⟨0, 4, mX7_hearerOf, ml_11_277, .inr ⟨by decide, fa_X7_hearerOf⟩⟩, (List.forall_mem_cons.mpr ⟨⟨0, 5, mX6_firstDayAt, ml_11_280, .inr ⟨by decide, fa_X6_firstDayAt⟩⟩, (List.forall_mem_cons.mpr ⟨⟨0, 3, mX6_dayOfBringing, ml_11_283, .inr ⟨by decide, fa_X6_dayOfBringing⟩⟩, (List.forall_mem_cons.mpr ⟨⟨0, 2, mX6_soonestBringer, ml_11_286, .inr ⟨by decide, fa_X6_soonestBringer⟩⟩, (List.forall_mem_cons.mpr ⟨⟨0, 3, mX6_surestBringer, ml_11_289, .inr ⟨by decide, fa_X6_surestBringer⟩⟩, (List.forall_mem_cons.mpr ⟨⟨0, 3, mX6_bringersBy, ml_11_292, .inr ⟨by decide, fa_X6_bringersBy⟩⟩, (List.forall_mem_cons.mpr ⟨⟨1, 2, mX11_commonDivisor, ml_11_295, .inr ⟨by decide, fa_X11_commonDivisor⟩⟩, (List.forall_mem_cons.mpr ⟨⟨0, 1, mX11_solveMatch, ml_11_298, .inr ⟨by decide, fa_X11_solveMatch⟩⟩, (List.forall_mem_cons.mpr ⟨⟨0, 5, mX6_dayOfMeeting, ml_11_310, .inr ⟨by decide, fa_X6_dayOfMeeting⟩⟩, (List.forall_mem_cons.mpr ⟨⟨0, 1, mX6_fittingWhales, ml_11_313, .inr ⟨by decide, fa_X6_fittingWhales⟩⟩, (List.forall_mem_cons.mpr ⟨⟨0, 3, mX6_islandsReached, ml_11_316, .inr ⟨by decide, fa_X6_islandsReached⟩⟩, (List.forall_mem_cons.mpr ⟨⟨0, 2, mX6_bestPier, ml_11_319, .inr ⟨by decide, fa_X6_bestPier⟩⟩, (List.forall_mem_cons.mpr ⟨⟨0, 4, mX3_fewestToWatch, ml_11_325, .inr ⟨by decide, fa_X3_fewestToWatch⟩⟩, (List.forall_mem_cons.mpr ⟨⟨0, 3, mX3_findRound, ml_11_328, .inr ⟨by decide, fa_X3_findRound⟩⟩, (List.forall_mem_cons.mpr ⟨⟨0, 2, mX11_heardWithSlips, ml_11_338, .inr ⟨by decide, fa_X11_heardWithSlips⟩⟩, (List.forall_mem_cons.mpr ⟨⟨0, 3, mX7_slipped, ml_11_399, .inr ⟨by decide, fa_X7_slipped⟩⟩, (List.forall_mem_cons.mpr ⟨⟨0, 3, mX1_solve, ml_11_404, .inr ⟨by decide, fa_X1_solve⟩⟩, (List.forall_mem_cons.mpr ⟨⟨11, _, _, ml_11_408, .inl (by decide)⟩, (List.forall_mem_cons.mpr ⟨⟨1, 1, mJ6_bitCount_0f7a4, ml_11_411, .inr ⟨by decide, fa_J6_bitCount_0f7a4⟩⟩, (List.forall_mem_cons.mpr ⟨⟨1, 3, mX12_in, ml_12_149, .inr ⟨by decide, fa_X12_in⟩⟩, (List.forall_mem_cons.mpr ⟨⟨1, 5, mX12_copy, ml_12_176, .inr ⟨by decide, fa_X12_copy⟩⟩, (List.forall_mem_cons.mpr ⟨⟨1, 4, mX12_joins, ml_12_230, .inr ⟨by decide, fa_X12_joins⟩⟩, (List.forall_mem_cons.mpr ⟨⟨0, 3, mX12_ofBox, ml_12_262, .inr ⟨by decide, fa_X12_ofBox⟩⟩, (List.forall_mem_cons.mpr ⟨⟨0, 2, mX12_songLong, ml_12_265, .inr ⟨by decide, fa_X12_songLong⟩⟩, (fun _ q => nomatch q)⟩)⟩)⟩)⟩)⟩)⟩)⟩)⟩)⟩)⟩)⟩)⟩)⟩)⟩)⟩)⟩)⟩)⟩)⟩)⟩)⟩)⟩)⟩)⟩)⟩)⟩)⟩)⟩)⟩)⟩)⟩)⟩)⟩)⟩)⟩)⟩)⟩)⟩)⟩)⟩)
def fKs2 : List (Nat × Nat) := [(12, 271), (12, 280), (12, 284), (12, 287), (12, 291), (12, 295), (12, 298), (12, 302), (12, 305), (12, 308), (12, 312), (12, 318), (12, 321), (12, 327), (12, 331), (12, 334), (12, 337), (12, 342), (12, 346), (12, 349), (12, 352), (12, 355), (12, 364), (12, 367), (12, 370), (12, 375), (12, 385), (12, 389), (12, 398), (12, 401), (12, 404), (12, 407), (12, 413), (12, 416), (12, 419)]
set_option maxRecDepth 100000 in
theorem fKa2 : ∀ q ∈ fKs2, ∃ kd na cm, zmth q.1 q.2 = some (kd, na, cm) ∧ ((kd = 11 ∨ kd = 12 ∨ kd = 13) ∨ ((kd = 0 ∨ kd = 1 ∨ kd = 3) ∧ aF fK cm)) := (List.forall_mem_cons.mpr ⟨⟨0, 3, mX12_ofWhale, ml_12_271, .inr ⟨by decide, fa_X12_ofWhale⟩⟩, (List.forall_mem_cons.mpr ⟨⟨0, 4, mX12_noteIn, ml_12_280, .inr ⟨by decide, fa_X12_noteIn⟩⟩, (List.forall_mem_cons.mpr ⟨⟨0, 2, mX12_boxLong, ml_12_284, .inr ⟨by decide, fa_X12_boxLong⟩⟩, (List.forall_mem_cons.mpr ⟨⟨0, 6, mX12_unlike, ml_12_287, .inr ⟨by decide, fa_X12_unlike⟩⟩, (List.forall_mem_cons.mpr ⟨⟨0, 5, mX12_hearsIn, ml_12_291, .inr ⟨by decide, fa_X12_hearsIn⟩⟩, (List.forall_mem_cons.mpr ⟨⟨0, 2, mX12_heardNow, ml_12_295, .inr ⟨by decide, fa_X12_heardNow⟩⟩, (List.forall_mem_cons.mpr ⟨⟨1, 2, mX12_hasBit, ml_12_298, .inr ⟨by decide, fa_X12_hasBit⟩⟩, (List.forall_mem_cons.mpr ⟨⟨0, 2, mX12_isClosed, ml_12_302, .inr ⟨by decide, fa_X12_isClosed⟩⟩, (List.forall_mem_cons.mpr ⟨⟨0, 3, mX12_wayOf, ml_12_305, .inr ⟨by decide, fa_X12_wayOf⟩⟩, (List.forall_mem_cons.mpr ⟨⟨0, 3, mX12_nearOf, ml_12_308, .inr ⟨by decide, fa_X12_nearOf⟩⟩, (List.forall_mem_cons.mpr ⟨⟨0, 3, mX12_apartOf, ml_12_312, .inr ⟨by decide, fa_X12_apartOf⟩⟩, (List.forall_mem_cons.mpr ⟨⟨0, 2, mX12_power, ml_12_318, .inr ⟨by decide, fa_X12_power⟩⟩, (List.forall_mem_cons.mpr ⟨⟨0, 4, mX12_digitsApart, ml_12_321, .inr ⟨by decide, fa_X12_digitsApart⟩⟩, (List.forall_mem_cons.mpr ⟨⟨0, 4, mX12_newSongs, ml_12_327, .inr ⟨by decide, fa_X12_newSongs⟩⟩, (List.forall_mem_cons.mpr ⟨⟨0, 3, mX12_hearsItself, ml_12_331, .inr ⟨by decide, fa_X12_hearsItself⟩⟩, (List.forall_mem_cons.mpr ⟨⟨0, 4, mX12_setsOut, ml_12_334, .inr ⟨by decide, fa_X12_setsOut⟩⟩, (List.forall_mem_cons.mpr ⟨⟨1, 1, mX12_seasonOf, ml_12_337, .inr ⟨by decide, fa_X12_seasonOf⟩⟩, (List.forall_mem_cons.mpr ⟨⟨0, 4, mX12_goesBy, ml_12_342, .inr ⟨by decide, fa_X12_goesBy⟩⟩, (List.forall_mem_cons.mpr ⟨⟨0, 4, mX12_dayBy, ml_12_346, .inr ⟨by decide, fa_X12_dayBy⟩⟩, (List.forall_mem_cons.mpr ⟨⟨0, 4, mX12_layDays, ml_12_349, .inr ⟨by decide, fa_X12_layDays⟩⟩, (List.forall_mem_cons.mpr ⟨⟨0, 5, mX12_arrivalOf, ml_12_352, .inr ⟨by decide, fa_X12_arrivalOf⟩⟩, (List.forall_mem_cons.mpr ⟨⟨1, 2, mX12_later, ml_12_355, .inr ⟨by decide, fa_X12_later⟩⟩, (List.forall_mem_cons.mpr ⟨⟨0, 3, mX12_lays, ml_12_364, .inr ⟨by decide, fa_X12_lays⟩⟩, (List.forall_mem_cons.mpr ⟨⟨0, 3, mX12_bringsOf, ml_12_367, .inr ⟨by decide, fa_X12_bringsOf⟩⟩, (List.forall_mem_cons.mpr ⟨⟨0, 3, mX12_surestBut, ml_12_370, .inr ⟨by decide, fa_X12_surestBut⟩⟩, (List.forall_mem_cons.mpr ⟨⟨1, 3, mX12_lowest, ml_12_375, .inr ⟨by decide, fa_X12_lowest⟩⟩, (List.forall_mem_cons.mpr ⟨⟨0, 5, mX12_tryMatch, ml_12_385, .inr ⟨by decide, fa_X12_tryMatch⟩⟩, (List.forall_mem_cons.mpr ⟨⟨0, 1, mX12_seekMatch, ml_12_389, .inr ⟨by decide, fa_X12_seekMatch⟩⟩, (List.forall_mem_cons.mpr ⟨⟨0, 2, mX12_fitsAll, ml_12_398, .inr ⟨by decide, fa_X12_fitsAll⟩⟩, (List.forall_mem_cons.mpr ⟨⟨0, 3, mX12_reachOf, ml_12_401, .inr ⟨by decide, fa_X12_reachOf⟩⟩, (List.forall_mem_cons.mpr ⟨⟨1, 1, mX12_ones, ml_12_404, .inr ⟨by decide, fa_X12_ones⟩⟩, (List.forall_mem_cons.mpr ⟨⟨0, 4, mX12_doLead, ml_12_407, .inr ⟨by decide, fa_X12_doLead⟩⟩, (List.forall_mem_cons.mpr ⟨⟨0, 4, mX12_tryRound, ml_12_413, .inr ⟨by decide, fa_X12_tryRound⟩⟩, (List.forall_mem_cons.mpr ⟨⟨0, 1, mX12_layFar, ml_12_416, .inr ⟨by decide, fa_X12_layFar⟩⟩, (List.forall_mem_cons.mpr ⟨⟨0, 2, mX12_seekRound, ml_12_419, .inr ⟨by decide, fa_X12_seekRound⟩⟩, (fun _ q => nomatch q)⟩)⟩)⟩)⟩)⟩)⟩)⟩)⟩)⟩)⟩)⟩)⟩)⟩)⟩)⟩)⟩)⟩)⟩)⟩)⟩)⟩)⟩)⟩)⟩)⟩)⟩)⟩)⟩)⟩)⟩)⟩)⟩)⟩)⟩)⟩)
set_option maxRecDepth 100000 in
theorem fKe : fKs = fKs0 ++ fKs1 ++ fKs2 := rfl
theorem fKall : ∀ q ∈ fKs, ∃ kd na cm, zmth q.1 q.2 = some (kd, na, cm) ∧ ((kd = 11 ∨ kd = 12 ∨ kd = 13) ∨ ((kd = 0 ∨ kd = 1 ∨ kd = 3) ∧ aF fK cm)) := by
  rw [fKe]
  intro q hq
  simp only [List.mem_append] at hq
  rcases hq with (hq | hq) | hq
  · exact fKa0 q hq
  · exact fKa1 q hq
  · exact fKa2 q hq
theorem fK_ok : fKok fK := by
  intro own k hk kd na cm e
  obtain ⟨q, hq, h1⟩ := List.any_eq_true.mp hk
  simp only [Bool.and_eq_true] at h1
  have e1 : q.1 = own := by simpa using h1.1
  have e2 : q.2 = k := by simpa using h1.2
  obtain ⟨kd', na', cm', e3, h3⟩ := fKall q hq
  rw [e1, e2, e] at e3
  have e3 := Option.some.inj e3
  have a1 : kd = kd' := congrArg Prod.fst e3
  have a2 : cm = cm' := congrArg (fun z => z.2.2) e3
  rw [a1, a2]
  exact h3
theorem od_f {c : ByteArray} {o : List dLf} {p : dLf → Bool} (h : ∀ q ∈ o, decode c q.1 = .ok (q.2.1, q.2.2)) : ∀ q ∈ o.filter p, decode c q.1 = .ok (q.2.1, q.2.2) := fun q hq => h q (List.mem_filter.mp hq).1
noncomputable def f3_where : aCd := List.filter (fun q => fIn [0, 1, 2, 5, 6, 9, 10, 13, 14, 17, 20, 21] q.1) oX12_where
set_option maxRecDepth 100000 in
theorem fk_where : aFl fK 12 f3_where = true := by decide +kernel
theorem G_where12 {N d pc : Nat} {ls : zL} {st : List zV} {h : zH} {Q : Option zV → zH → Prop} (hpc : f3_where.any (fun p => Nat.beq p.1 pc) = true) (hq : ∀ v g, hQ h g → Q v g) : zPn N none d mX12_where (pc, ls, st, h) Q :=
  fl_keep fK_ok (od_f odX12_where) fk_where hpc hq
noncomputable def f1_whale : aCd := List.filter (fun q => fIn [48, 49, 50, 53, 56, 57, 58, 61, 65, 66, 67, 70, 73, 74, 75, 79, 80, 81, 84, 87, 88, 89, 93, 94, 95, 98, 101, 102, 103, 106, 110, 111, 112, 115, 118, 119, 120, 123] q.1) oX11_whale
noncomputable def f2_whale : aCd := List.filter (fun q => fIn [64, 78, 92, 109, 126] q.1) oX11_whale
set_option maxRecDepth 100000 in
theorem fg_whale : aGr fK 11 112 f1_whale f2_whale = true ∧ aFl fK 11 f2_whale = true := by decide +kernel
theorem G_whale11 {N d pc : Nat} {ls : zL} {st : List zV} {h : zH} {Q : Option zV → zH → Prop} (hs : zsh h 0 = some (11, 16)) (h0 : ∀ a n, zsh h a = some (11, n) → a = 0) (hpc : f1_whale.any (fun p => Nat.beq p.1 pc) = true) (hq : ∀ v g, g.2.1 0 2 = 0 → Q v g) : zPn N none d mX11_whale (pc, ls, st, h) Q :=
  fl_grant fK_ok ml_11_112 rfl (od_f odX11_whale) (od_f odX11_whale) fg_whale.1 fg_whale.2 hs h0 hpc hq
noncomputable def f3_whale : aCd := List.filter (fun q => fIn [26, 27, 28, 56, 57, 58, 59, 62, 63, 64, 67, 68, 69, 70, 71, 72, 73, 76, 78, 79, 80, 81, 82, 83, 84, 85, 86, 87, 90] q.1) oX12_whale
set_option maxRecDepth 100000 in
theorem fk_whale : aFl fK 12 f3_whale = true := by decide +kernel
theorem G_whale12 {N d pc : Nat} {ls : zL} {st : List zV} {h : zH} {Q : Option zV → zH → Prop} (hpc : f3_whale.any (fun p => Nat.beq p.1 pc) = true) (hq : ∀ v g, hQ h g → Q v g) : zPn N none d mX12_whale (pc, ls, st, h) Q :=
  fl_keep fK_ok (od_f odX12_whale) fk_whale hpc hq
noncomputable def f1_box : aCd := List.filter (fun q => fIn [52, 53, 54, 57, 60, 61, 62, 65, 69, 70, 71, 74, 77, 78, 79, 82, 86, 87, 88, 91, 94, 95, 96, 99, 103, 104, 105, 108, 111, 112, 113, 116, 120, 121, 122, 125, 128, 129, 130, 134, 135, 136, 139, 142, 143, 144] q.1) oX11_box
noncomputable def f2_box : aCd := List.filter (fun q => fIn [68, 85, 102, 119, 133, 147] q.1) oX11_box
set_option maxRecDepth 100000 in
theorem fg_box : aGr fK 11 112 f1_box f2_box = true ∧ aFl fK 11 f2_box = true := by decide +kernel
theorem G_box11 {N d pc : Nat} {ls : zL} {st : List zV} {h : zH} {Q : Option zV → zH → Prop} (hs : zsh h 0 = some (11, 16)) (h0 : ∀ a n, zsh h a = some (11, n) → a = 0) (hpc : f1_box.any (fun p => Nat.beq p.1 pc) = true) (hq : ∀ v g, g.2.1 0 2 = 0 → Q v g) : zPn N none d mX11_box (pc, ls, st, h) Q :=
  fl_grant fK_ok ml_11_112 rfl (od_f odX11_box) (od_f odX11_box) fg_box.1 fg_box.2 hs h0 hpc hq
noncomputable def f3_box : aCd := List.filter (fun q => fIn [26, 27, 28, 29, 32, 33, 34, 35, 38, 39, 40, 41, 44, 45, 48, 50, 51, 52, 53, 56, 57, 60, 62, 63, 64, 65, 66, 67, 70, 72, 75, 76, 77, 78] q.1) oX12_box
set_option maxRecDepth 100000 in
theorem fk_box : aFl fK 12 f3_box = true := by decide +kernel
theorem G_box12 {N d pc : Nat} {ls : zL} {st : List zV} {h : zH} {Q : Option zV → zH → Prop} (hpc : f3_box.any (fun p => Nat.beq p.1 pc) = true) (hq : ∀ v g, hQ h g → Q v g) : zPn N none d mX12_box (pc, ls, st, h) Q :=
  fl_keep fK_ok (od_f odX12_box) fk_box hpc hq
noncomputable def f1_length : aCd := List.filter (fun q => fIn [8, 9, 10, 13, 16, 17, 18] q.1) oX11_length
noncomputable def f2_length : aCd := List.filter (fun q => fIn [21, 29] q.1) oX11_length
set_option maxRecDepth 100000 in
theorem fg_length : aGr fK 11 112 f1_length f2_length = true ∧ aFl fK 11 f2_length = true := by decide +kernel
theorem G_length11 {N d pc : Nat} {ls : zL} {st : List zV} {h : zH} {Q : Option zV → zH → Prop} (hs : zsh h 0 = some (11, 16)) (h0 : ∀ a n, zsh h a = some (11, n) → a = 0) (hpc : f1_length.any (fun p => Nat.beq p.1 pc) = true) (hq : ∀ v g, g.2.1 0 2 = 0 → Q v g) : zPn N none d mX11_length (pc, ls, st, h) Q :=
  fl_grant fK_ok ml_11_112 rfl (od_f odX11_length) (od_f odX11_length) fg_length.1 fg_length.2 hs h0 hpc hq
noncomputable def f3_length : aCd := List.filter (fun q => fIn [12, 13, 14, 17, 25] q.1) oX12_length
set_option maxRecDepth 100000 in
theorem fk_length : aFl fK 12 f3_length = true := by decide +kernel
theorem G_length12 {N d pc : Nat} {ls : zL} {st : List zV} {h : zH} {Q : Option zV → zH → Prop} (hpc : f3_length.any (fun p => Nat.beq p.1 pc) = true) (hq : ∀ v g, hQ h g → Q v g) : zPn N none d mX12_length (pc, ls, st, h) Q :=
  fl_keep fK_ok (od_f odX12_length) fk_length hpc hq
noncomputable def f1_note : aCd := List.filter (fun q => fIn [31, 32, 33, 36, 37, 38, 41, 44, 47, 48, 51, 54, 55, 56, 57, 60] q.1) oX11_note
noncomputable def f2_note : aCd := List.filter (fun q => fIn [63] q.1) oX11_note
set_option maxRecDepth 100000 in
theorem fg_note : aGr fK 11 112 f1_note f2_note = true ∧ aFl fK 11 f2_note = true := by decide +kernel
theorem G_note11 {N d pc : Nat} {ls : zL} {st : List zV} {h : zH} {Q : Option zV → zH → Prop} (hs : zsh h 0 = some (11, 16)) (h0 : ∀ a n, zsh h a = some (11, n) → a = 0) (hpc : f1_note.any (fun p => Nat.beq p.1 pc) = true) (hq : ∀ v g, g.2.1 0 2 = 0 → Q v g) : zPn N none d mX11_note (pc, ls, st, h) Q :=
  fl_grant fK_ok ml_11_112 rfl (od_f odX11_note) (od_f odX11_note) fg_note.1 fg_note.2 hs h0 hpc hq
noncomputable def f3_note : aCd := List.filter (fun q => fIn [27, 28, 29, 30, 31, 34, 35, 36, 39, 47] q.1) oX12_note
set_option maxRecDepth 100000 in
theorem fk_note : aFl fK 12 f3_note = true := by decide +kernel
theorem G_note12 {N d pc : Nat} {ls : zL} {st : List zV} {h : zH} {Q : Option zV → zH → Prop} (hpc : f3_note.any (fun p => Nat.beq p.1 pc) = true) (hq : ∀ v g, hQ h g → Q v g) : zPn N none d mX12_note (pc, ls, st, h) Q :=
  fl_keep fK_ok (od_f odX12_note) fk_note hpc hq
noncomputable def f1_sung : aCd := List.filter (fun q => fIn [15, 16, 17, 20, 23, 24, 25, 26, 29, 30, 33, 34, 37] q.1) oX11_sung
noncomputable def f2_sung : aCd := List.filter (fun q => fIn [40] q.1) oX11_sung
set_option maxRecDepth 100000 in
theorem fg_sung : aGr fK 11 112 f1_sung f2_sung = true ∧ aFl fK 11 f2_sung = true := by decide +kernel
theorem G_sung11 {N d pc : Nat} {ls : zL} {st : List zV} {h : zH} {Q : Option zV → zH → Prop} (hs : zsh h 0 = some (11, 16)) (h0 : ∀ a n, zsh h a = some (11, n) → a = 0) (hpc : f1_sung.any (fun p => Nat.beq p.1 pc) = true) (hq : ∀ v g, g.2.1 0 2 = 0 → Q v g) : zPn N none d mX11_sung (pc, ls, st, h) Q :=
  fl_grant fK_ok ml_11_112 rfl (od_f odX11_sung) (od_f odX11_sung) fg_sung.1 fg_sung.2 hs h0 hpc hq
noncomputable def f3_sung : aCd := List.filter (fun q => fIn [27, 28, 31, 33, 35, 36, 37, 38, 39, 40, 41, 49] q.1) oX12_sung
set_option maxRecDepth 100000 in
theorem fk_sung : aFl fK 12 f3_sung = true := by decide +kernel
theorem G_sung12 {N d pc : Nat} {ls : zL} {st : List zV} {h : zH} {Q : Option zV → zH → Prop} (hpc : f3_sung.any (fun p => Nat.beq p.1 pc) = true) (hq : ∀ v g, hQ h g → Q v g) : zPn N none d mX12_sung (pc, ls, st, h) Q :=
  fl_keep fK_ok (od_f odX12_sung) fk_sung hpc hq
noncomputable def f1_heard : aCd := List.filter (fun q => fIn [8, 9, 10, 11, 12, 15, 18, 21] q.1) oX11_heard
noncomputable def f2_heard : aCd := List.filter (fun q => fIn [24, 32] q.1) oX11_heard
set_option maxRecDepth 100000 in
theorem fg_heard : aGr fK 11 112 f1_heard f2_heard = true ∧ aFl fK 11 f2_heard = true := by decide +kernel
theorem G_heard11 {N d pc : Nat} {ls : zL} {st : List zV} {h : zH} {Q : Option zV → zH → Prop} (hs : zsh h 0 = some (11, 16)) (h0 : ∀ a n, zsh h a = some (11, n) → a = 0) (hpc : f1_heard.any (fun p => Nat.beq p.1 pc) = true) (hq : ∀ v g, g.2.1 0 2 = 0 → Q v g) : zPn N none d mX11_heard (pc, ls, st, h) Q :=
  fl_grant fK_ok ml_11_112 rfl (od_f odX11_heard) (od_f odX11_heard) fg_heard.1 fg_heard.2 hs h0 hpc hq
noncomputable def f3_heard : aCd := List.filter (fun q => fIn [12, 13, 14, 17, 25] q.1) oX12_heard
set_option maxRecDepth 100000 in
theorem fk_heard : aFl fK 12 f3_heard = true := by decide +kernel
theorem G_heard12 {N d pc : Nat} {ls : zL} {st : List zV} {h : zH} {Q : Option zV → zH → Prop} (hpc : f3_heard.any (fun p => Nat.beq p.1 pc) = true) (hq : ∀ v g, hQ h g → Q v g) : zPn N none d mX12_heard (pc, ls, st, h) Q :=
  fl_keep fK_ok (od_f odX12_heard) fk_heard hpc hq
noncomputable def f1_way : aCd := List.filter (fun q => fIn [15, 16, 19, 20, 21, 24, 25, 26, 28, 31, 32, 35, 36, 39, 42, 43, 45, 49, 50, 51, 54, 57, 58, 59, 62] q.1) oX11_way
noncomputable def f2_way : aCd := List.filter (fun q => fIn [48, 65] q.1) oX11_way
set_option maxRecDepth 100000 in
theorem fg_way : aGr fK 11 112 f1_way f2_way = true ∧ aFl fK 11 f2_way = true := by decide +kernel
theorem G_way11 {N d pc : Nat} {ls : zL} {st : List zV} {h : zH} {Q : Option zV → zH → Prop} (hs : zsh h 0 = some (11, 16)) (h0 : ∀ a n, zsh h a = some (11, n) → a = 0) (hpc : f1_way.any (fun p => Nat.beq p.1 pc) = true) (hq : ∀ v g, g.2.1 0 2 = 0 → Q v g) : zPn N none d mX11_way (pc, ls, st, h) Q :=
  fl_grant fK_ok ml_11_112 rfl (od_f odX11_way) (od_f odX11_way) fg_way.1 fg_way.2 hs h0 hpc hq
noncomputable def f3_way : aCd := List.filter (fun q => fIn [30, 31, 32, 33, 34, 37, 38, 39, 42, 44, 47, 48, 51, 53, 54, 55, 56, 57, 58, 59, 60] q.1) oX12_way
set_option maxRecDepth 100000 in
theorem fk_way : aFl fK 12 f3_way = true := by decide +kernel
theorem G_way12 {N d pc : Nat} {ls : zL} {st : List zV} {h : zH} {Q : Option zV → zH → Prop} (hpc : f3_way.any (fun p => Nat.beq p.1 pc) = true) (hq : ∀ v g, hQ h g → Q v g) : zPn N none d mX12_way (pc, ls, st, h) Q :=
  fl_keep fK_ok (od_f odX12_way) fk_way hpc hq
noncomputable def f1_season : aCd := List.filter (fun q => fIn [28, 29, 30, 32, 33, 34, 35] q.1) oX11_season
noncomputable def f2_season : aCd := List.filter (fun q => fIn [38] q.1) oX11_season
set_option maxRecDepth 100000 in
theorem fg_season : aGr fK 11 112 f1_season f2_season = true ∧ aFl fK 11 f2_season = true := by decide +kernel
theorem G_season11 {N d pc : Nat} {ls : zL} {st : List zV} {h : zH} {Q : Option zV → zH → Prop} (hs : zsh h 0 = some (11, 16)) (h0 : ∀ a n, zsh h a = some (11, n) → a = 0) (hpc : f1_season.any (fun p => Nat.beq p.1 pc) = true) (hq : ∀ v g, g.2.1 0 2 = 0 → Q v g) : zPn N none d mX11_season (pc, ls, st, h) Q :=
  fl_grant fK_ok ml_11_112 rfl (od_f odX11_season) (od_f odX11_season) fg_season.1 fg_season.2 hs h0 hpc hq
noncomputable def f3_season : aCd := List.filter (fun q => fIn [16, 28, 29, 32, 40] q.1) oX12_season
set_option maxRecDepth 100000 in
theorem fk_season : aFl fK 12 f3_season = true := by decide +kernel
theorem G_season12 {N d pc : Nat} {ls : zL} {st : List zV} {h : zH} {Q : Option zV → zH → Prop} (hpc : f3_season.any (fun p => Nat.beq p.1 pc) = true) (hq : ∀ v g, hQ h g → Q v g) : zPn N none d mX12_season (pc, ls, st, h) Q :=
  fl_keep fK_ok (od_f odX12_season) fk_season hpc hq
noncomputable def f1_sets : aCd := List.filter (fun q => fIn [38, 39, 42, 43, 46, 49, 50, 52, 56, 57, 58, 61, 62, 65, 68, 69, 70, 73, 74, 77, 80, 81, 82, 85, 86, 89] q.1) oX11_sets
noncomputable def f2_sets : aCd := List.filter (fun q => fIn [55, 92] q.1) oX11_sets
set_option maxRecDepth 100000 in
theorem fg_sets : aGr fK 11 112 f1_sets f2_sets = true ∧ aFl fK 11 f2_sets = true := by decide +kernel
theorem G_sets11 {N d pc : Nat} {ls : zL} {st : List zV} {h : zH} {Q : Option zV → zH → Prop} (hs : zsh h 0 = some (11, 16)) (h0 : ∀ a n, zsh h a = some (11, n) → a = 0) (hpc : f1_sets.any (fun p => Nat.beq p.1 pc) = true) (hq : ∀ v g, g.2.1 0 2 = 0 → Q v g) : zPn N none d mX11_sets (pc, ls, st, h) Q :=
  fl_grant fK_ok ml_11_112 rfl (od_f odX11_sets) (od_f odX11_sets) fg_sets.1 fg_sets.2 hs h0 hpc hq
noncomputable def f3_sets : aCd := List.filter (fun q => fIn [33, 50, 51, 52, 53, 56, 59, 61, 64, 65, 66, 67, 68, 69, 72, 73, 76] q.1) oX12_sets
set_option maxRecDepth 100000 in
theorem fk_sets : aFl fK 12 f3_sets = true := by decide +kernel
theorem G_sets12 {N d pc : Nat} {ls : zL} {st : List zV} {h : zH} {Q : Option zV → zH → Prop} (hpc : f3_sets.any (fun p => Nat.beq p.1 pc) = true) (hq : ∀ v g, hQ h g → Q v g) : zPn N none d mX12_sets (pc, ls, st, h) Q :=
  fl_keep fK_ok (od_f odX12_sets) fk_sets hpc hq
noncomputable def f1_sent : aCd := List.filter (fun q => fIn [22, 23, 24, 25, 26, 27, 28, 31, 34, 37, 38, 41, 42, 45, 48, 49, 50, 51, 52, 55, 56, 57, 60, 63, 64, 65] q.1) oX11_sent
noncomputable def f2_sent : aCd := List.filter (fun q => fIn [68] q.1) oX11_sent
set_option maxRecDepth 100000 in
theorem fg_sent : aGr fK 11 112 f1_sent f2_sent = true ∧ aFl fK 11 f2_sent = true := by decide +kernel
theorem G_sent11 {N d pc : Nat} {ls : zL} {st : List zV} {h : zH} {Q : Option zV → zH → Prop} (hs : zsh h 0 = some (11, 16)) (h0 : ∀ a n, zsh h a = some (11, n) → a = 0) (hpc : f1_sent.any (fun p => Nat.beq p.1 pc) = true) (hq : ∀ v g, g.2.1 0 2 = 0 → Q v g) : zPn N none d mX11_sent (pc, ls, st, h) Q :=
  fl_grant fK_ok ml_11_112 rfl (od_f odX11_sent) (od_f odX11_sent) fg_sent.1 fg_sent.2 hs h0 hpc hq
noncomputable def f3_sent : aCd := List.filter (fun q => fIn [25, 26, 27, 28, 29, 30, 31, 32, 35, 37, 38, 41, 42, 45, 47, 48, 49, 50, 53, 56, 57, 58, 61, 62, 65, 66, 67, 70, 71, 74, 76, 77, 78, 79, 80, 81, 82, 83, 84, 87, 90, 91, 94, 95, 98, 99, 102, 104, 105, 106, 107, 108, 109, 110, 111, 112, 115, 116, 117, 118, 121, 124, 125] q.1) oX12_sent
set_option maxRecDepth 100000 in
theorem fk_sent : aFl fK 12 f3_sent = true := by decide +kernel
theorem G_sent12 {N d pc : Nat} {ls : zL} {st : List zV} {h : zH} {Q : Option zV → zH → Prop} (hpc : f3_sent.any (fun p => Nat.beq p.1 pc) = true) (hq : ∀ v g, hQ h g → Q v g) : zPn N none d mX12_sent (pc, ls, st, h) Q :=
  fl_keep fK_ok (od_f odX12_sent) fk_sent hpc hq
noncomputable def f1_apart : aCd := List.filter (fun q => fIn [16, 17, 18, 21, 22, 23, 26] q.1) oX11_apart
noncomputable def f2_apart : aCd := List.filter (fun q => fIn [29, 37] q.1) oX11_apart
set_option maxRecDepth 100000 in
theorem fg_apart : aGr fK 11 112 f1_apart f2_apart = true ∧ aFl fK 11 f2_apart = true := by decide +kernel
theorem G_apart11 {N d pc : Nat} {ls : zL} {st : List zV} {h : zH} {Q : Option zV → zH → Prop} (hs : zsh h 0 = some (11, 16)) (h0 : ∀ a n, zsh h a = some (11, n) → a = 0) (hpc : f1_apart.any (fun p => Nat.beq p.1 pc) = true) (hq : ∀ v g, g.2.1 0 2 = 0 → Q v g) : zPn N none d mX11_apart (pc, ls, st, h) Q :=
  fl_grant fK_ok ml_11_112 rfl (od_f odX11_apart) (od_f odX11_apart) fg_apart.1 fg_apart.2 hs h0 hpc hq
noncomputable def f3_apart : aCd := List.filter (fun q => fIn [20, 21, 22, 23, 26, 34] q.1) oX12_apart
set_option maxRecDepth 100000 in
theorem fk_apart : aFl fK 12 f3_apart = true := by decide +kernel
theorem G_apart12 {N d pc : Nat} {ls : zL} {st : List zV} {h : zH} {Q : Option zV → zH → Prop} (hpc : f3_apart.any (fun p => Nat.beq p.1 pc) = true) (hq : ∀ v g, hQ h g → Q v g) : zPn N none d mX12_apart (pc, ls, st, h) Q :=
  fl_keep fK_ok (od_f odX12_apart) fk_apart hpc hq
noncomputable def f1_bear : aCd := List.filter (fun q => fIn [7, 8, 9, 12, 15] q.1) oX11_bear
noncomputable def f2_bear : aCd := List.filter (fun q => fIn [18, 26] q.1) oX11_bear
set_option maxRecDepth 100000 in
theorem fg_bear : aGr fK 11 112 f1_bear f2_bear = true ∧ aFl fK 11 f2_bear = true := by decide +kernel
theorem G_bear11 {N d pc : Nat} {ls : zL} {st : List zV} {h : zH} {Q : Option zV → zH → Prop} (hs : zsh h 0 = some (11, 16)) (h0 : ∀ a n, zsh h a = some (11, n) → a = 0) (hpc : f1_bear.any (fun p => Nat.beq p.1 pc) = true) (hq : ∀ v g, g.2.1 0 2 = 0 → Q v g) : zPn N none d mX11_bear (pc, ls, st, h) Q :=
  fl_grant fK_ok ml_11_112 rfl (od_f odX11_bear) (od_f odX11_bear) fg_bear.1 fg_bear.2 hs h0 hpc hq
noncomputable def f3_bear : aCd := List.filter (fun q => fIn [16, 17, 19, 20, 21, 22, 23, 24, 27, 28, 29, 32, 33, 34, 35, 36, 39, 40, 41, 42, 45, 48, 49, 50, 51, 54, 55, 58, 59, 60, 61, 64, 65, 68, 71, 74, 77, 78, 80, 83, 85, 88, 89, 90, 91, 92, 93] q.1) oX12_bear
set_option maxRecDepth 100000 in
theorem fk_bear : aFl fK 12 f3_bear = true := by decide +kernel
theorem G_bear12 {N d pc : Nat} {ls : zL} {st : List zV} {h : zH} {Q : Option zV → zH → Prop} (hpc : f3_bear.any (fun p => Nat.beq p.1 pc) = true) (hq : ∀ v g, hQ h g → Q v g) : zPn N none d mX12_bear (pc, ls, st, h) Q :=
  fl_keep fK_ok (od_f odX12_bear) fk_bear hpc hq
noncomputable def f1_mixed : aCd := List.filter (fun q => fIn [7, 8, 9, 12, 15] q.1) oX11_mixed
noncomputable def f2_mixed : aCd := List.filter (fun q => fIn [18, 26] q.1) oX11_mixed
set_option maxRecDepth 100000 in
theorem fg_mixed : aGr fK 11 112 f1_mixed f2_mixed = true ∧ aFl fK 11 f2_mixed = true := by decide +kernel
theorem G_mixed11 {N d pc : Nat} {ls : zL} {st : List zV} {h : zH} {Q : Option zV → zH → Prop} (hs : zsh h 0 = some (11, 16)) (h0 : ∀ a n, zsh h a = some (11, n) → a = 0) (hpc : f1_mixed.any (fun p => Nat.beq p.1 pc) = true) (hq : ∀ v g, g.2.1 0 2 = 0 → Q v g) : zPn N none d mX11_mixed (pc, ls, st, h) Q :=
  fl_grant fK_ok ml_11_112 rfl (od_f odX11_mixed) (od_f odX11_mixed) fg_mixed.1 fg_mixed.2 hs h0 hpc hq
noncomputable def f3_mixed : aCd := List.filter (fun q => fIn [16, 17, 18, 19, 20, 21, 22, 23, 26, 27, 28, 31, 32, 33, 34, 35, 38, 39, 40, 41, 42, 45, 48, 49, 50, 51, 54, 55, 56, 59, 60, 61, 62, 65, 66, 69, 70, 71, 72, 75, 78, 81, 84, 85] q.1) oX12_mixed
set_option maxRecDepth 100000 in
theorem fk_mixed : aFl fK 12 f3_mixed = true := by decide +kernel
theorem G_mixed12 {N d pc : Nat} {ls : zL} {st : List zV} {h : zH} {Q : Option zV → zH → Prop} (hpc : f3_mixed.any (fun p => Nat.beq p.1 pc) = true) (hq : ∀ v g, hQ h g → Q v g) : zPn N none d mX12_mixed (pc, ls, st, h) Q :=
  fl_keep fK_ok (od_f odX12_mixed) fk_mixed hpc hq
noncomputable def f1_fresh : aCd := List.filter (fun q => fIn [17, 18, 21, 22, 23, 24, 27, 30, 31, 34, 35, 36, 37, 40, 43] q.1) oX11_fresh
noncomputable def f2_fresh : aCd := List.filter (fun q => fIn [46] q.1) oX11_fresh
set_option maxRecDepth 100000 in
theorem fg_fresh : aGr fK 11 112 f1_fresh f2_fresh = true ∧ aFl fK 11 f2_fresh = true := by decide +kernel
theorem G_fresh11 {N d pc : Nat} {ls : zL} {st : List zV} {h : zH} {Q : Option zV → zH → Prop} (hs : zsh h 0 = some (11, 16)) (h0 : ∀ a n, zsh h a = some (11, n) → a = 0) (hpc : f1_fresh.any (fun p => Nat.beq p.1 pc) = true) (hq : ∀ v g, g.2.1 0 2 = 0 → Q v g) : zPn N none d mX11_fresh (pc, ls, st, h) Q :=
  fl_grant fK_ok ml_11_112 rfl (od_f odX11_fresh) (od_f odX11_fresh) fg_fresh.1 fg_fresh.2 hs h0 hpc hq
noncomputable def f3_fresh : aCd := List.filter (fun q => fIn [20, 23, 24, 25, 26, 27, 30] q.1) oX12_fresh
set_option maxRecDepth 100000 in
theorem fk_fresh : aFl fK 12 f3_fresh = true := by decide +kernel
theorem G_fresh12 {N d pc : Nat} {ls : zL} {st : List zV} {h : zH} {Q : Option zV → zH → Prop} (hpc : f3_fresh.any (fun p => Nat.beq p.1 pc) = true) (hq : ∀ v g, hQ h g → Q v g) : zPn N none d mX12_fresh (pc, ls, st, h) Q :=
  fl_keep fK_ok (od_f odX12_fresh) fk_fresh hpc hq
noncomputable def f1_byTurns : aCd := List.filter (fun q => fIn [17, 18, 19, 22, 23, 24, 25, 28, 31, 34, 37] q.1) oX11_byTurns
noncomputable def f2_byTurns : aCd := List.filter (fun q => fIn [40] q.1) oX11_byTurns
set_option maxRecDepth 100000 in
theorem fg_byTurns : aGr fK 11 112 f1_byTurns f2_byTurns = true ∧ aFl fK 11 f2_byTurns = true := by decide +kernel
theorem G_byTurns11 {N d pc : Nat} {ls : zL} {st : List zV} {h : zH} {Q : Option zV → zH → Prop} (hs : zsh h 0 = some (11, 16)) (h0 : ∀ a n, zsh h a = some (11, n) → a = 0) (hpc : f1_byTurns.any (fun p => Nat.beq p.1 pc) = true) (hq : ∀ v g, g.2.1 0 2 = 0 → Q v g) : zPn N none d mX11_byTurns (pc, ls, st, h) Q :=
  fl_grant fK_ok ml_11_112 rfl (od_f odX11_byTurns) (od_f odX11_byTurns) fg_byTurns.1 fg_byTurns.2 hs h0 hpc hq
noncomputable def f3_byTurns : aCd := List.filter (fun q => fIn [20, 23, 24, 25, 26, 27, 30] q.1) oX12_byTurns
set_option maxRecDepth 100000 in
theorem fk_byTurns : aFl fK 12 f3_byTurns = true := by decide +kernel
theorem G_byTurns12 {N d pc : Nat} {ls : zL} {st : List zV} {h : zH} {Q : Option zV → zH → Prop} (hpc : f3_byTurns.any (fun p => Nat.beq p.1 pc) = true) (hq : ∀ v g, hQ h g → Q v g) : zPn N none d mX12_byTurns (pc, ls, st, h) Q :=
  fl_keep fK_ok (od_f odX12_byTurns) fk_byTurns hpc hq
noncomputable def f1_near : aCd := List.filter (fun q => fIn [14, 15, 16, 17, 20, 23, 26, 27, 28, 29, 32, 35] q.1) oX11_near
noncomputable def f2_near : aCd := List.filter (fun q => fIn [38] q.1) oX11_near
set_option maxRecDepth 100000 in
theorem fg_near : aGr fK 11 112 f1_near f2_near = true ∧ aFl fK 11 f2_near = true := by decide +kernel
theorem G_near11 {N d pc : Nat} {ls : zL} {st : List zV} {h : zH} {Q : Option zV → zH → Prop} (hs : zsh h 0 = some (11, 16)) (h0 : ∀ a n, zsh h a = some (11, n) → a = 0) (hpc : f1_near.any (fun p => Nat.beq p.1 pc) = true) (hq : ∀ v g, g.2.1 0 2 = 0 → Q v g) : zPn N none d mX11_near (pc, ls, st, h) Q :=
  fl_grant fK_ok ml_11_112 rfl (od_f odX11_near) (od_f odX11_near) fg_near.1 fg_near.2 hs h0 hpc hq
noncomputable def f3_near : aCd := List.filter (fun q => fIn [12, 13, 14, 15, 18, 26] q.1) oX12_near
set_option maxRecDepth 100000 in
theorem fk_near : aFl fK 12 f3_near = true := by decide +kernel
theorem G_near12 {N d pc : Nat} {ls : zL} {st : List zV} {h : zH} {Q : Option zV → zH → Prop} (hpc : f3_near.any (fun p => Nat.beq p.1 pc) = true) (hq : ∀ v g, hQ h g → Q v g) : zPn N none d mX12_near (pc, ls, st, h) Q :=
  fl_keep fK_ok (od_f odX12_near) fk_near hpc hq
noncomputable def f1_asNear : aCd := List.filter (fun q => fIn [14, 15, 16, 17, 20, 23, 26, 27, 28, 29, 32, 35] q.1) oX11_asNear
noncomputable def f2_asNear : aCd := List.filter (fun q => fIn [38] q.1) oX11_asNear
set_option maxRecDepth 100000 in
theorem fg_asNear : aGr fK 11 112 f1_asNear f2_asNear = true ∧ aFl fK 11 f2_asNear = true := by decide +kernel
theorem G_asNear11 {N d pc : Nat} {ls : zL} {st : List zV} {h : zH} {Q : Option zV → zH → Prop} (hs : zsh h 0 = some (11, 16)) (h0 : ∀ a n, zsh h a = some (11, n) → a = 0) (hpc : f1_asNear.any (fun p => Nat.beq p.1 pc) = true) (hq : ∀ v g, g.2.1 0 2 = 0 → Q v g) : zPn N none d mX11_asNear (pc, ls, st, h) Q :=
  fl_grant fK_ok ml_11_112 rfl (od_f odX11_asNear) (od_f odX11_asNear) fg_asNear.1 fg_asNear.2 hs h0 hpc hq
noncomputable def f3_asNear : aCd := List.filter (fun q => fIn [12, 13, 14, 15, 18, 26] q.1) oX12_asNear
set_option maxRecDepth 100000 in
theorem fk_asNear : aFl fK 12 f3_asNear = true := by decide +kernel
theorem G_asNear12 {N d pc : Nat} {ls : zL} {st : List zV} {h : zH} {Q : Option zV → zH → Prop} (hpc : f3_asNear.any (fun p => Nat.beq p.1 pc) = true) (hq : ∀ v g, hQ h g → Q v g) : zPn N none d mX12_asNear (pc, ls, st, h) Q :=
  fl_keep fK_ok (od_f odX12_asNear) fk_asNear hpc hq
noncomputable def f1_heardIn : aCd := List.filter (fun q => fIn [29, 30, 31, 32, 33, 36, 39, 40, 41, 44] q.1) oX11_heardIn
noncomputable def f2_heardIn : aCd := List.filter (fun q => fIn [47] q.1) oX11_heardIn
set_option maxRecDepth 100000 in
theorem fg_heardIn : aGr fK 11 112 f1_heardIn f2_heardIn = true ∧ aFl fK 11 f2_heardIn = true := by decide +kernel
theorem G_heardIn11 {N d pc : Nat} {ls : zL} {st : List zV} {h : zH} {Q : Option zV → zH → Prop} (hs : zsh h 0 = some (11, 16)) (h0 : ∀ a n, zsh h a = some (11, n) → a = 0) (hpc : f1_heardIn.any (fun p => Nat.beq p.1 pc) = true) (hq : ∀ v g, g.2.1 0 2 = 0 → Q v g) : zPn N none d mX11_heardIn (pc, ls, st, h) Q :=
  fl_grant fK_ok ml_11_112 rfl (od_f odX11_heardIn) (od_f odX11_heardIn) fg_heardIn.1 fg_heardIn.2 hs h0 hpc hq
noncomputable def f3_heardIn : aCd := List.filter (fun q => fIn [17, 28, 29, 30, 31, 34, 35, 36, 37, 38, 39, 40, 43, 51] q.1) oX12_heardIn
set_option maxRecDepth 100000 in
theorem fk_heardIn : aFl fK 12 f3_heardIn = true := by decide +kernel
theorem G_heardIn12 {N d pc : Nat} {ls : zL} {st : List zV} {h : zH} {Q : Option zV → zH → Prop} (hpc : f3_heardIn.any (fun p => Nat.beq p.1 pc) = true) (hq : ∀ v g, hQ h g → Q v g) : zPn N none d mX12_heardIn (pc, ls, st, h) Q :=
  fl_keep fK_ok (od_f odX12_heardIn) fk_heardIn hpc hq
noncomputable def f1_strange : aCd := List.filter (fun q => fIn [14, 15, 16, 17, 19, 22, 23, 26, 27, 30, 33, 34, 35, 36, 39, 42, 43, 44, 45, 48, 51, 52, 53, 56, 57, 60, 61, 62, 66, 69, 72, 73, 75] q.1) oX11_strange
noncomputable def f2_strange : aCd := List.filter (fun q => fIn [65, 78] q.1) oX11_strange
set_option maxRecDepth 100000 in
theorem fg_strange : aGr fK 11 112 f1_strange f2_strange = true ∧ aFl fK 11 f2_strange = true := by decide +kernel
theorem G_strange11 {N d pc : Nat} {ls : zL} {st : List zV} {h : zH} {Q : Option zV → zH → Prop} (hs : zsh h 0 = some (11, 16)) (h0 : ∀ a n, zsh h a = some (11, n) → a = 0) (hpc : f1_strange.any (fun p => Nat.beq p.1 pc) = true) (hq : ∀ v g, g.2.1 0 2 = 0 → Q v g) : zPn N none d mX11_strange (pc, ls, st, h) Q :=
  fl_grant fK_ok ml_11_112 rfl (od_f odX11_strange) (od_f odX11_strange) fg_strange.1 fg_strange.2 hs h0 hpc hq
noncomputable def f3_strange : aCd := List.filter (fun q => fIn [17, 18, 19, 20, 21, 23, 26, 27, 28, 29, 32, 33, 34, 35, 36, 39, 42, 43, 44, 47, 50, 52] q.1) oX12_strange
set_option maxRecDepth 100000 in
theorem fk_strange : aFl fK 12 f3_strange = true := by decide +kernel
theorem G_strange12 {N d pc : Nat} {ls : zL} {st : List zV} {h : zH} {Q : Option zV → zH → Prop} (hpc : f3_strange.any (fun p => Nat.beq p.1 pc) = true) (hq : ∀ v g, hQ h g → Q v g) : zPn N none d mX12_strange (pc, ls, st, h) Q :=
  fl_keep fK_ok (od_f odX12_strange) fk_strange hpc hq
noncomputable def f1_arrival : aCd := List.filter (fun q => fIn [47, 48, 49, 52, 53, 56, 59, 60, 61, 64, 65, 66, 68, 71] q.1) oX11_arrival
noncomputable def f2_arrival : aCd := List.filter (fun q => fIn [74] q.1) oX11_arrival
set_option maxRecDepth 100000 in
theorem fg_arrival : aGr fK 11 112 f1_arrival f2_arrival = true ∧ aFl fK 11 f2_arrival = true := by decide +kernel
theorem G_arrival11 {N d pc : Nat} {ls : zL} {st : List zV} {h : zH} {Q : Option zV → zH → Prop} (hs : zsh h 0 = some (11, 16)) (h0 : ∀ a n, zsh h a = some (11, n) → a = 0) (hpc : f1_arrival.any (fun p => Nat.beq p.1 pc) = true) (hq : ∀ v g, g.2.1 0 2 = 0 → Q v g) : zPn N none d mX11_arrival (pc, ls, st, h) Q :=
  fl_grant fK_ok ml_11_112 rfl (od_f odX11_arrival) (od_f odX11_arrival) fg_arrival.1 fg_arrival.2 hs h0 hpc hq
noncomputable def f3_arrival : aCd := List.filter (fun q => fIn [33, 46, 47, 48, 49, 50, 53, 54, 55, 57, 60, 68] q.1) oX12_arrival
set_option maxRecDepth 100000 in
theorem fk_arrival : aFl fK 12 f3_arrival = true := by decide +kernel
theorem G_arrival12 {N d pc : Nat} {ls : zL} {st : List zV} {h : zH} {Q : Option zV → zH → Prop} (hpc : f3_arrival.any (fun p => Nat.beq p.1 pc) = true) (hq : ∀ v g, hQ h g → Q v g) : zPn N none d mX12_arrival (pc, ls, st, h) Q :=
  fl_keep fK_ok (od_f odX12_arrival) fk_arrival hpc hq
noncomputable def f1_brings : aCd := List.filter (fun q => fIn [16, 17, 18, 21, 22, 23, 26] q.1) oX11_brings
noncomputable def f2_brings : aCd := List.filter (fun q => fIn [29, 37] q.1) oX11_brings
set_option maxRecDepth 100000 in
theorem fg_brings : aGr fK 11 112 f1_brings f2_brings = true ∧ aFl fK 11 f2_brings = true := by decide +kernel
theorem G_brings11 {N d pc : Nat} {ls : zL} {st : List zV} {h : zH} {Q : Option zV → zH → Prop} (hs : zsh h 0 = some (11, 16)) (h0 : ∀ a n, zsh h a = some (11, n) → a = 0) (hpc : f1_brings.any (fun p => Nat.beq p.1 pc) = true) (hq : ∀ v g, g.2.1 0 2 = 0 → Q v g) : zPn N none d mX11_brings (pc, ls, st, h) Q :=
  fl_grant fK_ok ml_11_112 rfl (od_f odX11_brings) (od_f odX11_brings) fg_brings.1 fg_brings.2 hs h0 hpc hq
noncomputable def f3_brings : aCd := List.filter (fun q => fIn [20, 21, 22, 23, 26, 34] q.1) oX12_brings
set_option maxRecDepth 100000 in
theorem fk_brings : aFl fK 12 f3_brings = true := by decide +kernel
theorem G_brings12 {N d pc : Nat} {ls : zL} {st : List zV} {h : zH} {Q : Option zV → zH → Prop} (hpc : f3_brings.any (fun p => Nat.beq p.1 pc) = true) (hq : ∀ v g, hQ h g → Q v g) : zPn N none d mX12_brings (pc, ls, st, h) Q :=
  fl_keep fK_ok (od_f odX12_brings) fk_brings hpc hq
noncomputable def f1_soonest : aCd := List.filter (fun q => fIn [8, 9, 10, 13, 14, 17] q.1) oX11_soonest
noncomputable def f2_soonest : aCd := List.filter (fun q => fIn [20, 28] q.1) oX11_soonest
set_option maxRecDepth 100000 in
theorem fg_soonest : aGr fK 11 112 f1_soonest f2_soonest = true ∧ aFl fK 11 f2_soonest = true := by decide +kernel
theorem G_soonest11 {N d pc : Nat} {ls : zL} {st : List zV} {h : zH} {Q : Option zV → zH → Prop} (hs : zsh h 0 = some (11, 16)) (h0 : ∀ a n, zsh h a = some (11, n) → a = 0) (hpc : f1_soonest.any (fun p => Nat.beq p.1 pc) = true) (hq : ∀ v g, g.2.1 0 2 = 0 → Q v g) : zPn N none d mX11_soonest (pc, ls, st, h) Q :=
  fl_grant fK_ok ml_11_112 rfl (od_f odX11_soonest) (od_f odX11_soonest) fg_soonest.1 fg_soonest.2 hs h0 hpc hq
noncomputable def f3_soonest : aCd := List.filter (fun q => fIn [17, 18, 20, 21, 22, 23, 24, 25, 28, 30, 31, 34, 35, 36, 37, 40, 43, 44, 47, 48, 49, 50, 53, 54, 55, 56, 59, 62, 63, 64, 67, 70, 71] q.1) oX12_soonest
set_option maxRecDepth 100000 in
theorem fk_soonest : aFl fK 12 f3_soonest = true := by decide +kernel
theorem G_soonest12 {N d pc : Nat} {ls : zL} {st : List zV} {h : zH} {Q : Option zV → zH → Prop} (hpc : f3_soonest.any (fun p => Nat.beq p.1 pc) = true) (hq : ∀ v g, hQ h g → Q v g) : zPn N none d mX12_soonest (pc, ls, st, h) Q :=
  fl_keep fK_ok (od_f odX12_soonest) fk_soonest hpc hq
noncomputable def f1_surest : aCd := List.filter (fun q => fIn [8, 9, 10, 13, 14, 16, 19] q.1) oX11_surest
noncomputable def f2_surest : aCd := List.filter (fun q => fIn [22, 30] q.1) oX11_surest
set_option maxRecDepth 100000 in
theorem fg_surest : aGr fK 11 112 f1_surest f2_surest = true ∧ aFl fK 11 f2_surest = true := by decide +kernel
theorem G_surest11 {N d pc : Nat} {ls : zL} {st : List zV} {h : zH} {Q : Option zV → zH → Prop} (hs : zsh h 0 = some (11, 16)) (h0 : ∀ a n, zsh h a = some (11, n) → a = 0) (hpc : f1_surest.any (fun p => Nat.beq p.1 pc) = true) (hq : ∀ v g, g.2.1 0 2 = 0 → Q v g) : zPn N none d mX11_surest (pc, ls, st, h) Q :=
  fl_grant fK_ok ml_11_112 rfl (od_f odX11_surest) (od_f odX11_surest) fg_surest.1 fg_surest.2 hs h0 hpc hq
noncomputable def f3_surest : aCd := List.filter (fun q => fIn [12, 13, 14, 15, 18, 26] q.1) oX12_surest
set_option maxRecDepth 100000 in
theorem fk_surest : aFl fK 12 f3_surest = true := by decide +kernel
theorem G_surest12 {N d pc : Nat} {ls : zL} {st : List zV} {h : zH} {Q : Option zV → zH → Prop} (hpc : f3_surest.any (fun p => Nat.beq p.1 pc) = true) (hq : ∀ v g, hQ h g → Q v g) : zPn N none d mX12_surest (pc, ls, st, h) Q :=
  fl_keep fK_ok (od_f odX12_surest) fk_surest hpc hq
noncomputable def f1_by : aCd := List.filter (fun q => fIn [29, 30, 31, 34, 35, 36, 39] q.1) oX11_by
noncomputable def f2_by : aCd := List.filter (fun q => fIn [42] q.1) oX11_by
set_option maxRecDepth 100000 in
theorem fg_by : aGr fK 11 112 f1_by f2_by = true ∧ aFl fK 11 f2_by = true := by decide +kernel
theorem G_by11 {N d pc : Nat} {ls : zL} {st : List zV} {h : zH} {Q : Option zV → zH → Prop} (hs : zsh h 0 = some (11, 16)) (h0 : ∀ a n, zsh h a = some (11, n) → a = 0) (hpc : f1_by.any (fun p => Nat.beq p.1 pc) = true) (hq : ∀ v g, g.2.1 0 2 = 0 → Q v g) : zPn N none d mX11_by (pc, ls, st, h) Q :=
  fl_grant fK_ok ml_11_112 rfl (od_f odX11_by) (od_f odX11_by) fg_by.1 fg_by.2 hs h0 hpc hq
noncomputable def f3_by : aCd := List.filter (fun q => fIn [17, 34, 35, 36, 37, 38, 40, 42, 43, 46, 48, 49, 52, 53, 54, 56, 57, 60, 61, 62, 65, 68, 69, 71, 72, 75, 76, 77, 78, 81, 84, 85] q.1) oX12_by
set_option maxRecDepth 100000 in
theorem fk_by : aFl fK 12 f3_by = true := by decide +kernel
theorem G_by12 {N d pc : Nat} {ls : zL} {st : List zV} {h : zH} {Q : Option zV → zH → Prop} (hpc : f3_by.any (fun p => Nat.beq p.1 pc) = true) (hq : ∀ v g, hQ h g → Q v g) : zPn N none d mX12_by (pc, ls, st, h) Q :=
  fl_keep fK_ok (od_f odX12_by) fk_by hpc hq
noncomputable def f1_registered : aCd := List.filter (fun q => fIn [40, 41, 44, 47, 48, 49, 52, 54, 56, 58, 59, 62, 63, 64, 67, 69, 71, 73, 76, 78, 79, 82, 85, 87, 88, 91, 92, 94, 96, 98, 99, 101, 103, 105, 107, 108, 111, 113, 114, 115, 118, 120, 123, 125, 127, 128, 130, 131] q.1) oX11_registered
noncomputable def f2_registered : aCd := List.filter (fun q => fIn [134, 135] q.1) oX11_registered
set_option maxRecDepth 100000 in
theorem fg_registered : aGr fK 11 112 f1_registered f2_registered = true ∧ aFl fK 11 f2_registered = true := by decide +kernel
theorem G_registered11 {N d pc : Nat} {ls : zL} {st : List zV} {h : zH} {Q : Option zV → zH → Prop} (hs : zsh h 0 = some (11, 16)) (h0 : ∀ a n, zsh h a = some (11, n) → a = 0) (hpc : f1_registered.any (fun p => Nat.beq p.1 pc) = true) (hq : ∀ v g, g.2.1 0 2 = 0 → Q v g) : zPn N none d mX11_registered (pc, ls, st, h) Q :=
  fl_grant fK_ok ml_11_112 rfl (od_f odX11_registered) (od_f odX11_registered) fg_registered.1 fg_registered.2 hs h0 hpc hq
noncomputable def f3_registered : aCd := List.filter (fun q => fIn [17, 18, 36, 37, 38, 39, 40, 41, 44, 46, 47, 48, 49, 52, 54, 57, 59, 62, 63, 65, 66, 69, 70, 72, 75, 77, 78, 79, 82, 83, 86] q.1) oX12_registered
set_option maxRecDepth 100000 in
theorem fk_registered : aFl fK 12 f3_registered = true := by decide +kernel
theorem G_registered12 {N d pc : Nat} {ls : zL} {st : List zV} {h : zH} {Q : Option zV → zH → Prop} (hpc : f3_registered.any (fun p => Nat.beq p.1 pc) = true) (hq : ∀ v g, hQ h g → Q v g) : zPn N none d mX12_registered (pc, ls, st, h) Q :=
  fl_keep fK_ok (od_f odX12_registered) fk_registered hpc hq
noncomputable def f1_match : aCd := List.filter (fun q => fIn [13, 14, 17, 18, 19, 22, 25] q.1) oX11_match
noncomputable def f2_match : aCd := List.filter (fun q => fIn [28] q.1) oX11_match
set_option maxRecDepth 100000 in
theorem fg_match : aGr fK 11 112 f1_match f2_match = true ∧ aFl fK 11 f2_match = true := by decide +kernel
theorem G_match11 {N d pc : Nat} {ls : zL} {st : List zV} {h : zH} {Q : Option zV → zH → Prop} (hs : zsh h 0 = some (11, 16)) (h0 : ∀ a n, zsh h a = some (11, n) → a = 0) (hpc : f1_match.any (fun p => Nat.beq p.1 pc) = true) (hq : ∀ v g, g.2.1 0 2 = 0 → Q v g) : zPn N none d mX11_match (pc, ls, st, h) Q :=
  fl_grant fK_ok ml_11_112 rfl (od_f odX11_match) (od_f odX11_match) fg_match.1 fg_match.2 hs h0 hpc hq
noncomputable def f3_match : aCd := List.filter (fun q => fIn [16, 17, 18, 21, 22, 25] q.1) oX12_match
set_option maxRecDepth 100000 in
theorem fk_match : aFl fK 12 f3_match = true := by decide +kernel
theorem G_match12 {N d pc : Nat} {ls : zL} {st : List zV} {h : zH} {Q : Option zV → zH → Prop} (hpc : f3_match.any (fun p => Nat.beq p.1 pc) = true) (hq : ∀ v g, hQ h g → Q v g) : zPn N none d mX12_match (pc, ls, st, h) Q :=
  fl_keep fK_ok (od_f odX12_match) fk_match hpc hq
noncomputable def f1_matchDays : aCd := List.filter (fun q => fIn [13, 14, 17, 18, 19, 22, 25] q.1) oX11_matchDays
noncomputable def f2_matchDays : aCd := List.filter (fun q => fIn [28] q.1) oX11_matchDays
set_option maxRecDepth 100000 in
theorem fg_matchDays : aGr fK 11 112 f1_matchDays f2_matchDays = true ∧ aFl fK 11 f2_matchDays = true := by decide +kernel
theorem G_matchDays11 {N d pc : Nat} {ls : zL} {st : List zV} {h : zH} {Q : Option zV → zH → Prop} (hs : zsh h 0 = some (11, 16)) (h0 : ∀ a n, zsh h a = some (11, n) → a = 0) (hpc : f1_matchDays.any (fun p => Nat.beq p.1 pc) = true) (hq : ∀ v g, g.2.1 0 2 = 0 → Q v g) : zPn N none d mX11_matchDays (pc, ls, st, h) Q :=
  fl_grant fK_ok ml_11_112 rfl (od_f odX11_matchDays) (od_f odX11_matchDays) fg_matchDays.1 fg_matchDays.2 hs h0 hpc hq
noncomputable def f3_matchDays : aCd := List.filter (fun q => fIn [16, 17, 18, 21, 22, 25] q.1) oX12_matchDays
set_option maxRecDepth 100000 in
theorem fk_matchDays : aFl fK 12 f3_matchDays = true := by decide +kernel
theorem G_matchDays12 {N d pc : Nat} {ls : zL} {st : List zV} {h : zH} {Q : Option zV → zH → Prop} (hpc : f3_matchDays.any (fun p => Nat.beq p.1 pc) = true) (hq : ∀ v g, hQ h g → Q v g) : zPn N none d mX12_matchDays (pc, ls, st, h) Q :=
  fl_keep fK_ok (od_f odX12_matchDays) fk_matchDays hpc hq
noncomputable def f1_matchOf : aCd := List.filter (fun q => fIn [14, 15, 18, 19, 20, 23, 26, 27, 28] q.1) oX11_matchOf
noncomputable def f2_matchOf : aCd := List.filter (fun q => fIn [31] q.1) oX11_matchOf
set_option maxRecDepth 100000 in
theorem fg_matchOf : aGr fK 11 112 f1_matchOf f2_matchOf = true ∧ aFl fK 11 f2_matchOf = true := by decide +kernel
theorem G_matchOf11 {N d pc : Nat} {ls : zL} {st : List zV} {h : zH} {Q : Option zV → zH → Prop} (hs : zsh h 0 = some (11, 16)) (h0 : ∀ a n, zsh h a = some (11, n) → a = 0) (hpc : f1_matchOf.any (fun p => Nat.beq p.1 pc) = true) (hq : ∀ v g, g.2.1 0 2 = 0 → Q v g) : zPn N none d mX11_matchOf (pc, ls, st, h) Q :=
  fl_grant fK_ok ml_11_112 rfl (od_f odX11_matchOf) (od_f odX11_matchOf) fg_matchOf.1 fg_matchOf.2 hs h0 hpc hq
noncomputable def f3_matchOf : aCd := List.filter (fun q => fIn [17, 18, 19, 22, 23, 26, 27, 28] q.1) oX12_matchOf
set_option maxRecDepth 100000 in
theorem fk_matchOf : aFl fK 12 f3_matchOf = true := by decide +kernel
theorem G_matchOf12 {N d pc : Nat} {ls : zL} {st : List zV} {h : zH} {Q : Option zV → zH → Prop} (hpc : f3_matchOf.any (fun p => Nat.beq p.1 pc) = true) (hq : ∀ v g, hQ h g → Q v g) : zPn N none d mX12_matchOf (pc, ls, st, h) Q :=
  fl_keep fK_ok (od_f odX12_matchOf) fk_matchOf hpc hq
noncomputable def f1_meet : aCd := List.filter (fun q => fIn [50, 51, 52, 55, 56, 57, 58, 60, 63] q.1) oX11_meet
noncomputable def f2_meet : aCd := List.filter (fun q => fIn [66] q.1) oX11_meet
set_option maxRecDepth 100000 in
theorem fg_meet : aGr fK 11 112 f1_meet f2_meet = true ∧ aFl fK 11 f2_meet = true := by decide +kernel
theorem G_meet11 {N d pc : Nat} {ls : zL} {st : List zV} {h : zH} {Q : Option zV → zH → Prop} (hs : zsh h 0 = some (11, 16)) (h0 : ∀ a n, zsh h a = some (11, n) → a = 0) (hpc : f1_meet.any (fun p => Nat.beq p.1 pc) = true) (hq : ∀ v g, g.2.1 0 2 = 0 → Q v g) : zPn N none d mX11_meet (pc, ls, st, h) Q :=
  fl_grant fK_ok ml_11_112 rfl (od_f odX11_meet) (od_f odX11_meet) fg_meet.1 fg_meet.2 hs h0 hpc hq
noncomputable def f3_meet : aCd := List.filter (fun q => fIn [53, 54, 55, 56, 57, 60, 63, 65, 66, 67, 70, 72, 73, 76, 78, 79, 81, 82, 85, 88, 89, 90, 93, 94, 95, 96, 99, 102, 103, 104, 107, 108, 109, 110, 113, 116, 118, 119, 121, 122, 125, 128, 130, 132, 134, 137, 139, 140, 143, 146, 148, 151, 153] q.1) oX12_meet
set_option maxRecDepth 100000 in
theorem fk_meet : aFl fK 12 f3_meet = true := by decide +kernel
theorem G_meet12 {N d pc : Nat} {ls : zL} {st : List zV} {h : zH} {Q : Option zV → zH → Prop} (hpc : f3_meet.any (fun p => Nat.beq p.1 pc) = true) (hq : ∀ v g, hQ h g → Q v g) : zPn N none d mX12_meet (pc, ls, st, h) Q :=
  fl_keep fK_ok (od_f odX12_meet) fk_meet hpc hq
noncomputable def f1_fits : aCd := List.filter (fun q => fIn [7, 8, 9, 12, 15] q.1) oX11_fits
noncomputable def f2_fits : aCd := List.filter (fun q => fIn [18, 26] q.1) oX11_fits
set_option maxRecDepth 100000 in
theorem fg_fits : aGr fK 11 112 f1_fits f2_fits = true ∧ aFl fK 11 f2_fits = true := by decide +kernel
theorem G_fits11 {N d pc : Nat} {ls : zL} {st : List zV} {h : zH} {Q : Option zV → zH → Prop} (hs : zsh h 0 = some (11, 16)) (h0 : ∀ a n, zsh h a = some (11, n) → a = 0) (hpc : f1_fits.any (fun p => Nat.beq p.1 pc) = true) (hq : ∀ v g, g.2.1 0 2 = 0 → Q v g) : zPn N none d mX11_fits (pc, ls, st, h) Q :=
  fl_grant fK_ok ml_11_112 rfl (od_f odX11_fits) (od_f odX11_fits) fg_fits.1 fg_fits.2 hs h0 hpc hq
noncomputable def f3_fits : aCd := List.filter (fun q => fIn [16, 17, 18, 19, 20, 21, 22, 23, 26, 28, 29, 32, 33, 34, 35, 38, 41, 42, 43, 44, 47, 48, 49, 50, 53, 56, 57] q.1) oX12_fits
set_option maxRecDepth 100000 in
theorem fk_fits : aFl fK 12 f3_fits = true := by decide +kernel
theorem G_fits12 {N d pc : Nat} {ls : zL} {st : List zV} {h : zH} {Q : Option zV → zH → Prop} (hpc : f3_fits.any (fun p => Nat.beq p.1 pc) = true) (hq : ∀ v g, hQ h g → Q v g) : zPn N none d mX12_fits (pc, ls, st, h) Q :=
  fl_keep fK_ok (od_f odX12_fits) fk_fits hpc hq
noncomputable def f1_reach : aCd := List.filter (fun q => fIn [29, 30, 31, 34, 35, 36, 39] q.1) oX11_reach
noncomputable def f2_reach : aCd := List.filter (fun q => fIn [42] q.1) oX11_reach
set_option maxRecDepth 100000 in
theorem fg_reach : aGr fK 11 112 f1_reach f2_reach = true ∧ aFl fK 11 f2_reach = true := by decide +kernel
theorem G_reach11 {N d pc : Nat} {ls : zL} {st : List zV} {h : zH} {Q : Option zV → zH → Prop} (hs : zsh h 0 = some (11, 16)) (h0 : ∀ a n, zsh h a = some (11, n) → a = 0) (hpc : f1_reach.any (fun p => Nat.beq p.1 pc) = true) (hq : ∀ v g, g.2.1 0 2 = 0 → Q v g) : zPn N none d mX11_reach (pc, ls, st, h) Q :=
  fl_grant fK_ok ml_11_112 rfl (od_f odX11_reach) (od_f odX11_reach) fg_reach.1 fg_reach.2 hs h0 hpc hq
noncomputable def f3_reach : aCd := List.filter (fun q => fIn [17, 29, 30, 31, 32, 35, 43] q.1) oX12_reach
set_option maxRecDepth 100000 in
theorem fk_reach : aFl fK 12 f3_reach = true := by decide +kernel
theorem G_reach12 {N d pc : Nat} {ls : zL} {st : List zV} {h : zH} {Q : Option zV → zH → Prop} (hpc : f3_reach.any (fun p => Nat.beq p.1 pc) = true) (hq : ∀ v g, hQ h g → Q v g) : zPn N none d mX12_reach (pc, ls, st, h) Q :=
  fl_keep fK_ok (od_f odX12_reach) fk_reach hpc hq
noncomputable def f1_pier : aCd := List.filter (fun q => fIn [28, 29, 30, 33, 34, 37] q.1) oX11_pier
noncomputable def f2_pier : aCd := List.filter (fun q => fIn [40] q.1) oX11_pier
set_option maxRecDepth 100000 in
theorem fg_pier : aGr fK 11 112 f1_pier f2_pier = true ∧ aFl fK 11 f2_pier = true := by decide +kernel
theorem G_pier11 {N d pc : Nat} {ls : zL} {st : List zV} {h : zH} {Q : Option zV → zH → Prop} (hs : zsh h 0 = some (11, 16)) (h0 : ∀ a n, zsh h a = some (11, n) → a = 0) (hpc : f1_pier.any (fun p => Nat.beq p.1 pc) = true) (hq : ∀ v g, g.2.1 0 2 = 0 → Q v g) : zPn N none d mX11_pier (pc, ls, st, h) Q :=
  fl_grant fK_ok ml_11_112 rfl (od_f odX11_pier) (od_f odX11_pier) fg_pier.1 fg_pier.2 hs h0 hpc hq
noncomputable def f3_pier : aCd := List.filter (fun q => fIn [16, 33, 34, 35, 36, 39, 40, 41, 43, 45, 46, 49, 50, 51, 54, 55, 57, 58, 60, 61, 63, 65, 66, 69, 71, 72, 75, 76, 78, 81, 84, 87, 90, 92, 93, 95, 96, 99, 101, 104, 107, 108, 111, 112, 113, 115, 118, 121, 122, 124, 125, 127, 130, 131, 133, 134, 136, 137, 140, 142, 143, 145, 146, 147, 149, 151, 152, 155, 158, 160, 161, 163, 164, 167, 170, 171] q.1) oX12_pier
set_option maxRecDepth 100000 in
theorem fk_pier : aFl fK 12 f3_pier = true := by decide +kernel
theorem G_pier12 {N d pc : Nat} {ls : zL} {st : List zV} {h : zH} {Q : Option zV → zH → Prop} (hpc : f3_pier.any (fun p => Nat.beq p.1 pc) = true) (hq : ∀ v g, hQ h g → Q v g) : zPn N none d mX12_pier (pc, ls, st, h) Q :=
  fl_keep fK_ok (od_f odX12_pier) fk_pier hpc hq
noncomputable def f1_watch : aCd := List.filter (fun q => fIn [9, 10, 11, 14, 15, 16, 17, 20, 23, 26] q.1) oX11_watch
noncomputable def f2_watch : aCd := List.filter (fun q => fIn [29, 37] q.1) oX11_watch
set_option maxRecDepth 100000 in
theorem fg_watch : aGr fK 11 112 f1_watch f2_watch = true ∧ aFl fK 11 f2_watch = true := by decide +kernel
theorem G_watch11 {N d pc : Nat} {ls : zL} {st : List zV} {h : zH} {Q : Option zV → zH → Prop} (hs : zsh h 0 = some (11, 16)) (h0 : ∀ a n, zsh h a = some (11, n) → a = 0) (hpc : f1_watch.any (fun p => Nat.beq p.1 pc) = true) (hq : ∀ v g, g.2.1 0 2 = 0 → Q v g) : zPn N none d mX11_watch (pc, ls, st, h) Q :=
  fl_grant fK_ok ml_11_112 rfl (od_f odX11_watch) (od_f odX11_watch) fg_watch.1 fg_watch.2 hs h0 hpc hq
noncomputable def f3_watch : aCd := List.filter (fun q => fIn [30, 31, 32, 33, 36, 37, 38, 39, 40, 41, 42, 43, 45, 47, 48, 49, 52, 53, 54, 55, 58, 60, 63, 64, 67, 70, 71, 72, 73, 75, 78, 81, 83, 84, 87, 90, 91, 92, 95, 96, 97, 98, 99, 100] q.1) oX12_watch
set_option maxRecDepth 100000 in
theorem fk_watch : aFl fK 12 f3_watch = true := by decide +kernel
theorem G_watch12 {N d pc : Nat} {ls : zL} {st : List zV} {h : zH} {Q : Option zV → zH → Prop} (hpc : f3_watch.any (fun p => Nat.beq p.1 pc) = true) (hq : ∀ v g, hQ h g → Q v g) : zPn N none d mX12_watch (pc, ls, st, h) Q :=
  fl_keep fK_ok (od_f odX12_watch) fk_watch hpc hq
noncomputable def f1_round : aCd := List.filter (fun q => fIn [8, 9, 10, 13, 14, 15, 18, 21, 24] q.1) oX11_round
noncomputable def f2_round : aCd := List.filter (fun q => fIn [27, 35] q.1) oX11_round
set_option maxRecDepth 100000 in
theorem fg_round : aGr fK 11 112 f1_round f2_round = true ∧ aFl fK 11 f2_round = true := by decide +kernel
theorem G_round11 {N d pc : Nat} {ls : zL} {st : List zV} {h : zH} {Q : Option zV → zH → Prop} (hs : zsh h 0 = some (11, 16)) (h0 : ∀ a n, zsh h a = some (11, n) → a = 0) (hpc : f1_round.any (fun p => Nat.beq p.1 pc) = true) (hq : ∀ v g, g.2.1 0 2 = 0 → Q v g) : zPn N none d mX11_round (pc, ls, st, h) Q :=
  fl_grant fK_ok ml_11_112 rfl (od_f odX11_round) (od_f odX11_round) fg_round.1 fg_round.2 hs h0 hpc hq
noncomputable def f3_round : aCd := List.filter (fun q => fIn [12, 13, 14, 17, 25] q.1) oX12_round
set_option maxRecDepth 100000 in
theorem fk_round : aFl fK 12 f3_round = true := by decide +kernel
theorem G_round12 {N d pc : Nat} {ls : zL} {st : List zV} {h : zH} {Q : Option zV → zH → Prop} (hpc : f3_round.any (fun p => Nat.beq p.1 pc) = true) (hq : ∀ v g, hQ h g → Q v g) : zPn N none d mX12_round (pc, ls, st, h) Q :=
  fl_keep fK_ok (od_f odX12_round) fk_round hpc hq
noncomputable def f1_roundAt : aCd := List.filter (fun q => fIn [49, 50, 51, 54, 57, 58, 59] q.1) oX11_roundAt
noncomputable def f2_roundAt : aCd := List.filter (fun q => fIn [62] q.1) oX11_roundAt
set_option maxRecDepth 100000 in
theorem fg_roundAt : aGr fK 11 112 f1_roundAt f2_roundAt = true ∧ aFl fK 11 f2_roundAt = true := by decide +kernel
theorem G_roundAt11 {N d pc : Nat} {ls : zL} {st : List zV} {h : zH} {Q : Option zV → zH → Prop} (hs : zsh h 0 = some (11, 16)) (h0 : ∀ a n, zsh h a = some (11, n) → a = 0) (hpc : f1_roundAt.any (fun p => Nat.beq p.1 pc) = true) (hq : ∀ v g, g.2.1 0 2 = 0 → Q v g) : zPn N none d mX11_roundAt (pc, ls, st, h) Q :=
  fl_grant fK_ok ml_11_112 rfl (od_f odX11_roundAt) (od_f odX11_roundAt) fg_roundAt.1 fg_roundAt.2 hs h0 hpc hq
noncomputable def f3_roundAt : aCd := List.filter (fun q => fIn [33, 48, 51, 52, 55, 56, 57] q.1) oX12_roundAt
set_option maxRecDepth 100000 in
theorem fk_roundAt : aFl fK 12 f3_roundAt = true := by decide +kernel
theorem G_roundAt12 {N d pc : Nat} {ls : zL} {st : List zV} {h : zH} {Q : Option zV → zH → Prop} (hpc : f3_roundAt.any (fun p => Nat.beq p.1 pc) = true) (hq : ∀ v g, hQ h g → Q v g) : zPn N none d mX12_roundAt (pc, ls, st, h) Q :=
  fl_keep fK_ok (od_f odX12_roundAt) fk_roundAt hpc hq
noncomputable def f1_decade : aCd := List.filter (fun q => fIn [38, 39, 42, 43, 46, 47, 48, 49, 51, 53, 54, 57, 58, 59, 60, 63, 66, 68, 69, 72, 73, 74, 77, 80, 81, 82] q.1) oX11_decade
noncomputable def f2_decade : aCd := List.filter (fun q => fIn [85] q.1) oX11_decade
set_option maxRecDepth 100000 in
theorem fg_decade : aGr fK 11 112 f1_decade f2_decade = true ∧ aFl fK 11 f2_decade = true := by decide +kernel
theorem G_decade11 {N d pc : Nat} {ls : zL} {st : List zV} {h : zH} {Q : Option zV → zH → Prop} (hs : zsh h 0 = some (11, 16)) (h0 : ∀ a n, zsh h a = some (11, n) → a = 0) (hpc : f1_decade.any (fun p => Nat.beq p.1 pc) = true) (hq : ∀ v g, g.2.1 0 2 = 0 → Q v g) : zPn N none d mX11_decade (pc, ls, st, h) Q :=
  fl_grant fK_ok ml_11_112 rfl (od_f odX11_decade) (od_f odX11_decade) fg_decade.1 fg_decade.2 hs h0 hpc hq
noncomputable def f3_decade : aCd := List.filter (fun q => fIn [16, 43, 44, 45, 46, 47, 49, 50, 52, 54, 55, 58, 59, 61, 63, 64, 67, 69, 70, 73, 74, 76, 77, 79, 81, 82, 83, 85, 86, 89, 90, 91, 92, 94, 95, 96, 99, 100, 101, 104, 106, 107, 108, 110, 111, 114, 115, 116, 117, 118, 120, 123, 124, 126, 128, 129, 130, 132, 133, 136, 137, 138, 139, 140, 143, 144, 145, 146, 148, 150, 151, 153, 154, 157, 158, 159, 161, 162, 164, 166, 169, 170, 172, 173, 176, 179, 180, 183, 184, 185, 187, 190, 193, 196, 199, 201] q.1) oX12_decade
set_option maxRecDepth 100000 in
theorem fk_decade : aFl fK 12 f3_decade = true := by decide +kernel
theorem G_decade12 {N d pc : Nat} {ls : zL} {st : List zV} {h : zH} {Q : Option zV → zH → Prop} (hpc : f3_decade.any (fun p => Nat.beq p.1 pc) = true) (hq : ∀ v g, hQ h g → Q v g) : zPn N none d mX12_decade (pc, ls, st, h) Q :=
  fl_keep fK_ok (od_f odX12_decade) fk_decade hpc hq
/-! refusals of new songs (as in w57) -/
section RFJ
variable {t d c : Nat} {h g : zH} {A : pA} {s : nS} {x1 y1 : Int32}
theorem N_refNew (hA : lPA A c h) (h1 : h.1 = hh_487.1) : zPa d mX11_refusalOfNewSong [.inr (.inr (some 0)), .inl x1, .inl y1] h (fun v g => v = some (.inl (if cI A = 0 then 1 else if (2 ≤ x1.toInt ∧ x1.toInt ≤ 5) ∧ 1 ≤ y1.toInt ∧ y1.toInt ≤ 5 then 0 else 2)) ∧ g = h) := by
  intro N
  have s0 : zsh h 0 = some (11, 16) := zsh_by h1 (by decide +kernel)
  show zPn N none d mX11_refusalOfNewSong (0, [(0, .inr (.inr (some 0))), (1, .inl x1), (2, .inl y1)], [], h) _
  refine pa_aload_n (pc' := 1) dX11_refusalOfNewSong_0 rfl rfl ?_
  refine pa_callv (pc' := 4) (vs := []) (rest := []) dX11_refusalOfNewSong_1 ml_11_222 (by decide) rfl rfl rfl (fun d' _ => (N_hasPost hA h1)) (fun v g9 hq => ?_)
  obtain ⟨ev, eh⟩ := hq
  subst ev
  rw [eh]
  show zPn N none d mX11_refusalOfNewSong (4, _, [.inl (if cI A = 0 then 0 else 1)], h) _
  by_cases z0 : cI A = 0
  · rw [if_pos z0, if_pos z0]
    refine pa_if_f (pc' := 7) dX11_refusalOfNewSong_4 (by decide) (by decide) rfl ?_
    refine pa_iconst (v := 1) (pc' := 8) dX11_refusalOfNewSong_7 (by decide) rfl ?_
    refine pa_iret dX11_refusalOfNewSong_8 rfl rfl ?_
    exact ⟨rfl, rfl⟩
  rw [if_neg z0, if_neg z0]
  have no : ¬ ((2 ≤ x1.toInt ∧ x1.toInt ≤ 5) ∧ 1 ≤ y1.toInt ∧ y1.toInt ≤ 5) → ∀ N, zPn N none d mX11_refusalOfNewSong (33, [(0, .inr (.inr (some 0))), (1, .inl x1), (2, .inl y1)], [], h) (fun v g => v = some (.inl (if (2 ≤ x1.toInt ∧ x1.toInt ≤ 5) ∧ 1 ≤ y1.toInt ∧ y1.toInt ≤ 5 then 0 else 2)) ∧ g = h) := fun q N => by
    rw [if_neg q]
    refine pa_iconst (v := nI 0) (pc' := 34) dX11_refusalOfNewSong_33 (by decide) rfl ?_
    refine pa_istore_n (pc' := 35) dX11_refusalOfNewSong_34 (by decide) rfl rfl ?_
    refine pa_iload_n (pc' := 36) dX11_refusalOfNewSong_35 rfl rfl ?_
    refine pa_if_t (pc' := 43) dX11_refusalOfNewSong_36 (by decide) (by decide) ?_
    refine pa_iconst (v := 2) (pc' := 44) dX11_refusalOfNewSong_43 (by decide) rfl ?_
    refine pa_iret dX11_refusalOfNewSong_44 rfl rfl ?_
    exact ⟨rfl, rfl⟩
  refine pa_if_t (pc' := 9) dX11_refusalOfNewSong_4 (by decide) (by decide) ?_
  refine pa_iload_n (pc' := 10) dX11_refusalOfNewSong_9 rfl rfl ?_
  refine pa_iconst (v := nI 2) (pc' := 11) dX11_refusalOfNewSong_10 (by decide) rfl ?_
  refine pa_icmp (pc' := 33) (pc2 := 14) dX11_refusalOfNewSong_11 (by decide) rfl (fun q1 => ?_) (fun q1 => ?_)
  · have q1 := zi_lt q1
    rw [nI_toInt (by omega)] at q1
    exact no (fun q => by omega) _
  have q1 := zi_nlt q1
  rw [nI_toInt (by omega)] at q1
  refine pa_iload_n (pc' := 15) dX11_refusalOfNewSong_14 rfl rfl ?_
  refine pa_iconst (v := nI 5) (pc' := 16) dX11_refusalOfNewSong_15 (by decide) rfl ?_
  refine pa_icmp (pc' := 33) (pc2 := 19) dX11_refusalOfNewSong_16 (by decide) rfl (fun q2 => ?_) (fun q2 => ?_)
  · have q2 := zi_gt q2
    rw [nI_toInt (by omega)] at q2
    exact no (fun q => by omega) _
  have q2 := zi_ngt q2
  rw [nI_toInt (by omega)] at q2
  refine pa_iload_n (pc' := 20) dX11_refusalOfNewSong_19 rfl rfl ?_
  refine pa_iconst (v := nI 1) (pc' := 21) dX11_refusalOfNewSong_20 (by decide) rfl ?_
  refine pa_icmp (pc' := 33) (pc2 := 24) dX11_refusalOfNewSong_21 (by decide) rfl (fun q3 => ?_) (fun q3 => ?_)
  · have q3 := zi_lt q3
    rw [nI_toInt (by omega)] at q3
    exact no (fun q => by omega) _
  have q3 := zi_nlt q3
  rw [nI_toInt (by omega)] at q3
  refine pa_iload_n (pc' := 25) dX11_refusalOfNewSong_24 rfl rfl ?_
  refine pa_iconst (v := nI 5) (pc' := 26) dX11_refusalOfNewSong_25 (by decide) rfl ?_
  refine pa_icmp (pc' := 33) (pc2 := 29) dX11_refusalOfNewSong_26 (by decide) rfl (fun q4 => ?_) (fun q4 => ?_)
  · have q4 := zi_gt q4
    rw [nI_toInt (by omega)] at q4
    exact no (fun q => by omega) _
  have q4 := zi_ngt q4
  rw [nI_toInt (by omega)] at q4
  rw [if_pos ⟨⟨by omega, by omega⟩, by omega, by omega⟩]
  refine pa_iconst (v := nI 1) (pc' := 30) dX11_refusalOfNewSong_29 (by decide) rfl ?_
  refine pa_goto (pc' := 34) dX11_refusalOfNewSong_30 (by decide) ?_
  refine pa_istore_n (pc' := 35) dX11_refusalOfNewSong_34 (by decide) rfl rfl ?_
  refine pa_iload_n (pc' := 36) dX11_refusalOfNewSong_35 rfl rfl ?_
  refine pa_if_f (pc' := 39) dX11_refusalOfNewSong_36 (by decide) (by decide) rfl ?_
  refine pa_iconst (v := 0) (pc' := 40) dX11_refusalOfNewSong_39 (by decide) rfl ?_
  refine pa_goto (pc' := 44) dX11_refusalOfNewSong_40 (by decide) ?_
  refine pa_iret dX11_refusalOfNewSong_44 rfl rfl ?_
  exact ⟨rfl, rfl⟩
theorem M_songWhy (hA : lPA A c h) (h1 : h.1 = hh_487.1) : zPa d mX12_songWhy [.inr (.inr (some 196)), .inl x1, .inl y1] h (fun v g => v = some (.inl (if cI A = 0 then 1 else if (2 ≤ x1.toInt ∧ x1.toInt ≤ 5) ∧ 1 ≤ y1.toInt ∧ y1.toInt ≤ 5 then 0 else 2)) ∧ g = h) := by
  intro N
  have s196 := sh_196' h1
  show zPn N none d mX12_songWhy (0, [(0, .inr (.inr (some 196))), (1, .inl x1), (2, .inl y1)], [], h) _
  rcases hA.2.2.2.2 with ⟨hp, e⟩ | ⟨hp, z0, -⟩
  · have z0 : cI A = 0 := by rw [e]; rfl
    rw [if_pos z0]
    refine pa_aload_n (pc' := 1) dX12_songWhy_0 rfl rfl ?_
    refine pa_getI (pc' := 4) (n := 39) (v := 0) dX12_songWhy_1 fl_12_180 s196 (by decide) hp rfl ?_
    refine pa_if_f (pc' := 7) dX12_songWhy_4 (by decide) (by decide) rfl ?_
    refine pa_iconst (v := 1) (pc' := 8) dX12_songWhy_7 (by decide) rfl ?_
    refine pa_goto (pc' := 34) dX12_songWhy_8 (by decide) ?_
    refine pa_iret dX12_songWhy_34 rfl rfl ?_
    exact ⟨rfl, rfl⟩
  rw [if_neg z0]
  have no : ¬ ((2 ≤ x1.toInt ∧ x1.toInt ≤ 5) ∧ 1 ≤ y1.toInt ∧ y1.toInt ≤ 5) → ∀ N, zPn N none d mX12_songWhy (33, [(0, .inr (.inr (some 196))), (1, .inl x1), (2, .inl y1)], [], h) (fun v g => v = some (.inl (if (2 ≤ x1.toInt ∧ x1.toInt ≤ 5) ∧ 1 ≤ y1.toInt ∧ y1.toInt ≤ 5 then 0 else 2)) ∧ g = h) := fun q N => by
    rw [if_neg q]
    refine pa_iconst (v := 2) (pc' := 34) dX12_songWhy_33 (by decide) rfl ?_
    refine pa_iret dX12_songWhy_34 rfl rfl ?_
    exact ⟨rfl, rfl⟩
  refine pa_aload_n (pc' := 1) dX12_songWhy_0 rfl rfl ?_
  refine pa_getI (pc' := 4) (n := 39) (v := 1) dX12_songWhy_1 fl_12_180 s196 (by decide) hp rfl ?_
  refine pa_if_t (pc' := 11) dX12_songWhy_4 (by decide) (by decide) ?_
  refine pa_iload_n (pc' := 12) dX12_songWhy_11 rfl rfl ?_
  refine pa_iconst (v := nI 2) (pc' := 13) dX12_songWhy_12 (by decide) rfl ?_
  refine pa_iconst (v := nI 5) (pc' := 14) dX12_songWhy_13 (by decide) rfl ?_
  refine pa_calls (pc' := 17) (kd := 1) (vs := [.inl x1, .inl (nI 2), .inl (nI 5)]) (rest := []) dX12_songWhy_14 ml_12_149 (.inl rfl) rfl rfl rfl (fun d' _ => in_v) (fun v g9 hq => ?_)
  obtain ⟨ev, eh⟩ := hq
  subst ev
  rw [eh]
  show zPn N none d mX12_songWhy (17, _, [.inl (if ((nI 2)).toInt ≤ (x1).toInt ∧ (x1).toInt ≤ ((nI 5)).toInt then 1 else 0)], h) _
  rw [nI_toInt (n := 2) (by decide), nI_toInt (n := 5) (by decide)]
  by_cases q1 : ((2 : Nat) : Int) ≤ x1.toInt ∧ x1.toInt ≤ ((5 : Nat) : Int)
  case neg =>
    rw [if_neg q1]
    refine pa_if_t (pc' := 33) dX12_songWhy_17 (by decide) (by decide) ?_
    exact no (fun q => q1 q.1) _
  rw [if_pos q1]
  refine pa_if_f (pc' := 20) dX12_songWhy_17 (by decide) (by decide) rfl ?_
  refine pa_iload_n (pc' := 21) dX12_songWhy_20 rfl rfl ?_
  refine pa_iconst (v := nI 1) (pc' := 22) dX12_songWhy_21 (by decide) rfl ?_
  refine pa_iconst (v := nI 5) (pc' := 23) dX12_songWhy_22 (by decide) rfl ?_
  refine pa_calls (pc' := 26) (kd := 1) (vs := [.inl y1, .inl (nI 1), .inl (nI 5)]) (rest := []) dX12_songWhy_23 ml_12_149 (.inl rfl) rfl rfl rfl (fun d' _ => in_v) (fun v g9 hq => ?_)
  obtain ⟨ev, eh⟩ := hq
  subst ev
  rw [eh]
  show zPn N none d mX12_songWhy (26, _, [.inl (if ((nI 1)).toInt ≤ (y1).toInt ∧ (y1).toInt ≤ ((nI 5)).toInt then 1 else 0)], h) _
  rw [nI_toInt (n := 1) (by decide), nI_toInt (n := 5) (by decide)]
  by_cases q2 : ((1 : Nat) : Int) ≤ y1.toInt ∧ y1.toInt ≤ ((5 : Nat) : Int)
  case neg =>
    rw [if_neg q2]
    refine pa_if_t (pc' := 33) dX12_songWhy_26 (by decide) (by decide) ?_
    exact no (fun q => q2 q.2) _
  rw [if_pos q2]
  rw [if_pos (show (2 ≤ x1.toInt ∧ x1.toInt ≤ 5) ∧ 1 ≤ y1.toInt ∧ y1.toInt ≤ 5 from ⟨q1, q2⟩)]
  refine pa_if_f (pc' := 29) dX12_songWhy_26 (by decide) (by decide) rfl ?_
  refine pa_iconst (v := 0) (pc' := 30) dX12_songWhy_29 (by decide) rfl ?_
  refine pa_goto (pc' := 34) dX12_songWhy_30 (by decide) ?_
  refine pa_iret dX12_songWhy_34 rfl rfl ?_
  exact ⟨rfl, rfl⟩
end RFJ
/-! trouble: what a call leaves -/
def cd_length (A : pA) (x1 : Int32) : Int32 := if (0 ≤ x1.toInt ∧ x1.toInt < (cI A : Int)) then 0 else 1
def cd_heard (A : pA) (x1 : Int32) : Int32 := if (0 ≤ x1.toInt ∧ x1.toInt < (cB A : Int)) then 0 else 1
def cd_way (A : pA) (x1 x2 : Int32) : Int32 := if twB A x1 x2 = true then 0 else 1
def cd_season (A : pA) (x1 : Int32) : Int32 := if cI A ≠ 0 then (if (0 ≤ x1.toInt ∧ x1.toInt ≤ 99999) then 0 else 2) else 1
def cd_sets (A : pA) (x1 x2 x3 : Int32) : Int32 := if (0 ≤ x1.toInt ∧ x1.toInt < (cH A : Int)) ∧ (0 ≤ x2.toInt ∧ x2.toInt < (cW A : Int)) then (if (0 ≤ x3.toInt ∧ x3.toInt ≤ 9999) then 0 else 2) else 1
def cd_apart (A : pA) (x1 x2 : Int32) : Int32 := if (0 ≤ x1.toInt ∧ x1.toInt < (cI A : Int)) ∧ (0 ≤ x2.toInt ∧ x2.toInt < (cI A : Int)) then 0 else 1
def cd_bear (A : pA) : Int32 := if cI A ≠ 0 then 0 else 1
def cd_mixed (A : pA) : Int32 := if cI A ≠ 0 then 0 else 1
def cd_near (A : pA) (x1 : Int32) : Int32 := if (0 ≤ x1.toInt ∧ x1.toInt < (cB A : Int)) then 0 else 1
def cd_asNear (A : pA) (x1 : Int32) : Int32 := if (0 ≤ x1.toInt ∧ x1.toInt < (cB A : Int)) then 0 else 1
def cd_heardIn (A : pA) (x1 x2 : Int32) : Int32 := if (0 ≤ x1.toInt ∧ x1.toInt < (cB A : Int)) then (if (0 ≤ x2.toInt ∧ x2.toInt ≤ 99) then 0 else 2) else 1
def cd_strange (A : pA) (x1 : Int32) : Int32 := if (0 ≤ x1.toInt ∧ x1.toInt < (cI A : Int)) then 0 else 1
def cd_arrival (A : pA) (x1 x2 x3 x4 : Int32) : Int32 := if (0 ≤ x1.toInt ∧ x1.toInt < (cH A : Int)) ∧ (0 ≤ x2.toInt ∧ x2.toInt < (cI A : Int)) ∧ (0 ≤ x3.toInt ∧ x3.toInt < (cI A : Int)) then (if (0 ≤ x4.toInt ∧ x4.toInt ≤ 9999) then 0 else 2) else 1
def cd_brings (A : pA) (x1 x2 : Int32) : Int32 := if (0 ≤ x1.toInt ∧ x1.toInt < (cH A : Int)) ∧ (0 ≤ x2.toInt ∧ x2.toInt < (cB A : Int)) then 0 else 1
def cd_soonest (A : pA) (x1 : Int32) : Int32 := if (0 ≤ x1.toInt ∧ x1.toInt < (cB A : Int)) then 0 else 1
def cd_surest (A : pA) (x1 : Int32) : Int32 := if (0 ≤ x1.toInt ∧ x1.toInt < (cB A : Int)) then 0 else 1
def cd_by (A : pA) (x1 x2 : Int32) : Int32 := if (0 ≤ x1.toInt ∧ x1.toInt < (cB A : Int)) then (if (0 ≤ x2.toInt ∧ x2.toInt ≤ 99999) then 0 else 2) else 1
def cd_match (A : pA) : Int32 := if cI A ≠ 0 then 0 else 1
def cd_matchDays (A : pA) : Int32 := if cI A ≠ 0 then 0 else 1
def cd_matchOf (A : pA) (x1 : Int32) : Int32 := if (0 ≤ x1.toInt ∧ x1.toInt < (cB A : Int)) then 0 else 1
def cd_fits (A : pA) : Int32 := if cI A ≠ 0 then 0 else 1
def cd_reach (A : pA) (x1 x2 : Int32) : Int32 := if (0 ≤ x1.toInt ∧ x1.toInt < (cH A : Int)) then (if (0 ≤ x2.toInt ∧ x2.toInt ≤ 99999) then 0 else 2) else 1
def cd_watch (A : pA) (x1 x2 : Int32) : Int32 := if twB A x1 x2 = true then 0 else 1
def cd_round (A : pA) (x1 : Int32) : Int32 := if (0 ≤ x1.toInt ∧ x1.toInt < (cI A : Int)) then 0 else 1
def cd_decade (A : pA) (x1 x2 : Int32) : Int32 := if cI A ≠ 0 then (if (0 ≤ x1.toInt ∧ x1.toInt ≤ 65536) ∧ (0 ≤ x2.toInt ∧ x2.toInt ≤ 50) then 0 else 2) else 1
def cd_pier (A : pA) (x1 : Int32) : Int32 := if cI A ≠ 0 then (if (0 ≤ x1.toInt ∧ x1.toInt ≤ 99999) then 0 else 2) else 1
def cd_sung (A : pA) (x1 x2 : Int32) : Int32 := if (0 ≤ x1.toInt ∧ x1.toInt < (cB A : Int)) ∧ 0 ≤ x2.toInt ∧ x2.toInt < (lB A x1.toInt.toNat : Int) then 0 else 1
def cd_sent (A : pA) (x1 : Int32) : Int32 := if cI A ≠ 0 ∧ (0 ≤ x1.toInt ∧ x1.toInt ≤ 2) then 0 else 1
def cd_meet (A : pA) (x1 x2 x3 x4 : Int32) : Int32 := if (0 ≤ x1.toInt ∧ x1.toInt < (cB A : Int)) ∧ (0 ≤ x3.toInt ∧ x3.toInt < (cB A : Int)) ∧ (0 ≤ x2.toInt ∧ x2.toInt < (cH A : Int)) ∧ (0 ≤ x4.toInt ∧ x4.toInt < (cH A : Int)) ∧ ¬ x1 = x3 ∧ ¬ x2 = x4 then 0 else 1
section RFS
variable {t d c : Nat} {h g : zH} {A : pA} {s : nS} {H J : List nS} {x1 x2 x3 x4 : Int32} {kk : Bool} {im : Int32}
theorem sh11 {h : zH} (e : h.1 = hh_487.1) : ∀ a n, zsh h a = some (11, n) → a = 0 := by
  intro a n q
  rw [zsh_1 e a] at q
  unfold zsh at q
  split at q
  · next ha =>
    have key : ∀ a < 214, (hh_487.1.2.1 a).1 = 11 → a = 0 := by decide +kernel
    exact key a (Nat.lt_of_lt_of_le ha (by decide +kernel)) (congrArg Prod.fst (Option.some.inj q))
  · cases q
theorem M_hasBt (z : lZ A c s H J g) (m : lMid kk im t g h) : (cI A = 0 ∧ h.2.1 196 14 = 0) ∨ (cI A ≠ 0 ∧ h.2.1 196 14 = 1) := by
  rcases (m.pa z.1.1).2.2.2.2 with ⟨a, e⟩ | ⟨a, e, -⟩
  · exact .inl ⟨by rw [e]; rfl, a⟩
  · exact .inr ⟨e, a⟩
theorem R_length11 (z : lZ A c s H J h) (hi : lInv t h) : zPa d mX11_length [.inr (.inr (some 0)), .inl x1] h (fun _ g => g.2.1 0 2 = cd_length A x1) := by
  intro N
  have h1 := hi.2.2.2.2.1
  have hA := z.1.1
  have hT := z.1.2.1
  have hB := z.1.2.2
  have hI := hA.1
  have hN := z.2.1.1
  have K := hA.2.2.2.1
  have hc2 : c = 2 ∨ c = 42 := hA.2.1
  obtain ⟨b1, b2, b3, b4, b5⟩ := hI.2.2.1
  have s0 : zsh h 0 = some (11, 16) := zsh_by h1 (by decide +kernel)
  obtain ⟨sc, sc1, sc2, sc4, sc5, scw, scb⟩ := cSh hA.2.1 h1
  obtain ⟨c9, c12, c13, cw, cb⟩ := cRf_of hi.1 hA.2.1
  have S := hi.nw
  obtain ⟨⟨s86, s87, s88, s89, s90, s91⟩, r87, r88, r89, r90, r91⟩ := S.o86
  have r3 := hA.2.2.1
  have r6 := S.2.1
  obtain ⟨n1, n2, n3, n4⟩ := z.2.2.1.1
  have lt0 : (nI 1 : Int32).toInt = 1 := by decide
  show zPn N none d mX11_length (0, [(0, .inr (.inr (some 0))), (1, .inl x1)], [], h) _
  refine pa_aload_n (pc' := 1) dX11_length_0 rfl rfl ?_
  refine pa_iload_n (pc' := 2) dX11_length_1 rfl rfl ?_
  refine pa_callv (pc' := 5) (vs := [.inl x1]) (rest := []) dX11_length_2 ml_11_174 (by decide) rfl rfl rfl (fun d' _ => (N_isI11 hA h1)) (fun v g9 hq => ?_)
  obtain ⟨ev, eh⟩ := hq
  subst ev
  rw [eh]
  show zPn N none d mX11_length (5, _, [.inl (if 0 ≤ (x1).toInt ∧ (x1).toInt < (cI A:Int) then 1 else 0)], h) _
  split
  · next y1 =>
      refine pa_if_f (pc' := 8) dX11_length_5 (by decide) (by decide) rfl ?_
      exact G_length11 s0 (sh11 h1) (by decide +kernel) (fun v g q => q.trans (show cd_length A x1 = 0 from (by unfold cd_length; rw [if_pos (by first | assumption | omega | exact fun q => absurd (twB_iff.mp q).1.1 (by assumption) | exact fun q => absurd (twB_iff.mp q).1.2 (by assumption) | exact fun q => absurd (by assumption) (twB_iff.mp q).2 | exact twB_iff.mpr ⟨⟨by assumption, by assumption⟩, by assumption⟩ | exact fun q => q.2.2.2.2.1 (by assumption) | exact fun q => q.2.2.2.2.2 (by assumption) | exact fun q => absurd q.1 (by assumption) | exact fun q => absurd q.2.1 (by assumption) | exact fun q => absurd q.2.2.1 (by assumption) | exact fun q => absurd q.2.2.2.1 (by assumption) | exact ⟨by assumption, by assumption, by assumption, by assumption, by assumption, by assumption⟩)])).symm)
  · next y1 =>
      refine pa_if_t (pc' := 24) dX11_length_5 (by decide) (by decide) ?_
      refine pa_aload_n (pc' := 25) dX11_length_24 rfl rfl ?_
      refine pa_iconst (v := nI 1) (pc' := 26) dX11_length_25 (by decide) rfl ?_
      refine pa_callv (pc' := 29) (vs := [.inl (nI 1)]) (rest := []) dX11_length_26 ml_11_98 (by decide) rfl rfl rfl (fun d' _ => (c_ref s0)) (fun v g8 hq => ?_)
      obtain ⟨ev, eh⟩ := hq
      subst ev
      show zPn N none d mX11_length (29, _, [.inl ((-1))], g8) _
      refine pa_iret dX11_length_29 rfl rfl ?_
      exact (by rw [eh, zsI_eq, show cd_length A x1 = 1 from (by unfold cd_length; rw [if_neg (by first | assumption | omega | exact fun q => absurd (twB_iff.mp q).1.1 (by assumption) | exact fun q => absurd (twB_iff.mp q).1.2 (by assumption) | exact fun q => absurd (by assumption) (twB_iff.mp q).2 | exact twB_iff.mpr ⟨⟨by assumption, by assumption⟩, by assumption⟩ | exact fun q => q.2.2.2.2.1 (by assumption) | exact fun q => q.2.2.2.2.2 (by assumption) | exact fun q => absurd q.1 (by assumption) | exact fun q => absurd q.2.1 (by assumption) | exact fun q => absurd q.2.2.1 (by assumption) | exact fun q => absurd q.2.2.2.1 (by assumption) | exact ⟨by assumption, by assumption, by assumption, by assumption, by assumption, by assumption⟩)])]; rfl : g8.2.1 0 2 = cd_length A x1)
theorem R_length12 (z : lZ A c s H J g) (m : lMid kk im t g h) : zPa d mX12_length [.inr (.inr (some 196)), .inl x1] h (fun _ g => g.2.1 196 11 = cd_length A x1) := by
  intro N
  have hp := M_hasBt z m
  have s196 : zsh h 196 = some (12, 39) := zsh_by m.2.1.2.2.2 (by decide +kernel)
  generalize eg : zsI (zsI h 196 0 0) 196 11 0 = h2
  have e2 : ∀ a k, a ≠ 196 → h2.2.1 a k = h.2.1 a k := fun a k ha => by rw [← eg, zsI_no (by omega), zsI_no (by omega)]
  have e3 : ∀ k, k ≠ 0 → k ≠ 11 → h2.2.1 196 k = h.2.1 196 k := fun k w1 w2 => by rw [← eg, zsI_no (by omega), zsI_no (by omega)]
  have h1 : h2.1 = hh_487.1 := by rw [← eg]; exact m.2.1.2.2.2
  have hA : lPA A c h2 := by rw [← eg]; exact (m.pa z.1.1).gd
  have B : cI A ≠ 0 → bgM A s h2 := fun ne => by rw [← eg]; exact (z.bm m ne).gd
  have er : h2.2.2.2.1 = h.2.2.2.1 := by rw [← eg]; rfl
  have q15 : h2.2.2.2.1 196 15 = some 199 := by rw [er]; exact m.r15
  have q17 : h2.2.2.2.1 196 17 = some 201 := by rw [er]; exact m.mw.2.1
  have z196 : zsh h2 196 = some (12, 39) := zsh_by h1 (by decide +kernel)
  have z199 : zsh h2 199 = some (14, 363) := zsh_by h1 (by decide +kernel)
  have z201 : zsh h2 201 = some (14, 76) := zsh_by h1 (by decide +kernel)
  have M : nMo A s 201 0 h2 := (z.lm m).1.1.fr (fun k => e2 _ _ (by decide))
  have hT := z.1.2.1
  have hB := z.1.2.2
  have hI := z.1.1.1
  have hN := z.2.1.1
  have k0 : (0 : Int32).toInt = 0 := by decide
  obtain ⟨b1, b2, b3, b4, b5⟩ := hI.2.2.1
  rw [← e3 14 (by decide) (by decide)] at hp
  have lt0 : (nI 1 : Int32).toInt = 1 := by decide
  show zPn N none d mX12_length (0, [(0, .inr (.inr (some 196))), (1, .inl x1)], [], h) _
  refine pa_aload_n (pc' := 1) dX12_length_0 rfl rfl ?_
  refine pa_callv (pc' := 4) (vs := []) (rest := []) dX12_length_1 ml_12_167 (by decide) rfl rfl rfl (fun d' _ => (m_good s196)) (fun v h3 hq => ?_)
  obtain ⟨ev, eh⟩ := hq
  subst ev
  show zPn N none d mX12_length (4, _, [], h3) _
  rw [eg] at eh
  subst eh
  have t0 : h3.2.1 196 11 = 0 := by rw [← eg]; exact zsI_eq
  refine pa_aload_n (pc' := 5) dX12_length_4 rfl rfl ?_
  refine pa_iload_n (pc' := 6) dX12_length_5 rfl rfl ?_
  refine pa_callv (pc' := 9) (vs := [.inl x1]) (rest := []) dX12_length_6 ml_12_277 (by decide) rfl rfl rfl (fun d' _ => (N_isI12 hA q15 h1)) (fun v g9 hq => ?_)
  obtain ⟨ev, eh⟩ := hq
  subst ev
  rw [eh]
  show zPn N none d mX12_length (9, _, [.inl (if 0 ≤ (x1).toInt ∧ (x1).toInt < (cI A:Int) then 1 else 0)], h3) _
  split
  · next y1 =>
      refine pa_if_f (pc' := 12) dX12_length_9 (by decide) (by decide) rfl ?_
      exact G_length12 (by decide +kernel) (fun v g q => (q.2.2 39 z196).trans (t0.trans (show cd_length A x1 = 0 from (by unfold cd_length; rw [if_pos (by first | assumption | omega | exact fun q => absurd (twB_iff.mp q).1.1 (by assumption) | exact fun q => absurd (twB_iff.mp q).1.2 (by assumption) | exact fun q => absurd (by assumption) (twB_iff.mp q).2 | exact twB_iff.mpr ⟨⟨by assumption, by assumption⟩, by assumption⟩ | exact fun q => q.2.2.2.2.1 (by assumption) | exact fun q => q.2.2.2.2.2 (by assumption) | exact fun q => absurd q.1 (by assumption) | exact fun q => absurd q.2.1 (by assumption) | exact fun q => absurd q.2.2.1 (by assumption) | exact fun q => absurd q.2.2.2.1 (by assumption) | exact ⟨by assumption, by assumption, by assumption, by assumption, by assumption, by assumption⟩)])).symm))
  · next y1 =>
      refine pa_if_t (pc' := 20) dX12_length_9 (by decide) (by decide) ?_
      refine pa_aload_n (pc' := 21) dX12_length_20 rfl rfl ?_
      refine pa_iconst (v := nI 1) (pc' := 22) dX12_length_21 (by decide) rfl ?_
      refine pa_callv (pc' := 25) (vs := [.inl (nI 1)]) (rest := []) dX12_length_22 ml_12_170 (by decide) rfl rfl rfl (fun d' _ => (m_no z196)) (fun v g8 hq => ?_)
      obtain ⟨ev, eh⟩ := hq
      subst ev
      show zPn N none d mX12_length (25, _, [.inl ((-1))], g8) _
      refine pa_iret dX12_length_25 rfl rfl ?_
      exact (by rw [eh, zsI_eq, show cd_length A x1 = 1 from (by unfold cd_length; rw [if_neg (by first | assumption | omega | exact fun q => absurd (twB_iff.mp q).1.1 (by assumption) | exact fun q => absurd (twB_iff.mp q).1.2 (by assumption) | exact fun q => absurd (by assumption) (twB_iff.mp q).2 | exact twB_iff.mpr ⟨⟨by assumption, by assumption⟩, by assumption⟩ | exact fun q => q.2.2.2.2.1 (by assumption) | exact fun q => q.2.2.2.2.2 (by assumption) | exact fun q => absurd q.1 (by assumption) | exact fun q => absurd q.2.1 (by assumption) | exact fun q => absurd q.2.2.1 (by assumption) | exact fun q => absurd q.2.2.2.1 (by assumption) | exact ⟨by assumption, by assumption, by assumption, by assumption, by assumption, by assumption⟩)])]; rfl : g8.2.1 196 11 = cd_length A x1)
theorem R_heard11 (z : lZ A c s H J h) (hi : lInv t h) : zPa d mX11_heard [.inr (.inr (some 0)), .inl x1] h (fun _ g => g.2.1 0 2 = cd_heard A x1) := by
  intro N
  have h1 := hi.2.2.2.2.1
  have hA := z.1.1
  have hT := z.1.2.1
  have hB := z.1.2.2
  have hI := hA.1
  have hN := z.2.1.1
  have K := hA.2.2.2.1
  have hc2 : c = 2 ∨ c = 42 := hA.2.1
  obtain ⟨b1, b2, b3, b4, b5⟩ := hI.2.2.1
  have s0 : zsh h 0 = some (11, 16) := zsh_by h1 (by decide +kernel)
  obtain ⟨sc, sc1, sc2, sc4, sc5, scw, scb⟩ := cSh hA.2.1 h1
  obtain ⟨c9, c12, c13, cw, cb⟩ := cRf_of hi.1 hA.2.1
  have S := hi.nw
  obtain ⟨⟨s86, s87, s88, s89, s90, s91⟩, r87, r88, r89, r90, r91⟩ := S.o86
  have r3 := hA.2.2.1
  have r6 := S.2.1
  obtain ⟨n1, n2, n3, n4⟩ := z.2.2.1.1
  have lt0 : (nI 1 : Int32).toInt = 1 := by decide
  show zPn N none d mX11_heard (0, [(0, .inr (.inr (some 0))), (1, .inl x1)], [], h) _
  refine pa_aload_n (pc' := 1) dX11_heard_0 rfl rfl ?_
  refine pa_iload_n (pc' := 2) dX11_heard_1 rfl rfl ?_
  refine pa_callv (pc' := 5) (vs := [.inl x1]) (rest := []) dX11_heard_2 ml_11_147 (by decide) rfl rfl rfl (fun d' _ => (N_isBox hA h1)) (fun v g9 hq => ?_)
  obtain ⟨ev, eh⟩ := hq
  subst ev
  rw [eh]
  show zPn N none d mX11_heard (5, _, [.inl (if 0 ≤ (x1).toInt ∧ (x1).toInt < (cB A:Int) then 1 else 0)], h) _
  split
  · next y1 =>
      refine pa_if_f (pc' := 8) dX11_heard_5 (by decide) (by decide) rfl ?_
      exact G_heard11 s0 (sh11 h1) (by decide +kernel) (fun v g q => q.trans (show cd_heard A x1 = 0 from (by unfold cd_heard; rw [if_pos (by first | assumption | omega | exact fun q => absurd (twB_iff.mp q).1.1 (by assumption) | exact fun q => absurd (twB_iff.mp q).1.2 (by assumption) | exact fun q => absurd (by assumption) (twB_iff.mp q).2 | exact twB_iff.mpr ⟨⟨by assumption, by assumption⟩, by assumption⟩ | exact fun q => q.2.2.2.2.1 (by assumption) | exact fun q => q.2.2.2.2.2 (by assumption) | exact fun q => absurd q.1 (by assumption) | exact fun q => absurd q.2.1 (by assumption) | exact fun q => absurd q.2.2.1 (by assumption) | exact fun q => absurd q.2.2.2.1 (by assumption) | exact ⟨by assumption, by assumption, by assumption, by assumption, by assumption, by assumption⟩)])).symm)
  · next y1 =>
      refine pa_if_t (pc' := 27) dX11_heard_5 (by decide) (by decide) ?_
      refine pa_aload_n (pc' := 28) dX11_heard_27 rfl rfl ?_
      refine pa_iconst (v := nI 1) (pc' := 29) dX11_heard_28 (by decide) rfl ?_
      refine pa_callv (pc' := 32) (vs := [.inl (nI 1)]) (rest := []) dX11_heard_29 ml_11_98 (by decide) rfl rfl rfl (fun d' _ => (c_ref s0)) (fun v g8 hq => ?_)
      obtain ⟨ev, eh⟩ := hq
      subst ev
      show zPn N none d mX11_heard (32, _, [.inl ((-1))], g8) _
      refine pa_iret dX11_heard_32 rfl rfl ?_
      exact (by rw [eh, zsI_eq, show cd_heard A x1 = 1 from (by unfold cd_heard; rw [if_neg (by first | assumption | omega | exact fun q => absurd (twB_iff.mp q).1.1 (by assumption) | exact fun q => absurd (twB_iff.mp q).1.2 (by assumption) | exact fun q => absurd (by assumption) (twB_iff.mp q).2 | exact twB_iff.mpr ⟨⟨by assumption, by assumption⟩, by assumption⟩ | exact fun q => q.2.2.2.2.1 (by assumption) | exact fun q => q.2.2.2.2.2 (by assumption) | exact fun q => absurd q.1 (by assumption) | exact fun q => absurd q.2.1 (by assumption) | exact fun q => absurd q.2.2.1 (by assumption) | exact fun q => absurd q.2.2.2.1 (by assumption) | exact ⟨by assumption, by assumption, by assumption, by assumption, by assumption, by assumption⟩)])]; rfl : g8.2.1 0 2 = cd_heard A x1)
theorem R_heard12 (z : lZ A c s H J g) (m : lMid kk im t g h) : zPa d mX12_heard [.inr (.inr (some 196)), .inl x1] h (fun _ g => g.2.1 196 11 = cd_heard A x1) := by
  intro N
  have hp := M_hasBt z m
  have s196 : zsh h 196 = some (12, 39) := zsh_by m.2.1.2.2.2 (by decide +kernel)
  generalize eg : zsI (zsI h 196 0 0) 196 11 0 = h2
  have e2 : ∀ a k, a ≠ 196 → h2.2.1 a k = h.2.1 a k := fun a k ha => by rw [← eg, zsI_no (by omega), zsI_no (by omega)]
  have e3 : ∀ k, k ≠ 0 → k ≠ 11 → h2.2.1 196 k = h.2.1 196 k := fun k w1 w2 => by rw [← eg, zsI_no (by omega), zsI_no (by omega)]
  have h1 : h2.1 = hh_487.1 := by rw [← eg]; exact m.2.1.2.2.2
  have hA : lPA A c h2 := by rw [← eg]; exact (m.pa z.1.1).gd
  have B : cI A ≠ 0 → bgM A s h2 := fun ne => by rw [← eg]; exact (z.bm m ne).gd
  have er : h2.2.2.2.1 = h.2.2.2.1 := by rw [← eg]; rfl
  have q15 : h2.2.2.2.1 196 15 = some 199 := by rw [er]; exact m.r15
  have q17 : h2.2.2.2.1 196 17 = some 201 := by rw [er]; exact m.mw.2.1
  have z196 : zsh h2 196 = some (12, 39) := zsh_by h1 (by decide +kernel)
  have z199 : zsh h2 199 = some (14, 363) := zsh_by h1 (by decide +kernel)
  have z201 : zsh h2 201 = some (14, 76) := zsh_by h1 (by decide +kernel)
  have M : nMo A s 201 0 h2 := (z.lm m).1.1.fr (fun k => e2 _ _ (by decide))
  have hT := z.1.2.1
  have hB := z.1.2.2
  have hI := z.1.1.1
  have hN := z.2.1.1
  have k0 : (0 : Int32).toInt = 0 := by decide
  obtain ⟨b1, b2, b3, b4, b5⟩ := hI.2.2.1
  rw [← e3 14 (by decide) (by decide)] at hp
  have lt0 : (nI 1 : Int32).toInt = 1 := by decide
  show zPn N none d mX12_heard (0, [(0, .inr (.inr (some 196))), (1, .inl x1)], [], h) _
  refine pa_aload_n (pc' := 1) dX12_heard_0 rfl rfl ?_
  refine pa_callv (pc' := 4) (vs := []) (rest := []) dX12_heard_1 ml_12_167 (by decide) rfl rfl rfl (fun d' _ => (m_good s196)) (fun v h3 hq => ?_)
  obtain ⟨ev, eh⟩ := hq
  subst ev
  show zPn N none d mX12_heard (4, _, [], h3) _
  rw [eg] at eh
  subst eh
  have t0 : h3.2.1 196 11 = 0 := by rw [← eg]; exact zsI_eq
  refine pa_aload_n (pc' := 5) dX12_heard_4 rfl rfl ?_
  refine pa_iload_n (pc' := 6) dX12_heard_5 rfl rfl ?_
  refine pa_callv (pc' := 9) (vs := [.inl x1]) (rest := []) dX12_heard_6 ml_12_274 (by decide) rfl rfl rfl (fun d' _ => (M_isBox hA q15 h1)) (fun v g9 hq => ?_)
  obtain ⟨ev, eh⟩ := hq
  subst ev
  rw [eh]
  show zPn N none d mX12_heard (9, _, [.inl (if 0 ≤ (x1).toInt ∧ (x1).toInt < (cB A:Int) then 1 else 0)], h3) _
  split
  · next y1 =>
      refine pa_if_f (pc' := 12) dX12_heard_9 (by decide) (by decide) rfl ?_
      exact G_heard12 (by decide +kernel) (fun v g q => (q.2.2 39 z196).trans (t0.trans (show cd_heard A x1 = 0 from (by unfold cd_heard; rw [if_pos (by first | assumption | omega | exact fun q => absurd (twB_iff.mp q).1.1 (by assumption) | exact fun q => absurd (twB_iff.mp q).1.2 (by assumption) | exact fun q => absurd (by assumption) (twB_iff.mp q).2 | exact twB_iff.mpr ⟨⟨by assumption, by assumption⟩, by assumption⟩ | exact fun q => q.2.2.2.2.1 (by assumption) | exact fun q => q.2.2.2.2.2 (by assumption) | exact fun q => absurd q.1 (by assumption) | exact fun q => absurd q.2.1 (by assumption) | exact fun q => absurd q.2.2.1 (by assumption) | exact fun q => absurd q.2.2.2.1 (by assumption) | exact ⟨by assumption, by assumption, by assumption, by assumption, by assumption, by assumption⟩)])).symm))
  · next y1 =>
      refine pa_if_t (pc' := 20) dX12_heard_9 (by decide) (by decide) ?_
      refine pa_aload_n (pc' := 21) dX12_heard_20 rfl rfl ?_
      refine pa_iconst (v := nI 1) (pc' := 22) dX12_heard_21 (by decide) rfl ?_
      refine pa_callv (pc' := 25) (vs := [.inl (nI 1)]) (rest := []) dX12_heard_22 ml_12_170 (by decide) rfl rfl rfl (fun d' _ => (m_no z196)) (fun v g8 hq => ?_)
      obtain ⟨ev, eh⟩ := hq
      subst ev
      show zPn N none d mX12_heard (25, _, [.inl ((-1))], g8) _
      refine pa_iret dX12_heard_25 rfl rfl ?_
      exact (by rw [eh, zsI_eq, show cd_heard A x1 = 1 from (by unfold cd_heard; rw [if_neg (by first | assumption | omega | exact fun q => absurd (twB_iff.mp q).1.1 (by assumption) | exact fun q => absurd (twB_iff.mp q).1.2 (by assumption) | exact fun q => absurd (by assumption) (twB_iff.mp q).2 | exact twB_iff.mpr ⟨⟨by assumption, by assumption⟩, by assumption⟩ | exact fun q => q.2.2.2.2.1 (by assumption) | exact fun q => q.2.2.2.2.2 (by assumption) | exact fun q => absurd q.1 (by assumption) | exact fun q => absurd q.2.1 (by assumption) | exact fun q => absurd q.2.2.1 (by assumption) | exact fun q => absurd q.2.2.2.1 (by assumption) | exact ⟨by assumption, by assumption, by assumption, by assumption, by assumption, by assumption⟩)])]; rfl : g8.2.1 196 11 = cd_heard A x1)
theorem R_way11 (z : lZ A c s H J h) (hi : lInv t h) : zPa d mX11_way [.inr (.inr (some 0)), .inl x1, .inl x2] h (fun _ g => g.2.1 0 2 = cd_way A x1 x2) := by
  intro N
  have h1 := hi.2.2.2.2.1
  have hA := z.1.1
  have hT := z.1.2.1
  have hB := z.1.2.2
  have hI := hA.1
  have hN := z.2.1.1
  have K := hA.2.2.2.1
  have hc2 : c = 2 ∨ c = 42 := hA.2.1
  obtain ⟨b1, b2, b3, b4, b5⟩ := hI.2.2.1
  have s0 : zsh h 0 = some (11, 16) := zsh_by h1 (by decide +kernel)
  obtain ⟨sc, sc1, sc2, sc4, sc5, scw, scb⟩ := cSh hA.2.1 h1
  obtain ⟨c9, c12, c13, cw, cb⟩ := cRf_of hi.1 hA.2.1
  have S := hi.nw
  obtain ⟨⟨s86, s87, s88, s89, s90, s91⟩, r87, r88, r89, r90, r91⟩ := S.o86
  have r3 := hA.2.2.1
  have r6 := S.2.1
  obtain ⟨n1, n2, n3, n4⟩ := z.2.2.1.1
  have lt0 : (nI 1 : Int32).toInt = 1 := by decide
  show zPn N none d mX11_way (0, [(0, .inr (.inr (some 0))), (1, .inl x1), (2, .inl x2)], [], h) _
  refine pa_aload_n (pc' := 1) dX11_way_0 rfl rfl ?_
  refine pa_iload_n (pc' := 2) dX11_way_1 rfl rfl ?_
  refine pa_iload_n (pc' := 3) dX11_way_2 rfl rfl ?_
  refine pa_callv (pc' := 6) (vs := [.inl x1, .inl x2]) (rest := []) dX11_way_3 ml_11_204 (by decide) rfl rfl rfl (fun d' _ => (N_areTwo hA h1)) (fun v g9 hq => ?_)
  obtain ⟨ev, eh⟩ := hq
  subst ev
  rw [eh]
  show zPn N none d mX11_way (6, _, [.inl (if twB A x1 x2 = true then 1 else 0)], h) _
  split
  · next y1 =>
      refine pa_if_t (pc' := 15) dX11_way_6 (by decide) (by decide) ?_
      exact G_way11 s0 (sh11 h1) (by decide +kernel) (fun v g q => q.trans (show cd_way A x1 x2 = 0 from (by unfold cd_way; rw [if_pos (by first | assumption | omega | exact fun q => absurd (twB_iff.mp q).1.1 (by assumption) | exact fun q => absurd (twB_iff.mp q).1.2 (by assumption) | exact fun q => absurd (by assumption) (twB_iff.mp q).2 | exact twB_iff.mpr ⟨⟨by assumption, by assumption⟩, by assumption⟩ | exact fun q => q.2.2.2.2.1 (by assumption) | exact fun q => q.2.2.2.2.2 (by assumption) | exact fun q => absurd q.1 (by assumption) | exact fun q => absurd q.2.1 (by assumption) | exact fun q => absurd q.2.2.1 (by assumption) | exact fun q => absurd q.2.2.2.1 (by assumption) | exact ⟨by assumption, by assumption, by assumption, by assumption, by assumption, by assumption⟩)])).symm)
  · next y1 =>
      refine pa_if_f (pc' := 9) dX11_way_6 (by decide) (by decide) rfl ?_
      refine pa_aload_n (pc' := 10) dX11_way_9 rfl rfl ?_
      refine pa_iconst (v := nI 1) (pc' := 11) dX11_way_10 (by decide) rfl ?_
      refine pa_callv (pc' := 14) (vs := [.inl (nI 1)]) (rest := []) dX11_way_11 ml_11_98 (by decide) rfl rfl rfl (fun d' _ => (c_ref s0)) (fun v g8 hq => ?_)
      obtain ⟨ev, eh⟩ := hq
      subst ev
      show zPn N none d mX11_way (14, _, [.inl ((-1))], g8) _
      refine pa_iret dX11_way_14 rfl rfl ?_
      exact (by rw [eh, zsI_eq, show cd_way A x1 x2 = 1 from (by unfold cd_way; rw [if_neg (by first | assumption | omega | exact fun q => absurd (twB_iff.mp q).1.1 (by assumption) | exact fun q => absurd (twB_iff.mp q).1.2 (by assumption) | exact fun q => absurd (by assumption) (twB_iff.mp q).2 | exact twB_iff.mpr ⟨⟨by assumption, by assumption⟩, by assumption⟩ | exact fun q => q.2.2.2.2.1 (by assumption) | exact fun q => q.2.2.2.2.2 (by assumption) | exact fun q => absurd q.1 (by assumption) | exact fun q => absurd q.2.1 (by assumption) | exact fun q => absurd q.2.2.1 (by assumption) | exact fun q => absurd q.2.2.2.1 (by assumption) | exact ⟨by assumption, by assumption, by assumption, by assumption, by assumption, by assumption⟩)])]; rfl : g8.2.1 0 2 = cd_way A x1 x2)
theorem R_way12 (z : lZ A c s H J g) (m : lMid kk im t g h) : zPa d mX12_way [.inr (.inr (some 196)), .inl x1, .inl x2] h (fun _ g => g.2.1 196 11 = cd_way A x1 x2) := by
  intro N
  have hp := M_hasBt z m
  have s196 : zsh h 196 = some (12, 39) := zsh_by m.2.1.2.2.2 (by decide +kernel)
  generalize eg : zsI (zsI h 196 0 0) 196 11 0 = h2
  have e2 : ∀ a k, a ≠ 196 → h2.2.1 a k = h.2.1 a k := fun a k ha => by rw [← eg, zsI_no (by omega), zsI_no (by omega)]
  have e3 : ∀ k, k ≠ 0 → k ≠ 11 → h2.2.1 196 k = h.2.1 196 k := fun k w1 w2 => by rw [← eg, zsI_no (by omega), zsI_no (by omega)]
  have h1 : h2.1 = hh_487.1 := by rw [← eg]; exact m.2.1.2.2.2
  have hA : lPA A c h2 := by rw [← eg]; exact (m.pa z.1.1).gd
  have B : cI A ≠ 0 → bgM A s h2 := fun ne => by rw [← eg]; exact (z.bm m ne).gd
  have er : h2.2.2.2.1 = h.2.2.2.1 := by rw [← eg]; rfl
  have q15 : h2.2.2.2.1 196 15 = some 199 := by rw [er]; exact m.r15
  have q17 : h2.2.2.2.1 196 17 = some 201 := by rw [er]; exact m.mw.2.1
  have z196 : zsh h2 196 = some (12, 39) := zsh_by h1 (by decide +kernel)
  have z199 : zsh h2 199 = some (14, 363) := zsh_by h1 (by decide +kernel)
  have z201 : zsh h2 201 = some (14, 76) := zsh_by h1 (by decide +kernel)
  have M : nMo A s 201 0 h2 := (z.lm m).1.1.fr (fun k => e2 _ _ (by decide))
  have hT := z.1.2.1
  have hB := z.1.2.2
  have hI := z.1.1.1
  have hN := z.2.1.1
  have k0 : (0 : Int32).toInt = 0 := by decide
  obtain ⟨b1, b2, b3, b4, b5⟩ := hI.2.2.1
  rw [← e3 14 (by decide) (by decide)] at hp
  have lt0 : (nI 1 : Int32).toInt = 1 := by decide
  have lt1 : (nI 2 : Int32).toInt = 2 := by decide
  have lt2 : (nI 4 : Int32).toInt = 4 := by decide
  have lt3 : (nI 59 : Int32).toInt = 59 := by decide
  show zPn N none d mX12_way (0, [(0, .inr (.inr (some 196))), (1, .inl x1), (2, .inl x2)], [], h) _
  refine pa_aload_n (pc' := 1) dX12_way_0 rfl rfl ?_
  refine pa_callv (pc' := 4) (vs := []) (rest := []) dX12_way_1 ml_12_167 (by decide) rfl rfl rfl (fun d' _ => (m_good s196)) (fun v h3 hq => ?_)
  obtain ⟨ev, eh⟩ := hq
  subst ev
  show zPn N none d mX12_way (4, _, [], h3) _
  rw [eg] at eh
  subst eh
  have t0 : h3.2.1 196 11 = 0 := by rw [← eg]; exact zsI_eq
  refine pa_aload_n (pc' := 5) dX12_way_4 rfl rfl ?_
  refine pa_iload_n (pc' := 6) dX12_way_5 rfl rfl ?_
  refine pa_callv (pc' := 9) (vs := [.inl x1]) (rest := []) dX12_way_6 ml_12_277 (by decide) rfl rfl rfl (fun d' _ => (N_isI12 hA q15 h1)) (fun v g9 hq => ?_)
  obtain ⟨ev, eh⟩ := hq
  subst ev
  rw [eh]
  show zPn N none d mX12_way (9, _, [.inl (if 0 ≤ (x1).toInt ∧ (x1).toInt < (cI A:Int) then 1 else 0)], h3) _
  split
  · next y1 =>
      refine pa_if_f (pc' := 12) dX12_way_9 (by decide) (by decide) rfl ?_
      refine pa_aload_n (pc' := 13) dX12_way_12 rfl rfl ?_
      refine pa_iload_n (pc' := 14) dX12_way_13 rfl rfl ?_
      refine pa_callv (pc' := 17) (vs := [.inl x2]) (rest := []) dX12_way_14 ml_12_277 (by decide) rfl rfl rfl (fun d' _ => (N_isI12 hA q15 h1)) (fun v g9 hq => ?_)
      obtain ⟨ev, eh⟩ := hq
      subst ev
      rw [eh]
      show zPn N none d mX12_way (17, _, [.inl (if 0 ≤ (x2).toInt ∧ (x2).toInt < (cI A:Int) then 1 else 0)], h3) _
      split
      · next y2 =>
          refine pa_if_f (pc' := 20) dX12_way_17 (by decide) (by decide) rfl ?_
          refine pa_iload_n (pc' := 21) dX12_way_20 rfl rfl ?_
          refine pa_iload_n (pc' := 22) dX12_way_21 rfl rfl ?_
          by_cases y3 : x1 = x2
          · refine pa_icmp_f (pc' := 25) dX12_way_22 (decide_eq_false (not_not_intro y3)) (by decide) rfl ?_
            refine pa_aload_n (pc' := 26) dX12_way_25 rfl rfl ?_
            refine pa_iconst (v := nI 1) (pc' := 27) dX12_way_26 (by decide) rfl ?_
            refine pa_callv (pc' := 30) (vs := [.inl (nI 1)]) (rest := []) dX12_way_27 ml_12_170 (by decide) rfl rfl rfl (fun d' _ => (m_no z196)) (fun v g8 hq => ?_)
            obtain ⟨ev, eh⟩ := hq
            subst ev
            show zPn N none d mX12_way (30, _, [.inl ((-1))], g8) _
            refine pa_iret dX12_way_30 rfl rfl ?_
            exact (by rw [eh, zsI_eq, show cd_way A x1 x2 = 1 from (by unfold cd_way; rw [if_neg (by first | assumption | omega | exact fun q => absurd (twB_iff.mp q).1.1 (by assumption) | exact fun q => absurd (twB_iff.mp q).1.2 (by assumption) | exact fun q => absurd (by assumption) (twB_iff.mp q).2 | exact twB_iff.mpr ⟨⟨by assumption, by assumption⟩, by assumption⟩ | exact fun q => q.2.2.2.2.1 (by assumption) | exact fun q => q.2.2.2.2.2 (by assumption) | exact fun q => absurd q.1 (by assumption) | exact fun q => absurd q.2.1 (by assumption) | exact fun q => absurd q.2.2.1 (by assumption) | exact fun q => absurd q.2.2.2.1 (by assumption) | exact ⟨by assumption, by assumption, by assumption, by assumption, by assumption, by assumption⟩)])]; rfl : g8.2.1 196 11 = cd_way A x1 x2)
          · refine pa_icmp_t (pc' := 31) dX12_way_22 (decide_eq_true y3) (by decide) ?_
            exact G_way12 (by decide +kernel) (fun v g q => (q.2.2 39 z196).trans (t0.trans (show cd_way A x1 x2 = 0 from (by unfold cd_way; rw [if_pos (by first | assumption | omega | exact fun q => absurd (twB_iff.mp q).1.1 (by assumption) | exact fun q => absurd (twB_iff.mp q).1.2 (by assumption) | exact fun q => absurd (by assumption) (twB_iff.mp q).2 | exact twB_iff.mpr ⟨⟨by assumption, by assumption⟩, by assumption⟩ | exact fun q => q.2.2.2.2.1 (by assumption) | exact fun q => q.2.2.2.2.2 (by assumption) | exact fun q => absurd q.1 (by assumption) | exact fun q => absurd q.2.1 (by assumption) | exact fun q => absurd q.2.2.1 (by assumption) | exact fun q => absurd q.2.2.2.1 (by assumption) | exact ⟨by assumption, by assumption, by assumption, by assumption, by assumption, by assumption⟩)])).symm))
      · next y2 =>
          refine pa_if_t (pc' := 25) dX12_way_17 (by decide) (by decide) ?_
          refine pa_aload_n (pc' := 26) dX12_way_25 rfl rfl ?_
          refine pa_iconst (v := nI 1) (pc' := 27) dX12_way_26 (by decide) rfl ?_
          refine pa_callv (pc' := 30) (vs := [.inl (nI 1)]) (rest := []) dX12_way_27 ml_12_170 (by decide) rfl rfl rfl (fun d' _ => (m_no z196)) (fun v g8 hq => ?_)
          obtain ⟨ev, eh⟩ := hq
          subst ev
          show zPn N none d mX12_way (30, _, [.inl ((-1))], g8) _
          refine pa_iret dX12_way_30 rfl rfl ?_
          exact (by rw [eh, zsI_eq, show cd_way A x1 x2 = 1 from (by unfold cd_way; rw [if_neg (by first | assumption | omega | exact fun q => absurd (twB_iff.mp q).1.1 (by assumption) | exact fun q => absurd (twB_iff.mp q).1.2 (by assumption) | exact fun q => absurd (by assumption) (twB_iff.mp q).2 | exact twB_iff.mpr ⟨⟨by assumption, by assumption⟩, by assumption⟩ | exact fun q => q.2.2.2.2.1 (by assumption) | exact fun q => q.2.2.2.2.2 (by assumption) | exact fun q => absurd q.1 (by assumption) | exact fun q => absurd q.2.1 (by assumption) | exact fun q => absurd q.2.2.1 (by assumption) | exact fun q => absurd q.2.2.2.1 (by assumption) | exact ⟨by assumption, by assumption, by assumption, by assumption, by assumption, by assumption⟩)])]; rfl : g8.2.1 196 11 = cd_way A x1 x2)
  · next y1 =>
      refine pa_if_t (pc' := 25) dX12_way_9 (by decide) (by decide) ?_
      refine pa_aload_n (pc' := 26) dX12_way_25 rfl rfl ?_
      refine pa_iconst (v := nI 1) (pc' := 27) dX12_way_26 (by decide) rfl ?_
      refine pa_callv (pc' := 30) (vs := [.inl (nI 1)]) (rest := []) dX12_way_27 ml_12_170 (by decide) rfl rfl rfl (fun d' _ => (m_no z196)) (fun v g8 hq => ?_)
      obtain ⟨ev, eh⟩ := hq
      subst ev
      show zPn N none d mX12_way (30, _, [.inl ((-1))], g8) _
      refine pa_iret dX12_way_30 rfl rfl ?_
      exact (by rw [eh, zsI_eq, show cd_way A x1 x2 = 1 from (by unfold cd_way; rw [if_neg (by first | assumption | omega | exact fun q => absurd (twB_iff.mp q).1.1 (by assumption) | exact fun q => absurd (twB_iff.mp q).1.2 (by assumption) | exact fun q => absurd (by assumption) (twB_iff.mp q).2 | exact twB_iff.mpr ⟨⟨by assumption, by assumption⟩, by assumption⟩ | exact fun q => q.2.2.2.2.1 (by assumption) | exact fun q => q.2.2.2.2.2 (by assumption) | exact fun q => absurd q.1 (by assumption) | exact fun q => absurd q.2.1 (by assumption) | exact fun q => absurd q.2.2.1 (by assumption) | exact fun q => absurd q.2.2.2.1 (by assumption) | exact ⟨by assumption, by assumption, by assumption, by assumption, by assumption, by assumption⟩)])]; rfl : g8.2.1 196 11 = cd_way A x1 x2)
theorem R_season11 (z : lZ A c s H J h) (hi : lInv t h) : zPa d mX11_season [.inr (.inr (some 0)), .inl x1] h (fun _ g => g.2.1 0 2 = cd_season A x1) := by
  intro N
  have h1 := hi.2.2.2.2.1
  have hA := z.1.1
  have hT := z.1.2.1
  have hB := z.1.2.2
  have hI := hA.1
  have hN := z.2.1.1
  have K := hA.2.2.2.1
  have hc2 : c = 2 ∨ c = 42 := hA.2.1
  obtain ⟨b1, b2, b3, b4, b5⟩ := hI.2.2.1
  have s0 : zsh h 0 = some (11, 16) := zsh_by h1 (by decide +kernel)
  obtain ⟨sc, sc1, sc2, sc4, sc5, scw, scb⟩ := cSh hA.2.1 h1
  obtain ⟨c9, c12, c13, cw, cb⟩ := cRf_of hi.1 hA.2.1
  have S := hi.nw
  obtain ⟨⟨s86, s87, s88, s89, s90, s91⟩, r87, r88, r89, r90, r91⟩ := S.o86
  have r3 := hA.2.2.1
  have r6 := S.2.1
  obtain ⟨n1, n2, n3, n4⟩ := z.2.2.1.1
  have lt0 : (99999 : Int32).toInt = 99999 := by decide
  have lt1 : (nI 1 : Int32).toInt = 1 := by decide
  have lt2 : (nI 2 : Int32).toInt = 2 := by decide
  have lt3 : (nI 4 : Int32).toInt = 4 := by decide
  have lt4 : (nI 90 : Int32).toInt = 90 := by decide
  show zPn N none d mX11_season (0, [(0, .inr (.inr (some 0))), (1, .inl x1)], [], h) _
  refine pa_aload_n (pc' := 1) dX11_season_0 rfl rfl ?_
  refine pa_callv (pc' := 4) (vs := []) (rest := []) dX11_season_1 ml_11_222 (by decide) rfl rfl rfl (fun d' _ => (N_hasPost hA h1)) (fun v g9 hq => ?_)
  obtain ⟨ev, eh⟩ := hq
  subst ev
  rw [eh]
  show zPn N none d mX11_season (4, _, [.inl (if cI A = 0 then 0 else 1)], h) _
  split
  · next y1 =>
      refine pa_if_f (pc' := 7) dX11_season_4 (by decide) (by decide) rfl ?_
      refine pa_aload_n (pc' := 8) dX11_season_7 rfl rfl ?_
      refine pa_iconst (v := nI 1) (pc' := 9) dX11_season_8 (by decide) rfl ?_
      refine pa_callv (pc' := 12) (vs := [.inl (nI 1)]) (rest := []) dX11_season_9 ml_11_98 (by decide) rfl rfl rfl (fun d' _ => (c_ref s0)) (fun v g8 hq => ?_)
      obtain ⟨ev, eh⟩ := hq
      subst ev
      show zPn N none d mX11_season (12, _, [.inl ((-1))], g8) _
      refine pa_iret dX11_season_12 rfl rfl ?_
      exact (by rw [eh, zsI_eq, show cd_season A x1 = 1 from (by unfold cd_season; rw [if_neg (by first | assumption | omega | exact fun q => absurd (twB_iff.mp q).1.1 (by assumption) | exact fun q => absurd (twB_iff.mp q).1.2 (by assumption) | exact fun q => absurd (by assumption) (twB_iff.mp q).2 | exact twB_iff.mpr ⟨⟨by assumption, by assumption⟩, by assumption⟩ | exact fun q => q.2.2.2.2.1 (by assumption) | exact fun q => q.2.2.2.2.2 (by assumption) | exact fun q => absurd q.1 (by assumption) | exact fun q => absurd q.2.1 (by assumption) | exact fun q => absurd q.2.2.1 (by assumption) | exact fun q => absurd q.2.2.2.1 (by assumption) | exact ⟨by assumption, by assumption, by assumption, by assumption, by assumption, by assumption⟩)])]; rfl : g8.2.1 0 2 = cd_season A x1)
  · next y1 =>
      refine pa_if_t (pc' := 13) dX11_season_4 (by decide) (by decide) ?_
      refine pa_iload_n (pc' := 14) dX11_season_13 rfl rfl ?_
      refine pa_ldc (pc' := 16) dX11_season_14 cl_11_226 rfl rfl ?_
      refine pa_calls (pc' := 19) (kd := 1) (vs := [.inl x1, .inl 99999]) (rest := []) dX11_season_16 ml_11_227 (.inl rfl) rfl rfl rfl (fun d' _ => (N_within)) (fun v g9 hq => ?_)
      obtain ⟨ev, eh⟩ := hq
      subst ev
      rw [eh]
      show zPn N none d mX11_season (19, _, [.inl (if 0 ≤ (x1).toInt ∧ (x1).toInt ≤ ((99999 : Int32)).toInt then 1 else 0)], h) _
      split
      · next y2 =>
          refine pa_if_t (pc' := 28) dX11_season_19 (by decide) (by decide) ?_
          exact G_season11 s0 (sh11 h1) (by decide +kernel) (fun v g q => q.trans (show cd_season A x1 = 0 from (by unfold cd_season; rw [if_pos (by first | assumption | omega | exact fun q => absurd (twB_iff.mp q).1.1 (by assumption) | exact fun q => absurd (twB_iff.mp q).1.2 (by assumption) | exact fun q => absurd (by assumption) (twB_iff.mp q).2 | exact twB_iff.mpr ⟨⟨by assumption, by assumption⟩, by assumption⟩ | exact fun q => q.2.2.2.2.1 (by assumption) | exact fun q => q.2.2.2.2.2 (by assumption) | exact fun q => absurd q.1 (by assumption) | exact fun q => absurd q.2.1 (by assumption) | exact fun q => absurd q.2.2.1 (by assumption) | exact fun q => absurd q.2.2.2.1 (by assumption) | exact ⟨by assumption, by assumption, by assumption, by assumption, by assumption, by assumption⟩), if_pos (by first | assumption | omega | exact fun q => absurd (twB_iff.mp q).1.1 (by assumption) | exact fun q => absurd (twB_iff.mp q).1.2 (by assumption) | exact fun q => absurd (by assumption) (twB_iff.mp q).2 | exact twB_iff.mpr ⟨⟨by assumption, by assumption⟩, by assumption⟩ | exact fun q => q.2.2.2.2.1 (by assumption) | exact fun q => q.2.2.2.2.2 (by assumption) | exact fun q => absurd q.1 (by assumption) | exact fun q => absurd q.2.1 (by assumption) | exact fun q => absurd q.2.2.1 (by assumption) | exact fun q => absurd q.2.2.2.1 (by assumption) | exact ⟨by assumption, by assumption, by assumption, by assumption, by assumption, by assumption⟩)])).symm)
      · next y2 =>
          refine pa_if_f (pc' := 22) dX11_season_19 (by decide) (by decide) rfl ?_
          refine pa_aload_n (pc' := 23) dX11_season_22 rfl rfl ?_
          refine pa_iconst (v := nI 2) (pc' := 24) dX11_season_23 (by decide) rfl ?_
          refine pa_callv (pc' := 27) (vs := [.inl (nI 2)]) (rest := []) dX11_season_24 ml_11_98 (by decide) rfl rfl rfl (fun d' _ => (c_ref s0)) (fun v g8 hq => ?_)
          obtain ⟨ev, eh⟩ := hq
          subst ev
          show zPn N none d mX11_season (27, _, [.inl ((-1))], g8) _
          refine pa_iret dX11_season_27 rfl rfl ?_
          exact (by rw [eh, zsI_eq, show cd_season A x1 = 2 from (by unfold cd_season; rw [if_pos (by first | assumption | omega | exact fun q => absurd (twB_iff.mp q).1.1 (by assumption) | exact fun q => absurd (twB_iff.mp q).1.2 (by assumption) | exact fun q => absurd (by assumption) (twB_iff.mp q).2 | exact twB_iff.mpr ⟨⟨by assumption, by assumption⟩, by assumption⟩ | exact fun q => q.2.2.2.2.1 (by assumption) | exact fun q => q.2.2.2.2.2 (by assumption) | exact fun q => absurd q.1 (by assumption) | exact fun q => absurd q.2.1 (by assumption) | exact fun q => absurd q.2.2.1 (by assumption) | exact fun q => absurd q.2.2.2.1 (by assumption) | exact ⟨by assumption, by assumption, by assumption, by assumption, by assumption, by assumption⟩), if_neg (by first | assumption | omega | exact fun q => absurd (twB_iff.mp q).1.1 (by assumption) | exact fun q => absurd (twB_iff.mp q).1.2 (by assumption) | exact fun q => absurd (by assumption) (twB_iff.mp q).2 | exact twB_iff.mpr ⟨⟨by assumption, by assumption⟩, by assumption⟩ | exact fun q => q.2.2.2.2.1 (by assumption) | exact fun q => q.2.2.2.2.2 (by assumption) | exact fun q => absurd q.1 (by assumption) | exact fun q => absurd q.2.1 (by assumption) | exact fun q => absurd q.2.2.1 (by assumption) | exact fun q => absurd q.2.2.2.1 (by assumption) | exact ⟨by assumption, by assumption, by assumption, by assumption, by assumption, by assumption⟩)])]; rfl : g8.2.1 0 2 = cd_season A x1)
theorem R_season12 (z : lZ A c s H J g) (m : lMid kk im t g h) : zPa d mX12_season [.inr (.inr (some 196)), .inl x1] h (fun _ g => g.2.1 196 11 = cd_season A x1) := by
  intro N
  have hp := M_hasBt z m
  have s196 : zsh h 196 = some (12, 39) := zsh_by m.2.1.2.2.2 (by decide +kernel)
  generalize eg : zsI (zsI h 196 0 0) 196 11 0 = h2
  have e2 : ∀ a k, a ≠ 196 → h2.2.1 a k = h.2.1 a k := fun a k ha => by rw [← eg, zsI_no (by omega), zsI_no (by omega)]
  have e3 : ∀ k, k ≠ 0 → k ≠ 11 → h2.2.1 196 k = h.2.1 196 k := fun k w1 w2 => by rw [← eg, zsI_no (by omega), zsI_no (by omega)]
  have h1 : h2.1 = hh_487.1 := by rw [← eg]; exact m.2.1.2.2.2
  have hA : lPA A c h2 := by rw [← eg]; exact (m.pa z.1.1).gd
  have B : cI A ≠ 0 → bgM A s h2 := fun ne => by rw [← eg]; exact (z.bm m ne).gd
  have er : h2.2.2.2.1 = h.2.2.2.1 := by rw [← eg]; rfl
  have q15 : h2.2.2.2.1 196 15 = some 199 := by rw [er]; exact m.r15
  have q17 : h2.2.2.2.1 196 17 = some 201 := by rw [er]; exact m.mw.2.1
  have z196 : zsh h2 196 = some (12, 39) := zsh_by h1 (by decide +kernel)
  have z199 : zsh h2 199 = some (14, 363) := zsh_by h1 (by decide +kernel)
  have z201 : zsh h2 201 = some (14, 76) := zsh_by h1 (by decide +kernel)
  have M : nMo A s 201 0 h2 := (z.lm m).1.1.fr (fun k => e2 _ _ (by decide))
  have hT := z.1.2.1
  have hB := z.1.2.2
  have hI := z.1.1.1
  have hN := z.2.1.1
  have k0 : (0 : Int32).toInt = 0 := by decide
  obtain ⟨b1, b2, b3, b4, b5⟩ := hI.2.2.1
  rw [← e3 14 (by decide) (by decide)] at hp
  have lt0 : (99999 : Int32).toInt = 99999 := by decide
  have lt1 : (nI 0 : Int32).toInt = 0 := by decide
  have lt2 : (nI 1 : Int32).toInt = 1 := by decide
  have lt3 : (nI 2 : Int32).toInt = 2 := by decide
  show zPn N none d mX12_season (0, [(0, .inr (.inr (some 196))), (1, .inl x1)], [], h) _
  refine pa_aload_n (pc' := 1) dX12_season_0 rfl rfl ?_
  refine pa_callv (pc' := 4) (vs := []) (rest := []) dX12_season_1 ml_12_167 (by decide) rfl rfl rfl (fun d' _ => (m_good s196)) (fun v h3 hq => ?_)
  obtain ⟨ev, eh⟩ := hq
  subst ev
  show zPn N none d mX12_season (4, _, [], h3) _
  rw [eg] at eh
  subst eh
  have t0 : h3.2.1 196 11 = 0 := by rw [← eg]; exact zsI_eq
  rcases hp with ⟨y1, hp⟩ | ⟨y1, hp⟩
  · refine pa_aload_n (pc' := 5) dX12_season_4 rfl rfl ?_
    refine pa_getI (pc' := 8) (n := 39) (v := 0) dX12_season_5 fl_12_180 z196 (by decide) hp rfl ?_
    refine pa_if_f (pc' := 11) dX12_season_8 (by decide) (by decide) rfl ?_
    refine pa_aload_n (pc' := 12) dX12_season_11 rfl rfl ?_
    refine pa_iconst (v := nI 1) (pc' := 13) dX12_season_12 (by decide) rfl ?_
    refine pa_callv (pc' := 16) (vs := [.inl (nI 1)]) (rest := []) dX12_season_13 ml_12_170 (by decide) rfl rfl rfl (fun d' _ => (m_no z196)) (fun v g8 hq => ?_)
    obtain ⟨ev, eh⟩ := hq
    subst ev
    show zPn N none d mX12_season (16, _, [.inl ((-1))], g8) _
    refine pa_iret dX12_season_16 rfl rfl ?_
    exact (by rw [eh, zsI_eq, show cd_season A x1 = 1 from (by unfold cd_season; rw [if_neg (by first | assumption | omega | exact fun q => absurd (twB_iff.mp q).1.1 (by assumption) | exact fun q => absurd (twB_iff.mp q).1.2 (by assumption) | exact fun q => absurd (by assumption) (twB_iff.mp q).2 | exact twB_iff.mpr ⟨⟨by assumption, by assumption⟩, by assumption⟩ | exact fun q => q.2.2.2.2.1 (by assumption) | exact fun q => q.2.2.2.2.2 (by assumption) | exact fun q => absurd q.1 (by assumption) | exact fun q => absurd q.2.1 (by assumption) | exact fun q => absurd q.2.2.1 (by assumption) | exact fun q => absurd q.2.2.2.1 (by assumption) | exact ⟨by assumption, by assumption, by assumption, by assumption, by assumption, by assumption⟩)])]; rfl : g8.2.1 196 11 = cd_season A x1)
  refine pa_aload_n (pc' := 5) dX12_season_4 rfl rfl ?_
  refine pa_getI (pc' := 8) (n := 39) (v := 1) dX12_season_5 fl_12_180 z196 (by decide) hp rfl ?_
  refine pa_if_t (pc' := 17) dX12_season_8 (by decide) (by decide) ?_
  refine pa_iload_n (pc' := 18) dX12_season_17 rfl rfl ?_
  refine pa_iconst (v := nI 0) (pc' := 19) dX12_season_18 (by decide) rfl ?_
  refine pa_ldcw (pc' := 22) dX12_season_19 cl_12_340 rfl rfl ?_
  refine pa_calls (pc' := 25) (kd := 1) (vs := [.inl x1, .inl (nI 0), .inl 99999]) (rest := []) dX12_season_22 ml_12_149 (.inl rfl) rfl rfl rfl (fun d' _ => (in_v)) (fun v g9 hq => ?_)
  obtain ⟨ev, eh⟩ := hq
  subst ev
  rw [eh]
  show zPn N none d mX12_season (25, _, [.inl (if ((nI 0)).toInt ≤ (x1).toInt ∧ (x1).toInt ≤ ((99999 : Int32)).toInt then 1 else 0)], h3) _
  split
  · next y2 =>
      refine pa_if_f (pc' := 28) dX12_season_25 (by decide) (by decide) rfl ?_
      exact G_season12 (by decide +kernel) (fun v g q => (q.2.2 39 z196).trans (t0.trans (show cd_season A x1 = 0 from (by unfold cd_season; rw [if_pos (by first | assumption | omega | exact fun q => absurd (twB_iff.mp q).1.1 (by assumption) | exact fun q => absurd (twB_iff.mp q).1.2 (by assumption) | exact fun q => absurd (by assumption) (twB_iff.mp q).2 | exact twB_iff.mpr ⟨⟨by assumption, by assumption⟩, by assumption⟩ | exact fun q => q.2.2.2.2.1 (by assumption) | exact fun q => q.2.2.2.2.2 (by assumption) | exact fun q => absurd q.1 (by assumption) | exact fun q => absurd q.2.1 (by assumption) | exact fun q => absurd q.2.2.1 (by assumption) | exact fun q => absurd q.2.2.2.1 (by assumption) | exact ⟨by assumption, by assumption, by assumption, by assumption, by assumption, by assumption⟩), if_pos (by first | assumption | omega | exact fun q => absurd (twB_iff.mp q).1.1 (by assumption) | exact fun q => absurd (twB_iff.mp q).1.2 (by assumption) | exact fun q => absurd (by assumption) (twB_iff.mp q).2 | exact twB_iff.mpr ⟨⟨by assumption, by assumption⟩, by assumption⟩ | exact fun q => q.2.2.2.2.1 (by assumption) | exact fun q => q.2.2.2.2.2 (by assumption) | exact fun q => absurd q.1 (by assumption) | exact fun q => absurd q.2.1 (by assumption) | exact fun q => absurd q.2.2.1 (by assumption) | exact fun q => absurd q.2.2.2.1 (by assumption) | exact ⟨by assumption, by assumption, by assumption, by assumption, by assumption, by assumption⟩)])).symm))
  · next y2 =>
      refine pa_if_t (pc' := 35) dX12_season_25 (by decide) (by decide) ?_
      refine pa_aload_n (pc' := 36) dX12_season_35 rfl rfl ?_
      refine pa_iconst (v := nI 2) (pc' := 37) dX12_season_36 (by decide) rfl ?_
      refine pa_callv (pc' := 40) (vs := [.inl (nI 2)]) (rest := []) dX12_season_37 ml_12_170 (by decide) rfl rfl rfl (fun d' _ => (m_no z196)) (fun v g8 hq => ?_)
      obtain ⟨ev, eh⟩ := hq
      subst ev
      show zPn N none d mX12_season (40, _, [.inl ((-1))], g8) _
      refine pa_iret dX12_season_40 rfl rfl ?_
      exact (by rw [eh, zsI_eq, show cd_season A x1 = 2 from (by unfold cd_season; rw [if_pos (by first | assumption | omega | exact fun q => absurd (twB_iff.mp q).1.1 (by assumption) | exact fun q => absurd (twB_iff.mp q).1.2 (by assumption) | exact fun q => absurd (by assumption) (twB_iff.mp q).2 | exact twB_iff.mpr ⟨⟨by assumption, by assumption⟩, by assumption⟩ | exact fun q => q.2.2.2.2.1 (by assumption) | exact fun q => q.2.2.2.2.2 (by assumption) | exact fun q => absurd q.1 (by assumption) | exact fun q => absurd q.2.1 (by assumption) | exact fun q => absurd q.2.2.1 (by assumption) | exact fun q => absurd q.2.2.2.1 (by assumption) | exact ⟨by assumption, by assumption, by assumption, by assumption, by assumption, by assumption⟩), if_neg (by first | assumption | omega | exact fun q => absurd (twB_iff.mp q).1.1 (by assumption) | exact fun q => absurd (twB_iff.mp q).1.2 (by assumption) | exact fun q => absurd (by assumption) (twB_iff.mp q).2 | exact twB_iff.mpr ⟨⟨by assumption, by assumption⟩, by assumption⟩ | exact fun q => q.2.2.2.2.1 (by assumption) | exact fun q => q.2.2.2.2.2 (by assumption) | exact fun q => absurd q.1 (by assumption) | exact fun q => absurd q.2.1 (by assumption) | exact fun q => absurd q.2.2.1 (by assumption) | exact fun q => absurd q.2.2.2.1 (by assumption) | exact ⟨by assumption, by assumption, by assumption, by assumption, by assumption, by assumption⟩)])]; rfl : g8.2.1 196 11 = cd_season A x1)
theorem R_sets11 (z : lZ A c s H J h) (hi : lInv t h) : zPa d mX11_sets [.inr (.inr (some 0)), .inl x1, .inl x2, .inl x3] h (fun _ g => g.2.1 0 2 = cd_sets A x1 x2 x3) := by
  intro N
  have h1 := hi.2.2.2.2.1
  have hA := z.1.1
  have hT := z.1.2.1
  have hB := z.1.2.2
  have hI := hA.1
  have hN := z.2.1.1
  have K := hA.2.2.2.1
  have hc2 : c = 2 ∨ c = 42 := hA.2.1
  obtain ⟨b1, b2, b3, b4, b5⟩ := hI.2.2.1
  have s0 : zsh h 0 = some (11, 16) := zsh_by h1 (by decide +kernel)
  obtain ⟨sc, sc1, sc2, sc4, sc5, scw, scb⟩ := cSh hA.2.1 h1
  obtain ⟨c9, c12, c13, cw, cb⟩ := cRf_of hi.1 hA.2.1
  have S := hi.nw
  obtain ⟨⟨s86, s87, s88, s89, s90, s91⟩, r87, r88, r89, r90, r91⟩ := S.o86
  have r3 := hA.2.2.1
  have r6 := S.2.1
  obtain ⟨n1, n2, n3, n4⟩ := z.2.2.1.1
  have lt0 : (nI 1 : Int32).toInt = 1 := by decide
  have lt1 : (nI 2 : Int32).toInt = 2 := by decide
  have lt2 : (nI 9999 : Int32).toInt = 9999 := by decide
  show zPn N none d mX11_sets (0, [(0, .inr (.inr (some 0))), (1, .inl x1), (2, .inl x2), (3, .inl x3)], [], h) _
  refine pa_aload_n (pc' := 1) dX11_sets_0 rfl rfl ?_
  refine pa_iload_n (pc' := 2) dX11_sets_1 rfl rfl ?_
  refine pa_callv (pc' := 5) (vs := [.inl x1]) (rest := []) dX11_sets_2 ml_11_121 (by decide) rfl rfl rfl (fun d' _ => (N_isWhale hA h1)) (fun v g9 hq => ?_)
  obtain ⟨ev, eh⟩ := hq
  subst ev
  rw [eh]
  show zPn N none d mX11_sets (5, _, [.inl (if 0 ≤ (x1).toInt ∧ (x1).toInt < (cH A:Int) then 1 else 0)], h) _
  split
  · next y1 =>
      refine pa_if_f (pc' := 8) dX11_sets_5 (by decide) (by decide) rfl ?_
      refine pa_aload_n (pc' := 9) dX11_sets_8 rfl rfl ?_
      refine pa_iload_n (pc' := 10) dX11_sets_9 rfl rfl ?_
      refine pa_callv (pc' := 13) (vs := [.inl x2]) (rest := []) dX11_sets_10 ml_11_230 (by decide) rfl rfl rfl (fun d' _ => (N_isWay hA h1)) (fun v g9 hq => ?_)
      obtain ⟨ev, eh⟩ := hq
      subst ev
      rw [eh]
      show zPn N none d mX11_sets (13, _, [.inl (if 0 ≤ (x2).toInt ∧ (x2).toInt < (cW A:Int) then 1 else 0)], h) _
      split
      · next y2 =>
          refine pa_if_t (pc' := 22) dX11_sets_13 (by decide) (by decide) ?_
          refine pa_iload_n (pc' := 23) dX11_sets_22 rfl rfl ?_
          refine pa_sipush (v := nI 9999) (pc' := 26) dX11_sets_23 (by decide) rfl ?_
          refine pa_calls (pc' := 29) (kd := 1) (vs := [.inl x3, .inl (nI 9999)]) (rest := []) dX11_sets_26 ml_11_227 (.inl rfl) rfl rfl rfl (fun d' _ => (N_within)) (fun v g9 hq => ?_)
          obtain ⟨ev, eh⟩ := hq
          subst ev
          rw [eh]
          show zPn N none d mX11_sets (29, _, [.inl (if 0 ≤ (x3).toInt ∧ (x3).toInt ≤ ((nI 9999)).toInt then 1 else 0)], h) _
          split
          · next y3 =>
              refine pa_if_t (pc' := 38) dX11_sets_29 (by decide) (by decide) ?_
              exact G_sets11 s0 (sh11 h1) (by decide +kernel) (fun v g q => q.trans (show cd_sets A x1 x2 x3 = 0 from (by unfold cd_sets; rw [if_pos (by first | assumption | omega | exact fun q => absurd (twB_iff.mp q).1.1 (by assumption) | exact fun q => absurd (twB_iff.mp q).1.2 (by assumption) | exact fun q => absurd (by assumption) (twB_iff.mp q).2 | exact twB_iff.mpr ⟨⟨by assumption, by assumption⟩, by assumption⟩ | exact fun q => q.2.2.2.2.1 (by assumption) | exact fun q => q.2.2.2.2.2 (by assumption) | exact fun q => absurd q.1 (by assumption) | exact fun q => absurd q.2.1 (by assumption) | exact fun q => absurd q.2.2.1 (by assumption) | exact fun q => absurd q.2.2.2.1 (by assumption) | exact ⟨by assumption, by assumption, by assumption, by assumption, by assumption, by assumption⟩), if_pos (by first | assumption | omega | exact fun q => absurd (twB_iff.mp q).1.1 (by assumption) | exact fun q => absurd (twB_iff.mp q).1.2 (by assumption) | exact fun q => absurd (by assumption) (twB_iff.mp q).2 | exact twB_iff.mpr ⟨⟨by assumption, by assumption⟩, by assumption⟩ | exact fun q => q.2.2.2.2.1 (by assumption) | exact fun q => q.2.2.2.2.2 (by assumption) | exact fun q => absurd q.1 (by assumption) | exact fun q => absurd q.2.1 (by assumption) | exact fun q => absurd q.2.2.1 (by assumption) | exact fun q => absurd q.2.2.2.1 (by assumption) | exact ⟨by assumption, by assumption, by assumption, by assumption, by assumption, by assumption⟩)])).symm)
          · next y3 =>
              refine pa_if_f (pc' := 32) dX11_sets_29 (by decide) (by decide) rfl ?_
              refine pa_aload_n (pc' := 33) dX11_sets_32 rfl rfl ?_
              refine pa_iconst (v := nI 2) (pc' := 34) dX11_sets_33 (by decide) rfl ?_
              refine pa_callv (pc' := 37) (vs := [.inl (nI 2)]) (rest := []) dX11_sets_34 ml_11_98 (by decide) rfl rfl rfl (fun d' _ => (c_ref s0)) (fun v g8 hq => ?_)
              obtain ⟨ev, eh⟩ := hq
              subst ev
              show zPn N none d mX11_sets (37, _, [.inl ((-1))], g8) _
              refine pa_iret dX11_sets_37 rfl rfl ?_
              exact (by rw [eh, zsI_eq, show cd_sets A x1 x2 x3 = 2 from (by unfold cd_sets; rw [if_pos (by first | assumption | omega | exact fun q => absurd (twB_iff.mp q).1.1 (by assumption) | exact fun q => absurd (twB_iff.mp q).1.2 (by assumption) | exact fun q => absurd (by assumption) (twB_iff.mp q).2 | exact twB_iff.mpr ⟨⟨by assumption, by assumption⟩, by assumption⟩ | exact fun q => q.2.2.2.2.1 (by assumption) | exact fun q => q.2.2.2.2.2 (by assumption) | exact fun q => absurd q.1 (by assumption) | exact fun q => absurd q.2.1 (by assumption) | exact fun q => absurd q.2.2.1 (by assumption) | exact fun q => absurd q.2.2.2.1 (by assumption) | exact ⟨by assumption, by assumption, by assumption, by assumption, by assumption, by assumption⟩), if_neg (by first | assumption | omega | exact fun q => absurd (twB_iff.mp q).1.1 (by assumption) | exact fun q => absurd (twB_iff.mp q).1.2 (by assumption) | exact fun q => absurd (by assumption) (twB_iff.mp q).2 | exact twB_iff.mpr ⟨⟨by assumption, by assumption⟩, by assumption⟩ | exact fun q => q.2.2.2.2.1 (by assumption) | exact fun q => q.2.2.2.2.2 (by assumption) | exact fun q => absurd q.1 (by assumption) | exact fun q => absurd q.2.1 (by assumption) | exact fun q => absurd q.2.2.1 (by assumption) | exact fun q => absurd q.2.2.2.1 (by assumption) | exact ⟨by assumption, by assumption, by assumption, by assumption, by assumption, by assumption⟩)])]; rfl : g8.2.1 0 2 = cd_sets A x1 x2 x3)
      · next y2 =>
          refine pa_if_f (pc' := 16) dX11_sets_13 (by decide) (by decide) rfl ?_
          refine pa_aload_n (pc' := 17) dX11_sets_16 rfl rfl ?_
          refine pa_iconst (v := nI 1) (pc' := 18) dX11_sets_17 (by decide) rfl ?_
          refine pa_callv (pc' := 21) (vs := [.inl (nI 1)]) (rest := []) dX11_sets_18 ml_11_98 (by decide) rfl rfl rfl (fun d' _ => (c_ref s0)) (fun v g8 hq => ?_)
          obtain ⟨ev, eh⟩ := hq
          subst ev
          show zPn N none d mX11_sets (21, _, [.inl ((-1))], g8) _
          refine pa_iret dX11_sets_21 rfl rfl ?_
          exact (by rw [eh, zsI_eq, show cd_sets A x1 x2 x3 = 1 from (by unfold cd_sets; rw [if_neg (by first | assumption | omega | exact fun q => absurd (twB_iff.mp q).1.1 (by assumption) | exact fun q => absurd (twB_iff.mp q).1.2 (by assumption) | exact fun q => absurd (by assumption) (twB_iff.mp q).2 | exact twB_iff.mpr ⟨⟨by assumption, by assumption⟩, by assumption⟩ | exact fun q => q.2.2.2.2.1 (by assumption) | exact fun q => q.2.2.2.2.2 (by assumption) | exact fun q => absurd q.1 (by assumption) | exact fun q => absurd q.2.1 (by assumption) | exact fun q => absurd q.2.2.1 (by assumption) | exact fun q => absurd q.2.2.2.1 (by assumption) | exact ⟨by assumption, by assumption, by assumption, by assumption, by assumption, by assumption⟩)])]; rfl : g8.2.1 0 2 = cd_sets A x1 x2 x3)
  · next y1 =>
      refine pa_if_t (pc' := 16) dX11_sets_5 (by decide) (by decide) ?_
      refine pa_aload_n (pc' := 17) dX11_sets_16 rfl rfl ?_
      refine pa_iconst (v := nI 1) (pc' := 18) dX11_sets_17 (by decide) rfl ?_
      refine pa_callv (pc' := 21) (vs := [.inl (nI 1)]) (rest := []) dX11_sets_18 ml_11_98 (by decide) rfl rfl rfl (fun d' _ => (c_ref s0)) (fun v g8 hq => ?_)
      obtain ⟨ev, eh⟩ := hq
      subst ev
      show zPn N none d mX11_sets (21, _, [.inl ((-1))], g8) _
      refine pa_iret dX11_sets_21 rfl rfl ?_
      exact (by rw [eh, zsI_eq, show cd_sets A x1 x2 x3 = 1 from (by unfold cd_sets; rw [if_neg (by first | assumption | omega | exact fun q => absurd (twB_iff.mp q).1.1 (by assumption) | exact fun q => absurd (twB_iff.mp q).1.2 (by assumption) | exact fun q => absurd (by assumption) (twB_iff.mp q).2 | exact twB_iff.mpr ⟨⟨by assumption, by assumption⟩, by assumption⟩ | exact fun q => q.2.2.2.2.1 (by assumption) | exact fun q => q.2.2.2.2.2 (by assumption) | exact fun q => absurd q.1 (by assumption) | exact fun q => absurd q.2.1 (by assumption) | exact fun q => absurd q.2.2.1 (by assumption) | exact fun q => absurd q.2.2.2.1 (by assumption) | exact ⟨by assumption, by assumption, by assumption, by assumption, by assumption, by assumption⟩)])]; rfl : g8.2.1 0 2 = cd_sets A x1 x2 x3)
theorem R_apart11 (z : lZ A c s H J h) (hi : lInv t h) : zPa d mX11_apart [.inr (.inr (some 0)), .inl x1, .inl x2] h (fun _ g => g.2.1 0 2 = cd_apart A x1 x2) := by
  intro N
  have h1 := hi.2.2.2.2.1
  have hA := z.1.1
  have hT := z.1.2.1
  have hB := z.1.2.2
  have hI := hA.1
  have hN := z.2.1.1
  have K := hA.2.2.2.1
  have hc2 : c = 2 ∨ c = 42 := hA.2.1
  obtain ⟨b1, b2, b3, b4, b5⟩ := hI.2.2.1
  have s0 : zsh h 0 = some (11, 16) := zsh_by h1 (by decide +kernel)
  obtain ⟨sc, sc1, sc2, sc4, sc5, scw, scb⟩ := cSh hA.2.1 h1
  obtain ⟨c9, c12, c13, cw, cb⟩ := cRf_of hi.1 hA.2.1
  have S := hi.nw
  obtain ⟨⟨s86, s87, s88, s89, s90, s91⟩, r87, r88, r89, r90, r91⟩ := S.o86
  have r3 := hA.2.2.1
  have r6 := S.2.1
  obtain ⟨n1, n2, n3, n4⟩ := z.2.2.1.1
  have lt0 : (nI 1 : Int32).toInt = 1 := by decide
  show zPn N none d mX11_apart (0, [(0, .inr (.inr (some 0))), (1, .inl x1), (2, .inl x2)], [], h) _
  refine pa_aload_n (pc' := 1) dX11_apart_0 rfl rfl ?_
  refine pa_iload_n (pc' := 2) dX11_apart_1 rfl rfl ?_
  refine pa_callv (pc' := 5) (vs := [.inl x1]) (rest := []) dX11_apart_2 ml_11_174 (by decide) rfl rfl rfl (fun d' _ => (N_isI11 hA h1)) (fun v g9 hq => ?_)
  obtain ⟨ev, eh⟩ := hq
  subst ev
  rw [eh]
  show zPn N none d mX11_apart (5, _, [.inl (if 0 ≤ (x1).toInt ∧ (x1).toInt < (cI A:Int) then 1 else 0)], h) _
  split
  · next y1 =>
      refine pa_if_f (pc' := 8) dX11_apart_5 (by decide) (by decide) rfl ?_
      refine pa_aload_n (pc' := 9) dX11_apart_8 rfl rfl ?_
      refine pa_iload_n (pc' := 10) dX11_apart_9 rfl rfl ?_
      refine pa_callv (pc' := 13) (vs := [.inl x2]) (rest := []) dX11_apart_10 ml_11_174 (by decide) rfl rfl rfl (fun d' _ => (N_isI11 hA h1)) (fun v g9 hq => ?_)
      obtain ⟨ev, eh⟩ := hq
      subst ev
      rw [eh]
      show zPn N none d mX11_apart (13, _, [.inl (if 0 ≤ (x2).toInt ∧ (x2).toInt < (cI A:Int) then 1 else 0)], h) _
      split
      · next y2 =>
          refine pa_if_f (pc' := 16) dX11_apart_13 (by decide) (by decide) rfl ?_
          exact G_apart11 s0 (sh11 h1) (by decide +kernel) (fun v g q => q.trans (show cd_apart A x1 x2 = 0 from (by unfold cd_apart; rw [if_pos (by first | assumption | omega | exact fun q => absurd (twB_iff.mp q).1.1 (by assumption) | exact fun q => absurd (twB_iff.mp q).1.2 (by assumption) | exact fun q => absurd (by assumption) (twB_iff.mp q).2 | exact twB_iff.mpr ⟨⟨by assumption, by assumption⟩, by assumption⟩ | exact fun q => q.2.2.2.2.1 (by assumption) | exact fun q => q.2.2.2.2.2 (by assumption) | exact fun q => absurd q.1 (by assumption) | exact fun q => absurd q.2.1 (by assumption) | exact fun q => absurd q.2.2.1 (by assumption) | exact fun q => absurd q.2.2.2.1 (by assumption) | exact ⟨by assumption, by assumption, by assumption, by assumption, by assumption, by assumption⟩)])).symm)
      · next y2 =>
          refine pa_if_t (pc' := 32) dX11_apart_13 (by decide) (by decide) ?_
          refine pa_aload_n (pc' := 33) dX11_apart_32 rfl rfl ?_
          refine pa_iconst (v := nI 1) (pc' := 34) dX11_apart_33 (by decide) rfl ?_
          refine pa_callv (pc' := 37) (vs := [.inl (nI 1)]) (rest := []) dX11_apart_34 ml_11_98 (by decide) rfl rfl rfl (fun d' _ => (c_ref s0)) (fun v g8 hq => ?_)
          obtain ⟨ev, eh⟩ := hq
          subst ev
          show zPn N none d mX11_apart (37, _, [.inl ((-1))], g8) _
          refine pa_iret dX11_apart_37 rfl rfl ?_
          exact (by rw [eh, zsI_eq, show cd_apart A x1 x2 = 1 from (by unfold cd_apart; rw [if_neg (by first | assumption | omega | exact fun q => absurd (twB_iff.mp q).1.1 (by assumption) | exact fun q => absurd (twB_iff.mp q).1.2 (by assumption) | exact fun q => absurd (by assumption) (twB_iff.mp q).2 | exact twB_iff.mpr ⟨⟨by assumption, by assumption⟩, by assumption⟩ | exact fun q => q.2.2.2.2.1 (by assumption) | exact fun q => q.2.2.2.2.2 (by assumption) | exact fun q => absurd q.1 (by assumption) | exact fun q => absurd q.2.1 (by assumption) | exact fun q => absurd q.2.2.1 (by assumption) | exact fun q => absurd q.2.2.2.1 (by assumption) | exact ⟨by assumption, by assumption, by assumption, by assumption, by assumption, by assumption⟩)])]; rfl : g8.2.1 0 2 = cd_apart A x1 x2)
  · next y1 =>
      refine pa_if_t (pc' := 32) dX11_apart_5 (by decide) (by decide) ?_
      refine pa_aload_n (pc' := 33) dX11_apart_32 rfl rfl ?_
      refine pa_iconst (v := nI 1) (pc' := 34) dX11_apart_33 (by decide) rfl ?_
      refine pa_callv (pc' := 37) (vs := [.inl (nI 1)]) (rest := []) dX11_apart_34 ml_11_98 (by decide) rfl rfl rfl (fun d' _ => (c_ref s0)) (fun v g8 hq => ?_)
      obtain ⟨ev, eh⟩ := hq
      subst ev
      show zPn N none d mX11_apart (37, _, [.inl ((-1))], g8) _
      refine pa_iret dX11_apart_37 rfl rfl ?_
      exact (by rw [eh, zsI_eq, show cd_apart A x1 x2 = 1 from (by unfold cd_apart; rw [if_neg (by first | assumption | omega | exact fun q => absurd (twB_iff.mp q).1.1 (by assumption) | exact fun q => absurd (twB_iff.mp q).1.2 (by assumption) | exact fun q => absurd (by assumption) (twB_iff.mp q).2 | exact twB_iff.mpr ⟨⟨by assumption, by assumption⟩, by assumption⟩ | exact fun q => q.2.2.2.2.1 (by assumption) | exact fun q => q.2.2.2.2.2 (by assumption) | exact fun q => absurd q.1 (by assumption) | exact fun q => absurd q.2.1 (by assumption) | exact fun q => absurd q.2.2.1 (by assumption) | exact fun q => absurd q.2.2.2.1 (by assumption) | exact ⟨by assumption, by assumption, by assumption, by assumption, by assumption, by assumption⟩)])]; rfl : g8.2.1 0 2 = cd_apart A x1 x2)
theorem R_apart12 (z : lZ A c s H J g) (m : lMid kk im t g h) : zPa d mX12_apart [.inr (.inr (some 196)), .inl x1, .inl x2] h (fun _ g => g.2.1 196 11 = cd_apart A x1 x2) := by
  intro N
  have hp := M_hasBt z m
  have s196 : zsh h 196 = some (12, 39) := zsh_by m.2.1.2.2.2 (by decide +kernel)
  generalize eg : zsI (zsI h 196 0 0) 196 11 0 = h2
  have e2 : ∀ a k, a ≠ 196 → h2.2.1 a k = h.2.1 a k := fun a k ha => by rw [← eg, zsI_no (by omega), zsI_no (by omega)]
  have e3 : ∀ k, k ≠ 0 → k ≠ 11 → h2.2.1 196 k = h.2.1 196 k := fun k w1 w2 => by rw [← eg, zsI_no (by omega), zsI_no (by omega)]
  have h1 : h2.1 = hh_487.1 := by rw [← eg]; exact m.2.1.2.2.2
  have hA : lPA A c h2 := by rw [← eg]; exact (m.pa z.1.1).gd
  have B : cI A ≠ 0 → bgM A s h2 := fun ne => by rw [← eg]; exact (z.bm m ne).gd
  have er : h2.2.2.2.1 = h.2.2.2.1 := by rw [← eg]; rfl
  have q15 : h2.2.2.2.1 196 15 = some 199 := by rw [er]; exact m.r15
  have q17 : h2.2.2.2.1 196 17 = some 201 := by rw [er]; exact m.mw.2.1
  have z196 : zsh h2 196 = some (12, 39) := zsh_by h1 (by decide +kernel)
  have z199 : zsh h2 199 = some (14, 363) := zsh_by h1 (by decide +kernel)
  have z201 : zsh h2 201 = some (14, 76) := zsh_by h1 (by decide +kernel)
  have M : nMo A s 201 0 h2 := (z.lm m).1.1.fr (fun k => e2 _ _ (by decide))
  have hT := z.1.2.1
  have hB := z.1.2.2
  have hI := z.1.1.1
  have hN := z.2.1.1
  have k0 : (0 : Int32).toInt = 0 := by decide
  obtain ⟨b1, b2, b3, b4, b5⟩ := hI.2.2.1
  rw [← e3 14 (by decide) (by decide)] at hp
  have lt0 : (nI 1 : Int32).toInt = 1 := by decide
  show zPn N none d mX12_apart (0, [(0, .inr (.inr (some 196))), (1, .inl x1), (2, .inl x2)], [], h) _
  refine pa_aload_n (pc' := 1) dX12_apart_0 rfl rfl ?_
  refine pa_callv (pc' := 4) (vs := []) (rest := []) dX12_apart_1 ml_12_167 (by decide) rfl rfl rfl (fun d' _ => (m_good s196)) (fun v h3 hq => ?_)
  obtain ⟨ev, eh⟩ := hq
  subst ev
  show zPn N none d mX12_apart (4, _, [], h3) _
  rw [eg] at eh
  subst eh
  have t0 : h3.2.1 196 11 = 0 := by rw [← eg]; exact zsI_eq
  refine pa_aload_n (pc' := 5) dX12_apart_4 rfl rfl ?_
  refine pa_iload_n (pc' := 6) dX12_apart_5 rfl rfl ?_
  refine pa_callv (pc' := 9) (vs := [.inl x1]) (rest := []) dX12_apart_6 ml_12_277 (by decide) rfl rfl rfl (fun d' _ => (N_isI12 hA q15 h1)) (fun v g9 hq => ?_)
  obtain ⟨ev, eh⟩ := hq
  subst ev
  rw [eh]
  show zPn N none d mX12_apart (9, _, [.inl (if 0 ≤ (x1).toInt ∧ (x1).toInt < (cI A:Int) then 1 else 0)], h3) _
  split
  · next y1 =>
      refine pa_if_f (pc' := 12) dX12_apart_9 (by decide) (by decide) rfl ?_
      refine pa_aload_n (pc' := 13) dX12_apart_12 rfl rfl ?_
      refine pa_iload_n (pc' := 14) dX12_apart_13 rfl rfl ?_
      refine pa_callv (pc' := 17) (vs := [.inl x2]) (rest := []) dX12_apart_14 ml_12_277 (by decide) rfl rfl rfl (fun d' _ => (N_isI12 hA q15 h1)) (fun v g9 hq => ?_)
      obtain ⟨ev, eh⟩ := hq
      subst ev
      rw [eh]
      show zPn N none d mX12_apart (17, _, [.inl (if 0 ≤ (x2).toInt ∧ (x2).toInt < (cI A:Int) then 1 else 0)], h3) _
      split
      · next y2 =>
          refine pa_if_f (pc' := 20) dX12_apart_17 (by decide) (by decide) rfl ?_
          exact G_apart12 (by decide +kernel) (fun v g q => (q.2.2 39 z196).trans (t0.trans (show cd_apart A x1 x2 = 0 from (by unfold cd_apart; rw [if_pos (by first | assumption | omega | exact fun q => absurd (twB_iff.mp q).1.1 (by assumption) | exact fun q => absurd (twB_iff.mp q).1.2 (by assumption) | exact fun q => absurd (by assumption) (twB_iff.mp q).2 | exact twB_iff.mpr ⟨⟨by assumption, by assumption⟩, by assumption⟩ | exact fun q => q.2.2.2.2.1 (by assumption) | exact fun q => q.2.2.2.2.2 (by assumption) | exact fun q => absurd q.1 (by assumption) | exact fun q => absurd q.2.1 (by assumption) | exact fun q => absurd q.2.2.1 (by assumption) | exact fun q => absurd q.2.2.2.1 (by assumption) | exact ⟨by assumption, by assumption, by assumption, by assumption, by assumption, by assumption⟩)])).symm))
      · next y2 =>
          refine pa_if_t (pc' := 29) dX12_apart_17 (by decide) (by decide) ?_
          refine pa_aload_n (pc' := 30) dX12_apart_29 rfl rfl ?_
          refine pa_iconst (v := nI 1) (pc' := 31) dX12_apart_30 (by decide) rfl ?_
          refine pa_callv (pc' := 34) (vs := [.inl (nI 1)]) (rest := []) dX12_apart_31 ml_12_170 (by decide) rfl rfl rfl (fun d' _ => (m_no z196)) (fun v g8 hq => ?_)
          obtain ⟨ev, eh⟩ := hq
          subst ev
          show zPn N none d mX12_apart (34, _, [.inl ((-1))], g8) _
          refine pa_iret dX12_apart_34 rfl rfl ?_
          exact (by rw [eh, zsI_eq, show cd_apart A x1 x2 = 1 from (by unfold cd_apart; rw [if_neg (by first | assumption | omega | exact fun q => absurd (twB_iff.mp q).1.1 (by assumption) | exact fun q => absurd (twB_iff.mp q).1.2 (by assumption) | exact fun q => absurd (by assumption) (twB_iff.mp q).2 | exact twB_iff.mpr ⟨⟨by assumption, by assumption⟩, by assumption⟩ | exact fun q => q.2.2.2.2.1 (by assumption) | exact fun q => q.2.2.2.2.2 (by assumption) | exact fun q => absurd q.1 (by assumption) | exact fun q => absurd q.2.1 (by assumption) | exact fun q => absurd q.2.2.1 (by assumption) | exact fun q => absurd q.2.2.2.1 (by assumption) | exact ⟨by assumption, by assumption, by assumption, by assumption, by assumption, by assumption⟩)])]; rfl : g8.2.1 196 11 = cd_apart A x1 x2)
  · next y1 =>
      refine pa_if_t (pc' := 29) dX12_apart_9 (by decide) (by decide) ?_
      refine pa_aload_n (pc' := 30) dX12_apart_29 rfl rfl ?_
      refine pa_iconst (v := nI 1) (pc' := 31) dX12_apart_30 (by decide) rfl ?_
      refine pa_callv (pc' := 34) (vs := [.inl (nI 1)]) (rest := []) dX12_apart_31 ml_12_170 (by decide) rfl rfl rfl (fun d' _ => (m_no z196)) (fun v g8 hq => ?_)
      obtain ⟨ev, eh⟩ := hq
      subst ev
      show zPn N none d mX12_apart (34, _, [.inl ((-1))], g8) _
      refine pa_iret dX12_apart_34 rfl rfl ?_
      exact (by rw [eh, zsI_eq, show cd_apart A x1 x2 = 1 from (by unfold cd_apart; rw [if_neg (by first | assumption | omega | exact fun q => absurd (twB_iff.mp q).1.1 (by assumption) | exact fun q => absurd (twB_iff.mp q).1.2 (by assumption) | exact fun q => absurd (by assumption) (twB_iff.mp q).2 | exact twB_iff.mpr ⟨⟨by assumption, by assumption⟩, by assumption⟩ | exact fun q => q.2.2.2.2.1 (by assumption) | exact fun q => q.2.2.2.2.2 (by assumption) | exact fun q => absurd q.1 (by assumption) | exact fun q => absurd q.2.1 (by assumption) | exact fun q => absurd q.2.2.1 (by assumption) | exact fun q => absurd q.2.2.2.1 (by assumption) | exact ⟨by assumption, by assumption, by assumption, by assumption, by assumption, by assumption⟩)])]; rfl : g8.2.1 196 11 = cd_apart A x1 x2)
theorem R_bear11 (z : lZ A c s H J h) (hi : lInv t h) : zPa d mX11_bear [.inr (.inr (some 0))] h (fun _ g => g.2.1 0 2 = cd_bear A) := by
  intro N
  have h1 := hi.2.2.2.2.1
  have hA := z.1.1
  have hT := z.1.2.1
  have hB := z.1.2.2
  have hI := hA.1
  have hN := z.2.1.1
  have K := hA.2.2.2.1
  have hc2 : c = 2 ∨ c = 42 := hA.2.1
  obtain ⟨b1, b2, b3, b4, b5⟩ := hI.2.2.1
  have s0 : zsh h 0 = some (11, 16) := zsh_by h1 (by decide +kernel)
  obtain ⟨sc, sc1, sc2, sc4, sc5, scw, scb⟩ := cSh hA.2.1 h1
  obtain ⟨c9, c12, c13, cw, cb⟩ := cRf_of hi.1 hA.2.1
  have S := hi.nw
  obtain ⟨⟨s86, s87, s88, s89, s90, s91⟩, r87, r88, r89, r90, r91⟩ := S.o86
  have r3 := hA.2.2.1
  have r6 := S.2.1
  obtain ⟨n1, n2, n3, n4⟩ := z.2.2.1.1
  have lt0 : (nI 1 : Int32).toInt = 1 := by decide
  show zPn N none d mX11_bear (0, [(0, .inr (.inr (some 0)))], [], h) _
  refine pa_aload_n (pc' := 1) dX11_bear_0 rfl rfl ?_
  refine pa_callv (pc' := 4) (vs := []) (rest := []) dX11_bear_1 ml_11_222 (by decide) rfl rfl rfl (fun d' _ => (N_hasPost hA h1)) (fun v g9 hq => ?_)
  obtain ⟨ev, eh⟩ := hq
  subst ev
  rw [eh]
  show zPn N none d mX11_bear (4, _, [.inl (if cI A = 0 then 0 else 1)], h) _
  split
  · next y1 =>
      refine pa_if_t (pc' := 21) dX11_bear_4 (by decide) (by decide) ?_
      refine pa_aload_n (pc' := 22) dX11_bear_21 rfl rfl ?_
      refine pa_iconst (v := nI 1) (pc' := 23) dX11_bear_22 (by decide) rfl ?_
      refine pa_callv (pc' := 26) (vs := [.inl (nI 1)]) (rest := []) dX11_bear_23 ml_11_98 (by decide) rfl rfl rfl (fun d' _ => (c_ref s0)) (fun v g8 hq => ?_)
      obtain ⟨ev, eh⟩ := hq
      subst ev
      show zPn N none d mX11_bear (26, _, [.inl ((-1))], g8) _
      refine pa_iret dX11_bear_26 rfl rfl ?_
      exact (by rw [eh, zsI_eq, show cd_bear A = 1 from (by unfold cd_bear; rw [if_neg (by first | assumption | omega | exact fun q => absurd (twB_iff.mp q).1.1 (by assumption) | exact fun q => absurd (twB_iff.mp q).1.2 (by assumption) | exact fun q => absurd (by assumption) (twB_iff.mp q).2 | exact twB_iff.mpr ⟨⟨by assumption, by assumption⟩, by assumption⟩ | exact fun q => q.2.2.2.2.1 (by assumption) | exact fun q => q.2.2.2.2.2 (by assumption) | exact fun q => absurd q.1 (by assumption) | exact fun q => absurd q.2.1 (by assumption) | exact fun q => absurd q.2.2.1 (by assumption) | exact fun q => absurd q.2.2.2.1 (by assumption) | exact ⟨by assumption, by assumption, by assumption, by assumption, by assumption, by assumption⟩)])]; rfl : g8.2.1 0 2 = cd_bear A)
  · next y1 =>
      refine pa_if_f (pc' := 7) dX11_bear_4 (by decide) (by decide) rfl ?_
      exact G_bear11 s0 (sh11 h1) (by decide +kernel) (fun v g q => q.trans (show cd_bear A = 0 from (by unfold cd_bear; rw [if_pos (by first | assumption | omega | exact fun q => absurd (twB_iff.mp q).1.1 (by assumption) | exact fun q => absurd (twB_iff.mp q).1.2 (by assumption) | exact fun q => absurd (by assumption) (twB_iff.mp q).2 | exact twB_iff.mpr ⟨⟨by assumption, by assumption⟩, by assumption⟩ | exact fun q => q.2.2.2.2.1 (by assumption) | exact fun q => q.2.2.2.2.2 (by assumption) | exact fun q => absurd q.1 (by assumption) | exact fun q => absurd q.2.1 (by assumption) | exact fun q => absurd q.2.2.1 (by assumption) | exact fun q => absurd q.2.2.2.1 (by assumption) | exact ⟨by assumption, by assumption, by assumption, by assumption, by assumption, by assumption⟩)])).symm)
theorem R_bear12 (z : lZ A c s H J g) (m : lMid kk im t g h) : zPa d mX12_bear [.inr (.inr (some 196))] h (fun _ g => g.2.1 196 11 = cd_bear A) := by
  intro N
  have hp := M_hasBt z m
  have s196 : zsh h 196 = some (12, 39) := zsh_by m.2.1.2.2.2 (by decide +kernel)
  generalize eg : zsI (zsI h 196 0 0) 196 11 0 = h2
  have e2 : ∀ a k, a ≠ 196 → h2.2.1 a k = h.2.1 a k := fun a k ha => by rw [← eg, zsI_no (by omega), zsI_no (by omega)]
  have e3 : ∀ k, k ≠ 0 → k ≠ 11 → h2.2.1 196 k = h.2.1 196 k := fun k w1 w2 => by rw [← eg, zsI_no (by omega), zsI_no (by omega)]
  have h1 : h2.1 = hh_487.1 := by rw [← eg]; exact m.2.1.2.2.2
  have hA : lPA A c h2 := by rw [← eg]; exact (m.pa z.1.1).gd
  have B : cI A ≠ 0 → bgM A s h2 := fun ne => by rw [← eg]; exact (z.bm m ne).gd
  have er : h2.2.2.2.1 = h.2.2.2.1 := by rw [← eg]; rfl
  have q15 : h2.2.2.2.1 196 15 = some 199 := by rw [er]; exact m.r15
  have q17 : h2.2.2.2.1 196 17 = some 201 := by rw [er]; exact m.mw.2.1
  have z196 : zsh h2 196 = some (12, 39) := zsh_by h1 (by decide +kernel)
  have z199 : zsh h2 199 = some (14, 363) := zsh_by h1 (by decide +kernel)
  have z201 : zsh h2 201 = some (14, 76) := zsh_by h1 (by decide +kernel)
  have M : nMo A s 201 0 h2 := (z.lm m).1.1.fr (fun k => e2 _ _ (by decide))
  have hT := z.1.2.1
  have hB := z.1.2.2
  have hI := z.1.1.1
  have hN := z.2.1.1
  have k0 : (0 : Int32).toInt = 0 := by decide
  obtain ⟨b1, b2, b3, b4, b5⟩ := hI.2.2.1
  rw [← e3 14 (by decide) (by decide)] at hp
  have lt0 : (nI 0 : Int32).toInt = 0 := by decide
  have lt1 : (nI 1 : Int32).toInt = 1 := by decide
  have lt2 : (nI 2 : Int32).toInt = 2 := by decide
  have lt3 : (nI 4 : Int32).toInt = 4 := by decide
  have lt4 : (nI 6 : Int32).toInt = 6 := by decide
  have lt5 : (nI 7 : Int32).toInt = 7 := by decide
  show zPn N none d mX12_bear (0, [(0, .inr (.inr (some 196)))], [], h) _
  refine pa_aload_n (pc' := 1) dX12_bear_0 rfl rfl ?_
  refine pa_callv (pc' := 4) (vs := []) (rest := []) dX12_bear_1 ml_12_167 (by decide) rfl rfl rfl (fun d' _ => (m_good s196)) (fun v h3 hq => ?_)
  obtain ⟨ev, eh⟩ := hq
  subst ev
  show zPn N none d mX12_bear (4, _, [], h3) _
  rw [eg] at eh
  subst eh
  have t0 : h3.2.1 196 11 = 0 := by rw [← eg]; exact zsI_eq
  rcases hp with ⟨y1, hp⟩ | ⟨y1, hp⟩
  · refine pa_aload_n (pc' := 5) dX12_bear_4 rfl rfl ?_
    refine pa_getI (pc' := 8) (n := 39) (v := 0) dX12_bear_5 fl_12_180 z196 (by decide) hp rfl ?_
    refine pa_if_f (pc' := 11) dX12_bear_8 (by decide) (by decide) rfl ?_
    refine pa_aload_n (pc' := 12) dX12_bear_11 rfl rfl ?_
    refine pa_iconst (v := nI 1) (pc' := 13) dX12_bear_12 (by decide) rfl ?_
    refine pa_callv (pc' := 16) (vs := [.inl (nI 1)]) (rest := []) dX12_bear_13 ml_12_170 (by decide) rfl rfl rfl (fun d' _ => (m_no z196)) (fun v g8 hq => ?_)
    obtain ⟨ev, eh⟩ := hq
    subst ev
    show zPn N none d mX12_bear (16, _, [.inl ((-1))], g8) _
    refine pa_iret dX12_bear_16 rfl rfl ?_
    exact (by rw [eh, zsI_eq, show cd_bear A = 1 from (by unfold cd_bear; rw [if_neg (by first | assumption | omega | exact fun q => absurd (twB_iff.mp q).1.1 (by assumption) | exact fun q => absurd (twB_iff.mp q).1.2 (by assumption) | exact fun q => absurd (by assumption) (twB_iff.mp q).2 | exact twB_iff.mpr ⟨⟨by assumption, by assumption⟩, by assumption⟩ | exact fun q => q.2.2.2.2.1 (by assumption) | exact fun q => q.2.2.2.2.2 (by assumption) | exact fun q => absurd q.1 (by assumption) | exact fun q => absurd q.2.1 (by assumption) | exact fun q => absurd q.2.2.1 (by assumption) | exact fun q => absurd q.2.2.2.1 (by assumption) | exact ⟨by assumption, by assumption, by assumption, by assumption, by assumption, by assumption⟩)])]; rfl : g8.2.1 196 11 = cd_bear A)
  refine pa_aload_n (pc' := 5) dX12_bear_4 rfl rfl ?_
  refine pa_getI (pc' := 8) (n := 39) (v := 1) dX12_bear_5 fl_12_180 z196 (by decide) hp rfl ?_
  refine pa_if_t (pc' := 17) dX12_bear_8 (by decide) (by decide) ?_
  exact G_bear12 (by decide +kernel) (fun v g q => (q.2.2 39 z196).trans (t0.trans (show cd_bear A = 0 from (by unfold cd_bear; rw [if_pos (by first | assumption | omega | exact fun q => absurd (twB_iff.mp q).1.1 (by assumption) | exact fun q => absurd (twB_iff.mp q).1.2 (by assumption) | exact fun q => absurd (by assumption) (twB_iff.mp q).2 | exact twB_iff.mpr ⟨⟨by assumption, by assumption⟩, by assumption⟩ | exact fun q => q.2.2.2.2.1 (by assumption) | exact fun q => q.2.2.2.2.2 (by assumption) | exact fun q => absurd q.1 (by assumption) | exact fun q => absurd q.2.1 (by assumption) | exact fun q => absurd q.2.2.1 (by assumption) | exact fun q => absurd q.2.2.2.1 (by assumption) | exact ⟨by assumption, by assumption, by assumption, by assumption, by assumption, by assumption⟩)])).symm))
theorem R_mixed11 (z : lZ A c s H J h) (hi : lInv t h) : zPa d mX11_mixed [.inr (.inr (some 0))] h (fun _ g => g.2.1 0 2 = cd_mixed A) := by
  intro N
  have h1 := hi.2.2.2.2.1
  have hA := z.1.1
  have hT := z.1.2.1
  have hB := z.1.2.2
  have hI := hA.1
  have hN := z.2.1.1
  have K := hA.2.2.2.1
  have hc2 : c = 2 ∨ c = 42 := hA.2.1
  obtain ⟨b1, b2, b3, b4, b5⟩ := hI.2.2.1
  have s0 : zsh h 0 = some (11, 16) := zsh_by h1 (by decide +kernel)
  obtain ⟨sc, sc1, sc2, sc4, sc5, scw, scb⟩ := cSh hA.2.1 h1
  obtain ⟨c9, c12, c13, cw, cb⟩ := cRf_of hi.1 hA.2.1
  have S := hi.nw
  obtain ⟨⟨s86, s87, s88, s89, s90, s91⟩, r87, r88, r89, r90, r91⟩ := S.o86
  have r3 := hA.2.2.1
  have r6 := S.2.1
  obtain ⟨n1, n2, n3, n4⟩ := z.2.2.1.1
  have lt0 : (nI 1 : Int32).toInt = 1 := by decide
  show zPn N none d mX11_mixed (0, [(0, .inr (.inr (some 0)))], [], h) _
  refine pa_aload_n (pc' := 1) dX11_mixed_0 rfl rfl ?_
  refine pa_callv (pc' := 4) (vs := []) (rest := []) dX11_mixed_1 ml_11_222 (by decide) rfl rfl rfl (fun d' _ => (N_hasPost hA h1)) (fun v g9 hq => ?_)
  obtain ⟨ev, eh⟩ := hq
  subst ev
  rw [eh]
  show zPn N none d mX11_mixed (4, _, [.inl (if cI A = 0 then 0 else 1)], h) _
  split
  · next y1 =>
      refine pa_if_t (pc' := 21) dX11_mixed_4 (by decide) (by decide) ?_
      refine pa_aload_n (pc' := 22) dX11_mixed_21 rfl rfl ?_
      refine pa_iconst (v := nI 1) (pc' := 23) dX11_mixed_22 (by decide) rfl ?_
      refine pa_callv (pc' := 26) (vs := [.inl (nI 1)]) (rest := []) dX11_mixed_23 ml_11_98 (by decide) rfl rfl rfl (fun d' _ => (c_ref s0)) (fun v g8 hq => ?_)
      obtain ⟨ev, eh⟩ := hq
      subst ev
      show zPn N none d mX11_mixed (26, _, [.inl ((-1))], g8) _
      refine pa_iret dX11_mixed_26 rfl rfl ?_
      exact (by rw [eh, zsI_eq, show cd_mixed A = 1 from (by unfold cd_mixed; rw [if_neg (by first | assumption | omega | exact fun q => absurd (twB_iff.mp q).1.1 (by assumption) | exact fun q => absurd (twB_iff.mp q).1.2 (by assumption) | exact fun q => absurd (by assumption) (twB_iff.mp q).2 | exact twB_iff.mpr ⟨⟨by assumption, by assumption⟩, by assumption⟩ | exact fun q => q.2.2.2.2.1 (by assumption) | exact fun q => q.2.2.2.2.2 (by assumption) | exact fun q => absurd q.1 (by assumption) | exact fun q => absurd q.2.1 (by assumption) | exact fun q => absurd q.2.2.1 (by assumption) | exact fun q => absurd q.2.2.2.1 (by assumption) | exact ⟨by assumption, by assumption, by assumption, by assumption, by assumption, by assumption⟩)])]; rfl : g8.2.1 0 2 = cd_mixed A)
  · next y1 =>
      refine pa_if_f (pc' := 7) dX11_mixed_4 (by decide) (by decide) rfl ?_
      exact G_mixed11 s0 (sh11 h1) (by decide +kernel) (fun v g q => q.trans (show cd_mixed A = 0 from (by unfold cd_mixed; rw [if_pos (by first | assumption | omega | exact fun q => absurd (twB_iff.mp q).1.1 (by assumption) | exact fun q => absurd (twB_iff.mp q).1.2 (by assumption) | exact fun q => absurd (by assumption) (twB_iff.mp q).2 | exact twB_iff.mpr ⟨⟨by assumption, by assumption⟩, by assumption⟩ | exact fun q => q.2.2.2.2.1 (by assumption) | exact fun q => q.2.2.2.2.2 (by assumption) | exact fun q => absurd q.1 (by assumption) | exact fun q => absurd q.2.1 (by assumption) | exact fun q => absurd q.2.2.1 (by assumption) | exact fun q => absurd q.2.2.2.1 (by assumption) | exact ⟨by assumption, by assumption, by assumption, by assumption, by assumption, by assumption⟩)])).symm)
theorem R_mixed12 (z : lZ A c s H J g) (m : lMid kk im t g h) : zPa d mX12_mixed [.inr (.inr (some 196))] h (fun _ g => g.2.1 196 11 = cd_mixed A) := by
  intro N
  have hp := M_hasBt z m
  have s196 : zsh h 196 = some (12, 39) := zsh_by m.2.1.2.2.2 (by decide +kernel)
  generalize eg : zsI (zsI h 196 0 0) 196 11 0 = h2
  have e2 : ∀ a k, a ≠ 196 → h2.2.1 a k = h.2.1 a k := fun a k ha => by rw [← eg, zsI_no (by omega), zsI_no (by omega)]
  have e3 : ∀ k, k ≠ 0 → k ≠ 11 → h2.2.1 196 k = h.2.1 196 k := fun k w1 w2 => by rw [← eg, zsI_no (by omega), zsI_no (by omega)]
  have h1 : h2.1 = hh_487.1 := by rw [← eg]; exact m.2.1.2.2.2
  have hA : lPA A c h2 := by rw [← eg]; exact (m.pa z.1.1).gd
  have B : cI A ≠ 0 → bgM A s h2 := fun ne => by rw [← eg]; exact (z.bm m ne).gd
  have er : h2.2.2.2.1 = h.2.2.2.1 := by rw [← eg]; rfl
  have q15 : h2.2.2.2.1 196 15 = some 199 := by rw [er]; exact m.r15
  have q17 : h2.2.2.2.1 196 17 = some 201 := by rw [er]; exact m.mw.2.1
  have z196 : zsh h2 196 = some (12, 39) := zsh_by h1 (by decide +kernel)
  have z199 : zsh h2 199 = some (14, 363) := zsh_by h1 (by decide +kernel)
  have z201 : zsh h2 201 = some (14, 76) := zsh_by h1 (by decide +kernel)
  have M : nMo A s 201 0 h2 := (z.lm m).1.1.fr (fun k => e2 _ _ (by decide))
  have hT := z.1.2.1
  have hB := z.1.2.2
  have hI := z.1.1.1
  have hN := z.2.1.1
  have k0 : (0 : Int32).toInt = 0 := by decide
  obtain ⟨b1, b2, b3, b4, b5⟩ := hI.2.2.1
  rw [← e3 14 (by decide) (by decide)] at hp
  have lt0 : (nI 0 : Int32).toInt = 0 := by decide
  have lt1 : (nI 1 : Int32).toInt = 1 := by decide
  have lt2 : (nI 2 : Int32).toInt = 2 := by decide
  have lt3 : (nI 4 : Int32).toInt = 4 := by decide
  show zPn N none d mX12_mixed (0, [(0, .inr (.inr (some 196)))], [], h) _
  refine pa_aload_n (pc' := 1) dX12_mixed_0 rfl rfl ?_
  refine pa_callv (pc' := 4) (vs := []) (rest := []) dX12_mixed_1 ml_12_167 (by decide) rfl rfl rfl (fun d' _ => (m_good s196)) (fun v h3 hq => ?_)
  obtain ⟨ev, eh⟩ := hq
  subst ev
  show zPn N none d mX12_mixed (4, _, [], h3) _
  rw [eg] at eh
  subst eh
  have t0 : h3.2.1 196 11 = 0 := by rw [← eg]; exact zsI_eq
  rcases hp with ⟨y1, hp⟩ | ⟨y1, hp⟩
  · refine pa_aload_n (pc' := 5) dX12_mixed_4 rfl rfl ?_
    refine pa_getI (pc' := 8) (n := 39) (v := 0) dX12_mixed_5 fl_12_180 z196 (by decide) hp rfl ?_
    refine pa_if_f (pc' := 11) dX12_mixed_8 (by decide) (by decide) rfl ?_
    refine pa_aload_n (pc' := 12) dX12_mixed_11 rfl rfl ?_
    refine pa_iconst (v := nI 1) (pc' := 13) dX12_mixed_12 (by decide) rfl ?_
    refine pa_callv (pc' := 16) (vs := [.inl (nI 1)]) (rest := []) dX12_mixed_13 ml_12_170 (by decide) rfl rfl rfl (fun d' _ => (m_no z196)) (fun v g8 hq => ?_)
    obtain ⟨ev, eh⟩ := hq
    subst ev
    show zPn N none d mX12_mixed (16, _, [.inl ((-1))], g8) _
    refine pa_iret dX12_mixed_16 rfl rfl ?_
    exact (by rw [eh, zsI_eq, show cd_mixed A = 1 from (by unfold cd_mixed; rw [if_neg (by first | assumption | omega | exact fun q => absurd (twB_iff.mp q).1.1 (by assumption) | exact fun q => absurd (twB_iff.mp q).1.2 (by assumption) | exact fun q => absurd (by assumption) (twB_iff.mp q).2 | exact twB_iff.mpr ⟨⟨by assumption, by assumption⟩, by assumption⟩ | exact fun q => q.2.2.2.2.1 (by assumption) | exact fun q => q.2.2.2.2.2 (by assumption) | exact fun q => absurd q.1 (by assumption) | exact fun q => absurd q.2.1 (by assumption) | exact fun q => absurd q.2.2.1 (by assumption) | exact fun q => absurd q.2.2.2.1 (by assumption) | exact ⟨by assumption, by assumption, by assumption, by assumption, by assumption, by assumption⟩)])]; rfl : g8.2.1 196 11 = cd_mixed A)
  refine pa_aload_n (pc' := 5) dX12_mixed_4 rfl rfl ?_
  refine pa_getI (pc' := 8) (n := 39) (v := 1) dX12_mixed_5 fl_12_180 z196 (by decide) hp rfl ?_
  refine pa_if_t (pc' := 17) dX12_mixed_8 (by decide) (by decide) ?_
  exact G_mixed12 (by decide +kernel) (fun v g q => (q.2.2 39 z196).trans (t0.trans (show cd_mixed A = 0 from (by unfold cd_mixed; rw [if_pos (by first | assumption | omega | exact fun q => absurd (twB_iff.mp q).1.1 (by assumption) | exact fun q => absurd (twB_iff.mp q).1.2 (by assumption) | exact fun q => absurd (by assumption) (twB_iff.mp q).2 | exact twB_iff.mpr ⟨⟨by assumption, by assumption⟩, by assumption⟩ | exact fun q => q.2.2.2.2.1 (by assumption) | exact fun q => q.2.2.2.2.2 (by assumption) | exact fun q => absurd q.1 (by assumption) | exact fun q => absurd q.2.1 (by assumption) | exact fun q => absurd q.2.2.1 (by assumption) | exact fun q => absurd q.2.2.2.1 (by assumption) | exact ⟨by assumption, by assumption, by assumption, by assumption, by assumption, by assumption⟩)])).symm))
theorem R_near11 (z : lZ A c s H J h) (hi : lInv t h) : zPa d mX11_near [.inr (.inr (some 0)), .inl x1] h (fun _ g => g.2.1 0 2 = cd_near A x1) := by
  intro N
  have h1 := hi.2.2.2.2.1
  have hA := z.1.1
  have hT := z.1.2.1
  have hB := z.1.2.2
  have hI := hA.1
  have hN := z.2.1.1
  have K := hA.2.2.2.1
  have hc2 : c = 2 ∨ c = 42 := hA.2.1
  obtain ⟨b1, b2, b3, b4, b5⟩ := hI.2.2.1
  have s0 : zsh h 0 = some (11, 16) := zsh_by h1 (by decide +kernel)
  obtain ⟨sc, sc1, sc2, sc4, sc5, scw, scb⟩ := cSh hA.2.1 h1
  obtain ⟨c9, c12, c13, cw, cb⟩ := cRf_of hi.1 hA.2.1
  have S := hi.nw
  obtain ⟨⟨s86, s87, s88, s89, s90, s91⟩, r87, r88, r89, r90, r91⟩ := S.o86
  have r3 := hA.2.2.1
  have r6 := S.2.1
  obtain ⟨n1, n2, n3, n4⟩ := z.2.2.1.1
  have lt0 : (nI 1 : Int32).toInt = 1 := by decide
  show zPn N none d mX11_near (0, [(0, .inr (.inr (some 0))), (1, .inl x1)], [], h) _
  refine pa_aload_n (pc' := 1) dX11_near_0 rfl rfl ?_
  refine pa_iload_n (pc' := 2) dX11_near_1 rfl rfl ?_
  refine pa_callv (pc' := 5) (vs := [.inl x1]) (rest := []) dX11_near_2 ml_11_147 (by decide) rfl rfl rfl (fun d' _ => (N_isBox hA h1)) (fun v g9 hq => ?_)
  obtain ⟨ev, eh⟩ := hq
  subst ev
  rw [eh]
  show zPn N none d mX11_near (5, _, [.inl (if 0 ≤ (x1).toInt ∧ (x1).toInt < (cB A:Int) then 1 else 0)], h) _
  split
  · next y1 =>
      refine pa_if_t (pc' := 14) dX11_near_5 (by decide) (by decide) ?_
      exact G_near11 s0 (sh11 h1) (by decide +kernel) (fun v g q => q.trans (show cd_near A x1 = 0 from (by unfold cd_near; rw [if_pos (by first | assumption | omega | exact fun q => absurd (twB_iff.mp q).1.1 (by assumption) | exact fun q => absurd (twB_iff.mp q).1.2 (by assumption) | exact fun q => absurd (by assumption) (twB_iff.mp q).2 | exact twB_iff.mpr ⟨⟨by assumption, by assumption⟩, by assumption⟩ | exact fun q => q.2.2.2.2.1 (by assumption) | exact fun q => q.2.2.2.2.2 (by assumption) | exact fun q => absurd q.1 (by assumption) | exact fun q => absurd q.2.1 (by assumption) | exact fun q => absurd q.2.2.1 (by assumption) | exact fun q => absurd q.2.2.2.1 (by assumption) | exact ⟨by assumption, by assumption, by assumption, by assumption, by assumption, by assumption⟩)])).symm)
  · next y1 =>
      refine pa_if_f (pc' := 8) dX11_near_5 (by decide) (by decide) rfl ?_
      refine pa_aload_n (pc' := 9) dX11_near_8 rfl rfl ?_
      refine pa_iconst (v := nI 1) (pc' := 10) dX11_near_9 (by decide) rfl ?_
      refine pa_callv (pc' := 13) (vs := [.inl (nI 1)]) (rest := []) dX11_near_10 ml_11_98 (by decide) rfl rfl rfl (fun d' _ => (c_ref s0)) (fun v g8 hq => ?_)
      obtain ⟨ev, eh⟩ := hq
      subst ev
      show zPn N none d mX11_near (13, _, [.inl ((-1))], g8) _
      refine pa_iret dX11_near_13 rfl rfl ?_
      exact (by rw [eh, zsI_eq, show cd_near A x1 = 1 from (by unfold cd_near; rw [if_neg (by first | assumption | omega | exact fun q => absurd (twB_iff.mp q).1.1 (by assumption) | exact fun q => absurd (twB_iff.mp q).1.2 (by assumption) | exact fun q => absurd (by assumption) (twB_iff.mp q).2 | exact twB_iff.mpr ⟨⟨by assumption, by assumption⟩, by assumption⟩ | exact fun q => q.2.2.2.2.1 (by assumption) | exact fun q => q.2.2.2.2.2 (by assumption) | exact fun q => absurd q.1 (by assumption) | exact fun q => absurd q.2.1 (by assumption) | exact fun q => absurd q.2.2.1 (by assumption) | exact fun q => absurd q.2.2.2.1 (by assumption) | exact ⟨by assumption, by assumption, by assumption, by assumption, by assumption, by assumption⟩)])]; rfl : g8.2.1 0 2 = cd_near A x1)
theorem R_near12 (z : lZ A c s H J g) (m : lMid kk im t g h) : zPa d mX12_near [.inr (.inr (some 196)), .inl x1] h (fun _ g => g.2.1 196 11 = cd_near A x1) := by
  intro N
  have hp := M_hasBt z m
  have s196 : zsh h 196 = some (12, 39) := zsh_by m.2.1.2.2.2 (by decide +kernel)
  generalize eg : zsI (zsI h 196 0 0) 196 11 0 = h2
  have e2 : ∀ a k, a ≠ 196 → h2.2.1 a k = h.2.1 a k := fun a k ha => by rw [← eg, zsI_no (by omega), zsI_no (by omega)]
  have e3 : ∀ k, k ≠ 0 → k ≠ 11 → h2.2.1 196 k = h.2.1 196 k := fun k w1 w2 => by rw [← eg, zsI_no (by omega), zsI_no (by omega)]
  have h1 : h2.1 = hh_487.1 := by rw [← eg]; exact m.2.1.2.2.2
  have hA : lPA A c h2 := by rw [← eg]; exact (m.pa z.1.1).gd
  have B : cI A ≠ 0 → bgM A s h2 := fun ne => by rw [← eg]; exact (z.bm m ne).gd
  have er : h2.2.2.2.1 = h.2.2.2.1 := by rw [← eg]; rfl
  have q15 : h2.2.2.2.1 196 15 = some 199 := by rw [er]; exact m.r15
  have q17 : h2.2.2.2.1 196 17 = some 201 := by rw [er]; exact m.mw.2.1
  have z196 : zsh h2 196 = some (12, 39) := zsh_by h1 (by decide +kernel)
  have z199 : zsh h2 199 = some (14, 363) := zsh_by h1 (by decide +kernel)
  have z201 : zsh h2 201 = some (14, 76) := zsh_by h1 (by decide +kernel)
  have M : nMo A s 201 0 h2 := (z.lm m).1.1.fr (fun k => e2 _ _ (by decide))
  have hT := z.1.2.1
  have hB := z.1.2.2
  have hI := z.1.1.1
  have hN := z.2.1.1
  have k0 : (0 : Int32).toInt = 0 := by decide
  obtain ⟨b1, b2, b3, b4, b5⟩ := hI.2.2.1
  rw [← e3 14 (by decide) (by decide)] at hp
  have lt0 : (nI 0 : Int32).toInt = 0 := by decide
  have lt1 : (nI 1 : Int32).toInt = 1 := by decide
  show zPn N none d mX12_near (0, [(0, .inr (.inr (some 196))), (1, .inl x1)], [], h) _
  refine pa_aload_n (pc' := 1) dX12_near_0 rfl rfl ?_
  refine pa_callv (pc' := 4) (vs := []) (rest := []) dX12_near_1 ml_12_167 (by decide) rfl rfl rfl (fun d' _ => (m_good s196)) (fun v h3 hq => ?_)
  obtain ⟨ev, eh⟩ := hq
  subst ev
  show zPn N none d mX12_near (4, _, [], h3) _
  rw [eg] at eh
  subst eh
  have t0 : h3.2.1 196 11 = 0 := by rw [← eg]; exact zsI_eq
  refine pa_aload_n (pc' := 5) dX12_near_4 rfl rfl ?_
  refine pa_iload_n (pc' := 6) dX12_near_5 rfl rfl ?_
  refine pa_callv (pc' := 9) (vs := [.inl x1]) (rest := []) dX12_near_6 ml_12_274 (by decide) rfl rfl rfl (fun d' _ => (M_isBox hA q15 h1)) (fun v g9 hq => ?_)
  obtain ⟨ev, eh⟩ := hq
  subst ev
  rw [eh]
  show zPn N none d mX12_near (9, _, [.inl (if 0 ≤ (x1).toInt ∧ (x1).toInt < (cB A:Int) then 1 else 0)], h3) _
  split
  · next y1 =>
      refine pa_if_f (pc' := 12) dX12_near_9 (by decide) (by decide) rfl ?_
      exact G_near12 (by decide +kernel) (fun v g q => (q.2.2 39 z196).trans (t0.trans (show cd_near A x1 = 0 from (by unfold cd_near; rw [if_pos (by first | assumption | omega | exact fun q => absurd (twB_iff.mp q).1.1 (by assumption) | exact fun q => absurd (twB_iff.mp q).1.2 (by assumption) | exact fun q => absurd (by assumption) (twB_iff.mp q).2 | exact twB_iff.mpr ⟨⟨by assumption, by assumption⟩, by assumption⟩ | exact fun q => q.2.2.2.2.1 (by assumption) | exact fun q => q.2.2.2.2.2 (by assumption) | exact fun q => absurd q.1 (by assumption) | exact fun q => absurd q.2.1 (by assumption) | exact fun q => absurd q.2.2.1 (by assumption) | exact fun q => absurd q.2.2.2.1 (by assumption) | exact ⟨by assumption, by assumption, by assumption, by assumption, by assumption, by assumption⟩)])).symm))
  · next y1 =>
      refine pa_if_t (pc' := 21) dX12_near_9 (by decide) (by decide) ?_
      refine pa_aload_n (pc' := 22) dX12_near_21 rfl rfl ?_
      refine pa_iconst (v := nI 1) (pc' := 23) dX12_near_22 (by decide) rfl ?_
      refine pa_callv (pc' := 26) (vs := [.inl (nI 1)]) (rest := []) dX12_near_23 ml_12_170 (by decide) rfl rfl rfl (fun d' _ => (m_no z196)) (fun v g8 hq => ?_)
      obtain ⟨ev, eh⟩ := hq
      subst ev
      show zPn N none d mX12_near (26, _, [.inl ((-1))], g8) _
      refine pa_iret dX12_near_26 rfl rfl ?_
      exact (by rw [eh, zsI_eq, show cd_near A x1 = 1 from (by unfold cd_near; rw [if_neg (by first | assumption | omega | exact fun q => absurd (twB_iff.mp q).1.1 (by assumption) | exact fun q => absurd (twB_iff.mp q).1.2 (by assumption) | exact fun q => absurd (by assumption) (twB_iff.mp q).2 | exact twB_iff.mpr ⟨⟨by assumption, by assumption⟩, by assumption⟩ | exact fun q => q.2.2.2.2.1 (by assumption) | exact fun q => q.2.2.2.2.2 (by assumption) | exact fun q => absurd q.1 (by assumption) | exact fun q => absurd q.2.1 (by assumption) | exact fun q => absurd q.2.2.1 (by assumption) | exact fun q => absurd q.2.2.2.1 (by assumption) | exact ⟨by assumption, by assumption, by assumption, by assumption, by assumption, by assumption⟩)])]; rfl : g8.2.1 196 11 = cd_near A x1)
theorem R_asNear11 (z : lZ A c s H J h) (hi : lInv t h) : zPa d mX11_asNear [.inr (.inr (some 0)), .inl x1] h (fun _ g => g.2.1 0 2 = cd_asNear A x1) := by
  intro N
  have h1 := hi.2.2.2.2.1
  have hA := z.1.1
  have hT := z.1.2.1
  have hB := z.1.2.2
  have hI := hA.1
  have hN := z.2.1.1
  have K := hA.2.2.2.1
  have hc2 : c = 2 ∨ c = 42 := hA.2.1
  obtain ⟨b1, b2, b3, b4, b5⟩ := hI.2.2.1
  have s0 : zsh h 0 = some (11, 16) := zsh_by h1 (by decide +kernel)
  obtain ⟨sc, sc1, sc2, sc4, sc5, scw, scb⟩ := cSh hA.2.1 h1
  obtain ⟨c9, c12, c13, cw, cb⟩ := cRf_of hi.1 hA.2.1
  have S := hi.nw
  obtain ⟨⟨s86, s87, s88, s89, s90, s91⟩, r87, r88, r89, r90, r91⟩ := S.o86
  have r3 := hA.2.2.1
  have r6 := S.2.1
  obtain ⟨n1, n2, n3, n4⟩ := z.2.2.1.1
  have lt0 : (nI 1 : Int32).toInt = 1 := by decide
  show zPn N none d mX11_asNear (0, [(0, .inr (.inr (some 0))), (1, .inl x1)], [], h) _
  refine pa_aload_n (pc' := 1) dX11_asNear_0 rfl rfl ?_
  refine pa_iload_n (pc' := 2) dX11_asNear_1 rfl rfl ?_
  refine pa_callv (pc' := 5) (vs := [.inl x1]) (rest := []) dX11_asNear_2 ml_11_147 (by decide) rfl rfl rfl (fun d' _ => (N_isBox hA h1)) (fun v g9 hq => ?_)
  obtain ⟨ev, eh⟩ := hq
  subst ev
  rw [eh]
  show zPn N none d mX11_asNear (5, _, [.inl (if 0 ≤ (x1).toInt ∧ (x1).toInt < (cB A:Int) then 1 else 0)], h) _
  split
  · next y1 =>
      refine pa_if_t (pc' := 14) dX11_asNear_5 (by decide) (by decide) ?_
      exact G_asNear11 s0 (sh11 h1) (by decide +kernel) (fun v g q => q.trans (show cd_asNear A x1 = 0 from (by unfold cd_asNear; rw [if_pos (by first | assumption | omega | exact fun q => absurd (twB_iff.mp q).1.1 (by assumption) | exact fun q => absurd (twB_iff.mp q).1.2 (by assumption) | exact fun q => absurd (by assumption) (twB_iff.mp q).2 | exact twB_iff.mpr ⟨⟨by assumption, by assumption⟩, by assumption⟩ | exact fun q => q.2.2.2.2.1 (by assumption) | exact fun q => q.2.2.2.2.2 (by assumption) | exact fun q => absurd q.1 (by assumption) | exact fun q => absurd q.2.1 (by assumption) | exact fun q => absurd q.2.2.1 (by assumption) | exact fun q => absurd q.2.2.2.1 (by assumption) | exact ⟨by assumption, by assumption, by assumption, by assumption, by assumption, by assumption⟩)])).symm)
  · next y1 =>
      refine pa_if_f (pc' := 8) dX11_asNear_5 (by decide) (by decide) rfl ?_
      refine pa_aload_n (pc' := 9) dX11_asNear_8 rfl rfl ?_
      refine pa_iconst (v := nI 1) (pc' := 10) dX11_asNear_9 (by decide) rfl ?_
      refine pa_callv (pc' := 13) (vs := [.inl (nI 1)]) (rest := []) dX11_asNear_10 ml_11_98 (by decide) rfl rfl rfl (fun d' _ => (c_ref s0)) (fun v g8 hq => ?_)
      obtain ⟨ev, eh⟩ := hq
      subst ev
      show zPn N none d mX11_asNear (13, _, [.inl ((-1))], g8) _
      refine pa_iret dX11_asNear_13 rfl rfl ?_
      exact (by rw [eh, zsI_eq, show cd_asNear A x1 = 1 from (by unfold cd_asNear; rw [if_neg (by first | assumption | omega | exact fun q => absurd (twB_iff.mp q).1.1 (by assumption) | exact fun q => absurd (twB_iff.mp q).1.2 (by assumption) | exact fun q => absurd (by assumption) (twB_iff.mp q).2 | exact twB_iff.mpr ⟨⟨by assumption, by assumption⟩, by assumption⟩ | exact fun q => q.2.2.2.2.1 (by assumption) | exact fun q => q.2.2.2.2.2 (by assumption) | exact fun q => absurd q.1 (by assumption) | exact fun q => absurd q.2.1 (by assumption) | exact fun q => absurd q.2.2.1 (by assumption) | exact fun q => absurd q.2.2.2.1 (by assumption) | exact ⟨by assumption, by assumption, by assumption, by assumption, by assumption, by assumption⟩)])]; rfl : g8.2.1 0 2 = cd_asNear A x1)
theorem R_asNear12 (z : lZ A c s H J g) (m : lMid kk im t g h) : zPa d mX12_asNear [.inr (.inr (some 196)), .inl x1] h (fun _ g => g.2.1 196 11 = cd_asNear A x1) := by
  intro N
  have hp := M_hasBt z m
  have s196 : zsh h 196 = some (12, 39) := zsh_by m.2.1.2.2.2 (by decide +kernel)
  generalize eg : zsI (zsI h 196 0 0) 196 11 0 = h2
  have e2 : ∀ a k, a ≠ 196 → h2.2.1 a k = h.2.1 a k := fun a k ha => by rw [← eg, zsI_no (by omega), zsI_no (by omega)]
  have e3 : ∀ k, k ≠ 0 → k ≠ 11 → h2.2.1 196 k = h.2.1 196 k := fun k w1 w2 => by rw [← eg, zsI_no (by omega), zsI_no (by omega)]
  have h1 : h2.1 = hh_487.1 := by rw [← eg]; exact m.2.1.2.2.2
  have hA : lPA A c h2 := by rw [← eg]; exact (m.pa z.1.1).gd
  have B : cI A ≠ 0 → bgM A s h2 := fun ne => by rw [← eg]; exact (z.bm m ne).gd
  have er : h2.2.2.2.1 = h.2.2.2.1 := by rw [← eg]; rfl
  have q15 : h2.2.2.2.1 196 15 = some 199 := by rw [er]; exact m.r15
  have q17 : h2.2.2.2.1 196 17 = some 201 := by rw [er]; exact m.mw.2.1
  have z196 : zsh h2 196 = some (12, 39) := zsh_by h1 (by decide +kernel)
  have z199 : zsh h2 199 = some (14, 363) := zsh_by h1 (by decide +kernel)
  have z201 : zsh h2 201 = some (14, 76) := zsh_by h1 (by decide +kernel)
  have M : nMo A s 201 0 h2 := (z.lm m).1.1.fr (fun k => e2 _ _ (by decide))
  have hT := z.1.2.1
  have hB := z.1.2.2
  have hI := z.1.1.1
  have hN := z.2.1.1
  have k0 : (0 : Int32).toInt = 0 := by decide
  obtain ⟨b1, b2, b3, b4, b5⟩ := hI.2.2.1
  rw [← e3 14 (by decide) (by decide)] at hp
  have lt0 : (nI 1 : Int32).toInt = 1 := by decide
  show zPn N none d mX12_asNear (0, [(0, .inr (.inr (some 196))), (1, .inl x1)], [], h) _
  refine pa_aload_n (pc' := 1) dX12_asNear_0 rfl rfl ?_
  refine pa_callv (pc' := 4) (vs := []) (rest := []) dX12_asNear_1 ml_12_167 (by decide) rfl rfl rfl (fun d' _ => (m_good s196)) (fun v h3 hq => ?_)
  obtain ⟨ev, eh⟩ := hq
  subst ev
  show zPn N none d mX12_asNear (4, _, [], h3) _
  rw [eg] at eh
  subst eh
  have t0 : h3.2.1 196 11 = 0 := by rw [← eg]; exact zsI_eq
  refine pa_aload_n (pc' := 5) dX12_asNear_4 rfl rfl ?_
  refine pa_iload_n (pc' := 6) dX12_asNear_5 rfl rfl ?_
  refine pa_callv (pc' := 9) (vs := [.inl x1]) (rest := []) dX12_asNear_6 ml_12_274 (by decide) rfl rfl rfl (fun d' _ => (M_isBox hA q15 h1)) (fun v g9 hq => ?_)
  obtain ⟨ev, eh⟩ := hq
  subst ev
  rw [eh]
  show zPn N none d mX12_asNear (9, _, [.inl (if 0 ≤ (x1).toInt ∧ (x1).toInt < (cB A:Int) then 1 else 0)], h3) _
  split
  · next y1 =>
      refine pa_if_f (pc' := 12) dX12_asNear_9 (by decide) (by decide) rfl ?_
      exact G_asNear12 (by decide +kernel) (fun v g q => (q.2.2 39 z196).trans (t0.trans (show cd_asNear A x1 = 0 from (by unfold cd_asNear; rw [if_pos (by first | assumption | omega | exact fun q => absurd (twB_iff.mp q).1.1 (by assumption) | exact fun q => absurd (twB_iff.mp q).1.2 (by assumption) | exact fun q => absurd (by assumption) (twB_iff.mp q).2 | exact twB_iff.mpr ⟨⟨by assumption, by assumption⟩, by assumption⟩ | exact fun q => q.2.2.2.2.1 (by assumption) | exact fun q => q.2.2.2.2.2 (by assumption) | exact fun q => absurd q.1 (by assumption) | exact fun q => absurd q.2.1 (by assumption) | exact fun q => absurd q.2.2.1 (by assumption) | exact fun q => absurd q.2.2.2.1 (by assumption) | exact ⟨by assumption, by assumption, by assumption, by assumption, by assumption, by assumption⟩)])).symm))
  · next y1 =>
      refine pa_if_t (pc' := 21) dX12_asNear_9 (by decide) (by decide) ?_
      refine pa_aload_n (pc' := 22) dX12_asNear_21 rfl rfl ?_
      refine pa_iconst (v := nI 1) (pc' := 23) dX12_asNear_22 (by decide) rfl ?_
      refine pa_callv (pc' := 26) (vs := [.inl (nI 1)]) (rest := []) dX12_asNear_23 ml_12_170 (by decide) rfl rfl rfl (fun d' _ => (m_no z196)) (fun v g8 hq => ?_)
      obtain ⟨ev, eh⟩ := hq
      subst ev
      show zPn N none d mX12_asNear (26, _, [.inl ((-1))], g8) _
      refine pa_iret dX12_asNear_26 rfl rfl ?_
      exact (by rw [eh, zsI_eq, show cd_asNear A x1 = 1 from (by unfold cd_asNear; rw [if_neg (by first | assumption | omega | exact fun q => absurd (twB_iff.mp q).1.1 (by assumption) | exact fun q => absurd (twB_iff.mp q).1.2 (by assumption) | exact fun q => absurd (by assumption) (twB_iff.mp q).2 | exact twB_iff.mpr ⟨⟨by assumption, by assumption⟩, by assumption⟩ | exact fun q => q.2.2.2.2.1 (by assumption) | exact fun q => q.2.2.2.2.2 (by assumption) | exact fun q => absurd q.1 (by assumption) | exact fun q => absurd q.2.1 (by assumption) | exact fun q => absurd q.2.2.1 (by assumption) | exact fun q => absurd q.2.2.2.1 (by assumption) | exact ⟨by assumption, by assumption, by assumption, by assumption, by assumption, by assumption⟩)])]; rfl : g8.2.1 196 11 = cd_asNear A x1)
theorem R_heardIn11 (z : lZ A c s H J h) (hi : lInv t h) : zPa d mX11_heardIn [.inr (.inr (some 0)), .inl x1, .inl x2] h (fun _ g => g.2.1 0 2 = cd_heardIn A x1 x2) := by
  intro N
  have h1 := hi.2.2.2.2.1
  have hA := z.1.1
  have hT := z.1.2.1
  have hB := z.1.2.2
  have hI := hA.1
  have hN := z.2.1.1
  have K := hA.2.2.2.1
  have hc2 : c = 2 ∨ c = 42 := hA.2.1
  obtain ⟨b1, b2, b3, b4, b5⟩ := hI.2.2.1
  have s0 : zsh h 0 = some (11, 16) := zsh_by h1 (by decide +kernel)
  obtain ⟨sc, sc1, sc2, sc4, sc5, scw, scb⟩ := cSh hA.2.1 h1
  obtain ⟨c9, c12, c13, cw, cb⟩ := cRf_of hi.1 hA.2.1
  have S := hi.nw
  obtain ⟨⟨s86, s87, s88, s89, s90, s91⟩, r87, r88, r89, r90, r91⟩ := S.o86
  have r3 := hA.2.2.1
  have r6 := S.2.1
  obtain ⟨n1, n2, n3, n4⟩ := z.2.2.1.1
  have lt0 : (nI 1 : Int32).toInt = 1 := by decide
  have lt1 : (nI 2 : Int32).toInt = 2 := by decide
  have lt2 : (nI 99 : Int32).toInt = 99 := by decide
  show zPn N none d mX11_heardIn (0, [(0, .inr (.inr (some 0))), (1, .inl x1), (2, .inl x2)], [], h) _
  refine pa_aload_n (pc' := 1) dX11_heardIn_0 rfl rfl ?_
  refine pa_iload_n (pc' := 2) dX11_heardIn_1 rfl rfl ?_
  refine pa_callv (pc' := 5) (vs := [.inl x1]) (rest := []) dX11_heardIn_2 ml_11_147 (by decide) rfl rfl rfl (fun d' _ => (N_isBox hA h1)) (fun v g9 hq => ?_)
  obtain ⟨ev, eh⟩ := hq
  subst ev
  rw [eh]
  show zPn N none d mX11_heardIn (5, _, [.inl (if 0 ≤ (x1).toInt ∧ (x1).toInt < (cB A:Int) then 1 else 0)], h) _
  split
  · next y1 =>
      refine pa_if_t (pc' := 14) dX11_heardIn_5 (by decide) (by decide) ?_
      refine pa_iload_n (pc' := 15) dX11_heardIn_14 rfl rfl ?_
      refine pa_bipush (v := nI 99) (pc' := 17) dX11_heardIn_15 (by decide) rfl ?_
      refine pa_calls (pc' := 20) (kd := 1) (vs := [.inl x2, .inl (nI 99)]) (rest := []) dX11_heardIn_17 ml_11_227 (.inl rfl) rfl rfl rfl (fun d' _ => (N_within)) (fun v g9 hq => ?_)
      obtain ⟨ev, eh⟩ := hq
      subst ev
      rw [eh]
      show zPn N none d mX11_heardIn (20, _, [.inl (if 0 ≤ (x2).toInt ∧ (x2).toInt ≤ ((nI 99)).toInt then 1 else 0)], h) _
      split
      · next y2 =>
          refine pa_if_t (pc' := 29) dX11_heardIn_20 (by decide) (by decide) ?_
          exact G_heardIn11 s0 (sh11 h1) (by decide +kernel) (fun v g q => q.trans (show cd_heardIn A x1 x2 = 0 from (by unfold cd_heardIn; rw [if_pos (by first | assumption | omega | exact fun q => absurd (twB_iff.mp q).1.1 (by assumption) | exact fun q => absurd (twB_iff.mp q).1.2 (by assumption) | exact fun q => absurd (by assumption) (twB_iff.mp q).2 | exact twB_iff.mpr ⟨⟨by assumption, by assumption⟩, by assumption⟩ | exact fun q => q.2.2.2.2.1 (by assumption) | exact fun q => q.2.2.2.2.2 (by assumption) | exact fun q => absurd q.1 (by assumption) | exact fun q => absurd q.2.1 (by assumption) | exact fun q => absurd q.2.2.1 (by assumption) | exact fun q => absurd q.2.2.2.1 (by assumption) | exact ⟨by assumption, by assumption, by assumption, by assumption, by assumption, by assumption⟩), if_pos (by first | assumption | omega | exact fun q => absurd (twB_iff.mp q).1.1 (by assumption) | exact fun q => absurd (twB_iff.mp q).1.2 (by assumption) | exact fun q => absurd (by assumption) (twB_iff.mp q).2 | exact twB_iff.mpr ⟨⟨by assumption, by assumption⟩, by assumption⟩ | exact fun q => q.2.2.2.2.1 (by assumption) | exact fun q => q.2.2.2.2.2 (by assumption) | exact fun q => absurd q.1 (by assumption) | exact fun q => absurd q.2.1 (by assumption) | exact fun q => absurd q.2.2.1 (by assumption) | exact fun q => absurd q.2.2.2.1 (by assumption) | exact ⟨by assumption, by assumption, by assumption, by assumption, by assumption, by assumption⟩)])).symm)
      · next y2 =>
          refine pa_if_f (pc' := 23) dX11_heardIn_20 (by decide) (by decide) rfl ?_
          refine pa_aload_n (pc' := 24) dX11_heardIn_23 rfl rfl ?_
          refine pa_iconst (v := nI 2) (pc' := 25) dX11_heardIn_24 (by decide) rfl ?_
          refine pa_callv (pc' := 28) (vs := [.inl (nI 2)]) (rest := []) dX11_heardIn_25 ml_11_98 (by decide) rfl rfl rfl (fun d' _ => (c_ref s0)) (fun v g8 hq => ?_)
          obtain ⟨ev, eh⟩ := hq
          subst ev
          show zPn N none d mX11_heardIn (28, _, [.inl ((-1))], g8) _
          refine pa_iret dX11_heardIn_28 rfl rfl ?_
          exact (by rw [eh, zsI_eq, show cd_heardIn A x1 x2 = 2 from (by unfold cd_heardIn; rw [if_pos (by first | assumption | omega | exact fun q => absurd (twB_iff.mp q).1.1 (by assumption) | exact fun q => absurd (twB_iff.mp q).1.2 (by assumption) | exact fun q => absurd (by assumption) (twB_iff.mp q).2 | exact twB_iff.mpr ⟨⟨by assumption, by assumption⟩, by assumption⟩ | exact fun q => q.2.2.2.2.1 (by assumption) | exact fun q => q.2.2.2.2.2 (by assumption) | exact fun q => absurd q.1 (by assumption) | exact fun q => absurd q.2.1 (by assumption) | exact fun q => absurd q.2.2.1 (by assumption) | exact fun q => absurd q.2.2.2.1 (by assumption) | exact ⟨by assumption, by assumption, by assumption, by assumption, by assumption, by assumption⟩), if_neg (by first | assumption | omega | exact fun q => absurd (twB_iff.mp q).1.1 (by assumption) | exact fun q => absurd (twB_iff.mp q).1.2 (by assumption) | exact fun q => absurd (by assumption) (twB_iff.mp q).2 | exact twB_iff.mpr ⟨⟨by assumption, by assumption⟩, by assumption⟩ | exact fun q => q.2.2.2.2.1 (by assumption) | exact fun q => q.2.2.2.2.2 (by assumption) | exact fun q => absurd q.1 (by assumption) | exact fun q => absurd q.2.1 (by assumption) | exact fun q => absurd q.2.2.1 (by assumption) | exact fun q => absurd q.2.2.2.1 (by assumption) | exact ⟨by assumption, by assumption, by assumption, by assumption, by assumption, by assumption⟩)])]; rfl : g8.2.1 0 2 = cd_heardIn A x1 x2)
  · next y1 =>
      refine pa_if_f (pc' := 8) dX11_heardIn_5 (by decide) (by decide) rfl ?_
      refine pa_aload_n (pc' := 9) dX11_heardIn_8 rfl rfl ?_
      refine pa_iconst (v := nI 1) (pc' := 10) dX11_heardIn_9 (by decide) rfl ?_
      refine pa_callv (pc' := 13) (vs := [.inl (nI 1)]) (rest := []) dX11_heardIn_10 ml_11_98 (by decide) rfl rfl rfl (fun d' _ => (c_ref s0)) (fun v g8 hq => ?_)
      obtain ⟨ev, eh⟩ := hq
      subst ev
      show zPn N none d mX11_heardIn (13, _, [.inl ((-1))], g8) _
      refine pa_iret dX11_heardIn_13 rfl rfl ?_
      exact (by rw [eh, zsI_eq, show cd_heardIn A x1 x2 = 1 from (by unfold cd_heardIn; rw [if_neg (by first | assumption | omega | exact fun q => absurd (twB_iff.mp q).1.1 (by assumption) | exact fun q => absurd (twB_iff.mp q).1.2 (by assumption) | exact fun q => absurd (by assumption) (twB_iff.mp q).2 | exact twB_iff.mpr ⟨⟨by assumption, by assumption⟩, by assumption⟩ | exact fun q => q.2.2.2.2.1 (by assumption) | exact fun q => q.2.2.2.2.2 (by assumption) | exact fun q => absurd q.1 (by assumption) | exact fun q => absurd q.2.1 (by assumption) | exact fun q => absurd q.2.2.1 (by assumption) | exact fun q => absurd q.2.2.2.1 (by assumption) | exact ⟨by assumption, by assumption, by assumption, by assumption, by assumption, by assumption⟩)])]; rfl : g8.2.1 0 2 = cd_heardIn A x1 x2)
theorem R_heardIn12 (z : lZ A c s H J g) (m : lMid kk im t g h) : zPa d mX12_heardIn [.inr (.inr (some 196)), .inl x1, .inl x2] h (fun _ g => g.2.1 196 11 = cd_heardIn A x1 x2) := by
  intro N
  have hp := M_hasBt z m
  have s196 : zsh h 196 = some (12, 39) := zsh_by m.2.1.2.2.2 (by decide +kernel)
  generalize eg : zsI (zsI h 196 0 0) 196 11 0 = h2
  have e2 : ∀ a k, a ≠ 196 → h2.2.1 a k = h.2.1 a k := fun a k ha => by rw [← eg, zsI_no (by omega), zsI_no (by omega)]
  have e3 : ∀ k, k ≠ 0 → k ≠ 11 → h2.2.1 196 k = h.2.1 196 k := fun k w1 w2 => by rw [← eg, zsI_no (by omega), zsI_no (by omega)]
  have h1 : h2.1 = hh_487.1 := by rw [← eg]; exact m.2.1.2.2.2
  have hA : lPA A c h2 := by rw [← eg]; exact (m.pa z.1.1).gd
  have B : cI A ≠ 0 → bgM A s h2 := fun ne => by rw [← eg]; exact (z.bm m ne).gd
  have er : h2.2.2.2.1 = h.2.2.2.1 := by rw [← eg]; rfl
  have q15 : h2.2.2.2.1 196 15 = some 199 := by rw [er]; exact m.r15
  have q17 : h2.2.2.2.1 196 17 = some 201 := by rw [er]; exact m.mw.2.1
  have z196 : zsh h2 196 = some (12, 39) := zsh_by h1 (by decide +kernel)
  have z199 : zsh h2 199 = some (14, 363) := zsh_by h1 (by decide +kernel)
  have z201 : zsh h2 201 = some (14, 76) := zsh_by h1 (by decide +kernel)
  have M : nMo A s 201 0 h2 := (z.lm m).1.1.fr (fun k => e2 _ _ (by decide))
  have hT := z.1.2.1
  have hB := z.1.2.2
  have hI := z.1.1.1
  have hN := z.2.1.1
  have k0 : (0 : Int32).toInt = 0 := by decide
  obtain ⟨b1, b2, b3, b4, b5⟩ := hI.2.2.1
  rw [← e3 14 (by decide) (by decide)] at hp
  have lt0 : (nI 0 : Int32).toInt = 0 := by decide
  have lt1 : (nI 1 : Int32).toInt = 1 := by decide
  have lt2 : (nI 2 : Int32).toInt = 2 := by decide
  have lt3 : (nI 99 : Int32).toInt = 99 := by decide
  show zPn N none d mX12_heardIn (0, [(0, .inr (.inr (some 196))), (1, .inl x1), (2, .inl x2)], [], h) _
  refine pa_aload_n (pc' := 1) dX12_heardIn_0 rfl rfl ?_
  refine pa_callv (pc' := 4) (vs := []) (rest := []) dX12_heardIn_1 ml_12_167 (by decide) rfl rfl rfl (fun d' _ => (m_good s196)) (fun v h3 hq => ?_)
  obtain ⟨ev, eh⟩ := hq
  subst ev
  show zPn N none d mX12_heardIn (4, _, [], h3) _
  rw [eg] at eh
  subst eh
  have t0 : h3.2.1 196 11 = 0 := by rw [← eg]; exact zsI_eq
  refine pa_aload_n (pc' := 5) dX12_heardIn_4 rfl rfl ?_
  refine pa_iload_n (pc' := 6) dX12_heardIn_5 rfl rfl ?_
  refine pa_callv (pc' := 9) (vs := [.inl x1]) (rest := []) dX12_heardIn_6 ml_12_274 (by decide) rfl rfl rfl (fun d' _ => (M_isBox hA q15 h1)) (fun v g9 hq => ?_)
  obtain ⟨ev, eh⟩ := hq
  subst ev
  rw [eh]
  show zPn N none d mX12_heardIn (9, _, [.inl (if 0 ≤ (x1).toInt ∧ (x1).toInt < (cB A:Int) then 1 else 0)], h3) _
  split
  · next y1 =>
      refine pa_if_t (pc' := 18) dX12_heardIn_9 (by decide) (by decide) ?_
      refine pa_iload_n (pc' := 19) dX12_heardIn_18 rfl rfl ?_
      refine pa_iconst (v := nI 0) (pc' := 20) dX12_heardIn_19 (by decide) rfl ?_
      refine pa_bipush (v := nI 99) (pc' := 22) dX12_heardIn_20 (by decide) rfl ?_
      refine pa_calls (pc' := 25) (kd := 1) (vs := [.inl x2, .inl (nI 0), .inl (nI 99)]) (rest := []) dX12_heardIn_22 ml_12_149 (.inl rfl) rfl rfl rfl (fun d' _ => (in_v)) (fun v g9 hq => ?_)
      obtain ⟨ev, eh⟩ := hq
      subst ev
      rw [eh]
      show zPn N none d mX12_heardIn (25, _, [.inl (if ((nI 0)).toInt ≤ (x2).toInt ∧ (x2).toInt ≤ ((nI 99)).toInt then 1 else 0)], h3) _
      split
      · next y2 =>
          refine pa_if_f (pc' := 28) dX12_heardIn_25 (by decide) (by decide) rfl ?_
          exact G_heardIn12 (by decide +kernel) (fun v g q => (q.2.2 39 z196).trans (t0.trans (show cd_heardIn A x1 x2 = 0 from (by unfold cd_heardIn; rw [if_pos (by first | assumption | omega | exact fun q => absurd (twB_iff.mp q).1.1 (by assumption) | exact fun q => absurd (twB_iff.mp q).1.2 (by assumption) | exact fun q => absurd (by assumption) (twB_iff.mp q).2 | exact twB_iff.mpr ⟨⟨by assumption, by assumption⟩, by assumption⟩ | exact fun q => q.2.2.2.2.1 (by assumption) | exact fun q => q.2.2.2.2.2 (by assumption) | exact fun q => absurd q.1 (by assumption) | exact fun q => absurd q.2.1 (by assumption) | exact fun q => absurd q.2.2.1 (by assumption) | exact fun q => absurd q.2.2.2.1 (by assumption) | exact ⟨by assumption, by assumption, by assumption, by assumption, by assumption, by assumption⟩), if_pos (by first | assumption | omega | exact fun q => absurd (twB_iff.mp q).1.1 (by assumption) | exact fun q => absurd (twB_iff.mp q).1.2 (by assumption) | exact fun q => absurd (by assumption) (twB_iff.mp q).2 | exact twB_iff.mpr ⟨⟨by assumption, by assumption⟩, by assumption⟩ | exact fun q => q.2.2.2.2.1 (by assumption) | exact fun q => q.2.2.2.2.2 (by assumption) | exact fun q => absurd q.1 (by assumption) | exact fun q => absurd q.2.1 (by assumption) | exact fun q => absurd q.2.2.1 (by assumption) | exact fun q => absurd q.2.2.2.1 (by assumption) | exact ⟨by assumption, by assumption, by assumption, by assumption, by assumption, by assumption⟩)])).symm))
      · next y2 =>
          refine pa_if_t (pc' := 46) dX12_heardIn_25 (by decide) (by decide) ?_
          refine pa_aload_n (pc' := 47) dX12_heardIn_46 rfl rfl ?_
          refine pa_iconst (v := nI 2) (pc' := 48) dX12_heardIn_47 (by decide) rfl ?_
          refine pa_callv (pc' := 51) (vs := [.inl (nI 2)]) (rest := []) dX12_heardIn_48 ml_12_170 (by decide) rfl rfl rfl (fun d' _ => (m_no z196)) (fun v g8 hq => ?_)
          obtain ⟨ev, eh⟩ := hq
          subst ev
          show zPn N none d mX12_heardIn (51, _, [.inl ((-1))], g8) _
          refine pa_iret dX12_heardIn_51 rfl rfl ?_
          exact (by rw [eh, zsI_eq, show cd_heardIn A x1 x2 = 2 from (by unfold cd_heardIn; rw [if_pos (by first | assumption | omega | exact fun q => absurd (twB_iff.mp q).1.1 (by assumption) | exact fun q => absurd (twB_iff.mp q).1.2 (by assumption) | exact fun q => absurd (by assumption) (twB_iff.mp q).2 | exact twB_iff.mpr ⟨⟨by assumption, by assumption⟩, by assumption⟩ | exact fun q => q.2.2.2.2.1 (by assumption) | exact fun q => q.2.2.2.2.2 (by assumption) | exact fun q => absurd q.1 (by assumption) | exact fun q => absurd q.2.1 (by assumption) | exact fun q => absurd q.2.2.1 (by assumption) | exact fun q => absurd q.2.2.2.1 (by assumption) | exact ⟨by assumption, by assumption, by assumption, by assumption, by assumption, by assumption⟩), if_neg (by first | assumption | omega | exact fun q => absurd (twB_iff.mp q).1.1 (by assumption) | exact fun q => absurd (twB_iff.mp q).1.2 (by assumption) | exact fun q => absurd (by assumption) (twB_iff.mp q).2 | exact twB_iff.mpr ⟨⟨by assumption, by assumption⟩, by assumption⟩ | exact fun q => q.2.2.2.2.1 (by assumption) | exact fun q => q.2.2.2.2.2 (by assumption) | exact fun q => absurd q.1 (by assumption) | exact fun q => absurd q.2.1 (by assumption) | exact fun q => absurd q.2.2.1 (by assumption) | exact fun q => absurd q.2.2.2.1 (by assumption) | exact ⟨by assumption, by assumption, by assumption, by assumption, by assumption, by assumption⟩)])]; rfl : g8.2.1 196 11 = cd_heardIn A x1 x2)
  · next y1 =>
      refine pa_if_f (pc' := 12) dX12_heardIn_9 (by decide) (by decide) rfl ?_
      refine pa_aload_n (pc' := 13) dX12_heardIn_12 rfl rfl ?_
      refine pa_iconst (v := nI 1) (pc' := 14) dX12_heardIn_13 (by decide) rfl ?_
      refine pa_callv (pc' := 17) (vs := [.inl (nI 1)]) (rest := []) dX12_heardIn_14 ml_12_170 (by decide) rfl rfl rfl (fun d' _ => (m_no z196)) (fun v g8 hq => ?_)
      obtain ⟨ev, eh⟩ := hq
      subst ev
      show zPn N none d mX12_heardIn (17, _, [.inl ((-1))], g8) _
      refine pa_iret dX12_heardIn_17 rfl rfl ?_
      exact (by rw [eh, zsI_eq, show cd_heardIn A x1 x2 = 1 from (by unfold cd_heardIn; rw [if_neg (by first | assumption | omega | exact fun q => absurd (twB_iff.mp q).1.1 (by assumption) | exact fun q => absurd (twB_iff.mp q).1.2 (by assumption) | exact fun q => absurd (by assumption) (twB_iff.mp q).2 | exact twB_iff.mpr ⟨⟨by assumption, by assumption⟩, by assumption⟩ | exact fun q => q.2.2.2.2.1 (by assumption) | exact fun q => q.2.2.2.2.2 (by assumption) | exact fun q => absurd q.1 (by assumption) | exact fun q => absurd q.2.1 (by assumption) | exact fun q => absurd q.2.2.1 (by assumption) | exact fun q => absurd q.2.2.2.1 (by assumption) | exact ⟨by assumption, by assumption, by assumption, by assumption, by assumption, by assumption⟩)])]; rfl : g8.2.1 196 11 = cd_heardIn A x1 x2)
theorem R_strange11 (z : lZ A c s H J h) (hi : lInv t h) : zPa d mX11_strange [.inr (.inr (some 0)), .inl x1] h (fun _ g => g.2.1 0 2 = cd_strange A x1) := by
  intro N
  have h1 := hi.2.2.2.2.1
  have hA := z.1.1
  have hT := z.1.2.1
  have hB := z.1.2.2
  have hI := hA.1
  have hN := z.2.1.1
  have K := hA.2.2.2.1
  have hc2 : c = 2 ∨ c = 42 := hA.2.1
  obtain ⟨b1, b2, b3, b4, b5⟩ := hI.2.2.1
  have s0 : zsh h 0 = some (11, 16) := zsh_by h1 (by decide +kernel)
  obtain ⟨sc, sc1, sc2, sc4, sc5, scw, scb⟩ := cSh hA.2.1 h1
  obtain ⟨c9, c12, c13, cw, cb⟩ := cRf_of hi.1 hA.2.1
  have S := hi.nw
  obtain ⟨⟨s86, s87, s88, s89, s90, s91⟩, r87, r88, r89, r90, r91⟩ := S.o86
  have r3 := hA.2.2.1
  have r6 := S.2.1
  obtain ⟨n1, n2, n3, n4⟩ := z.2.2.1.1
  have lt0 : (nI 0 : Int32).toInt = 0 := by decide
  have lt1 : (nI 1 : Int32).toInt = 1 := by decide
  have lt2 : (nI 99 : Int32).toInt = 99 := by decide
  show zPn N none d mX11_strange (0, [(0, .inr (.inr (some 0))), (1, .inl x1)], [], h) _
  refine pa_aload_n (pc' := 1) dX11_strange_0 rfl rfl ?_
  refine pa_iload_n (pc' := 2) dX11_strange_1 rfl rfl ?_
  refine pa_callv (pc' := 5) (vs := [.inl x1]) (rest := []) dX11_strange_2 ml_11_174 (by decide) rfl rfl rfl (fun d' _ => (N_isI11 hA h1)) (fun v g9 hq => ?_)
  obtain ⟨ev, eh⟩ := hq
  subst ev
  rw [eh]
  show zPn N none d mX11_strange (5, _, [.inl (if 0 ≤ (x1).toInt ∧ (x1).toInt < (cI A:Int) then 1 else 0)], h) _
  split
  · next y1 =>
      refine pa_if_t (pc' := 14) dX11_strange_5 (by decide) (by decide) ?_
      exact G_strange11 s0 (sh11 h1) (by decide +kernel) (fun v g q => q.trans (show cd_strange A x1 = 0 from (by unfold cd_strange; rw [if_pos (by first | assumption | omega | exact fun q => absurd (twB_iff.mp q).1.1 (by assumption) | exact fun q => absurd (twB_iff.mp q).1.2 (by assumption) | exact fun q => absurd (by assumption) (twB_iff.mp q).2 | exact twB_iff.mpr ⟨⟨by assumption, by assumption⟩, by assumption⟩ | exact fun q => q.2.2.2.2.1 (by assumption) | exact fun q => q.2.2.2.2.2 (by assumption) | exact fun q => absurd q.1 (by assumption) | exact fun q => absurd q.2.1 (by assumption) | exact fun q => absurd q.2.2.1 (by assumption) | exact fun q => absurd q.2.2.2.1 (by assumption) | exact ⟨by assumption, by assumption, by assumption, by assumption, by assumption, by assumption⟩)])).symm)
  · next y1 =>
      refine pa_if_f (pc' := 8) dX11_strange_5 (by decide) (by decide) rfl ?_
      refine pa_aload_n (pc' := 9) dX11_strange_8 rfl rfl ?_
      refine pa_iconst (v := nI 1) (pc' := 10) dX11_strange_9 (by decide) rfl ?_
      refine pa_callv (pc' := 13) (vs := [.inl (nI 1)]) (rest := []) dX11_strange_10 ml_11_98 (by decide) rfl rfl rfl (fun d' _ => (c_ref s0)) (fun v g8 hq => ?_)
      obtain ⟨ev, eh⟩ := hq
      subst ev
      show zPn N none d mX11_strange (13, _, [.inl ((-1))], g8) _
      refine pa_iret dX11_strange_13 rfl rfl ?_
      exact (by rw [eh, zsI_eq, show cd_strange A x1 = 1 from (by unfold cd_strange; rw [if_neg (by first | assumption | omega | exact fun q => absurd (twB_iff.mp q).1.1 (by assumption) | exact fun q => absurd (twB_iff.mp q).1.2 (by assumption) | exact fun q => absurd (by assumption) (twB_iff.mp q).2 | exact twB_iff.mpr ⟨⟨by assumption, by assumption⟩, by assumption⟩ | exact fun q => q.2.2.2.2.1 (by assumption) | exact fun q => q.2.2.2.2.2 (by assumption) | exact fun q => absurd q.1 (by assumption) | exact fun q => absurd q.2.1 (by assumption) | exact fun q => absurd q.2.2.1 (by assumption) | exact fun q => absurd q.2.2.2.1 (by assumption) | exact ⟨by assumption, by assumption, by assumption, by assumption, by assumption, by assumption⟩)])]; rfl : g8.2.1 0 2 = cd_strange A x1)
theorem R_strange12 (z : lZ A c s H J g) (m : lMid kk im t g h) : zPa d mX12_strange [.inr (.inr (some 196)), .inl x1] h (fun _ g => g.2.1 196 11 = cd_strange A x1) := by
  intro N
  have hp := M_hasBt z m
  have s196 : zsh h 196 = some (12, 39) := zsh_by m.2.1.2.2.2 (by decide +kernel)
  generalize eg : zsI (zsI h 196 0 0) 196 11 0 = h2
  have e2 : ∀ a k, a ≠ 196 → h2.2.1 a k = h.2.1 a k := fun a k ha => by rw [← eg, zsI_no (by omega), zsI_no (by omega)]
  have e3 : ∀ k, k ≠ 0 → k ≠ 11 → h2.2.1 196 k = h.2.1 196 k := fun k w1 w2 => by rw [← eg, zsI_no (by omega), zsI_no (by omega)]
  have h1 : h2.1 = hh_487.1 := by rw [← eg]; exact m.2.1.2.2.2
  have hA : lPA A c h2 := by rw [← eg]; exact (m.pa z.1.1).gd
  have B : cI A ≠ 0 → bgM A s h2 := fun ne => by rw [← eg]; exact (z.bm m ne).gd
  have er : h2.2.2.2.1 = h.2.2.2.1 := by rw [← eg]; rfl
  have q15 : h2.2.2.2.1 196 15 = some 199 := by rw [er]; exact m.r15
  have q17 : h2.2.2.2.1 196 17 = some 201 := by rw [er]; exact m.mw.2.1
  have z196 : zsh h2 196 = some (12, 39) := zsh_by h1 (by decide +kernel)
  have z199 : zsh h2 199 = some (14, 363) := zsh_by h1 (by decide +kernel)
  have z201 : zsh h2 201 = some (14, 76) := zsh_by h1 (by decide +kernel)
  have M : nMo A s 201 0 h2 := (z.lm m).1.1.fr (fun k => e2 _ _ (by decide))
  have hT := z.1.2.1
  have hB := z.1.2.2
  have hI := z.1.1.1
  have hN := z.2.1.1
  have k0 : (0 : Int32).toInt = 0 := by decide
  obtain ⟨b1, b2, b3, b4, b5⟩ := hI.2.2.1
  rw [← e3 14 (by decide) (by decide)] at hp
  have lt0 : (nI 0 : Int32).toInt = 0 := by decide
  have lt1 : (nI 1 : Int32).toInt = 1 := by decide
  have lt2 : (nI 100 : Int32).toInt = 100 := by decide
  show zPn N none d mX12_strange (0, [(0, .inr (.inr (some 196))), (1, .inl x1)], [], h) _
  refine pa_aload_n (pc' := 1) dX12_strange_0 rfl rfl ?_
  refine pa_callv (pc' := 4) (vs := []) (rest := []) dX12_strange_1 ml_12_167 (by decide) rfl rfl rfl (fun d' _ => (m_good s196)) (fun v h3 hq => ?_)
  obtain ⟨ev, eh⟩ := hq
  subst ev
  show zPn N none d mX12_strange (4, _, [], h3) _
  rw [eg] at eh
  subst eh
  have t0 : h3.2.1 196 11 = 0 := by rw [← eg]; exact zsI_eq
  refine pa_aload_n (pc' := 5) dX12_strange_4 rfl rfl ?_
  refine pa_iload_n (pc' := 6) dX12_strange_5 rfl rfl ?_
  refine pa_callv (pc' := 9) (vs := [.inl x1]) (rest := []) dX12_strange_6 ml_12_277 (by decide) rfl rfl rfl (fun d' _ => (N_isI12 hA q15 h1)) (fun v g9 hq => ?_)
  obtain ⟨ev, eh⟩ := hq
  subst ev
  rw [eh]
  show zPn N none d mX12_strange (9, _, [.inl (if 0 ≤ (x1).toInt ∧ (x1).toInt < (cI A:Int) then 1 else 0)], h3) _
  split
  · next y1 =>
      refine pa_if_t (pc' := 18) dX12_strange_9 (by decide) (by decide) ?_
      exact G_strange12 (by decide +kernel) (fun v g q => (q.2.2 39 z196).trans (t0.trans (show cd_strange A x1 = 0 from (by unfold cd_strange; rw [if_pos (by first | assumption | omega | exact fun q => absurd (twB_iff.mp q).1.1 (by assumption) | exact fun q => absurd (twB_iff.mp q).1.2 (by assumption) | exact fun q => absurd (by assumption) (twB_iff.mp q).2 | exact twB_iff.mpr ⟨⟨by assumption, by assumption⟩, by assumption⟩ | exact fun q => q.2.2.2.2.1 (by assumption) | exact fun q => q.2.2.2.2.2 (by assumption) | exact fun q => absurd q.1 (by assumption) | exact fun q => absurd q.2.1 (by assumption) | exact fun q => absurd q.2.2.1 (by assumption) | exact fun q => absurd q.2.2.2.1 (by assumption) | exact ⟨by assumption, by assumption, by assumption, by assumption, by assumption, by assumption⟩)])).symm))
  · next y1 =>
      refine pa_if_f (pc' := 12) dX12_strange_9 (by decide) (by decide) rfl ?_
      refine pa_aload_n (pc' := 13) dX12_strange_12 rfl rfl ?_
      refine pa_iconst (v := nI 1) (pc' := 14) dX12_strange_13 (by decide) rfl ?_
      refine pa_callv (pc' := 17) (vs := [.inl (nI 1)]) (rest := []) dX12_strange_14 ml_12_170 (by decide) rfl rfl rfl (fun d' _ => (m_no z196)) (fun v g8 hq => ?_)
      obtain ⟨ev, eh⟩ := hq
      subst ev
      show zPn N none d mX12_strange (17, _, [.inl ((-1))], g8) _
      refine pa_iret dX12_strange_17 rfl rfl ?_
      exact (by rw [eh, zsI_eq, show cd_strange A x1 = 1 from (by unfold cd_strange; rw [if_neg (by first | assumption | omega | exact fun q => absurd (twB_iff.mp q).1.1 (by assumption) | exact fun q => absurd (twB_iff.mp q).1.2 (by assumption) | exact fun q => absurd (by assumption) (twB_iff.mp q).2 | exact twB_iff.mpr ⟨⟨by assumption, by assumption⟩, by assumption⟩ | exact fun q => q.2.2.2.2.1 (by assumption) | exact fun q => q.2.2.2.2.2 (by assumption) | exact fun q => absurd q.1 (by assumption) | exact fun q => absurd q.2.1 (by assumption) | exact fun q => absurd q.2.2.1 (by assumption) | exact fun q => absurd q.2.2.2.1 (by assumption) | exact ⟨by assumption, by assumption, by assumption, by assumption, by assumption, by assumption⟩)])]; rfl : g8.2.1 196 11 = cd_strange A x1)
theorem R_arrival11 (z : lZ A c s H J h) (hi : lInv t h) : zPa d mX11_arrival [.inr (.inr (some 0)), .inl x1, .inl x2, .inl x3, .inl x4] h (fun _ g => g.2.1 0 2 = cd_arrival A x1 x2 x3 x4) := by
  intro N
  have h1 := hi.2.2.2.2.1
  have hA := z.1.1
  have hT := z.1.2.1
  have hB := z.1.2.2
  have hI := hA.1
  have hN := z.2.1.1
  have K := hA.2.2.2.1
  have hc2 : c = 2 ∨ c = 42 := hA.2.1
  obtain ⟨b1, b2, b3, b4, b5⟩ := hI.2.2.1
  have s0 : zsh h 0 = some (11, 16) := zsh_by h1 (by decide +kernel)
  obtain ⟨sc, sc1, sc2, sc4, sc5, scw, scb⟩ := cSh hA.2.1 h1
  obtain ⟨c9, c12, c13, cw, cb⟩ := cRf_of hi.1 hA.2.1
  have S := hi.nw
  obtain ⟨⟨s86, s87, s88, s89, s90, s91⟩, r87, r88, r89, r90, r91⟩ := S.o86
  have r3 := hA.2.2.1
  have r6 := S.2.1
  obtain ⟨n1, n2, n3, n4⟩ := z.2.2.1.1
  have lt0 : (nI 1 : Int32).toInt = 1 := by decide
  have lt1 : (nI 2 : Int32).toInt = 2 := by decide
  have lt2 : (nI 9999 : Int32).toInt = 9999 := by decide
  show zPn N none d mX11_arrival (0, [(0, .inr (.inr (some 0))), (1, .inl x1), (2, .inl x2), (3, .inl x3), (4, .inl x4)], [], h) _
  refine pa_aload_n (pc' := 1) dX11_arrival_0 rfl rfl ?_
  refine pa_iload_n (pc' := 2) dX11_arrival_1 rfl rfl ?_
  refine pa_callv (pc' := 5) (vs := [.inl x1]) (rest := []) dX11_arrival_2 ml_11_121 (by decide) rfl rfl rfl (fun d' _ => (N_isWhale hA h1)) (fun v g9 hq => ?_)
  obtain ⟨ev, eh⟩ := hq
  subst ev
  rw [eh]
  show zPn N none d mX11_arrival (5, _, [.inl (if 0 ≤ (x1).toInt ∧ (x1).toInt < (cH A:Int) then 1 else 0)], h) _
  split
  · next y1 =>
      refine pa_if_f (pc' := 8) dX11_arrival_5 (by decide) (by decide) rfl ?_
      refine pa_aload_n (pc' := 9) dX11_arrival_8 rfl rfl ?_
      refine pa_iload_n (pc' := 10) dX11_arrival_9 rfl rfl ?_
      refine pa_callv (pc' := 13) (vs := [.inl x2]) (rest := []) dX11_arrival_10 ml_11_174 (by decide) rfl rfl rfl (fun d' _ => (N_isI11 hA h1)) (fun v g9 hq => ?_)
      obtain ⟨ev, eh⟩ := hq
      subst ev
      rw [eh]
      show zPn N none d mX11_arrival (13, _, [.inl (if 0 ≤ (x2).toInt ∧ (x2).toInt < (cI A:Int) then 1 else 0)], h) _
      split
      · next y2 =>
          refine pa_if_f (pc' := 16) dX11_arrival_13 (by decide) (by decide) rfl ?_
          refine pa_aload_n (pc' := 17) dX11_arrival_16 rfl rfl ?_
          refine pa_iload_n (pc' := 18) dX11_arrival_17 rfl rfl ?_
          refine pa_callv (pc' := 21) (vs := [.inl x3]) (rest := []) dX11_arrival_18 ml_11_174 (by decide) rfl rfl rfl (fun d' _ => (N_isI11 hA h1)) (fun v g9 hq => ?_)
          obtain ⟨ev, eh⟩ := hq
          subst ev
          rw [eh]
          show zPn N none d mX11_arrival (21, _, [.inl (if 0 ≤ (x3).toInt ∧ (x3).toInt < (cI A:Int) then 1 else 0)], h) _
          split
          · next y3 =>
              refine pa_if_t (pc' := 30) dX11_arrival_21 (by decide) (by decide) ?_
              refine pa_iload (pc' := 32) dX11_arrival_30 rfl rfl ?_
              refine pa_sipush (v := nI 9999) (pc' := 35) dX11_arrival_32 (by decide) rfl ?_
              refine pa_calls (pc' := 38) (kd := 1) (vs := [.inl x4, .inl (nI 9999)]) (rest := []) dX11_arrival_35 ml_11_227 (.inl rfl) rfl rfl rfl (fun d' _ => (N_within)) (fun v g9 hq => ?_)
              obtain ⟨ev, eh⟩ := hq
              subst ev
              rw [eh]
              show zPn N none d mX11_arrival (38, _, [.inl (if 0 ≤ (x4).toInt ∧ (x4).toInt ≤ ((nI 9999)).toInt then 1 else 0)], h) _
              split
              · next y4 =>
                  refine pa_if_t (pc' := 47) dX11_arrival_38 (by decide) (by decide) ?_
                  exact G_arrival11 s0 (sh11 h1) (by decide +kernel) (fun v g q => q.trans (show cd_arrival A x1 x2 x3 x4 = 0 from (by unfold cd_arrival; rw [if_pos (by first | assumption | omega | exact fun q => absurd (twB_iff.mp q).1.1 (by assumption) | exact fun q => absurd (twB_iff.mp q).1.2 (by assumption) | exact fun q => absurd (by assumption) (twB_iff.mp q).2 | exact twB_iff.mpr ⟨⟨by assumption, by assumption⟩, by assumption⟩ | exact fun q => q.2.2.2.2.1 (by assumption) | exact fun q => q.2.2.2.2.2 (by assumption) | exact fun q => absurd q.1 (by assumption) | exact fun q => absurd q.2.1 (by assumption) | exact fun q => absurd q.2.2.1 (by assumption) | exact fun q => absurd q.2.2.2.1 (by assumption) | exact ⟨by assumption, by assumption, by assumption, by assumption, by assumption, by assumption⟩), if_pos (by first | assumption | omega | exact fun q => absurd (twB_iff.mp q).1.1 (by assumption) | exact fun q => absurd (twB_iff.mp q).1.2 (by assumption) | exact fun q => absurd (by assumption) (twB_iff.mp q).2 | exact twB_iff.mpr ⟨⟨by assumption, by assumption⟩, by assumption⟩ | exact fun q => q.2.2.2.2.1 (by assumption) | exact fun q => q.2.2.2.2.2 (by assumption) | exact fun q => absurd q.1 (by assumption) | exact fun q => absurd q.2.1 (by assumption) | exact fun q => absurd q.2.2.1 (by assumption) | exact fun q => absurd q.2.2.2.1 (by assumption) | exact ⟨by assumption, by assumption, by assumption, by assumption, by assumption, by assumption⟩)])).symm)
              · next y4 =>
                  refine pa_if_f (pc' := 41) dX11_arrival_38 (by decide) (by decide) rfl ?_
                  refine pa_aload_n (pc' := 42) dX11_arrival_41 rfl rfl ?_
                  refine pa_iconst (v := nI 2) (pc' := 43) dX11_arrival_42 (by decide) rfl ?_
                  refine pa_callv (pc' := 46) (vs := [.inl (nI 2)]) (rest := []) dX11_arrival_43 ml_11_98 (by decide) rfl rfl rfl (fun d' _ => (c_ref s0)) (fun v g8 hq => ?_)
                  obtain ⟨ev, eh⟩ := hq
                  subst ev
                  show zPn N none d mX11_arrival (46, _, [.inl ((-1))], g8) _
                  refine pa_iret dX11_arrival_46 rfl rfl ?_
                  exact (by rw [eh, zsI_eq, show cd_arrival A x1 x2 x3 x4 = 2 from (by unfold cd_arrival; rw [if_pos (by first | assumption | omega | exact fun q => absurd (twB_iff.mp q).1.1 (by assumption) | exact fun q => absurd (twB_iff.mp q).1.2 (by assumption) | exact fun q => absurd (by assumption) (twB_iff.mp q).2 | exact twB_iff.mpr ⟨⟨by assumption, by assumption⟩, by assumption⟩ | exact fun q => q.2.2.2.2.1 (by assumption) | exact fun q => q.2.2.2.2.2 (by assumption) | exact fun q => absurd q.1 (by assumption) | exact fun q => absurd q.2.1 (by assumption) | exact fun q => absurd q.2.2.1 (by assumption) | exact fun q => absurd q.2.2.2.1 (by assumption) | exact ⟨by assumption, by assumption, by assumption, by assumption, by assumption, by assumption⟩), if_neg (by first | assumption | omega | exact fun q => absurd (twB_iff.mp q).1.1 (by assumption) | exact fun q => absurd (twB_iff.mp q).1.2 (by assumption) | exact fun q => absurd (by assumption) (twB_iff.mp q).2 | exact twB_iff.mpr ⟨⟨by assumption, by assumption⟩, by assumption⟩ | exact fun q => q.2.2.2.2.1 (by assumption) | exact fun q => q.2.2.2.2.2 (by assumption) | exact fun q => absurd q.1 (by assumption) | exact fun q => absurd q.2.1 (by assumption) | exact fun q => absurd q.2.2.1 (by assumption) | exact fun q => absurd q.2.2.2.1 (by assumption) | exact ⟨by assumption, by assumption, by assumption, by assumption, by assumption, by assumption⟩)])]; rfl : g8.2.1 0 2 = cd_arrival A x1 x2 x3 x4)
          · next y3 =>
              refine pa_if_f (pc' := 24) dX11_arrival_21 (by decide) (by decide) rfl ?_
              refine pa_aload_n (pc' := 25) dX11_arrival_24 rfl rfl ?_
              refine pa_iconst (v := nI 1) (pc' := 26) dX11_arrival_25 (by decide) rfl ?_
              refine pa_callv (pc' := 29) (vs := [.inl (nI 1)]) (rest := []) dX11_arrival_26 ml_11_98 (by decide) rfl rfl rfl (fun d' _ => (c_ref s0)) (fun v g8 hq => ?_)
              obtain ⟨ev, eh⟩ := hq
              subst ev
              show zPn N none d mX11_arrival (29, _, [.inl ((-1))], g8) _
              refine pa_iret dX11_arrival_29 rfl rfl ?_
              exact (by rw [eh, zsI_eq, show cd_arrival A x1 x2 x3 x4 = 1 from (by unfold cd_arrival; rw [if_neg (by first | assumption | omega | exact fun q => absurd (twB_iff.mp q).1.1 (by assumption) | exact fun q => absurd (twB_iff.mp q).1.2 (by assumption) | exact fun q => absurd (by assumption) (twB_iff.mp q).2 | exact twB_iff.mpr ⟨⟨by assumption, by assumption⟩, by assumption⟩ | exact fun q => q.2.2.2.2.1 (by assumption) | exact fun q => q.2.2.2.2.2 (by assumption) | exact fun q => absurd q.1 (by assumption) | exact fun q => absurd q.2.1 (by assumption) | exact fun q => absurd q.2.2.1 (by assumption) | exact fun q => absurd q.2.2.2.1 (by assumption) | exact ⟨by assumption, by assumption, by assumption, by assumption, by assumption, by assumption⟩)])]; rfl : g8.2.1 0 2 = cd_arrival A x1 x2 x3 x4)
      · next y2 =>
          refine pa_if_t (pc' := 24) dX11_arrival_13 (by decide) (by decide) ?_
          refine pa_aload_n (pc' := 25) dX11_arrival_24 rfl rfl ?_
          refine pa_iconst (v := nI 1) (pc' := 26) dX11_arrival_25 (by decide) rfl ?_
          refine pa_callv (pc' := 29) (vs := [.inl (nI 1)]) (rest := []) dX11_arrival_26 ml_11_98 (by decide) rfl rfl rfl (fun d' _ => (c_ref s0)) (fun v g8 hq => ?_)
          obtain ⟨ev, eh⟩ := hq
          subst ev
          show zPn N none d mX11_arrival (29, _, [.inl ((-1))], g8) _
          refine pa_iret dX11_arrival_29 rfl rfl ?_
          exact (by rw [eh, zsI_eq, show cd_arrival A x1 x2 x3 x4 = 1 from (by unfold cd_arrival; rw [if_neg (by first | assumption | omega | exact fun q => absurd (twB_iff.mp q).1.1 (by assumption) | exact fun q => absurd (twB_iff.mp q).1.2 (by assumption) | exact fun q => absurd (by assumption) (twB_iff.mp q).2 | exact twB_iff.mpr ⟨⟨by assumption, by assumption⟩, by assumption⟩ | exact fun q => q.2.2.2.2.1 (by assumption) | exact fun q => q.2.2.2.2.2 (by assumption) | exact fun q => absurd q.1 (by assumption) | exact fun q => absurd q.2.1 (by assumption) | exact fun q => absurd q.2.2.1 (by assumption) | exact fun q => absurd q.2.2.2.1 (by assumption) | exact ⟨by assumption, by assumption, by assumption, by assumption, by assumption, by assumption⟩)])]; rfl : g8.2.1 0 2 = cd_arrival A x1 x2 x3 x4)
  · next y1 =>
      refine pa_if_t (pc' := 24) dX11_arrival_5 (by decide) (by decide) ?_
      refine pa_aload_n (pc' := 25) dX11_arrival_24 rfl rfl ?_
      refine pa_iconst (v := nI 1) (pc' := 26) dX11_arrival_25 (by decide) rfl ?_
      refine pa_callv (pc' := 29) (vs := [.inl (nI 1)]) (rest := []) dX11_arrival_26 ml_11_98 (by decide) rfl rfl rfl (fun d' _ => (c_ref s0)) (fun v g8 hq => ?_)
      obtain ⟨ev, eh⟩ := hq
      subst ev
      show zPn N none d mX11_arrival (29, _, [.inl ((-1))], g8) _
      refine pa_iret dX11_arrival_29 rfl rfl ?_
      exact (by rw [eh, zsI_eq, show cd_arrival A x1 x2 x3 x4 = 1 from (by unfold cd_arrival; rw [if_neg (by first | assumption | omega | exact fun q => absurd (twB_iff.mp q).1.1 (by assumption) | exact fun q => absurd (twB_iff.mp q).1.2 (by assumption) | exact fun q => absurd (by assumption) (twB_iff.mp q).2 | exact twB_iff.mpr ⟨⟨by assumption, by assumption⟩, by assumption⟩ | exact fun q => q.2.2.2.2.1 (by assumption) | exact fun q => q.2.2.2.2.2 (by assumption) | exact fun q => absurd q.1 (by assumption) | exact fun q => absurd q.2.1 (by assumption) | exact fun q => absurd q.2.2.1 (by assumption) | exact fun q => absurd q.2.2.2.1 (by assumption) | exact ⟨by assumption, by assumption, by assumption, by assumption, by assumption, by assumption⟩)])]; rfl : g8.2.1 0 2 = cd_arrival A x1 x2 x3 x4)
theorem R_arrival12 (z : lZ A c s H J g) (m : lMid kk im t g h) : zPa d mX12_arrival [.inr (.inr (some 196)), .inl x1, .inl x2, .inl x3, .inl x4] h (fun _ g => g.2.1 196 11 = cd_arrival A x1 x2 x3 x4) := by
  intro N
  have hp := M_hasBt z m
  have s196 : zsh h 196 = some (12, 39) := zsh_by m.2.1.2.2.2 (by decide +kernel)
  generalize eg : zsI (zsI h 196 0 0) 196 11 0 = h2
  have e2 : ∀ a k, a ≠ 196 → h2.2.1 a k = h.2.1 a k := fun a k ha => by rw [← eg, zsI_no (by omega), zsI_no (by omega)]
  have e3 : ∀ k, k ≠ 0 → k ≠ 11 → h2.2.1 196 k = h.2.1 196 k := fun k w1 w2 => by rw [← eg, zsI_no (by omega), zsI_no (by omega)]
  have h1 : h2.1 = hh_487.1 := by rw [← eg]; exact m.2.1.2.2.2
  have hA : lPA A c h2 := by rw [← eg]; exact (m.pa z.1.1).gd
  have B : cI A ≠ 0 → bgM A s h2 := fun ne => by rw [← eg]; exact (z.bm m ne).gd
  have er : h2.2.2.2.1 = h.2.2.2.1 := by rw [← eg]; rfl
  have q15 : h2.2.2.2.1 196 15 = some 199 := by rw [er]; exact m.r15
  have q17 : h2.2.2.2.1 196 17 = some 201 := by rw [er]; exact m.mw.2.1
  have z196 : zsh h2 196 = some (12, 39) := zsh_by h1 (by decide +kernel)
  have z199 : zsh h2 199 = some (14, 363) := zsh_by h1 (by decide +kernel)
  have z201 : zsh h2 201 = some (14, 76) := zsh_by h1 (by decide +kernel)
  have M : nMo A s 201 0 h2 := (z.lm m).1.1.fr (fun k => e2 _ _ (by decide))
  have hT := z.1.2.1
  have hB := z.1.2.2
  have hI := z.1.1.1
  have hN := z.2.1.1
  have k0 : (0 : Int32).toInt = 0 := by decide
  obtain ⟨b1, b2, b3, b4, b5⟩ := hI.2.2.1
  rw [← e3 14 (by decide) (by decide)] at hp
  have lt0 : (nI 0 : Int32).toInt = 0 := by decide
  have lt1 : (nI 1 : Int32).toInt = 1 := by decide
  have lt2 : (nI 2 : Int32).toInt = 2 := by decide
  have lt3 : (nI 9999 : Int32).toInt = 9999 := by decide
  show zPn N none d mX12_arrival (0, [(0, .inr (.inr (some 196))), (1, .inl x1), (2, .inl x2), (3, .inl x3), (4, .inl x4)], [], h) _
  refine pa_aload_n (pc' := 1) dX12_arrival_0 rfl rfl ?_
  refine pa_callv (pc' := 4) (vs := []) (rest := []) dX12_arrival_1 ml_12_167 (by decide) rfl rfl rfl (fun d' _ => (m_good s196)) (fun v h3 hq => ?_)
  obtain ⟨ev, eh⟩ := hq
  subst ev
  show zPn N none d mX12_arrival (4, _, [], h3) _
  rw [eg] at eh
  subst eh
  have t0 : h3.2.1 196 11 = 0 := by rw [← eg]; exact zsI_eq
  refine pa_aload_n (pc' := 5) dX12_arrival_4 rfl rfl ?_
  refine pa_iload_n (pc' := 6) dX12_arrival_5 rfl rfl ?_
  refine pa_callv (pc' := 9) (vs := [.inl x1]) (rest := []) dX12_arrival_6 ml_12_268 (by decide) rfl rfl rfl (fun d' _ => (M_isWhale hA q15 h1)) (fun v g9 hq => ?_)
  obtain ⟨ev, eh⟩ := hq
  subst ev
  rw [eh]
  show zPn N none d mX12_arrival (9, _, [.inl (if 0 ≤ (x1).toInt ∧ (x1).toInt < (cH A:Int) then 1 else 0)], h3) _
  split
  · next y1 =>
      refine pa_if_f (pc' := 12) dX12_arrival_9 (by decide) (by decide) rfl ?_
      refine pa_aload_n (pc' := 13) dX12_arrival_12 rfl rfl ?_
      refine pa_iload_n (pc' := 14) dX12_arrival_13 rfl rfl ?_
      refine pa_callv (pc' := 17) (vs := [.inl x2]) (rest := []) dX12_arrival_14 ml_12_277 (by decide) rfl rfl rfl (fun d' _ => (N_isI12 hA q15 h1)) (fun v g9 hq => ?_)
      obtain ⟨ev, eh⟩ := hq
      subst ev
      rw [eh]
      show zPn N none d mX12_arrival (17, _, [.inl (if 0 ≤ (x2).toInt ∧ (x2).toInt < (cI A:Int) then 1 else 0)], h3) _
      split
      · next y2 =>
          refine pa_if_f (pc' := 20) dX12_arrival_17 (by decide) (by decide) rfl ?_
          refine pa_aload_n (pc' := 21) dX12_arrival_20 rfl rfl ?_
          refine pa_iload_n (pc' := 22) dX12_arrival_21 rfl rfl ?_
          refine pa_callv (pc' := 25) (vs := [.inl x3]) (rest := []) dX12_arrival_22 ml_12_277 (by decide) rfl rfl rfl (fun d' _ => (N_isI12 hA q15 h1)) (fun v g9 hq => ?_)
          obtain ⟨ev, eh⟩ := hq
          subst ev
          rw [eh]
          show zPn N none d mX12_arrival (25, _, [.inl (if 0 ≤ (x3).toInt ∧ (x3).toInt < (cI A:Int) then 1 else 0)], h3) _
          split
          · next y3 =>
              refine pa_if_t (pc' := 34) dX12_arrival_25 (by decide) (by decide) ?_
              refine pa_iload (pc' := 36) dX12_arrival_34 rfl rfl ?_
              refine pa_iconst (v := nI 0) (pc' := 37) dX12_arrival_36 (by decide) rfl ?_
              refine pa_sipush (v := nI 9999) (pc' := 40) dX12_arrival_37 (by decide) rfl ?_
              refine pa_calls (pc' := 43) (kd := 1) (vs := [.inl x4, .inl (nI 0), .inl (nI 9999)]) (rest := []) dX12_arrival_40 ml_12_149 (.inl rfl) rfl rfl rfl (fun d' _ => (in_v)) (fun v g9 hq => ?_)
              obtain ⟨ev, eh⟩ := hq
              subst ev
              rw [eh]
              show zPn N none d mX12_arrival (43, _, [.inl (if ((nI 0)).toInt ≤ (x4).toInt ∧ (x4).toInt ≤ ((nI 9999)).toInt then 1 else 0)], h3) _
              split
              · next y4 =>
                  refine pa_if_f (pc' := 46) dX12_arrival_43 (by decide) (by decide) rfl ?_
                  exact G_arrival12 (by decide +kernel) (fun v g q => (q.2.2 39 z196).trans (t0.trans (show cd_arrival A x1 x2 x3 x4 = 0 from (by unfold cd_arrival; rw [if_pos (by first | assumption | omega | exact fun q => absurd (twB_iff.mp q).1.1 (by assumption) | exact fun q => absurd (twB_iff.mp q).1.2 (by assumption) | exact fun q => absurd (by assumption) (twB_iff.mp q).2 | exact twB_iff.mpr ⟨⟨by assumption, by assumption⟩, by assumption⟩ | exact fun q => q.2.2.2.2.1 (by assumption) | exact fun q => q.2.2.2.2.2 (by assumption) | exact fun q => absurd q.1 (by assumption) | exact fun q => absurd q.2.1 (by assumption) | exact fun q => absurd q.2.2.1 (by assumption) | exact fun q => absurd q.2.2.2.1 (by assumption) | exact ⟨by assumption, by assumption, by assumption, by assumption, by assumption, by assumption⟩), if_pos (by first | assumption | omega | exact fun q => absurd (twB_iff.mp q).1.1 (by assumption) | exact fun q => absurd (twB_iff.mp q).1.2 (by assumption) | exact fun q => absurd (by assumption) (twB_iff.mp q).2 | exact twB_iff.mpr ⟨⟨by assumption, by assumption⟩, by assumption⟩ | exact fun q => q.2.2.2.2.1 (by assumption) | exact fun q => q.2.2.2.2.2 (by assumption) | exact fun q => absurd q.1 (by assumption) | exact fun q => absurd q.2.1 (by assumption) | exact fun q => absurd q.2.2.1 (by assumption) | exact fun q => absurd q.2.2.2.1 (by assumption) | exact ⟨by assumption, by assumption, by assumption, by assumption, by assumption, by assumption⟩)])).symm))
              · next y4 =>
                  refine pa_if_t (pc' := 63) dX12_arrival_43 (by decide) (by decide) ?_
                  refine pa_aload_n (pc' := 64) dX12_arrival_63 rfl rfl ?_
                  refine pa_iconst (v := nI 2) (pc' := 65) dX12_arrival_64 (by decide) rfl ?_
                  refine pa_callv (pc' := 68) (vs := [.inl (nI 2)]) (rest := []) dX12_arrival_65 ml_12_170 (by decide) rfl rfl rfl (fun d' _ => (m_no z196)) (fun v g8 hq => ?_)
                  obtain ⟨ev, eh⟩ := hq
                  subst ev
                  show zPn N none d mX12_arrival (68, _, [.inl ((-1))], g8) _
                  refine pa_iret dX12_arrival_68 rfl rfl ?_
                  exact (by rw [eh, zsI_eq, show cd_arrival A x1 x2 x3 x4 = 2 from (by unfold cd_arrival; rw [if_pos (by first | assumption | omega | exact fun q => absurd (twB_iff.mp q).1.1 (by assumption) | exact fun q => absurd (twB_iff.mp q).1.2 (by assumption) | exact fun q => absurd (by assumption) (twB_iff.mp q).2 | exact twB_iff.mpr ⟨⟨by assumption, by assumption⟩, by assumption⟩ | exact fun q => q.2.2.2.2.1 (by assumption) | exact fun q => q.2.2.2.2.2 (by assumption) | exact fun q => absurd q.1 (by assumption) | exact fun q => absurd q.2.1 (by assumption) | exact fun q => absurd q.2.2.1 (by assumption) | exact fun q => absurd q.2.2.2.1 (by assumption) | exact ⟨by assumption, by assumption, by assumption, by assumption, by assumption, by assumption⟩), if_neg (by first | assumption | omega | exact fun q => absurd (twB_iff.mp q).1.1 (by assumption) | exact fun q => absurd (twB_iff.mp q).1.2 (by assumption) | exact fun q => absurd (by assumption) (twB_iff.mp q).2 | exact twB_iff.mpr ⟨⟨by assumption, by assumption⟩, by assumption⟩ | exact fun q => q.2.2.2.2.1 (by assumption) | exact fun q => q.2.2.2.2.2 (by assumption) | exact fun q => absurd q.1 (by assumption) | exact fun q => absurd q.2.1 (by assumption) | exact fun q => absurd q.2.2.1 (by assumption) | exact fun q => absurd q.2.2.2.1 (by assumption) | exact ⟨by assumption, by assumption, by assumption, by assumption, by assumption, by assumption⟩)])]; rfl : g8.2.1 196 11 = cd_arrival A x1 x2 x3 x4)
          · next y3 =>
              refine pa_if_f (pc' := 28) dX12_arrival_25 (by decide) (by decide) rfl ?_
              refine pa_aload_n (pc' := 29) dX12_arrival_28 rfl rfl ?_
              refine pa_iconst (v := nI 1) (pc' := 30) dX12_arrival_29 (by decide) rfl ?_
              refine pa_callv (pc' := 33) (vs := [.inl (nI 1)]) (rest := []) dX12_arrival_30 ml_12_170 (by decide) rfl rfl rfl (fun d' _ => (m_no z196)) (fun v g8 hq => ?_)
              obtain ⟨ev, eh⟩ := hq
              subst ev
              show zPn N none d mX12_arrival (33, _, [.inl ((-1))], g8) _
              refine pa_iret dX12_arrival_33 rfl rfl ?_
              exact (by rw [eh, zsI_eq, show cd_arrival A x1 x2 x3 x4 = 1 from (by unfold cd_arrival; rw [if_neg (by first | assumption | omega | exact fun q => absurd (twB_iff.mp q).1.1 (by assumption) | exact fun q => absurd (twB_iff.mp q).1.2 (by assumption) | exact fun q => absurd (by assumption) (twB_iff.mp q).2 | exact twB_iff.mpr ⟨⟨by assumption, by assumption⟩, by assumption⟩ | exact fun q => q.2.2.2.2.1 (by assumption) | exact fun q => q.2.2.2.2.2 (by assumption) | exact fun q => absurd q.1 (by assumption) | exact fun q => absurd q.2.1 (by assumption) | exact fun q => absurd q.2.2.1 (by assumption) | exact fun q => absurd q.2.2.2.1 (by assumption) | exact ⟨by assumption, by assumption, by assumption, by assumption, by assumption, by assumption⟩)])]; rfl : g8.2.1 196 11 = cd_arrival A x1 x2 x3 x4)
      · next y2 =>
          refine pa_if_t (pc' := 28) dX12_arrival_17 (by decide) (by decide) ?_
          refine pa_aload_n (pc' := 29) dX12_arrival_28 rfl rfl ?_
          refine pa_iconst (v := nI 1) (pc' := 30) dX12_arrival_29 (by decide) rfl ?_
          refine pa_callv (pc' := 33) (vs := [.inl (nI 1)]) (rest := []) dX12_arrival_30 ml_12_170 (by decide) rfl rfl rfl (fun d' _ => (m_no z196)) (fun v g8 hq => ?_)
          obtain ⟨ev, eh⟩ := hq
          subst ev
          show zPn N none d mX12_arrival (33, _, [.inl ((-1))], g8) _
          refine pa_iret dX12_arrival_33 rfl rfl ?_
          exact (by rw [eh, zsI_eq, show cd_arrival A x1 x2 x3 x4 = 1 from (by unfold cd_arrival; rw [if_neg (by first | assumption | omega | exact fun q => absurd (twB_iff.mp q).1.1 (by assumption) | exact fun q => absurd (twB_iff.mp q).1.2 (by assumption) | exact fun q => absurd (by assumption) (twB_iff.mp q).2 | exact twB_iff.mpr ⟨⟨by assumption, by assumption⟩, by assumption⟩ | exact fun q => q.2.2.2.2.1 (by assumption) | exact fun q => q.2.2.2.2.2 (by assumption) | exact fun q => absurd q.1 (by assumption) | exact fun q => absurd q.2.1 (by assumption) | exact fun q => absurd q.2.2.1 (by assumption) | exact fun q => absurd q.2.2.2.1 (by assumption) | exact ⟨by assumption, by assumption, by assumption, by assumption, by assumption, by assumption⟩)])]; rfl : g8.2.1 196 11 = cd_arrival A x1 x2 x3 x4)
  · next y1 =>
      refine pa_if_t (pc' := 28) dX12_arrival_9 (by decide) (by decide) ?_
      refine pa_aload_n (pc' := 29) dX12_arrival_28 rfl rfl ?_
      refine pa_iconst (v := nI 1) (pc' := 30) dX12_arrival_29 (by decide) rfl ?_
      refine pa_callv (pc' := 33) (vs := [.inl (nI 1)]) (rest := []) dX12_arrival_30 ml_12_170 (by decide) rfl rfl rfl (fun d' _ => (m_no z196)) (fun v g8 hq => ?_)
      obtain ⟨ev, eh⟩ := hq
      subst ev
      show zPn N none d mX12_arrival (33, _, [.inl ((-1))], g8) _
      refine pa_iret dX12_arrival_33 rfl rfl ?_
      exact (by rw [eh, zsI_eq, show cd_arrival A x1 x2 x3 x4 = 1 from (by unfold cd_arrival; rw [if_neg (by first | assumption | omega | exact fun q => absurd (twB_iff.mp q).1.1 (by assumption) | exact fun q => absurd (twB_iff.mp q).1.2 (by assumption) | exact fun q => absurd (by assumption) (twB_iff.mp q).2 | exact twB_iff.mpr ⟨⟨by assumption, by assumption⟩, by assumption⟩ | exact fun q => q.2.2.2.2.1 (by assumption) | exact fun q => q.2.2.2.2.2 (by assumption) | exact fun q => absurd q.1 (by assumption) | exact fun q => absurd q.2.1 (by assumption) | exact fun q => absurd q.2.2.1 (by assumption) | exact fun q => absurd q.2.2.2.1 (by assumption) | exact ⟨by assumption, by assumption, by assumption, by assumption, by assumption, by assumption⟩)])]; rfl : g8.2.1 196 11 = cd_arrival A x1 x2 x3 x4)
theorem R_brings11 (z : lZ A c s H J h) (hi : lInv t h) : zPa d mX11_brings [.inr (.inr (some 0)), .inl x1, .inl x2] h (fun _ g => g.2.1 0 2 = cd_brings A x1 x2) := by
  intro N
  have h1 := hi.2.2.2.2.1
  have hA := z.1.1
  have hT := z.1.2.1
  have hB := z.1.2.2
  have hI := hA.1
  have hN := z.2.1.1
  have K := hA.2.2.2.1
  have hc2 : c = 2 ∨ c = 42 := hA.2.1
  obtain ⟨b1, b2, b3, b4, b5⟩ := hI.2.2.1
  have s0 : zsh h 0 = some (11, 16) := zsh_by h1 (by decide +kernel)
  obtain ⟨sc, sc1, sc2, sc4, sc5, scw, scb⟩ := cSh hA.2.1 h1
  obtain ⟨c9, c12, c13, cw, cb⟩ := cRf_of hi.1 hA.2.1
  have S := hi.nw
  obtain ⟨⟨s86, s87, s88, s89, s90, s91⟩, r87, r88, r89, r90, r91⟩ := S.o86
  have r3 := hA.2.2.1
  have r6 := S.2.1
  obtain ⟨n1, n2, n3, n4⟩ := z.2.2.1.1
  have lt0 : (nI 1 : Int32).toInt = 1 := by decide
  show zPn N none d mX11_brings (0, [(0, .inr (.inr (some 0))), (1, .inl x1), (2, .inl x2)], [], h) _
  refine pa_aload_n (pc' := 1) dX11_brings_0 rfl rfl ?_
  refine pa_iload_n (pc' := 2) dX11_brings_1 rfl rfl ?_
  refine pa_callv (pc' := 5) (vs := [.inl x1]) (rest := []) dX11_brings_2 ml_11_121 (by decide) rfl rfl rfl (fun d' _ => (N_isWhale hA h1)) (fun v g9 hq => ?_)
  obtain ⟨ev, eh⟩ := hq
  subst ev
  rw [eh]
  show zPn N none d mX11_brings (5, _, [.inl (if 0 ≤ (x1).toInt ∧ (x1).toInt < (cH A:Int) then 1 else 0)], h) _
  split
  · next y1 =>
      refine pa_if_f (pc' := 8) dX11_brings_5 (by decide) (by decide) rfl ?_
      refine pa_aload_n (pc' := 9) dX11_brings_8 rfl rfl ?_
      refine pa_iload_n (pc' := 10) dX11_brings_9 rfl rfl ?_
      refine pa_callv (pc' := 13) (vs := [.inl x2]) (rest := []) dX11_brings_10 ml_11_147 (by decide) rfl rfl rfl (fun d' _ => (N_isBox hA h1)) (fun v g9 hq => ?_)
      obtain ⟨ev, eh⟩ := hq
      subst ev
      rw [eh]
      show zPn N none d mX11_brings (13, _, [.inl (if 0 ≤ (x2).toInt ∧ (x2).toInt < (cB A:Int) then 1 else 0)], h) _
      split
      · next y2 =>
          refine pa_if_f (pc' := 16) dX11_brings_13 (by decide) (by decide) rfl ?_
          exact G_brings11 s0 (sh11 h1) (by decide +kernel) (fun v g q => q.trans (show cd_brings A x1 x2 = 0 from (by unfold cd_brings; rw [if_pos (by first | assumption | omega | exact fun q => absurd (twB_iff.mp q).1.1 (by assumption) | exact fun q => absurd (twB_iff.mp q).1.2 (by assumption) | exact fun q => absurd (by assumption) (twB_iff.mp q).2 | exact twB_iff.mpr ⟨⟨by assumption, by assumption⟩, by assumption⟩ | exact fun q => q.2.2.2.2.1 (by assumption) | exact fun q => q.2.2.2.2.2 (by assumption) | exact fun q => absurd q.1 (by assumption) | exact fun q => absurd q.2.1 (by assumption) | exact fun q => absurd q.2.2.1 (by assumption) | exact fun q => absurd q.2.2.2.1 (by assumption) | exact ⟨by assumption, by assumption, by assumption, by assumption, by assumption, by assumption⟩)])).symm)
      · next y2 =>
          refine pa_if_t (pc' := 32) dX11_brings_13 (by decide) (by decide) ?_
          refine pa_aload_n (pc' := 33) dX11_brings_32 rfl rfl ?_
          refine pa_iconst (v := nI 1) (pc' := 34) dX11_brings_33 (by decide) rfl ?_
          refine pa_callv (pc' := 37) (vs := [.inl (nI 1)]) (rest := []) dX11_brings_34 ml_11_98 (by decide) rfl rfl rfl (fun d' _ => (c_ref s0)) (fun v g8 hq => ?_)
          obtain ⟨ev, eh⟩ := hq
          subst ev
          show zPn N none d mX11_brings (37, _, [.inl ((-1))], g8) _
          refine pa_iret dX11_brings_37 rfl rfl ?_
          exact (by rw [eh, zsI_eq, show cd_brings A x1 x2 = 1 from (by unfold cd_brings; rw [if_neg (by first | assumption | omega | exact fun q => absurd (twB_iff.mp q).1.1 (by assumption) | exact fun q => absurd (twB_iff.mp q).1.2 (by assumption) | exact fun q => absurd (by assumption) (twB_iff.mp q).2 | exact twB_iff.mpr ⟨⟨by assumption, by assumption⟩, by assumption⟩ | exact fun q => q.2.2.2.2.1 (by assumption) | exact fun q => q.2.2.2.2.2 (by assumption) | exact fun q => absurd q.1 (by assumption) | exact fun q => absurd q.2.1 (by assumption) | exact fun q => absurd q.2.2.1 (by assumption) | exact fun q => absurd q.2.2.2.1 (by assumption) | exact ⟨by assumption, by assumption, by assumption, by assumption, by assumption, by assumption⟩)])]; rfl : g8.2.1 0 2 = cd_brings A x1 x2)
  · next y1 =>
      refine pa_if_t (pc' := 32) dX11_brings_5 (by decide) (by decide) ?_
      refine pa_aload_n (pc' := 33) dX11_brings_32 rfl rfl ?_
      refine pa_iconst (v := nI 1) (pc' := 34) dX11_brings_33 (by decide) rfl ?_
      refine pa_callv (pc' := 37) (vs := [.inl (nI 1)]) (rest := []) dX11_brings_34 ml_11_98 (by decide) rfl rfl rfl (fun d' _ => (c_ref s0)) (fun v g8 hq => ?_)
      obtain ⟨ev, eh⟩ := hq
      subst ev
      show zPn N none d mX11_brings (37, _, [.inl ((-1))], g8) _
      refine pa_iret dX11_brings_37 rfl rfl ?_
      exact (by rw [eh, zsI_eq, show cd_brings A x1 x2 = 1 from (by unfold cd_brings; rw [if_neg (by first | assumption | omega | exact fun q => absurd (twB_iff.mp q).1.1 (by assumption) | exact fun q => absurd (twB_iff.mp q).1.2 (by assumption) | exact fun q => absurd (by assumption) (twB_iff.mp q).2 | exact twB_iff.mpr ⟨⟨by assumption, by assumption⟩, by assumption⟩ | exact fun q => q.2.2.2.2.1 (by assumption) | exact fun q => q.2.2.2.2.2 (by assumption) | exact fun q => absurd q.1 (by assumption) | exact fun q => absurd q.2.1 (by assumption) | exact fun q => absurd q.2.2.1 (by assumption) | exact fun q => absurd q.2.2.2.1 (by assumption) | exact ⟨by assumption, by assumption, by assumption, by assumption, by assumption, by assumption⟩)])]; rfl : g8.2.1 0 2 = cd_brings A x1 x2)
theorem R_brings12 (z : lZ A c s H J g) (m : lMid kk im t g h) : zPa d mX12_brings [.inr (.inr (some 196)), .inl x1, .inl x2] h (fun _ g => g.2.1 196 11 = cd_brings A x1 x2) := by
  intro N
  have hp := M_hasBt z m
  have s196 : zsh h 196 = some (12, 39) := zsh_by m.2.1.2.2.2 (by decide +kernel)
  generalize eg : zsI (zsI h 196 0 0) 196 11 0 = h2
  have e2 : ∀ a k, a ≠ 196 → h2.2.1 a k = h.2.1 a k := fun a k ha => by rw [← eg, zsI_no (by omega), zsI_no (by omega)]
  have e3 : ∀ k, k ≠ 0 → k ≠ 11 → h2.2.1 196 k = h.2.1 196 k := fun k w1 w2 => by rw [← eg, zsI_no (by omega), zsI_no (by omega)]
  have h1 : h2.1 = hh_487.1 := by rw [← eg]; exact m.2.1.2.2.2
  have hA : lPA A c h2 := by rw [← eg]; exact (m.pa z.1.1).gd
  have B : cI A ≠ 0 → bgM A s h2 := fun ne => by rw [← eg]; exact (z.bm m ne).gd
  have er : h2.2.2.2.1 = h.2.2.2.1 := by rw [← eg]; rfl
  have q15 : h2.2.2.2.1 196 15 = some 199 := by rw [er]; exact m.r15
  have q17 : h2.2.2.2.1 196 17 = some 201 := by rw [er]; exact m.mw.2.1
  have z196 : zsh h2 196 = some (12, 39) := zsh_by h1 (by decide +kernel)
  have z199 : zsh h2 199 = some (14, 363) := zsh_by h1 (by decide +kernel)
  have z201 : zsh h2 201 = some (14, 76) := zsh_by h1 (by decide +kernel)
  have M : nMo A s 201 0 h2 := (z.lm m).1.1.fr (fun k => e2 _ _ (by decide))
  have hT := z.1.2.1
  have hB := z.1.2.2
  have hI := z.1.1.1
  have hN := z.2.1.1
  have k0 : (0 : Int32).toInt = 0 := by decide
  obtain ⟨b1, b2, b3, b4, b5⟩ := hI.2.2.1
  rw [← e3 14 (by decide) (by decide)] at hp
  have lt0 : (nI 1 : Int32).toInt = 1 := by decide
  show zPn N none d mX12_brings (0, [(0, .inr (.inr (some 196))), (1, .inl x1), (2, .inl x2)], [], h) _
  refine pa_aload_n (pc' := 1) dX12_brings_0 rfl rfl ?_
  refine pa_callv (pc' := 4) (vs := []) (rest := []) dX12_brings_1 ml_12_167 (by decide) rfl rfl rfl (fun d' _ => (m_good s196)) (fun v h3 hq => ?_)
  obtain ⟨ev, eh⟩ := hq
  subst ev
  show zPn N none d mX12_brings (4, _, [], h3) _
  rw [eg] at eh
  subst eh
  have t0 : h3.2.1 196 11 = 0 := by rw [← eg]; exact zsI_eq
  refine pa_aload_n (pc' := 5) dX12_brings_4 rfl rfl ?_
  refine pa_iload_n (pc' := 6) dX12_brings_5 rfl rfl ?_
  refine pa_callv (pc' := 9) (vs := [.inl x1]) (rest := []) dX12_brings_6 ml_12_268 (by decide) rfl rfl rfl (fun d' _ => (M_isWhale hA q15 h1)) (fun v g9 hq => ?_)
  obtain ⟨ev, eh⟩ := hq
  subst ev
  rw [eh]
  show zPn N none d mX12_brings (9, _, [.inl (if 0 ≤ (x1).toInt ∧ (x1).toInt < (cH A:Int) then 1 else 0)], h3) _
  split
  · next y1 =>
      refine pa_if_f (pc' := 12) dX12_brings_9 (by decide) (by decide) rfl ?_
      refine pa_aload_n (pc' := 13) dX12_brings_12 rfl rfl ?_
      refine pa_iload_n (pc' := 14) dX12_brings_13 rfl rfl ?_
      refine pa_callv (pc' := 17) (vs := [.inl x2]) (rest := []) dX12_brings_14 ml_12_274 (by decide) rfl rfl rfl (fun d' _ => (M_isBox hA q15 h1)) (fun v g9 hq => ?_)
      obtain ⟨ev, eh⟩ := hq
      subst ev
      rw [eh]
      show zPn N none d mX12_brings (17, _, [.inl (if 0 ≤ (x2).toInt ∧ (x2).toInt < (cB A:Int) then 1 else 0)], h3) _
      split
      · next y2 =>
          refine pa_if_f (pc' := 20) dX12_brings_17 (by decide) (by decide) rfl ?_
          exact G_brings12 (by decide +kernel) (fun v g q => (q.2.2 39 z196).trans (t0.trans (show cd_brings A x1 x2 = 0 from (by unfold cd_brings; rw [if_pos (by first | assumption | omega | exact fun q => absurd (twB_iff.mp q).1.1 (by assumption) | exact fun q => absurd (twB_iff.mp q).1.2 (by assumption) | exact fun q => absurd (by assumption) (twB_iff.mp q).2 | exact twB_iff.mpr ⟨⟨by assumption, by assumption⟩, by assumption⟩ | exact fun q => q.2.2.2.2.1 (by assumption) | exact fun q => q.2.2.2.2.2 (by assumption) | exact fun q => absurd q.1 (by assumption) | exact fun q => absurd q.2.1 (by assumption) | exact fun q => absurd q.2.2.1 (by assumption) | exact fun q => absurd q.2.2.2.1 (by assumption) | exact ⟨by assumption, by assumption, by assumption, by assumption, by assumption, by assumption⟩)])).symm))
      · next y2 =>
          refine pa_if_t (pc' := 29) dX12_brings_17 (by decide) (by decide) ?_
          refine pa_aload_n (pc' := 30) dX12_brings_29 rfl rfl ?_
          refine pa_iconst (v := nI 1) (pc' := 31) dX12_brings_30 (by decide) rfl ?_
          refine pa_callv (pc' := 34) (vs := [.inl (nI 1)]) (rest := []) dX12_brings_31 ml_12_170 (by decide) rfl rfl rfl (fun d' _ => (m_no z196)) (fun v g8 hq => ?_)
          obtain ⟨ev, eh⟩ := hq
          subst ev
          show zPn N none d mX12_brings (34, _, [.inl ((-1))], g8) _
          refine pa_iret dX12_brings_34 rfl rfl ?_
          exact (by rw [eh, zsI_eq, show cd_brings A x1 x2 = 1 from (by unfold cd_brings; rw [if_neg (by first | assumption | omega | exact fun q => absurd (twB_iff.mp q).1.1 (by assumption) | exact fun q => absurd (twB_iff.mp q).1.2 (by assumption) | exact fun q => absurd (by assumption) (twB_iff.mp q).2 | exact twB_iff.mpr ⟨⟨by assumption, by assumption⟩, by assumption⟩ | exact fun q => q.2.2.2.2.1 (by assumption) | exact fun q => q.2.2.2.2.2 (by assumption) | exact fun q => absurd q.1 (by assumption) | exact fun q => absurd q.2.1 (by assumption) | exact fun q => absurd q.2.2.1 (by assumption) | exact fun q => absurd q.2.2.2.1 (by assumption) | exact ⟨by assumption, by assumption, by assumption, by assumption, by assumption, by assumption⟩)])]; rfl : g8.2.1 196 11 = cd_brings A x1 x2)
  · next y1 =>
      refine pa_if_t (pc' := 29) dX12_brings_9 (by decide) (by decide) ?_
      refine pa_aload_n (pc' := 30) dX12_brings_29 rfl rfl ?_
      refine pa_iconst (v := nI 1) (pc' := 31) dX12_brings_30 (by decide) rfl ?_
      refine pa_callv (pc' := 34) (vs := [.inl (nI 1)]) (rest := []) dX12_brings_31 ml_12_170 (by decide) rfl rfl rfl (fun d' _ => (m_no z196)) (fun v g8 hq => ?_)
      obtain ⟨ev, eh⟩ := hq
      subst ev
      show zPn N none d mX12_brings (34, _, [.inl ((-1))], g8) _
      refine pa_iret dX12_brings_34 rfl rfl ?_
      exact (by rw [eh, zsI_eq, show cd_brings A x1 x2 = 1 from (by unfold cd_brings; rw [if_neg (by first | assumption | omega | exact fun q => absurd (twB_iff.mp q).1.1 (by assumption) | exact fun q => absurd (twB_iff.mp q).1.2 (by assumption) | exact fun q => absurd (by assumption) (twB_iff.mp q).2 | exact twB_iff.mpr ⟨⟨by assumption, by assumption⟩, by assumption⟩ | exact fun q => q.2.2.2.2.1 (by assumption) | exact fun q => q.2.2.2.2.2 (by assumption) | exact fun q => absurd q.1 (by assumption) | exact fun q => absurd q.2.1 (by assumption) | exact fun q => absurd q.2.2.1 (by assumption) | exact fun q => absurd q.2.2.2.1 (by assumption) | exact ⟨by assumption, by assumption, by assumption, by assumption, by assumption, by assumption⟩)])]; rfl : g8.2.1 196 11 = cd_brings A x1 x2)
theorem R_soonest11 (z : lZ A c s H J h) (hi : lInv t h) : zPa d mX11_soonest [.inr (.inr (some 0)), .inl x1] h (fun _ g => g.2.1 0 2 = cd_soonest A x1) := by
  intro N
  have h1 := hi.2.2.2.2.1
  have hA := z.1.1
  have hT := z.1.2.1
  have hB := z.1.2.2
  have hI := hA.1
  have hN := z.2.1.1
  have K := hA.2.2.2.1
  have hc2 : c = 2 ∨ c = 42 := hA.2.1
  obtain ⟨b1, b2, b3, b4, b5⟩ := hI.2.2.1
  have s0 : zsh h 0 = some (11, 16) := zsh_by h1 (by decide +kernel)
  obtain ⟨sc, sc1, sc2, sc4, sc5, scw, scb⟩ := cSh hA.2.1 h1
  obtain ⟨c9, c12, c13, cw, cb⟩ := cRf_of hi.1 hA.2.1
  have S := hi.nw
  obtain ⟨⟨s86, s87, s88, s89, s90, s91⟩, r87, r88, r89, r90, r91⟩ := S.o86
  have r3 := hA.2.2.1
  have r6 := S.2.1
  obtain ⟨n1, n2, n3, n4⟩ := z.2.2.1.1
  have lt0 : (nI 1 : Int32).toInt = 1 := by decide
  show zPn N none d mX11_soonest (0, [(0, .inr (.inr (some 0))), (1, .inl x1)], [], h) _
  refine pa_aload_n (pc' := 1) dX11_soonest_0 rfl rfl ?_
  refine pa_iload_n (pc' := 2) dX11_soonest_1 rfl rfl ?_
  refine pa_callv (pc' := 5) (vs := [.inl x1]) (rest := []) dX11_soonest_2 ml_11_147 (by decide) rfl rfl rfl (fun d' _ => (N_isBox hA h1)) (fun v g9 hq => ?_)
  obtain ⟨ev, eh⟩ := hq
  subst ev
  rw [eh]
  show zPn N none d mX11_soonest (5, _, [.inl (if 0 ≤ (x1).toInt ∧ (x1).toInt < (cB A:Int) then 1 else 0)], h) _
  split
  · next y1 =>
      refine pa_if_f (pc' := 8) dX11_soonest_5 (by decide) (by decide) rfl ?_
      exact G_soonest11 s0 (sh11 h1) (by decide +kernel) (fun v g q => q.trans (show cd_soonest A x1 = 0 from (by unfold cd_soonest; rw [if_pos (by first | assumption | omega | exact fun q => absurd (twB_iff.mp q).1.1 (by assumption) | exact fun q => absurd (twB_iff.mp q).1.2 (by assumption) | exact fun q => absurd (by assumption) (twB_iff.mp q).2 | exact twB_iff.mpr ⟨⟨by assumption, by assumption⟩, by assumption⟩ | exact fun q => q.2.2.2.2.1 (by assumption) | exact fun q => q.2.2.2.2.2 (by assumption) | exact fun q => absurd q.1 (by assumption) | exact fun q => absurd q.2.1 (by assumption) | exact fun q => absurd q.2.2.1 (by assumption) | exact fun q => absurd q.2.2.2.1 (by assumption) | exact ⟨by assumption, by assumption, by assumption, by assumption, by assumption, by assumption⟩)])).symm)
  · next y1 =>
      refine pa_if_t (pc' := 23) dX11_soonest_5 (by decide) (by decide) ?_
      refine pa_aload_n (pc' := 24) dX11_soonest_23 rfl rfl ?_
      refine pa_iconst (v := nI 1) (pc' := 25) dX11_soonest_24 (by decide) rfl ?_
      refine pa_callv (pc' := 28) (vs := [.inl (nI 1)]) (rest := []) dX11_soonest_25 ml_11_98 (by decide) rfl rfl rfl (fun d' _ => (c_ref s0)) (fun v g8 hq => ?_)
      obtain ⟨ev, eh⟩ := hq
      subst ev
      show zPn N none d mX11_soonest (28, _, [.inl ((-1))], g8) _
      refine pa_iret dX11_soonest_28 rfl rfl ?_
      exact (by rw [eh, zsI_eq, show cd_soonest A x1 = 1 from (by unfold cd_soonest; rw [if_neg (by first | assumption | omega | exact fun q => absurd (twB_iff.mp q).1.1 (by assumption) | exact fun q => absurd (twB_iff.mp q).1.2 (by assumption) | exact fun q => absurd (by assumption) (twB_iff.mp q).2 | exact twB_iff.mpr ⟨⟨by assumption, by assumption⟩, by assumption⟩ | exact fun q => q.2.2.2.2.1 (by assumption) | exact fun q => q.2.2.2.2.2 (by assumption) | exact fun q => absurd q.1 (by assumption) | exact fun q => absurd q.2.1 (by assumption) | exact fun q => absurd q.2.2.1 (by assumption) | exact fun q => absurd q.2.2.2.1 (by assumption) | exact ⟨by assumption, by assumption, by assumption, by assumption, by assumption, by assumption⟩)])]; rfl : g8.2.1 0 2 = cd_soonest A x1)
theorem R_soonest12 (z : lZ A c s H J g) (m : lMid kk im t g h) : zPa d mX12_soonest [.inr (.inr (some 196)), .inl x1] h (fun _ g => g.2.1 196 11 = cd_soonest A x1) := by
  intro N
  have hp := M_hasBt z m
  have s196 : zsh h 196 = some (12, 39) := zsh_by m.2.1.2.2.2 (by decide +kernel)
  generalize eg : zsI (zsI h 196 0 0) 196 11 0 = h2
  have e2 : ∀ a k, a ≠ 196 → h2.2.1 a k = h.2.1 a k := fun a k ha => by rw [← eg, zsI_no (by omega), zsI_no (by omega)]
  have e3 : ∀ k, k ≠ 0 → k ≠ 11 → h2.2.1 196 k = h.2.1 196 k := fun k w1 w2 => by rw [← eg, zsI_no (by omega), zsI_no (by omega)]
  have h1 : h2.1 = hh_487.1 := by rw [← eg]; exact m.2.1.2.2.2
  have hA : lPA A c h2 := by rw [← eg]; exact (m.pa z.1.1).gd
  have B : cI A ≠ 0 → bgM A s h2 := fun ne => by rw [← eg]; exact (z.bm m ne).gd
  have er : h2.2.2.2.1 = h.2.2.2.1 := by rw [← eg]; rfl
  have q15 : h2.2.2.2.1 196 15 = some 199 := by rw [er]; exact m.r15
  have q17 : h2.2.2.2.1 196 17 = some 201 := by rw [er]; exact m.mw.2.1
  have z196 : zsh h2 196 = some (12, 39) := zsh_by h1 (by decide +kernel)
  have z199 : zsh h2 199 = some (14, 363) := zsh_by h1 (by decide +kernel)
  have z201 : zsh h2 201 = some (14, 76) := zsh_by h1 (by decide +kernel)
  have M : nMo A s 201 0 h2 := (z.lm m).1.1.fr (fun k => e2 _ _ (by decide))
  have hT := z.1.2.1
  have hB := z.1.2.2
  have hI := z.1.1.1
  have hN := z.2.1.1
  have k0 : (0 : Int32).toInt = 0 := by decide
  obtain ⟨b1, b2, b3, b4, b5⟩ := hI.2.2.1
  rw [← e3 14 (by decide) (by decide)] at hp
  have lt0 : (nI 0 : Int32).toInt = 0 := by decide
  have lt1 : (nI 1 : Int32).toInt = 1 := by decide
  have lt2 : (nI 6 : Int32).toInt = 6 := by decide
  show zPn N none d mX12_soonest (0, [(0, .inr (.inr (some 196))), (1, .inl x1)], [], h) _
  refine pa_aload_n (pc' := 1) dX12_soonest_0 rfl rfl ?_
  refine pa_callv (pc' := 4) (vs := []) (rest := []) dX12_soonest_1 ml_12_167 (by decide) rfl rfl rfl (fun d' _ => (m_good s196)) (fun v h3 hq => ?_)
  obtain ⟨ev, eh⟩ := hq
  subst ev
  show zPn N none d mX12_soonest (4, _, [], h3) _
  rw [eg] at eh
  subst eh
  have t0 : h3.2.1 196 11 = 0 := by rw [← eg]; exact zsI_eq
  refine pa_aload_n (pc' := 5) dX12_soonest_4 rfl rfl ?_
  refine pa_iload_n (pc' := 6) dX12_soonest_5 rfl rfl ?_
  refine pa_callv (pc' := 9) (vs := [.inl x1]) (rest := []) dX12_soonest_6 ml_12_274 (by decide) rfl rfl rfl (fun d' _ => (M_isBox hA q15 h1)) (fun v g9 hq => ?_)
  obtain ⟨ev, eh⟩ := hq
  subst ev
  rw [eh]
  show zPn N none d mX12_soonest (9, _, [.inl (if 0 ≤ (x1).toInt ∧ (x1).toInt < (cB A:Int) then 1 else 0)], h3) _
  split
  · next y1 =>
      refine pa_if_t (pc' := 18) dX12_soonest_9 (by decide) (by decide) ?_
      exact G_soonest12 (by decide +kernel) (fun v g q => (q.2.2 39 z196).trans (t0.trans (show cd_soonest A x1 = 0 from (by unfold cd_soonest; rw [if_pos (by first | assumption | omega | exact fun q => absurd (twB_iff.mp q).1.1 (by assumption) | exact fun q => absurd (twB_iff.mp q).1.2 (by assumption) | exact fun q => absurd (by assumption) (twB_iff.mp q).2 | exact twB_iff.mpr ⟨⟨by assumption, by assumption⟩, by assumption⟩ | exact fun q => q.2.2.2.2.1 (by assumption) | exact fun q => q.2.2.2.2.2 (by assumption) | exact fun q => absurd q.1 (by assumption) | exact fun q => absurd q.2.1 (by assumption) | exact fun q => absurd q.2.2.1 (by assumption) | exact fun q => absurd q.2.2.2.1 (by assumption) | exact ⟨by assumption, by assumption, by assumption, by assumption, by assumption, by assumption⟩)])).symm))
  · next y1 =>
      refine pa_if_f (pc' := 12) dX12_soonest_9 (by decide) (by decide) rfl ?_
      refine pa_aload_n (pc' := 13) dX12_soonest_12 rfl rfl ?_
      refine pa_iconst (v := nI 1) (pc' := 14) dX12_soonest_13 (by decide) rfl ?_
      refine pa_callv (pc' := 17) (vs := [.inl (nI 1)]) (rest := []) dX12_soonest_14 ml_12_170 (by decide) rfl rfl rfl (fun d' _ => (m_no z196)) (fun v g8 hq => ?_)
      obtain ⟨ev, eh⟩ := hq
      subst ev
      show zPn N none d mX12_soonest (17, _, [.inl ((-1))], g8) _
      refine pa_iret dX12_soonest_17 rfl rfl ?_
      exact (by rw [eh, zsI_eq, show cd_soonest A x1 = 1 from (by unfold cd_soonest; rw [if_neg (by first | assumption | omega | exact fun q => absurd (twB_iff.mp q).1.1 (by assumption) | exact fun q => absurd (twB_iff.mp q).1.2 (by assumption) | exact fun q => absurd (by assumption) (twB_iff.mp q).2 | exact twB_iff.mpr ⟨⟨by assumption, by assumption⟩, by assumption⟩ | exact fun q => q.2.2.2.2.1 (by assumption) | exact fun q => q.2.2.2.2.2 (by assumption) | exact fun q => absurd q.1 (by assumption) | exact fun q => absurd q.2.1 (by assumption) | exact fun q => absurd q.2.2.1 (by assumption) | exact fun q => absurd q.2.2.2.1 (by assumption) | exact ⟨by assumption, by assumption, by assumption, by assumption, by assumption, by assumption⟩)])]; rfl : g8.2.1 196 11 = cd_soonest A x1)
theorem R_surest11 (z : lZ A c s H J h) (hi : lInv t h) : zPa d mX11_surest [.inr (.inr (some 0)), .inl x1] h (fun _ g => g.2.1 0 2 = cd_surest A x1) := by
  intro N
  have h1 := hi.2.2.2.2.1
  have hA := z.1.1
  have hT := z.1.2.1
  have hB := z.1.2.2
  have hI := hA.1
  have hN := z.2.1.1
  have K := hA.2.2.2.1
  have hc2 : c = 2 ∨ c = 42 := hA.2.1
  obtain ⟨b1, b2, b3, b4, b5⟩ := hI.2.2.1
  have s0 : zsh h 0 = some (11, 16) := zsh_by h1 (by decide +kernel)
  obtain ⟨sc, sc1, sc2, sc4, sc5, scw, scb⟩ := cSh hA.2.1 h1
  obtain ⟨c9, c12, c13, cw, cb⟩ := cRf_of hi.1 hA.2.1
  have S := hi.nw
  obtain ⟨⟨s86, s87, s88, s89, s90, s91⟩, r87, r88, r89, r90, r91⟩ := S.o86
  have r3 := hA.2.2.1
  have r6 := S.2.1
  obtain ⟨n1, n2, n3, n4⟩ := z.2.2.1.1
  have lt0 : (nI 1 : Int32).toInt = 1 := by decide
  show zPn N none d mX11_surest (0, [(0, .inr (.inr (some 0))), (1, .inl x1)], [], h) _
  refine pa_aload_n (pc' := 1) dX11_surest_0 rfl rfl ?_
  refine pa_iload_n (pc' := 2) dX11_surest_1 rfl rfl ?_
  refine pa_callv (pc' := 5) (vs := [.inl x1]) (rest := []) dX11_surest_2 ml_11_147 (by decide) rfl rfl rfl (fun d' _ => (N_isBox hA h1)) (fun v g9 hq => ?_)
  obtain ⟨ev, eh⟩ := hq
  subst ev
  rw [eh]
  show zPn N none d mX11_surest (5, _, [.inl (if 0 ≤ (x1).toInt ∧ (x1).toInt < (cB A:Int) then 1 else 0)], h) _
  split
  · next y1 =>
      refine pa_if_f (pc' := 8) dX11_surest_5 (by decide) (by decide) rfl ?_
      exact G_surest11 s0 (sh11 h1) (by decide +kernel) (fun v g q => q.trans (show cd_surest A x1 = 0 from (by unfold cd_surest; rw [if_pos (by first | assumption | omega | exact fun q => absurd (twB_iff.mp q).1.1 (by assumption) | exact fun q => absurd (twB_iff.mp q).1.2 (by assumption) | exact fun q => absurd (by assumption) (twB_iff.mp q).2 | exact twB_iff.mpr ⟨⟨by assumption, by assumption⟩, by assumption⟩ | exact fun q => q.2.2.2.2.1 (by assumption) | exact fun q => q.2.2.2.2.2 (by assumption) | exact fun q => absurd q.1 (by assumption) | exact fun q => absurd q.2.1 (by assumption) | exact fun q => absurd q.2.2.1 (by assumption) | exact fun q => absurd q.2.2.2.1 (by assumption) | exact ⟨by assumption, by assumption, by assumption, by assumption, by assumption, by assumption⟩)])).symm)
  · next y1 =>
      refine pa_if_t (pc' := 25) dX11_surest_5 (by decide) (by decide) ?_
      refine pa_aload_n (pc' := 26) dX11_surest_25 rfl rfl ?_
      refine pa_iconst (v := nI 1) (pc' := 27) dX11_surest_26 (by decide) rfl ?_
      refine pa_callv (pc' := 30) (vs := [.inl (nI 1)]) (rest := []) dX11_surest_27 ml_11_98 (by decide) rfl rfl rfl (fun d' _ => (c_ref s0)) (fun v g8 hq => ?_)
      obtain ⟨ev, eh⟩ := hq
      subst ev
      show zPn N none d mX11_surest (30, _, [.inl ((-1))], g8) _
      refine pa_iret dX11_surest_30 rfl rfl ?_
      exact (by rw [eh, zsI_eq, show cd_surest A x1 = 1 from (by unfold cd_surest; rw [if_neg (by first | assumption | omega | exact fun q => absurd (twB_iff.mp q).1.1 (by assumption) | exact fun q => absurd (twB_iff.mp q).1.2 (by assumption) | exact fun q => absurd (by assumption) (twB_iff.mp q).2 | exact twB_iff.mpr ⟨⟨by assumption, by assumption⟩, by assumption⟩ | exact fun q => q.2.2.2.2.1 (by assumption) | exact fun q => q.2.2.2.2.2 (by assumption) | exact fun q => absurd q.1 (by assumption) | exact fun q => absurd q.2.1 (by assumption) | exact fun q => absurd q.2.2.1 (by assumption) | exact fun q => absurd q.2.2.2.1 (by assumption) | exact ⟨by assumption, by assumption, by assumption, by assumption, by assumption, by assumption⟩)])]; rfl : g8.2.1 0 2 = cd_surest A x1)
theorem R_surest12 (z : lZ A c s H J g) (m : lMid kk im t g h) : zPa d mX12_surest [.inr (.inr (some 196)), .inl x1] h (fun _ g => g.2.1 196 11 = cd_surest A x1) := by
  intro N
  have hp := M_hasBt z m
  have s196 : zsh h 196 = some (12, 39) := zsh_by m.2.1.2.2.2 (by decide +kernel)
  generalize eg : zsI (zsI h 196 0 0) 196 11 0 = h2
  have e2 : ∀ a k, a ≠ 196 → h2.2.1 a k = h.2.1 a k := fun a k ha => by rw [← eg, zsI_no (by omega), zsI_no (by omega)]
  have e3 : ∀ k, k ≠ 0 → k ≠ 11 → h2.2.1 196 k = h.2.1 196 k := fun k w1 w2 => by rw [← eg, zsI_no (by omega), zsI_no (by omega)]
  have h1 : h2.1 = hh_487.1 := by rw [← eg]; exact m.2.1.2.2.2
  have hA : lPA A c h2 := by rw [← eg]; exact (m.pa z.1.1).gd
  have B : cI A ≠ 0 → bgM A s h2 := fun ne => by rw [← eg]; exact (z.bm m ne).gd
  have er : h2.2.2.2.1 = h.2.2.2.1 := by rw [← eg]; rfl
  have q15 : h2.2.2.2.1 196 15 = some 199 := by rw [er]; exact m.r15
  have q17 : h2.2.2.2.1 196 17 = some 201 := by rw [er]; exact m.mw.2.1
  have z196 : zsh h2 196 = some (12, 39) := zsh_by h1 (by decide +kernel)
  have z199 : zsh h2 199 = some (14, 363) := zsh_by h1 (by decide +kernel)
  have z201 : zsh h2 201 = some (14, 76) := zsh_by h1 (by decide +kernel)
  have M : nMo A s 201 0 h2 := (z.lm m).1.1.fr (fun k => e2 _ _ (by decide))
  have hT := z.1.2.1
  have hB := z.1.2.2
  have hI := z.1.1.1
  have hN := z.2.1.1
  have k0 : (0 : Int32).toInt = 0 := by decide
  obtain ⟨b1, b2, b3, b4, b5⟩ := hI.2.2.1
  rw [← e3 14 (by decide) (by decide)] at hp
  have lt0 : (nI 1 : Int32).toInt = 1 := by decide
  show zPn N none d mX12_surest (0, [(0, .inr (.inr (some 196))), (1, .inl x1)], [], h) _
  refine pa_aload_n (pc' := 1) dX12_surest_0 rfl rfl ?_
  refine pa_callv (pc' := 4) (vs := []) (rest := []) dX12_surest_1 ml_12_167 (by decide) rfl rfl rfl (fun d' _ => (m_good s196)) (fun v h3 hq => ?_)
  obtain ⟨ev, eh⟩ := hq
  subst ev
  show zPn N none d mX12_surest (4, _, [], h3) _
  rw [eg] at eh
  subst eh
  have t0 : h3.2.1 196 11 = 0 := by rw [← eg]; exact zsI_eq
  refine pa_aload_n (pc' := 5) dX12_surest_4 rfl rfl ?_
  refine pa_iload_n (pc' := 6) dX12_surest_5 rfl rfl ?_
  refine pa_callv (pc' := 9) (vs := [.inl x1]) (rest := []) dX12_surest_6 ml_12_274 (by decide) rfl rfl rfl (fun d' _ => (M_isBox hA q15 h1)) (fun v g9 hq => ?_)
  obtain ⟨ev, eh⟩ := hq
  subst ev
  rw [eh]
  show zPn N none d mX12_surest (9, _, [.inl (if 0 ≤ (x1).toInt ∧ (x1).toInt < (cB A:Int) then 1 else 0)], h3) _
  split
  · next y1 =>
      refine pa_if_f (pc' := 12) dX12_surest_9 (by decide) (by decide) rfl ?_
      exact G_surest12 (by decide +kernel) (fun v g q => (q.2.2 39 z196).trans (t0.trans (show cd_surest A x1 = 0 from (by unfold cd_surest; rw [if_pos (by first | assumption | omega | exact fun q => absurd (twB_iff.mp q).1.1 (by assumption) | exact fun q => absurd (twB_iff.mp q).1.2 (by assumption) | exact fun q => absurd (by assumption) (twB_iff.mp q).2 | exact twB_iff.mpr ⟨⟨by assumption, by assumption⟩, by assumption⟩ | exact fun q => q.2.2.2.2.1 (by assumption) | exact fun q => q.2.2.2.2.2 (by assumption) | exact fun q => absurd q.1 (by assumption) | exact fun q => absurd q.2.1 (by assumption) | exact fun q => absurd q.2.2.1 (by assumption) | exact fun q => absurd q.2.2.2.1 (by assumption) | exact ⟨by assumption, by assumption, by assumption, by assumption, by assumption, by assumption⟩)])).symm))
  · next y1 =>
      refine pa_if_t (pc' := 21) dX12_surest_9 (by decide) (by decide) ?_
      refine pa_aload_n (pc' := 22) dX12_surest_21 rfl rfl ?_
      refine pa_iconst (v := nI 1) (pc' := 23) dX12_surest_22 (by decide) rfl ?_
      refine pa_callv (pc' := 26) (vs := [.inl (nI 1)]) (rest := []) dX12_surest_23 ml_12_170 (by decide) rfl rfl rfl (fun d' _ => (m_no z196)) (fun v g8 hq => ?_)
      obtain ⟨ev, eh⟩ := hq
      subst ev
      show zPn N none d mX12_surest (26, _, [.inl ((-1))], g8) _
      refine pa_iret dX12_surest_26 rfl rfl ?_
      exact (by rw [eh, zsI_eq, show cd_surest A x1 = 1 from (by unfold cd_surest; rw [if_neg (by first | assumption | omega | exact fun q => absurd (twB_iff.mp q).1.1 (by assumption) | exact fun q => absurd (twB_iff.mp q).1.2 (by assumption) | exact fun q => absurd (by assumption) (twB_iff.mp q).2 | exact twB_iff.mpr ⟨⟨by assumption, by assumption⟩, by assumption⟩ | exact fun q => q.2.2.2.2.1 (by assumption) | exact fun q => q.2.2.2.2.2 (by assumption) | exact fun q => absurd q.1 (by assumption) | exact fun q => absurd q.2.1 (by assumption) | exact fun q => absurd q.2.2.1 (by assumption) | exact fun q => absurd q.2.2.2.1 (by assumption) | exact ⟨by assumption, by assumption, by assumption, by assumption, by assumption, by assumption⟩)])]; rfl : g8.2.1 196 11 = cd_surest A x1)
theorem R_by11 (z : lZ A c s H J h) (hi : lInv t h) : zPa d mX11_by [.inr (.inr (some 0)), .inl x1, .inl x2] h (fun _ g => g.2.1 0 2 = cd_by A x1 x2) := by
  intro N
  have h1 := hi.2.2.2.2.1
  have hA := z.1.1
  have hT := z.1.2.1
  have hB := z.1.2.2
  have hI := hA.1
  have hN := z.2.1.1
  have K := hA.2.2.2.1
  have hc2 : c = 2 ∨ c = 42 := hA.2.1
  obtain ⟨b1, b2, b3, b4, b5⟩ := hI.2.2.1
  have s0 : zsh h 0 = some (11, 16) := zsh_by h1 (by decide +kernel)
  obtain ⟨sc, sc1, sc2, sc4, sc5, scw, scb⟩ := cSh hA.2.1 h1
  obtain ⟨c9, c12, c13, cw, cb⟩ := cRf_of hi.1 hA.2.1
  have S := hi.nw
  obtain ⟨⟨s86, s87, s88, s89, s90, s91⟩, r87, r88, r89, r90, r91⟩ := S.o86
  have r3 := hA.2.2.1
  have r6 := S.2.1
  obtain ⟨n1, n2, n3, n4⟩ := z.2.2.1.1
  have lt0 : (99999 : Int32).toInt = 99999 := by decide
  have lt1 : (nI 1 : Int32).toInt = 1 := by decide
  have lt2 : (nI 2 : Int32).toInt = 2 := by decide
  show zPn N none d mX11_by (0, [(0, .inr (.inr (some 0))), (1, .inl x1), (2, .inl x2)], [], h) _
  refine pa_aload_n (pc' := 1) dX11_by_0 rfl rfl ?_
  refine pa_iload_n (pc' := 2) dX11_by_1 rfl rfl ?_
  refine pa_callv (pc' := 5) (vs := [.inl x1]) (rest := []) dX11_by_2 ml_11_147 (by decide) rfl rfl rfl (fun d' _ => (N_isBox hA h1)) (fun v g9 hq => ?_)
  obtain ⟨ev, eh⟩ := hq
  subst ev
  rw [eh]
  show zPn N none d mX11_by (5, _, [.inl (if 0 ≤ (x1).toInt ∧ (x1).toInt < (cB A:Int) then 1 else 0)], h) _
  split
  · next y1 =>
      refine pa_if_t (pc' := 14) dX11_by_5 (by decide) (by decide) ?_
      refine pa_iload_n (pc' := 15) dX11_by_14 rfl rfl ?_
      refine pa_ldc (pc' := 17) dX11_by_15 cl_11_226 rfl rfl ?_
      refine pa_calls (pc' := 20) (kd := 1) (vs := [.inl x2, .inl 99999]) (rest := []) dX11_by_17 ml_11_227 (.inl rfl) rfl rfl rfl (fun d' _ => (N_within)) (fun v g9 hq => ?_)
      obtain ⟨ev, eh⟩ := hq
      subst ev
      rw [eh]
      show zPn N none d mX11_by (20, _, [.inl (if 0 ≤ (x2).toInt ∧ (x2).toInt ≤ ((99999 : Int32)).toInt then 1 else 0)], h) _
      split
      · next y2 =>
          refine pa_if_t (pc' := 29) dX11_by_20 (by decide) (by decide) ?_
          exact G_by11 s0 (sh11 h1) (by decide +kernel) (fun v g q => q.trans (show cd_by A x1 x2 = 0 from (by unfold cd_by; rw [if_pos (by first | assumption | omega | exact fun q => absurd (twB_iff.mp q).1.1 (by assumption) | exact fun q => absurd (twB_iff.mp q).1.2 (by assumption) | exact fun q => absurd (by assumption) (twB_iff.mp q).2 | exact twB_iff.mpr ⟨⟨by assumption, by assumption⟩, by assumption⟩ | exact fun q => q.2.2.2.2.1 (by assumption) | exact fun q => q.2.2.2.2.2 (by assumption) | exact fun q => absurd q.1 (by assumption) | exact fun q => absurd q.2.1 (by assumption) | exact fun q => absurd q.2.2.1 (by assumption) | exact fun q => absurd q.2.2.2.1 (by assumption) | exact ⟨by assumption, by assumption, by assumption, by assumption, by assumption, by assumption⟩), if_pos (by first | assumption | omega | exact fun q => absurd (twB_iff.mp q).1.1 (by assumption) | exact fun q => absurd (twB_iff.mp q).1.2 (by assumption) | exact fun q => absurd (by assumption) (twB_iff.mp q).2 | exact twB_iff.mpr ⟨⟨by assumption, by assumption⟩, by assumption⟩ | exact fun q => q.2.2.2.2.1 (by assumption) | exact fun q => q.2.2.2.2.2 (by assumption) | exact fun q => absurd q.1 (by assumption) | exact fun q => absurd q.2.1 (by assumption) | exact fun q => absurd q.2.2.1 (by assumption) | exact fun q => absurd q.2.2.2.1 (by assumption) | exact ⟨by assumption, by assumption, by assumption, by assumption, by assumption, by assumption⟩)])).symm)
      · next y2 =>
          refine pa_if_f (pc' := 23) dX11_by_20 (by decide) (by decide) rfl ?_
          refine pa_aload_n (pc' := 24) dX11_by_23 rfl rfl ?_
          refine pa_iconst (v := nI 2) (pc' := 25) dX11_by_24 (by decide) rfl ?_
          refine pa_callv (pc' := 28) (vs := [.inl (nI 2)]) (rest := []) dX11_by_25 ml_11_98 (by decide) rfl rfl rfl (fun d' _ => (c_ref s0)) (fun v g8 hq => ?_)
          obtain ⟨ev, eh⟩ := hq
          subst ev
          show zPn N none d mX11_by (28, _, [.inl ((-1))], g8) _
          refine pa_iret dX11_by_28 rfl rfl ?_
          exact (by rw [eh, zsI_eq, show cd_by A x1 x2 = 2 from (by unfold cd_by; rw [if_pos (by first | assumption | omega | exact fun q => absurd (twB_iff.mp q).1.1 (by assumption) | exact fun q => absurd (twB_iff.mp q).1.2 (by assumption) | exact fun q => absurd (by assumption) (twB_iff.mp q).2 | exact twB_iff.mpr ⟨⟨by assumption, by assumption⟩, by assumption⟩ | exact fun q => q.2.2.2.2.1 (by assumption) | exact fun q => q.2.2.2.2.2 (by assumption) | exact fun q => absurd q.1 (by assumption) | exact fun q => absurd q.2.1 (by assumption) | exact fun q => absurd q.2.2.1 (by assumption) | exact fun q => absurd q.2.2.2.1 (by assumption) | exact ⟨by assumption, by assumption, by assumption, by assumption, by assumption, by assumption⟩), if_neg (by first | assumption | omega | exact fun q => absurd (twB_iff.mp q).1.1 (by assumption) | exact fun q => absurd (twB_iff.mp q).1.2 (by assumption) | exact fun q => absurd (by assumption) (twB_iff.mp q).2 | exact twB_iff.mpr ⟨⟨by assumption, by assumption⟩, by assumption⟩ | exact fun q => q.2.2.2.2.1 (by assumption) | exact fun q => q.2.2.2.2.2 (by assumption) | exact fun q => absurd q.1 (by assumption) | exact fun q => absurd q.2.1 (by assumption) | exact fun q => absurd q.2.2.1 (by assumption) | exact fun q => absurd q.2.2.2.1 (by assumption) | exact ⟨by assumption, by assumption, by assumption, by assumption, by assumption, by assumption⟩)])]; rfl : g8.2.1 0 2 = cd_by A x1 x2)
  · next y1 =>
      refine pa_if_f (pc' := 8) dX11_by_5 (by decide) (by decide) rfl ?_
      refine pa_aload_n (pc' := 9) dX11_by_8 rfl rfl ?_
      refine pa_iconst (v := nI 1) (pc' := 10) dX11_by_9 (by decide) rfl ?_
      refine pa_callv (pc' := 13) (vs := [.inl (nI 1)]) (rest := []) dX11_by_10 ml_11_98 (by decide) rfl rfl rfl (fun d' _ => (c_ref s0)) (fun v g8 hq => ?_)
      obtain ⟨ev, eh⟩ := hq
      subst ev
      show zPn N none d mX11_by (13, _, [.inl ((-1))], g8) _
      refine pa_iret dX11_by_13 rfl rfl ?_
      exact (by rw [eh, zsI_eq, show cd_by A x1 x2 = 1 from (by unfold cd_by; rw [if_neg (by first | assumption | omega | exact fun q => absurd (twB_iff.mp q).1.1 (by assumption) | exact fun q => absurd (twB_iff.mp q).1.2 (by assumption) | exact fun q => absurd (by assumption) (twB_iff.mp q).2 | exact twB_iff.mpr ⟨⟨by assumption, by assumption⟩, by assumption⟩ | exact fun q => q.2.2.2.2.1 (by assumption) | exact fun q => q.2.2.2.2.2 (by assumption) | exact fun q => absurd q.1 (by assumption) | exact fun q => absurd q.2.1 (by assumption) | exact fun q => absurd q.2.2.1 (by assumption) | exact fun q => absurd q.2.2.2.1 (by assumption) | exact ⟨by assumption, by assumption, by assumption, by assumption, by assumption, by assumption⟩)])]; rfl : g8.2.1 0 2 = cd_by A x1 x2)
theorem R_by12 (z : lZ A c s H J g) (m : lMid kk im t g h) : zPa d mX12_by [.inr (.inr (some 196)), .inl x1, .inl x2] h (fun _ g => g.2.1 196 11 = cd_by A x1 x2) := by
  intro N
  have hp := M_hasBt z m
  have s196 : zsh h 196 = some (12, 39) := zsh_by m.2.1.2.2.2 (by decide +kernel)
  generalize eg : zsI (zsI h 196 0 0) 196 11 0 = h2
  have e2 : ∀ a k, a ≠ 196 → h2.2.1 a k = h.2.1 a k := fun a k ha => by rw [← eg, zsI_no (by omega), zsI_no (by omega)]
  have e3 : ∀ k, k ≠ 0 → k ≠ 11 → h2.2.1 196 k = h.2.1 196 k := fun k w1 w2 => by rw [← eg, zsI_no (by omega), zsI_no (by omega)]
  have h1 : h2.1 = hh_487.1 := by rw [← eg]; exact m.2.1.2.2.2
  have hA : lPA A c h2 := by rw [← eg]; exact (m.pa z.1.1).gd
  have B : cI A ≠ 0 → bgM A s h2 := fun ne => by rw [← eg]; exact (z.bm m ne).gd
  have er : h2.2.2.2.1 = h.2.2.2.1 := by rw [← eg]; rfl
  have q15 : h2.2.2.2.1 196 15 = some 199 := by rw [er]; exact m.r15
  have q17 : h2.2.2.2.1 196 17 = some 201 := by rw [er]; exact m.mw.2.1
  have z196 : zsh h2 196 = some (12, 39) := zsh_by h1 (by decide +kernel)
  have z199 : zsh h2 199 = some (14, 363) := zsh_by h1 (by decide +kernel)
  have z201 : zsh h2 201 = some (14, 76) := zsh_by h1 (by decide +kernel)
  have M : nMo A s 201 0 h2 := (z.lm m).1.1.fr (fun k => e2 _ _ (by decide))
  have hT := z.1.2.1
  have hB := z.1.2.2
  have hI := z.1.1.1
  have hN := z.2.1.1
  have k0 : (0 : Int32).toInt = 0 := by decide
  obtain ⟨b1, b2, b3, b4, b5⟩ := hI.2.2.1
  rw [← e3 14 (by decide) (by decide)] at hp
  have lt0 : (99999 : Int32).toInt = 99999 := by decide
  have lt1 : (nI 0 : Int32).toInt = 0 := by decide
  have lt2 : (nI 1 : Int32).toInt = 1 := by decide
  have lt3 : (nI 2 : Int32).toInt = 2 := by decide
  have lt4 : (nI 6 : Int32).toInt = 6 := by decide
  show zPn N none d mX12_by (0, [(0, .inr (.inr (some 196))), (1, .inl x1), (2, .inl x2)], [], h) _
  refine pa_aload_n (pc' := 1) dX12_by_0 rfl rfl ?_
  refine pa_callv (pc' := 4) (vs := []) (rest := []) dX12_by_1 ml_12_167 (by decide) rfl rfl rfl (fun d' _ => (m_good s196)) (fun v h3 hq => ?_)
  obtain ⟨ev, eh⟩ := hq
  subst ev
  show zPn N none d mX12_by (4, _, [], h3) _
  rw [eg] at eh
  subst eh
  have t0 : h3.2.1 196 11 = 0 := by rw [← eg]; exact zsI_eq
  refine pa_aload_n (pc' := 5) dX12_by_4 rfl rfl ?_
  refine pa_iload_n (pc' := 6) dX12_by_5 rfl rfl ?_
  refine pa_callv (pc' := 9) (vs := [.inl x1]) (rest := []) dX12_by_6 ml_12_274 (by decide) rfl rfl rfl (fun d' _ => (M_isBox hA q15 h1)) (fun v g9 hq => ?_)
  obtain ⟨ev, eh⟩ := hq
  subst ev
  rw [eh]
  show zPn N none d mX12_by (9, _, [.inl (if 0 ≤ (x1).toInt ∧ (x1).toInt < (cB A:Int) then 1 else 0)], h3) _
  split
  · next y1 =>
      refine pa_if_t (pc' := 18) dX12_by_9 (by decide) (by decide) ?_
      refine pa_iload_n (pc' := 19) dX12_by_18 rfl rfl ?_
      refine pa_iconst (v := nI 0) (pc' := 20) dX12_by_19 (by decide) rfl ?_
      refine pa_ldcw (pc' := 23) dX12_by_20 cl_12_340 rfl rfl ?_
      refine pa_calls (pc' := 26) (kd := 1) (vs := [.inl x2, .inl (nI 0), .inl 99999]) (rest := []) dX12_by_23 ml_12_149 (.inl rfl) rfl rfl rfl (fun d' _ => (in_v)) (fun v g9 hq => ?_)
      obtain ⟨ev, eh⟩ := hq
      subst ev
      rw [eh]
      show zPn N none d mX12_by (26, _, [.inl (if ((nI 0)).toInt ≤ (x2).toInt ∧ (x2).toInt ≤ ((99999 : Int32)).toInt then 1 else 0)], h3) _
      split
      · next y2 =>
          refine pa_if_t (pc' := 35) dX12_by_26 (by decide) (by decide) ?_
          exact G_by12 (by decide +kernel) (fun v g q => (q.2.2 39 z196).trans (t0.trans (show cd_by A x1 x2 = 0 from (by unfold cd_by; rw [if_pos (by first | assumption | omega | exact fun q => absurd (twB_iff.mp q).1.1 (by assumption) | exact fun q => absurd (twB_iff.mp q).1.2 (by assumption) | exact fun q => absurd (by assumption) (twB_iff.mp q).2 | exact twB_iff.mpr ⟨⟨by assumption, by assumption⟩, by assumption⟩ | exact fun q => q.2.2.2.2.1 (by assumption) | exact fun q => q.2.2.2.2.2 (by assumption) | exact fun q => absurd q.1 (by assumption) | exact fun q => absurd q.2.1 (by assumption) | exact fun q => absurd q.2.2.1 (by assumption) | exact fun q => absurd q.2.2.2.1 (by assumption) | exact ⟨by assumption, by assumption, by assumption, by assumption, by assumption, by assumption⟩), if_pos (by first | assumption | omega | exact fun q => absurd (twB_iff.mp q).1.1 (by assumption) | exact fun q => absurd (twB_iff.mp q).1.2 (by assumption) | exact fun q => absurd (by assumption) (twB_iff.mp q).2 | exact twB_iff.mpr ⟨⟨by assumption, by assumption⟩, by assumption⟩ | exact fun q => q.2.2.2.2.1 (by assumption) | exact fun q => q.2.2.2.2.2 (by assumption) | exact fun q => absurd q.1 (by assumption) | exact fun q => absurd q.2.1 (by assumption) | exact fun q => absurd q.2.2.1 (by assumption) | exact fun q => absurd q.2.2.2.1 (by assumption) | exact ⟨by assumption, by assumption, by assumption, by assumption, by assumption, by assumption⟩)])).symm))
      · next y2 =>
          refine pa_if_f (pc' := 29) dX12_by_26 (by decide) (by decide) rfl ?_
          refine pa_aload_n (pc' := 30) dX12_by_29 rfl rfl ?_
          refine pa_iconst (v := nI 2) (pc' := 31) dX12_by_30 (by decide) rfl ?_
          refine pa_callv (pc' := 34) (vs := [.inl (nI 2)]) (rest := []) dX12_by_31 ml_12_170 (by decide) rfl rfl rfl (fun d' _ => (m_no z196)) (fun v g8 hq => ?_)
          obtain ⟨ev, eh⟩ := hq
          subst ev
          show zPn N none d mX12_by (34, _, [.inl ((-1))], g8) _
          refine pa_iret dX12_by_34 rfl rfl ?_
          exact (by rw [eh, zsI_eq, show cd_by A x1 x2 = 2 from (by unfold cd_by; rw [if_pos (by first | assumption | omega | exact fun q => absurd (twB_iff.mp q).1.1 (by assumption) | exact fun q => absurd (twB_iff.mp q).1.2 (by assumption) | exact fun q => absurd (by assumption) (twB_iff.mp q).2 | exact twB_iff.mpr ⟨⟨by assumption, by assumption⟩, by assumption⟩ | exact fun q => q.2.2.2.2.1 (by assumption) | exact fun q => q.2.2.2.2.2 (by assumption) | exact fun q => absurd q.1 (by assumption) | exact fun q => absurd q.2.1 (by assumption) | exact fun q => absurd q.2.2.1 (by assumption) | exact fun q => absurd q.2.2.2.1 (by assumption) | exact ⟨by assumption, by assumption, by assumption, by assumption, by assumption, by assumption⟩), if_neg (by first | assumption | omega | exact fun q => absurd (twB_iff.mp q).1.1 (by assumption) | exact fun q => absurd (twB_iff.mp q).1.2 (by assumption) | exact fun q => absurd (by assumption) (twB_iff.mp q).2 | exact twB_iff.mpr ⟨⟨by assumption, by assumption⟩, by assumption⟩ | exact fun q => q.2.2.2.2.1 (by assumption) | exact fun q => q.2.2.2.2.2 (by assumption) | exact fun q => absurd q.1 (by assumption) | exact fun q => absurd q.2.1 (by assumption) | exact fun q => absurd q.2.2.1 (by assumption) | exact fun q => absurd q.2.2.2.1 (by assumption) | exact ⟨by assumption, by assumption, by assumption, by assumption, by assumption, by assumption⟩)])]; rfl : g8.2.1 196 11 = cd_by A x1 x2)
  · next y1 =>
      refine pa_if_f (pc' := 12) dX12_by_9 (by decide) (by decide) rfl ?_
      refine pa_aload_n (pc' := 13) dX12_by_12 rfl rfl ?_
      refine pa_iconst (v := nI 1) (pc' := 14) dX12_by_13 (by decide) rfl ?_
      refine pa_callv (pc' := 17) (vs := [.inl (nI 1)]) (rest := []) dX12_by_14 ml_12_170 (by decide) rfl rfl rfl (fun d' _ => (m_no z196)) (fun v g8 hq => ?_)
      obtain ⟨ev, eh⟩ := hq
      subst ev
      show zPn N none d mX12_by (17, _, [.inl ((-1))], g8) _
      refine pa_iret dX12_by_17 rfl rfl ?_
      exact (by rw [eh, zsI_eq, show cd_by A x1 x2 = 1 from (by unfold cd_by; rw [if_neg (by first | assumption | omega | exact fun q => absurd (twB_iff.mp q).1.1 (by assumption) | exact fun q => absurd (twB_iff.mp q).1.2 (by assumption) | exact fun q => absurd (by assumption) (twB_iff.mp q).2 | exact twB_iff.mpr ⟨⟨by assumption, by assumption⟩, by assumption⟩ | exact fun q => q.2.2.2.2.1 (by assumption) | exact fun q => q.2.2.2.2.2 (by assumption) | exact fun q => absurd q.1 (by assumption) | exact fun q => absurd q.2.1 (by assumption) | exact fun q => absurd q.2.2.1 (by assumption) | exact fun q => absurd q.2.2.2.1 (by assumption) | exact ⟨by assumption, by assumption, by assumption, by assumption, by assumption, by assumption⟩)])]; rfl : g8.2.1 196 11 = cd_by A x1 x2)
theorem R_match11 (z : lZ A c s H J h) (hi : lInv t h) : zPa d mX11_match [.inr (.inr (some 0))] h (fun _ g => g.2.1 0 2 = cd_match A) := by
  intro N
  have h1 := hi.2.2.2.2.1
  have hA := z.1.1
  have hT := z.1.2.1
  have hB := z.1.2.2
  have hI := hA.1
  have hN := z.2.1.1
  have K := hA.2.2.2.1
  have hc2 : c = 2 ∨ c = 42 := hA.2.1
  obtain ⟨b1, b2, b3, b4, b5⟩ := hI.2.2.1
  have s0 : zsh h 0 = some (11, 16) := zsh_by h1 (by decide +kernel)
  obtain ⟨sc, sc1, sc2, sc4, sc5, scw, scb⟩ := cSh hA.2.1 h1
  obtain ⟨c9, c12, c13, cw, cb⟩ := cRf_of hi.1 hA.2.1
  have S := hi.nw
  obtain ⟨⟨s86, s87, s88, s89, s90, s91⟩, r87, r88, r89, r90, r91⟩ := S.o86
  have r3 := hA.2.2.1
  have r6 := S.2.1
  obtain ⟨n1, n2, n3, n4⟩ := z.2.2.1.1
  have lt0 : (nI 1 : Int32).toInt = 1 := by decide
  show zPn N none d mX11_match (0, [(0, .inr (.inr (some 0)))], [], h) _
  refine pa_aload_n (pc' := 1) dX11_match_0 rfl rfl ?_
  refine pa_callv (pc' := 4) (vs := []) (rest := []) dX11_match_1 ml_11_222 (by decide) rfl rfl rfl (fun d' _ => (N_hasPost hA h1)) (fun v g9 hq => ?_)
  obtain ⟨ev, eh⟩ := hq
  subst ev
  rw [eh]
  show zPn N none d mX11_match (4, _, [.inl (if cI A = 0 then 0 else 1)], h) _
  split
  · next y1 =>
      refine pa_if_f (pc' := 7) dX11_match_4 (by decide) (by decide) rfl ?_
      refine pa_aload_n (pc' := 8) dX11_match_7 rfl rfl ?_
      refine pa_iconst (v := nI 1) (pc' := 9) dX11_match_8 (by decide) rfl ?_
      refine pa_callv (pc' := 12) (vs := [.inl (nI 1)]) (rest := []) dX11_match_9 ml_11_98 (by decide) rfl rfl rfl (fun d' _ => (c_ref s0)) (fun v g8 hq => ?_)
      obtain ⟨ev, eh⟩ := hq
      subst ev
      show zPn N none d mX11_match (12, _, [.inl ((-1))], g8) _
      refine pa_iret dX11_match_12 rfl rfl ?_
      exact (by rw [eh, zsI_eq, show cd_match A = 1 from (by unfold cd_match; rw [if_neg (by first | assumption | omega | exact fun q => absurd (twB_iff.mp q).1.1 (by assumption) | exact fun q => absurd (twB_iff.mp q).1.2 (by assumption) | exact fun q => absurd (by assumption) (twB_iff.mp q).2 | exact twB_iff.mpr ⟨⟨by assumption, by assumption⟩, by assumption⟩ | exact fun q => q.2.2.2.2.1 (by assumption) | exact fun q => q.2.2.2.2.2 (by assumption) | exact fun q => absurd q.1 (by assumption) | exact fun q => absurd q.2.1 (by assumption) | exact fun q => absurd q.2.2.1 (by assumption) | exact fun q => absurd q.2.2.2.1 (by assumption) | exact ⟨by assumption, by assumption, by assumption, by assumption, by assumption, by assumption⟩)])]; rfl : g8.2.1 0 2 = cd_match A)
  · next y1 =>
      refine pa_if_t (pc' := 13) dX11_match_4 (by decide) (by decide) ?_
      exact G_match11 s0 (sh11 h1) (by decide +kernel) (fun v g q => q.trans (show cd_match A = 0 from (by unfold cd_match; rw [if_pos (by first | assumption | omega | exact fun q => absurd (twB_iff.mp q).1.1 (by assumption) | exact fun q => absurd (twB_iff.mp q).1.2 (by assumption) | exact fun q => absurd (by assumption) (twB_iff.mp q).2 | exact twB_iff.mpr ⟨⟨by assumption, by assumption⟩, by assumption⟩ | exact fun q => q.2.2.2.2.1 (by assumption) | exact fun q => q.2.2.2.2.2 (by assumption) | exact fun q => absurd q.1 (by assumption) | exact fun q => absurd q.2.1 (by assumption) | exact fun q => absurd q.2.2.1 (by assumption) | exact fun q => absurd q.2.2.2.1 (by assumption) | exact ⟨by assumption, by assumption, by assumption, by assumption, by assumption, by assumption⟩)])).symm)
theorem R_match12 (z : lZ A c s H J g) (m : lMid kk im t g h) : zPa d mX12_match [.inr (.inr (some 196))] h (fun _ g => g.2.1 196 11 = cd_match A) := by
  intro N
  have hp := M_hasBt z m
  have s196 : zsh h 196 = some (12, 39) := zsh_by m.2.1.2.2.2 (by decide +kernel)
  generalize eg : zsI (zsI h 196 0 0) 196 11 0 = h2
  have e2 : ∀ a k, a ≠ 196 → h2.2.1 a k = h.2.1 a k := fun a k ha => by rw [← eg, zsI_no (by omega), zsI_no (by omega)]
  have e3 : ∀ k, k ≠ 0 → k ≠ 11 → h2.2.1 196 k = h.2.1 196 k := fun k w1 w2 => by rw [← eg, zsI_no (by omega), zsI_no (by omega)]
  have h1 : h2.1 = hh_487.1 := by rw [← eg]; exact m.2.1.2.2.2
  have hA : lPA A c h2 := by rw [← eg]; exact (m.pa z.1.1).gd
  have B : cI A ≠ 0 → bgM A s h2 := fun ne => by rw [← eg]; exact (z.bm m ne).gd
  have er : h2.2.2.2.1 = h.2.2.2.1 := by rw [← eg]; rfl
  have q15 : h2.2.2.2.1 196 15 = some 199 := by rw [er]; exact m.r15
  have q17 : h2.2.2.2.1 196 17 = some 201 := by rw [er]; exact m.mw.2.1
  have z196 : zsh h2 196 = some (12, 39) := zsh_by h1 (by decide +kernel)
  have z199 : zsh h2 199 = some (14, 363) := zsh_by h1 (by decide +kernel)
  have z201 : zsh h2 201 = some (14, 76) := zsh_by h1 (by decide +kernel)
  have M : nMo A s 201 0 h2 := (z.lm m).1.1.fr (fun k => e2 _ _ (by decide))
  have hT := z.1.2.1
  have hB := z.1.2.2
  have hI := z.1.1.1
  have hN := z.2.1.1
  have k0 : (0 : Int32).toInt = 0 := by decide
  obtain ⟨b1, b2, b3, b4, b5⟩ := hI.2.2.1
  rw [← e3 14 (by decide) (by decide)] at hp
  have lt0 : (nI 1 : Int32).toInt = 1 := by decide
  show zPn N none d mX12_match (0, [(0, .inr (.inr (some 196)))], [], h) _
  refine pa_aload_n (pc' := 1) dX12_match_0 rfl rfl ?_
  refine pa_callv (pc' := 4) (vs := []) (rest := []) dX12_match_1 ml_12_167 (by decide) rfl rfl rfl (fun d' _ => (m_good s196)) (fun v h3 hq => ?_)
  obtain ⟨ev, eh⟩ := hq
  subst ev
  show zPn N none d mX12_match (4, _, [], h3) _
  rw [eg] at eh
  subst eh
  have t0 : h3.2.1 196 11 = 0 := by rw [← eg]; exact zsI_eq
  rcases hp with ⟨y1, hp⟩ | ⟨y1, hp⟩
  · refine pa_aload_n (pc' := 5) dX12_match_4 rfl rfl ?_
    refine pa_getI (pc' := 8) (n := 39) (v := 0) dX12_match_5 fl_12_180 z196 (by decide) hp rfl ?_
    refine pa_if_f (pc' := 11) dX12_match_8 (by decide) (by decide) rfl ?_
    refine pa_aload_n (pc' := 12) dX12_match_11 rfl rfl ?_
    refine pa_iconst (v := nI 1) (pc' := 13) dX12_match_12 (by decide) rfl ?_
    refine pa_callv (pc' := 16) (vs := [.inl (nI 1)]) (rest := []) dX12_match_13 ml_12_170 (by decide) rfl rfl rfl (fun d' _ => (m_no z196)) (fun v g8 hq => ?_)
    obtain ⟨ev, eh⟩ := hq
    subst ev
    show zPn N none d mX12_match (16, _, [.inl ((-1))], g8) _
    refine pa_iret dX12_match_16 rfl rfl ?_
    exact (by rw [eh, zsI_eq, show cd_match A = 1 from (by unfold cd_match; rw [if_neg (by first | assumption | omega | exact fun q => absurd (twB_iff.mp q).1.1 (by assumption) | exact fun q => absurd (twB_iff.mp q).1.2 (by assumption) | exact fun q => absurd (by assumption) (twB_iff.mp q).2 | exact twB_iff.mpr ⟨⟨by assumption, by assumption⟩, by assumption⟩ | exact fun q => q.2.2.2.2.1 (by assumption) | exact fun q => q.2.2.2.2.2 (by assumption) | exact fun q => absurd q.1 (by assumption) | exact fun q => absurd q.2.1 (by assumption) | exact fun q => absurd q.2.2.1 (by assumption) | exact fun q => absurd q.2.2.2.1 (by assumption) | exact ⟨by assumption, by assumption, by assumption, by assumption, by assumption, by assumption⟩)])]; rfl : g8.2.1 196 11 = cd_match A)
  refine pa_aload_n (pc' := 5) dX12_match_4 rfl rfl ?_
  refine pa_getI (pc' := 8) (n := 39) (v := 1) dX12_match_5 fl_12_180 z196 (by decide) hp rfl ?_
  refine pa_if_t (pc' := 17) dX12_match_8 (by decide) (by decide) ?_
  exact G_match12 (by decide +kernel) (fun v g q => (q.2.2 39 z196).trans (t0.trans (show cd_match A = 0 from (by unfold cd_match; rw [if_pos (by first | assumption | omega | exact fun q => absurd (twB_iff.mp q).1.1 (by assumption) | exact fun q => absurd (twB_iff.mp q).1.2 (by assumption) | exact fun q => absurd (by assumption) (twB_iff.mp q).2 | exact twB_iff.mpr ⟨⟨by assumption, by assumption⟩, by assumption⟩ | exact fun q => q.2.2.2.2.1 (by assumption) | exact fun q => q.2.2.2.2.2 (by assumption) | exact fun q => absurd q.1 (by assumption) | exact fun q => absurd q.2.1 (by assumption) | exact fun q => absurd q.2.2.1 (by assumption) | exact fun q => absurd q.2.2.2.1 (by assumption) | exact ⟨by assumption, by assumption, by assumption, by assumption, by assumption, by assumption⟩)])).symm))
theorem R_matchDays11 (z : lZ A c s H J h) (hi : lInv t h) : zPa d mX11_matchDays [.inr (.inr (some 0))] h (fun _ g => g.2.1 0 2 = cd_matchDays A) := by
  intro N
  have h1 := hi.2.2.2.2.1
  have hA := z.1.1
  have hT := z.1.2.1
  have hB := z.1.2.2
  have hI := hA.1
  have hN := z.2.1.1
  have K := hA.2.2.2.1
  have hc2 : c = 2 ∨ c = 42 := hA.2.1
  obtain ⟨b1, b2, b3, b4, b5⟩ := hI.2.2.1
  have s0 : zsh h 0 = some (11, 16) := zsh_by h1 (by decide +kernel)
  obtain ⟨sc, sc1, sc2, sc4, sc5, scw, scb⟩ := cSh hA.2.1 h1
  obtain ⟨c9, c12, c13, cw, cb⟩ := cRf_of hi.1 hA.2.1
  have S := hi.nw
  obtain ⟨⟨s86, s87, s88, s89, s90, s91⟩, r87, r88, r89, r90, r91⟩ := S.o86
  have r3 := hA.2.2.1
  have r6 := S.2.1
  obtain ⟨n1, n2, n3, n4⟩ := z.2.2.1.1
  have lt0 : (nI 1 : Int32).toInt = 1 := by decide
  show zPn N none d mX11_matchDays (0, [(0, .inr (.inr (some 0)))], [], h) _
  refine pa_aload_n (pc' := 1) dX11_matchDays_0 rfl rfl ?_
  refine pa_callv (pc' := 4) (vs := []) (rest := []) dX11_matchDays_1 ml_11_222 (by decide) rfl rfl rfl (fun d' _ => (N_hasPost hA h1)) (fun v g9 hq => ?_)
  obtain ⟨ev, eh⟩ := hq
  subst ev
  rw [eh]
  show zPn N none d mX11_matchDays (4, _, [.inl (if cI A = 0 then 0 else 1)], h) _
  split
  · next y1 =>
      refine pa_if_f (pc' := 7) dX11_matchDays_4 (by decide) (by decide) rfl ?_
      refine pa_aload_n (pc' := 8) dX11_matchDays_7 rfl rfl ?_
      refine pa_iconst (v := nI 1) (pc' := 9) dX11_matchDays_8 (by decide) rfl ?_
      refine pa_callv (pc' := 12) (vs := [.inl (nI 1)]) (rest := []) dX11_matchDays_9 ml_11_98 (by decide) rfl rfl rfl (fun d' _ => (c_ref s0)) (fun v g8 hq => ?_)
      obtain ⟨ev, eh⟩ := hq
      subst ev
      show zPn N none d mX11_matchDays (12, _, [.inl ((-1))], g8) _
      refine pa_iret dX11_matchDays_12 rfl rfl ?_
      exact (by rw [eh, zsI_eq, show cd_matchDays A = 1 from (by unfold cd_matchDays; rw [if_neg (by first | assumption | omega | exact fun q => absurd (twB_iff.mp q).1.1 (by assumption) | exact fun q => absurd (twB_iff.mp q).1.2 (by assumption) | exact fun q => absurd (by assumption) (twB_iff.mp q).2 | exact twB_iff.mpr ⟨⟨by assumption, by assumption⟩, by assumption⟩ | exact fun q => q.2.2.2.2.1 (by assumption) | exact fun q => q.2.2.2.2.2 (by assumption) | exact fun q => absurd q.1 (by assumption) | exact fun q => absurd q.2.1 (by assumption) | exact fun q => absurd q.2.2.1 (by assumption) | exact fun q => absurd q.2.2.2.1 (by assumption) | exact ⟨by assumption, by assumption, by assumption, by assumption, by assumption, by assumption⟩)])]; rfl : g8.2.1 0 2 = cd_matchDays A)
  · next y1 =>
      refine pa_if_t (pc' := 13) dX11_matchDays_4 (by decide) (by decide) ?_
      exact G_matchDays11 s0 (sh11 h1) (by decide +kernel) (fun v g q => q.trans (show cd_matchDays A = 0 from (by unfold cd_matchDays; rw [if_pos (by first | assumption | omega | exact fun q => absurd (twB_iff.mp q).1.1 (by assumption) | exact fun q => absurd (twB_iff.mp q).1.2 (by assumption) | exact fun q => absurd (by assumption) (twB_iff.mp q).2 | exact twB_iff.mpr ⟨⟨by assumption, by assumption⟩, by assumption⟩ | exact fun q => q.2.2.2.2.1 (by assumption) | exact fun q => q.2.2.2.2.2 (by assumption) | exact fun q => absurd q.1 (by assumption) | exact fun q => absurd q.2.1 (by assumption) | exact fun q => absurd q.2.2.1 (by assumption) | exact fun q => absurd q.2.2.2.1 (by assumption) | exact ⟨by assumption, by assumption, by assumption, by assumption, by assumption, by assumption⟩)])).symm)
theorem R_matchDays12 (z : lZ A c s H J g) (m : lMid kk im t g h) : zPa d mX12_matchDays [.inr (.inr (some 196))] h (fun _ g => g.2.1 196 11 = cd_matchDays A) := by
  intro N
  have hp := M_hasBt z m
  have s196 : zsh h 196 = some (12, 39) := zsh_by m.2.1.2.2.2 (by decide +kernel)
  generalize eg : zsI (zsI h 196 0 0) 196 11 0 = h2
  have e2 : ∀ a k, a ≠ 196 → h2.2.1 a k = h.2.1 a k := fun a k ha => by rw [← eg, zsI_no (by omega), zsI_no (by omega)]
  have e3 : ∀ k, k ≠ 0 → k ≠ 11 → h2.2.1 196 k = h.2.1 196 k := fun k w1 w2 => by rw [← eg, zsI_no (by omega), zsI_no (by omega)]
  have h1 : h2.1 = hh_487.1 := by rw [← eg]; exact m.2.1.2.2.2
  have hA : lPA A c h2 := by rw [← eg]; exact (m.pa z.1.1).gd
  have B : cI A ≠ 0 → bgM A s h2 := fun ne => by rw [← eg]; exact (z.bm m ne).gd
  have er : h2.2.2.2.1 = h.2.2.2.1 := by rw [← eg]; rfl
  have q15 : h2.2.2.2.1 196 15 = some 199 := by rw [er]; exact m.r15
  have q17 : h2.2.2.2.1 196 17 = some 201 := by rw [er]; exact m.mw.2.1
  have z196 : zsh h2 196 = some (12, 39) := zsh_by h1 (by decide +kernel)
  have z199 : zsh h2 199 = some (14, 363) := zsh_by h1 (by decide +kernel)
  have z201 : zsh h2 201 = some (14, 76) := zsh_by h1 (by decide +kernel)
  have M : nMo A s 201 0 h2 := (z.lm m).1.1.fr (fun k => e2 _ _ (by decide))
  have hT := z.1.2.1
  have hB := z.1.2.2
  have hI := z.1.1.1
  have hN := z.2.1.1
  have k0 : (0 : Int32).toInt = 0 := by decide
  obtain ⟨b1, b2, b3, b4, b5⟩ := hI.2.2.1
  rw [← e3 14 (by decide) (by decide)] at hp
  have lt0 : (nI 1 : Int32).toInt = 1 := by decide
  show zPn N none d mX12_matchDays (0, [(0, .inr (.inr (some 196)))], [], h) _
  refine pa_aload_n (pc' := 1) dX12_matchDays_0 rfl rfl ?_
  refine pa_callv (pc' := 4) (vs := []) (rest := []) dX12_matchDays_1 ml_12_167 (by decide) rfl rfl rfl (fun d' _ => (m_good s196)) (fun v h3 hq => ?_)
  obtain ⟨ev, eh⟩ := hq
  subst ev
  show zPn N none d mX12_matchDays (4, _, [], h3) _
  rw [eg] at eh
  subst eh
  have t0 : h3.2.1 196 11 = 0 := by rw [← eg]; exact zsI_eq
  rcases hp with ⟨y1, hp⟩ | ⟨y1, hp⟩
  · refine pa_aload_n (pc' := 5) dX12_matchDays_4 rfl rfl ?_
    refine pa_getI (pc' := 8) (n := 39) (v := 0) dX12_matchDays_5 fl_12_180 z196 (by decide) hp rfl ?_
    refine pa_if_f (pc' := 11) dX12_matchDays_8 (by decide) (by decide) rfl ?_
    refine pa_aload_n (pc' := 12) dX12_matchDays_11 rfl rfl ?_
    refine pa_iconst (v := nI 1) (pc' := 13) dX12_matchDays_12 (by decide) rfl ?_
    refine pa_callv (pc' := 16) (vs := [.inl (nI 1)]) (rest := []) dX12_matchDays_13 ml_12_170 (by decide) rfl rfl rfl (fun d' _ => (m_no z196)) (fun v g8 hq => ?_)
    obtain ⟨ev, eh⟩ := hq
    subst ev
    show zPn N none d mX12_matchDays (16, _, [.inl ((-1))], g8) _
    refine pa_iret dX12_matchDays_16 rfl rfl ?_
    exact (by rw [eh, zsI_eq, show cd_matchDays A = 1 from (by unfold cd_matchDays; rw [if_neg (by first | assumption | omega | exact fun q => absurd (twB_iff.mp q).1.1 (by assumption) | exact fun q => absurd (twB_iff.mp q).1.2 (by assumption) | exact fun q => absurd (by assumption) (twB_iff.mp q).2 | exact twB_iff.mpr ⟨⟨by assumption, by assumption⟩, by assumption⟩ | exact fun q => q.2.2.2.2.1 (by assumption) | exact fun q => q.2.2.2.2.2 (by assumption) | exact fun q => absurd q.1 (by assumption) | exact fun q => absurd q.2.1 (by assumption) | exact fun q => absurd q.2.2.1 (by assumption) | exact fun q => absurd q.2.2.2.1 (by assumption) | exact ⟨by assumption, by assumption, by assumption, by assumption, by assumption, by assumption⟩)])]; rfl : g8.2.1 196 11 = cd_matchDays A)
  refine pa_aload_n (pc' := 5) dX12_matchDays_4 rfl rfl ?_
  refine pa_getI (pc' := 8) (n := 39) (v := 1) dX12_matchDays_5 fl_12_180 z196 (by decide) hp rfl ?_
  refine pa_if_t (pc' := 17) dX12_matchDays_8 (by decide) (by decide) ?_
  exact G_matchDays12 (by decide +kernel) (fun v g q => (q.2.2 39 z196).trans (t0.trans (show cd_matchDays A = 0 from (by unfold cd_matchDays; rw [if_pos (by first | assumption | omega | exact fun q => absurd (twB_iff.mp q).1.1 (by assumption) | exact fun q => absurd (twB_iff.mp q).1.2 (by assumption) | exact fun q => absurd (by assumption) (twB_iff.mp q).2 | exact twB_iff.mpr ⟨⟨by assumption, by assumption⟩, by assumption⟩ | exact fun q => q.2.2.2.2.1 (by assumption) | exact fun q => q.2.2.2.2.2 (by assumption) | exact fun q => absurd q.1 (by assumption) | exact fun q => absurd q.2.1 (by assumption) | exact fun q => absurd q.2.2.1 (by assumption) | exact fun q => absurd q.2.2.2.1 (by assumption) | exact ⟨by assumption, by assumption, by assumption, by assumption, by assumption, by assumption⟩)])).symm))
theorem R_matchOf11 (z : lZ A c s H J h) (hi : lInv t h) : zPa d mX11_matchOf [.inr (.inr (some 0)), .inl x1] h (fun _ g => g.2.1 0 2 = cd_matchOf A x1) := by
  intro N
  have h1 := hi.2.2.2.2.1
  have hA := z.1.1
  have hT := z.1.2.1
  have hB := z.1.2.2
  have hI := hA.1
  have hN := z.2.1.1
  have K := hA.2.2.2.1
  have hc2 : c = 2 ∨ c = 42 := hA.2.1
  obtain ⟨b1, b2, b3, b4, b5⟩ := hI.2.2.1
  have s0 : zsh h 0 = some (11, 16) := zsh_by h1 (by decide +kernel)
  obtain ⟨sc, sc1, sc2, sc4, sc5, scw, scb⟩ := cSh hA.2.1 h1
  obtain ⟨c9, c12, c13, cw, cb⟩ := cRf_of hi.1 hA.2.1
  have S := hi.nw
  obtain ⟨⟨s86, s87, s88, s89, s90, s91⟩, r87, r88, r89, r90, r91⟩ := S.o86
  have r3 := hA.2.2.1
  have r6 := S.2.1
  obtain ⟨n1, n2, n3, n4⟩ := z.2.2.1.1
  have lt0 : (nI 1 : Int32).toInt = 1 := by decide
  show zPn N none d mX11_matchOf (0, [(0, .inr (.inr (some 0))), (1, .inl x1)], [], h) _
  refine pa_aload_n (pc' := 1) dX11_matchOf_0 rfl rfl ?_
  refine pa_iload_n (pc' := 2) dX11_matchOf_1 rfl rfl ?_
  refine pa_callv (pc' := 5) (vs := [.inl x1]) (rest := []) dX11_matchOf_2 ml_11_147 (by decide) rfl rfl rfl (fun d' _ => (N_isBox hA h1)) (fun v g9 hq => ?_)
  obtain ⟨ev, eh⟩ := hq
  subst ev
  rw [eh]
  show zPn N none d mX11_matchOf (5, _, [.inl (if 0 ≤ (x1).toInt ∧ (x1).toInt < (cB A:Int) then 1 else 0)], h) _
  split
  · next y1 =>
      refine pa_if_t (pc' := 14) dX11_matchOf_5 (by decide) (by decide) ?_
      exact G_matchOf11 s0 (sh11 h1) (by decide +kernel) (fun v g q => q.trans (show cd_matchOf A x1 = 0 from (by unfold cd_matchOf; rw [if_pos (by first | assumption | omega | exact fun q => absurd (twB_iff.mp q).1.1 (by assumption) | exact fun q => absurd (twB_iff.mp q).1.2 (by assumption) | exact fun q => absurd (by assumption) (twB_iff.mp q).2 | exact twB_iff.mpr ⟨⟨by assumption, by assumption⟩, by assumption⟩ | exact fun q => q.2.2.2.2.1 (by assumption) | exact fun q => q.2.2.2.2.2 (by assumption) | exact fun q => absurd q.1 (by assumption) | exact fun q => absurd q.2.1 (by assumption) | exact fun q => absurd q.2.2.1 (by assumption) | exact fun q => absurd q.2.2.2.1 (by assumption) | exact ⟨by assumption, by assumption, by assumption, by assumption, by assumption, by assumption⟩)])).symm)
  · next y1 =>
      refine pa_if_f (pc' := 8) dX11_matchOf_5 (by decide) (by decide) rfl ?_
      refine pa_aload_n (pc' := 9) dX11_matchOf_8 rfl rfl ?_
      refine pa_iconst (v := nI 1) (pc' := 10) dX11_matchOf_9 (by decide) rfl ?_
      refine pa_callv (pc' := 13) (vs := [.inl (nI 1)]) (rest := []) dX11_matchOf_10 ml_11_98 (by decide) rfl rfl rfl (fun d' _ => (c_ref s0)) (fun v g8 hq => ?_)
      obtain ⟨ev, eh⟩ := hq
      subst ev
      show zPn N none d mX11_matchOf (13, _, [.inl ((-1))], g8) _
      refine pa_iret dX11_matchOf_13 rfl rfl ?_
      exact (by rw [eh, zsI_eq, show cd_matchOf A x1 = 1 from (by unfold cd_matchOf; rw [if_neg (by first | assumption | omega | exact fun q => absurd (twB_iff.mp q).1.1 (by assumption) | exact fun q => absurd (twB_iff.mp q).1.2 (by assumption) | exact fun q => absurd (by assumption) (twB_iff.mp q).2 | exact twB_iff.mpr ⟨⟨by assumption, by assumption⟩, by assumption⟩ | exact fun q => q.2.2.2.2.1 (by assumption) | exact fun q => q.2.2.2.2.2 (by assumption) | exact fun q => absurd q.1 (by assumption) | exact fun q => absurd q.2.1 (by assumption) | exact fun q => absurd q.2.2.1 (by assumption) | exact fun q => absurd q.2.2.2.1 (by assumption) | exact ⟨by assumption, by assumption, by assumption, by assumption, by assumption, by assumption⟩)])]; rfl : g8.2.1 0 2 = cd_matchOf A x1)
theorem R_matchOf12 (z : lZ A c s H J g) (m : lMid kk im t g h) : zPa d mX12_matchOf [.inr (.inr (some 196)), .inl x1] h (fun _ g => g.2.1 196 11 = cd_matchOf A x1) := by
  intro N
  have hp := M_hasBt z m
  have s196 : zsh h 196 = some (12, 39) := zsh_by m.2.1.2.2.2 (by decide +kernel)
  generalize eg : zsI (zsI h 196 0 0) 196 11 0 = h2
  have e2 : ∀ a k, a ≠ 196 → h2.2.1 a k = h.2.1 a k := fun a k ha => by rw [← eg, zsI_no (by omega), zsI_no (by omega)]
  have e3 : ∀ k, k ≠ 0 → k ≠ 11 → h2.2.1 196 k = h.2.1 196 k := fun k w1 w2 => by rw [← eg, zsI_no (by omega), zsI_no (by omega)]
  have h1 : h2.1 = hh_487.1 := by rw [← eg]; exact m.2.1.2.2.2
  have hA : lPA A c h2 := by rw [← eg]; exact (m.pa z.1.1).gd
  have B : cI A ≠ 0 → bgM A s h2 := fun ne => by rw [← eg]; exact (z.bm m ne).gd
  have er : h2.2.2.2.1 = h.2.2.2.1 := by rw [← eg]; rfl
  have q15 : h2.2.2.2.1 196 15 = some 199 := by rw [er]; exact m.r15
  have q17 : h2.2.2.2.1 196 17 = some 201 := by rw [er]; exact m.mw.2.1
  have z196 : zsh h2 196 = some (12, 39) := zsh_by h1 (by decide +kernel)
  have z199 : zsh h2 199 = some (14, 363) := zsh_by h1 (by decide +kernel)
  have z201 : zsh h2 201 = some (14, 76) := zsh_by h1 (by decide +kernel)
  have M : nMo A s 201 0 h2 := (z.lm m).1.1.fr (fun k => e2 _ _ (by decide))
  have hT := z.1.2.1
  have hB := z.1.2.2
  have hI := z.1.1.1
  have hN := z.2.1.1
  have k0 : (0 : Int32).toInt = 0 := by decide
  obtain ⟨b1, b2, b3, b4, b5⟩ := hI.2.2.1
  rw [← e3 14 (by decide) (by decide)] at hp
  have lt0 : (nI 1 : Int32).toInt = 1 := by decide
  show zPn N none d mX12_matchOf (0, [(0, .inr (.inr (some 196))), (1, .inl x1)], [], h) _
  refine pa_aload_n (pc' := 1) dX12_matchOf_0 rfl rfl ?_
  refine pa_callv (pc' := 4) (vs := []) (rest := []) dX12_matchOf_1 ml_12_167 (by decide) rfl rfl rfl (fun d' _ => (m_good s196)) (fun v h3 hq => ?_)
  obtain ⟨ev, eh⟩ := hq
  subst ev
  show zPn N none d mX12_matchOf (4, _, [], h3) _
  rw [eg] at eh
  subst eh
  have t0 : h3.2.1 196 11 = 0 := by rw [← eg]; exact zsI_eq
  refine pa_aload_n (pc' := 5) dX12_matchOf_4 rfl rfl ?_
  refine pa_iload_n (pc' := 6) dX12_matchOf_5 rfl rfl ?_
  refine pa_callv (pc' := 9) (vs := [.inl x1]) (rest := []) dX12_matchOf_6 ml_12_274 (by decide) rfl rfl rfl (fun d' _ => (M_isBox hA q15 h1)) (fun v g9 hq => ?_)
  obtain ⟨ev, eh⟩ := hq
  subst ev
  rw [eh]
  show zPn N none d mX12_matchOf (9, _, [.inl (if 0 ≤ (x1).toInt ∧ (x1).toInt < (cB A:Int) then 1 else 0)], h3) _
  split
  · next y1 =>
      refine pa_if_t (pc' := 18) dX12_matchOf_9 (by decide) (by decide) ?_
      exact G_matchOf12 (by decide +kernel) (fun v g q => (q.2.2 39 z196).trans (t0.trans (show cd_matchOf A x1 = 0 from (by unfold cd_matchOf; rw [if_pos (by first | assumption | omega | exact fun q => absurd (twB_iff.mp q).1.1 (by assumption) | exact fun q => absurd (twB_iff.mp q).1.2 (by assumption) | exact fun q => absurd (by assumption) (twB_iff.mp q).2 | exact twB_iff.mpr ⟨⟨by assumption, by assumption⟩, by assumption⟩ | exact fun q => q.2.2.2.2.1 (by assumption) | exact fun q => q.2.2.2.2.2 (by assumption) | exact fun q => absurd q.1 (by assumption) | exact fun q => absurd q.2.1 (by assumption) | exact fun q => absurd q.2.2.1 (by assumption) | exact fun q => absurd q.2.2.2.1 (by assumption) | exact ⟨by assumption, by assumption, by assumption, by assumption, by assumption, by assumption⟩)])).symm))
  · next y1 =>
      refine pa_if_f (pc' := 12) dX12_matchOf_9 (by decide) (by decide) rfl ?_
      refine pa_aload_n (pc' := 13) dX12_matchOf_12 rfl rfl ?_
      refine pa_iconst (v := nI 1) (pc' := 14) dX12_matchOf_13 (by decide) rfl ?_
      refine pa_callv (pc' := 17) (vs := [.inl (nI 1)]) (rest := []) dX12_matchOf_14 ml_12_170 (by decide) rfl rfl rfl (fun d' _ => (m_no z196)) (fun v g8 hq => ?_)
      obtain ⟨ev, eh⟩ := hq
      subst ev
      show zPn N none d mX12_matchOf (17, _, [.inl ((-1))], g8) _
      refine pa_iret dX12_matchOf_17 rfl rfl ?_
      exact (by rw [eh, zsI_eq, show cd_matchOf A x1 = 1 from (by unfold cd_matchOf; rw [if_neg (by first | assumption | omega | exact fun q => absurd (twB_iff.mp q).1.1 (by assumption) | exact fun q => absurd (twB_iff.mp q).1.2 (by assumption) | exact fun q => absurd (by assumption) (twB_iff.mp q).2 | exact twB_iff.mpr ⟨⟨by assumption, by assumption⟩, by assumption⟩ | exact fun q => q.2.2.2.2.1 (by assumption) | exact fun q => q.2.2.2.2.2 (by assumption) | exact fun q => absurd q.1 (by assumption) | exact fun q => absurd q.2.1 (by assumption) | exact fun q => absurd q.2.2.1 (by assumption) | exact fun q => absurd q.2.2.2.1 (by assumption) | exact ⟨by assumption, by assumption, by assumption, by assumption, by assumption, by assumption⟩)])]; rfl : g8.2.1 196 11 = cd_matchOf A x1)
theorem R_fits11 (z : lZ A c s H J h) (hi : lInv t h) : zPa d mX11_fits [.inr (.inr (some 0))] h (fun _ g => g.2.1 0 2 = cd_fits A) := by
  intro N
  have h1 := hi.2.2.2.2.1
  have hA := z.1.1
  have hT := z.1.2.1
  have hB := z.1.2.2
  have hI := hA.1
  have hN := z.2.1.1
  have K := hA.2.2.2.1
  have hc2 : c = 2 ∨ c = 42 := hA.2.1
  obtain ⟨b1, b2, b3, b4, b5⟩ := hI.2.2.1
  have s0 : zsh h 0 = some (11, 16) := zsh_by h1 (by decide +kernel)
  obtain ⟨sc, sc1, sc2, sc4, sc5, scw, scb⟩ := cSh hA.2.1 h1
  obtain ⟨c9, c12, c13, cw, cb⟩ := cRf_of hi.1 hA.2.1
  have S := hi.nw
  obtain ⟨⟨s86, s87, s88, s89, s90, s91⟩, r87, r88, r89, r90, r91⟩ := S.o86
  have r3 := hA.2.2.1
  have r6 := S.2.1
  obtain ⟨n1, n2, n3, n4⟩ := z.2.2.1.1
  have lt0 : (nI 1 : Int32).toInt = 1 := by decide
  show zPn N none d mX11_fits (0, [(0, .inr (.inr (some 0)))], [], h) _
  refine pa_aload_n (pc' := 1) dX11_fits_0 rfl rfl ?_
  refine pa_callv (pc' := 4) (vs := []) (rest := []) dX11_fits_1 ml_11_222 (by decide) rfl rfl rfl (fun d' _ => (N_hasPost hA h1)) (fun v g9 hq => ?_)
  obtain ⟨ev, eh⟩ := hq
  subst ev
  rw [eh]
  show zPn N none d mX11_fits (4, _, [.inl (if cI A = 0 then 0 else 1)], h) _
  split
  · next y1 =>
      refine pa_if_t (pc' := 21) dX11_fits_4 (by decide) (by decide) ?_
      refine pa_aload_n (pc' := 22) dX11_fits_21 rfl rfl ?_
      refine pa_iconst (v := nI 1) (pc' := 23) dX11_fits_22 (by decide) rfl ?_
      refine pa_callv (pc' := 26) (vs := [.inl (nI 1)]) (rest := []) dX11_fits_23 ml_11_98 (by decide) rfl rfl rfl (fun d' _ => (c_ref s0)) (fun v g8 hq => ?_)
      obtain ⟨ev, eh⟩ := hq
      subst ev
      show zPn N none d mX11_fits (26, _, [.inl ((-1))], g8) _
      refine pa_iret dX11_fits_26 rfl rfl ?_
      exact (by rw [eh, zsI_eq, show cd_fits A = 1 from (by unfold cd_fits; rw [if_neg (by first | assumption | omega | exact fun q => absurd (twB_iff.mp q).1.1 (by assumption) | exact fun q => absurd (twB_iff.mp q).1.2 (by assumption) | exact fun q => absurd (by assumption) (twB_iff.mp q).2 | exact twB_iff.mpr ⟨⟨by assumption, by assumption⟩, by assumption⟩ | exact fun q => q.2.2.2.2.1 (by assumption) | exact fun q => q.2.2.2.2.2 (by assumption) | exact fun q => absurd q.1 (by assumption) | exact fun q => absurd q.2.1 (by assumption) | exact fun q => absurd q.2.2.1 (by assumption) | exact fun q => absurd q.2.2.2.1 (by assumption) | exact ⟨by assumption, by assumption, by assumption, by assumption, by assumption, by assumption⟩)])]; rfl : g8.2.1 0 2 = cd_fits A)
  · next y1 =>
      refine pa_if_f (pc' := 7) dX11_fits_4 (by decide) (by decide) rfl ?_
      exact G_fits11 s0 (sh11 h1) (by decide +kernel) (fun v g q => q.trans (show cd_fits A = 0 from (by unfold cd_fits; rw [if_pos (by first | assumption | omega | exact fun q => absurd (twB_iff.mp q).1.1 (by assumption) | exact fun q => absurd (twB_iff.mp q).1.2 (by assumption) | exact fun q => absurd (by assumption) (twB_iff.mp q).2 | exact twB_iff.mpr ⟨⟨by assumption, by assumption⟩, by assumption⟩ | exact fun q => q.2.2.2.2.1 (by assumption) | exact fun q => q.2.2.2.2.2 (by assumption) | exact fun q => absurd q.1 (by assumption) | exact fun q => absurd q.2.1 (by assumption) | exact fun q => absurd q.2.2.1 (by assumption) | exact fun q => absurd q.2.2.2.1 (by assumption) | exact ⟨by assumption, by assumption, by assumption, by assumption, by assumption, by assumption⟩)])).symm)
theorem R_fits12 (z : lZ A c s H J g) (m : lMid kk im t g h) : zPa d mX12_fits [.inr (.inr (some 196))] h (fun _ g => g.2.1 196 11 = cd_fits A) := by
  intro N
  have hp := M_hasBt z m
  have s196 : zsh h 196 = some (12, 39) := zsh_by m.2.1.2.2.2 (by decide +kernel)
  generalize eg : zsI (zsI h 196 0 0) 196 11 0 = h2
  have e2 : ∀ a k, a ≠ 196 → h2.2.1 a k = h.2.1 a k := fun a k ha => by rw [← eg, zsI_no (by omega), zsI_no (by omega)]
  have e3 : ∀ k, k ≠ 0 → k ≠ 11 → h2.2.1 196 k = h.2.1 196 k := fun k w1 w2 => by rw [← eg, zsI_no (by omega), zsI_no (by omega)]
  have h1 : h2.1 = hh_487.1 := by rw [← eg]; exact m.2.1.2.2.2
  have hA : lPA A c h2 := by rw [← eg]; exact (m.pa z.1.1).gd
  have B : cI A ≠ 0 → bgM A s h2 := fun ne => by rw [← eg]; exact (z.bm m ne).gd
  have er : h2.2.2.2.1 = h.2.2.2.1 := by rw [← eg]; rfl
  have q15 : h2.2.2.2.1 196 15 = some 199 := by rw [er]; exact m.r15
  have q17 : h2.2.2.2.1 196 17 = some 201 := by rw [er]; exact m.mw.2.1
  have z196 : zsh h2 196 = some (12, 39) := zsh_by h1 (by decide +kernel)
  have z199 : zsh h2 199 = some (14, 363) := zsh_by h1 (by decide +kernel)
  have z201 : zsh h2 201 = some (14, 76) := zsh_by h1 (by decide +kernel)
  have M : nMo A s 201 0 h2 := (z.lm m).1.1.fr (fun k => e2 _ _ (by decide))
  have hT := z.1.2.1
  have hB := z.1.2.2
  have hI := z.1.1.1
  have hN := z.2.1.1
  have k0 : (0 : Int32).toInt = 0 := by decide
  obtain ⟨b1, b2, b3, b4, b5⟩ := hI.2.2.1
  rw [← e3 14 (by decide) (by decide)] at hp
  have lt0 : (nI 0 : Int32).toInt = 0 := by decide
  have lt1 : (nI 1 : Int32).toInt = 1 := by decide
  have lt2 : (nI 6 : Int32).toInt = 6 := by decide
  show zPn N none d mX12_fits (0, [(0, .inr (.inr (some 196)))], [], h) _
  refine pa_aload_n (pc' := 1) dX12_fits_0 rfl rfl ?_
  refine pa_callv (pc' := 4) (vs := []) (rest := []) dX12_fits_1 ml_12_167 (by decide) rfl rfl rfl (fun d' _ => (m_good s196)) (fun v h3 hq => ?_)
  obtain ⟨ev, eh⟩ := hq
  subst ev
  show zPn N none d mX12_fits (4, _, [], h3) _
  rw [eg] at eh
  subst eh
  have t0 : h3.2.1 196 11 = 0 := by rw [← eg]; exact zsI_eq
  rcases hp with ⟨y1, hp⟩ | ⟨y1, hp⟩
  · refine pa_aload_n (pc' := 5) dX12_fits_4 rfl rfl ?_
    refine pa_getI (pc' := 8) (n := 39) (v := 0) dX12_fits_5 fl_12_180 z196 (by decide) hp rfl ?_
    refine pa_if_f (pc' := 11) dX12_fits_8 (by decide) (by decide) rfl ?_
    refine pa_aload_n (pc' := 12) dX12_fits_11 rfl rfl ?_
    refine pa_iconst (v := nI 1) (pc' := 13) dX12_fits_12 (by decide) rfl ?_
    refine pa_callv (pc' := 16) (vs := [.inl (nI 1)]) (rest := []) dX12_fits_13 ml_12_170 (by decide) rfl rfl rfl (fun d' _ => (m_no z196)) (fun v g8 hq => ?_)
    obtain ⟨ev, eh⟩ := hq
    subst ev
    show zPn N none d mX12_fits (16, _, [.inl ((-1))], g8) _
    refine pa_iret dX12_fits_16 rfl rfl ?_
    exact (by rw [eh, zsI_eq, show cd_fits A = 1 from (by unfold cd_fits; rw [if_neg (by first | assumption | omega | exact fun q => absurd (twB_iff.mp q).1.1 (by assumption) | exact fun q => absurd (twB_iff.mp q).1.2 (by assumption) | exact fun q => absurd (by assumption) (twB_iff.mp q).2 | exact twB_iff.mpr ⟨⟨by assumption, by assumption⟩, by assumption⟩ | exact fun q => q.2.2.2.2.1 (by assumption) | exact fun q => q.2.2.2.2.2 (by assumption) | exact fun q => absurd q.1 (by assumption) | exact fun q => absurd q.2.1 (by assumption) | exact fun q => absurd q.2.2.1 (by assumption) | exact fun q => absurd q.2.2.2.1 (by assumption) | exact ⟨by assumption, by assumption, by assumption, by assumption, by assumption, by assumption⟩)])]; rfl : g8.2.1 196 11 = cd_fits A)
  refine pa_aload_n (pc' := 5) dX12_fits_4 rfl rfl ?_
  refine pa_getI (pc' := 8) (n := 39) (v := 1) dX12_fits_5 fl_12_180 z196 (by decide) hp rfl ?_
  refine pa_if_t (pc' := 17) dX12_fits_8 (by decide) (by decide) ?_
  exact G_fits12 (by decide +kernel) (fun v g q => (q.2.2 39 z196).trans (t0.trans (show cd_fits A = 0 from (by unfold cd_fits; rw [if_pos (by first | assumption | omega | exact fun q => absurd (twB_iff.mp q).1.1 (by assumption) | exact fun q => absurd (twB_iff.mp q).1.2 (by assumption) | exact fun q => absurd (by assumption) (twB_iff.mp q).2 | exact twB_iff.mpr ⟨⟨by assumption, by assumption⟩, by assumption⟩ | exact fun q => q.2.2.2.2.1 (by assumption) | exact fun q => q.2.2.2.2.2 (by assumption) | exact fun q => absurd q.1 (by assumption) | exact fun q => absurd q.2.1 (by assumption) | exact fun q => absurd q.2.2.1 (by assumption) | exact fun q => absurd q.2.2.2.1 (by assumption) | exact ⟨by assumption, by assumption, by assumption, by assumption, by assumption, by assumption⟩)])).symm))
theorem R_reach11 (z : lZ A c s H J h) (hi : lInv t h) : zPa d mX11_reach [.inr (.inr (some 0)), .inl x1, .inl x2] h (fun _ g => g.2.1 0 2 = cd_reach A x1 x2) := by
  intro N
  have h1 := hi.2.2.2.2.1
  have hA := z.1.1
  have hT := z.1.2.1
  have hB := z.1.2.2
  have hI := hA.1
  have hN := z.2.1.1
  have K := hA.2.2.2.1
  have hc2 : c = 2 ∨ c = 42 := hA.2.1
  obtain ⟨b1, b2, b3, b4, b5⟩ := hI.2.2.1
  have s0 : zsh h 0 = some (11, 16) := zsh_by h1 (by decide +kernel)
  obtain ⟨sc, sc1, sc2, sc4, sc5, scw, scb⟩ := cSh hA.2.1 h1
  obtain ⟨c9, c12, c13, cw, cb⟩ := cRf_of hi.1 hA.2.1
  have S := hi.nw
  obtain ⟨⟨s86, s87, s88, s89, s90, s91⟩, r87, r88, r89, r90, r91⟩ := S.o86
  have r3 := hA.2.2.1
  have r6 := S.2.1
  obtain ⟨n1, n2, n3, n4⟩ := z.2.2.1.1
  have lt0 : (99999 : Int32).toInt = 99999 := by decide
  have lt1 : (nI 1 : Int32).toInt = 1 := by decide
  have lt2 : (nI 2 : Int32).toInt = 2 := by decide
  show zPn N none d mX11_reach (0, [(0, .inr (.inr (some 0))), (1, .inl x1), (2, .inl x2)], [], h) _
  refine pa_aload_n (pc' := 1) dX11_reach_0 rfl rfl ?_
  refine pa_iload_n (pc' := 2) dX11_reach_1 rfl rfl ?_
  refine pa_callv (pc' := 5) (vs := [.inl x1]) (rest := []) dX11_reach_2 ml_11_121 (by decide) rfl rfl rfl (fun d' _ => (N_isWhale hA h1)) (fun v g9 hq => ?_)
  obtain ⟨ev, eh⟩ := hq
  subst ev
  rw [eh]
  show zPn N none d mX11_reach (5, _, [.inl (if 0 ≤ (x1).toInt ∧ (x1).toInt < (cH A:Int) then 1 else 0)], h) _
  split
  · next y1 =>
      refine pa_if_t (pc' := 14) dX11_reach_5 (by decide) (by decide) ?_
      refine pa_iload_n (pc' := 15) dX11_reach_14 rfl rfl ?_
      refine pa_ldc (pc' := 17) dX11_reach_15 cl_11_226 rfl rfl ?_
      refine pa_calls (pc' := 20) (kd := 1) (vs := [.inl x2, .inl 99999]) (rest := []) dX11_reach_17 ml_11_227 (.inl rfl) rfl rfl rfl (fun d' _ => (N_within)) (fun v g9 hq => ?_)
      obtain ⟨ev, eh⟩ := hq
      subst ev
      rw [eh]
      show zPn N none d mX11_reach (20, _, [.inl (if 0 ≤ (x2).toInt ∧ (x2).toInt ≤ ((99999 : Int32)).toInt then 1 else 0)], h) _
      split
      · next y2 =>
          refine pa_if_t (pc' := 29) dX11_reach_20 (by decide) (by decide) ?_
          exact G_reach11 s0 (sh11 h1) (by decide +kernel) (fun v g q => q.trans (show cd_reach A x1 x2 = 0 from (by unfold cd_reach; rw [if_pos (by first | assumption | omega | exact fun q => absurd (twB_iff.mp q).1.1 (by assumption) | exact fun q => absurd (twB_iff.mp q).1.2 (by assumption) | exact fun q => absurd (by assumption) (twB_iff.mp q).2 | exact twB_iff.mpr ⟨⟨by assumption, by assumption⟩, by assumption⟩ | exact fun q => q.2.2.2.2.1 (by assumption) | exact fun q => q.2.2.2.2.2 (by assumption) | exact fun q => absurd q.1 (by assumption) | exact fun q => absurd q.2.1 (by assumption) | exact fun q => absurd q.2.2.1 (by assumption) | exact fun q => absurd q.2.2.2.1 (by assumption) | exact ⟨by assumption, by assumption, by assumption, by assumption, by assumption, by assumption⟩), if_pos (by first | assumption | omega | exact fun q => absurd (twB_iff.mp q).1.1 (by assumption) | exact fun q => absurd (twB_iff.mp q).1.2 (by assumption) | exact fun q => absurd (by assumption) (twB_iff.mp q).2 | exact twB_iff.mpr ⟨⟨by assumption, by assumption⟩, by assumption⟩ | exact fun q => q.2.2.2.2.1 (by assumption) | exact fun q => q.2.2.2.2.2 (by assumption) | exact fun q => absurd q.1 (by assumption) | exact fun q => absurd q.2.1 (by assumption) | exact fun q => absurd q.2.2.1 (by assumption) | exact fun q => absurd q.2.2.2.1 (by assumption) | exact ⟨by assumption, by assumption, by assumption, by assumption, by assumption, by assumption⟩)])).symm)
      · next y2 =>
          refine pa_if_f (pc' := 23) dX11_reach_20 (by decide) (by decide) rfl ?_
          refine pa_aload_n (pc' := 24) dX11_reach_23 rfl rfl ?_
          refine pa_iconst (v := nI 2) (pc' := 25) dX11_reach_24 (by decide) rfl ?_
          refine pa_callv (pc' := 28) (vs := [.inl (nI 2)]) (rest := []) dX11_reach_25 ml_11_98 (by decide) rfl rfl rfl (fun d' _ => (c_ref s0)) (fun v g8 hq => ?_)
          obtain ⟨ev, eh⟩ := hq
          subst ev
          show zPn N none d mX11_reach (28, _, [.inl ((-1))], g8) _
          refine pa_iret dX11_reach_28 rfl rfl ?_
          exact (by rw [eh, zsI_eq, show cd_reach A x1 x2 = 2 from (by unfold cd_reach; rw [if_pos (by first | assumption | omega | exact fun q => absurd (twB_iff.mp q).1.1 (by assumption) | exact fun q => absurd (twB_iff.mp q).1.2 (by assumption) | exact fun q => absurd (by assumption) (twB_iff.mp q).2 | exact twB_iff.mpr ⟨⟨by assumption, by assumption⟩, by assumption⟩ | exact fun q => q.2.2.2.2.1 (by assumption) | exact fun q => q.2.2.2.2.2 (by assumption) | exact fun q => absurd q.1 (by assumption) | exact fun q => absurd q.2.1 (by assumption) | exact fun q => absurd q.2.2.1 (by assumption) | exact fun q => absurd q.2.2.2.1 (by assumption) | exact ⟨by assumption, by assumption, by assumption, by assumption, by assumption, by assumption⟩), if_neg (by first | assumption | omega | exact fun q => absurd (twB_iff.mp q).1.1 (by assumption) | exact fun q => absurd (twB_iff.mp q).1.2 (by assumption) | exact fun q => absurd (by assumption) (twB_iff.mp q).2 | exact twB_iff.mpr ⟨⟨by assumption, by assumption⟩, by assumption⟩ | exact fun q => q.2.2.2.2.1 (by assumption) | exact fun q => q.2.2.2.2.2 (by assumption) | exact fun q => absurd q.1 (by assumption) | exact fun q => absurd q.2.1 (by assumption) | exact fun q => absurd q.2.2.1 (by assumption) | exact fun q => absurd q.2.2.2.1 (by assumption) | exact ⟨by assumption, by assumption, by assumption, by assumption, by assumption, by assumption⟩)])]; rfl : g8.2.1 0 2 = cd_reach A x1 x2)
  · next y1 =>
      refine pa_if_f (pc' := 8) dX11_reach_5 (by decide) (by decide) rfl ?_
      refine pa_aload_n (pc' := 9) dX11_reach_8 rfl rfl ?_
      refine pa_iconst (v := nI 1) (pc' := 10) dX11_reach_9 (by decide) rfl ?_
      refine pa_callv (pc' := 13) (vs := [.inl (nI 1)]) (rest := []) dX11_reach_10 ml_11_98 (by decide) rfl rfl rfl (fun d' _ => (c_ref s0)) (fun v g8 hq => ?_)
      obtain ⟨ev, eh⟩ := hq
      subst ev
      show zPn N none d mX11_reach (13, _, [.inl ((-1))], g8) _
      refine pa_iret dX11_reach_13 rfl rfl ?_
      exact (by rw [eh, zsI_eq, show cd_reach A x1 x2 = 1 from (by unfold cd_reach; rw [if_neg (by first | assumption | omega | exact fun q => absurd (twB_iff.mp q).1.1 (by assumption) | exact fun q => absurd (twB_iff.mp q).1.2 (by assumption) | exact fun q => absurd (by assumption) (twB_iff.mp q).2 | exact twB_iff.mpr ⟨⟨by assumption, by assumption⟩, by assumption⟩ | exact fun q => q.2.2.2.2.1 (by assumption) | exact fun q => q.2.2.2.2.2 (by assumption) | exact fun q => absurd q.1 (by assumption) | exact fun q => absurd q.2.1 (by assumption) | exact fun q => absurd q.2.2.1 (by assumption) | exact fun q => absurd q.2.2.2.1 (by assumption) | exact ⟨by assumption, by assumption, by assumption, by assumption, by assumption, by assumption⟩)])]; rfl : g8.2.1 0 2 = cd_reach A x1 x2)
theorem R_reach12 (z : lZ A c s H J g) (m : lMid kk im t g h) : zPa d mX12_reach [.inr (.inr (some 196)), .inl x1, .inl x2] h (fun _ g => g.2.1 196 11 = cd_reach A x1 x2) := by
  intro N
  have hp := M_hasBt z m
  have s196 : zsh h 196 = some (12, 39) := zsh_by m.2.1.2.2.2 (by decide +kernel)
  generalize eg : zsI (zsI h 196 0 0) 196 11 0 = h2
  have e2 : ∀ a k, a ≠ 196 → h2.2.1 a k = h.2.1 a k := fun a k ha => by rw [← eg, zsI_no (by omega), zsI_no (by omega)]
  have e3 : ∀ k, k ≠ 0 → k ≠ 11 → h2.2.1 196 k = h.2.1 196 k := fun k w1 w2 => by rw [← eg, zsI_no (by omega), zsI_no (by omega)]
  have h1 : h2.1 = hh_487.1 := by rw [← eg]; exact m.2.1.2.2.2
  have hA : lPA A c h2 := by rw [← eg]; exact (m.pa z.1.1).gd
  have B : cI A ≠ 0 → bgM A s h2 := fun ne => by rw [← eg]; exact (z.bm m ne).gd
  have er : h2.2.2.2.1 = h.2.2.2.1 := by rw [← eg]; rfl
  have q15 : h2.2.2.2.1 196 15 = some 199 := by rw [er]; exact m.r15
  have q17 : h2.2.2.2.1 196 17 = some 201 := by rw [er]; exact m.mw.2.1
  have z196 : zsh h2 196 = some (12, 39) := zsh_by h1 (by decide +kernel)
  have z199 : zsh h2 199 = some (14, 363) := zsh_by h1 (by decide +kernel)
  have z201 : zsh h2 201 = some (14, 76) := zsh_by h1 (by decide +kernel)
  have M : nMo A s 201 0 h2 := (z.lm m).1.1.fr (fun k => e2 _ _ (by decide))
  have hT := z.1.2.1
  have hB := z.1.2.2
  have hI := z.1.1.1
  have hN := z.2.1.1
  have k0 : (0 : Int32).toInt = 0 := by decide
  obtain ⟨b1, b2, b3, b4, b5⟩ := hI.2.2.1
  rw [← e3 14 (by decide) (by decide)] at hp
  have lt0 : (99999 : Int32).toInt = 99999 := by decide
  have lt1 : (nI 0 : Int32).toInt = 0 := by decide
  have lt2 : (nI 1 : Int32).toInt = 1 := by decide
  have lt3 : (nI 2 : Int32).toInt = 2 := by decide
  show zPn N none d mX12_reach (0, [(0, .inr (.inr (some 196))), (1, .inl x1), (2, .inl x2)], [], h) _
  refine pa_aload_n (pc' := 1) dX12_reach_0 rfl rfl ?_
  refine pa_callv (pc' := 4) (vs := []) (rest := []) dX12_reach_1 ml_12_167 (by decide) rfl rfl rfl (fun d' _ => (m_good s196)) (fun v h3 hq => ?_)
  obtain ⟨ev, eh⟩ := hq
  subst ev
  show zPn N none d mX12_reach (4, _, [], h3) _
  rw [eg] at eh
  subst eh
  have t0 : h3.2.1 196 11 = 0 := by rw [← eg]; exact zsI_eq
  refine pa_aload_n (pc' := 5) dX12_reach_4 rfl rfl ?_
  refine pa_iload_n (pc' := 6) dX12_reach_5 rfl rfl ?_
  refine pa_callv (pc' := 9) (vs := [.inl x1]) (rest := []) dX12_reach_6 ml_12_268 (by decide) rfl rfl rfl (fun d' _ => (M_isWhale hA q15 h1)) (fun v g9 hq => ?_)
  obtain ⟨ev, eh⟩ := hq
  subst ev
  rw [eh]
  show zPn N none d mX12_reach (9, _, [.inl (if 0 ≤ (x1).toInt ∧ (x1).toInt < (cH A:Int) then 1 else 0)], h3) _
  split
  · next y1 =>
      refine pa_if_t (pc' := 18) dX12_reach_9 (by decide) (by decide) ?_
      refine pa_iload_n (pc' := 19) dX12_reach_18 rfl rfl ?_
      refine pa_iconst (v := nI 0) (pc' := 20) dX12_reach_19 (by decide) rfl ?_
      refine pa_ldcw (pc' := 23) dX12_reach_20 cl_12_340 rfl rfl ?_
      refine pa_calls (pc' := 26) (kd := 1) (vs := [.inl x2, .inl (nI 0), .inl 99999]) (rest := []) dX12_reach_23 ml_12_149 (.inl rfl) rfl rfl rfl (fun d' _ => (in_v)) (fun v g9 hq => ?_)
      obtain ⟨ev, eh⟩ := hq
      subst ev
      rw [eh]
      show zPn N none d mX12_reach (26, _, [.inl (if ((nI 0)).toInt ≤ (x2).toInt ∧ (x2).toInt ≤ ((99999 : Int32)).toInt then 1 else 0)], h3) _
      split
      · next y2 =>
          refine pa_if_f (pc' := 29) dX12_reach_26 (by decide) (by decide) rfl ?_
          exact G_reach12 (by decide +kernel) (fun v g q => (q.2.2 39 z196).trans (t0.trans (show cd_reach A x1 x2 = 0 from (by unfold cd_reach; rw [if_pos (by first | assumption | omega | exact fun q => absurd (twB_iff.mp q).1.1 (by assumption) | exact fun q => absurd (twB_iff.mp q).1.2 (by assumption) | exact fun q => absurd (by assumption) (twB_iff.mp q).2 | exact twB_iff.mpr ⟨⟨by assumption, by assumption⟩, by assumption⟩ | exact fun q => q.2.2.2.2.1 (by assumption) | exact fun q => q.2.2.2.2.2 (by assumption) | exact fun q => absurd q.1 (by assumption) | exact fun q => absurd q.2.1 (by assumption) | exact fun q => absurd q.2.2.1 (by assumption) | exact fun q => absurd q.2.2.2.1 (by assumption) | exact ⟨by assumption, by assumption, by assumption, by assumption, by assumption, by assumption⟩), if_pos (by first | assumption | omega | exact fun q => absurd (twB_iff.mp q).1.1 (by assumption) | exact fun q => absurd (twB_iff.mp q).1.2 (by assumption) | exact fun q => absurd (by assumption) (twB_iff.mp q).2 | exact twB_iff.mpr ⟨⟨by assumption, by assumption⟩, by assumption⟩ | exact fun q => q.2.2.2.2.1 (by assumption) | exact fun q => q.2.2.2.2.2 (by assumption) | exact fun q => absurd q.1 (by assumption) | exact fun q => absurd q.2.1 (by assumption) | exact fun q => absurd q.2.2.1 (by assumption) | exact fun q => absurd q.2.2.2.1 (by assumption) | exact ⟨by assumption, by assumption, by assumption, by assumption, by assumption, by assumption⟩)])).symm))
      · next y2 =>
          refine pa_if_t (pc' := 38) dX12_reach_26 (by decide) (by decide) ?_
          refine pa_aload_n (pc' := 39) dX12_reach_38 rfl rfl ?_
          refine pa_iconst (v := nI 2) (pc' := 40) dX12_reach_39 (by decide) rfl ?_
          refine pa_callv (pc' := 43) (vs := [.inl (nI 2)]) (rest := []) dX12_reach_40 ml_12_170 (by decide) rfl rfl rfl (fun d' _ => (m_no z196)) (fun v g8 hq => ?_)
          obtain ⟨ev, eh⟩ := hq
          subst ev
          show zPn N none d mX12_reach (43, _, [.inl ((-1))], g8) _
          refine pa_iret dX12_reach_43 rfl rfl ?_
          exact (by rw [eh, zsI_eq, show cd_reach A x1 x2 = 2 from (by unfold cd_reach; rw [if_pos (by first | assumption | omega | exact fun q => absurd (twB_iff.mp q).1.1 (by assumption) | exact fun q => absurd (twB_iff.mp q).1.2 (by assumption) | exact fun q => absurd (by assumption) (twB_iff.mp q).2 | exact twB_iff.mpr ⟨⟨by assumption, by assumption⟩, by assumption⟩ | exact fun q => q.2.2.2.2.1 (by assumption) | exact fun q => q.2.2.2.2.2 (by assumption) | exact fun q => absurd q.1 (by assumption) | exact fun q => absurd q.2.1 (by assumption) | exact fun q => absurd q.2.2.1 (by assumption) | exact fun q => absurd q.2.2.2.1 (by assumption) | exact ⟨by assumption, by assumption, by assumption, by assumption, by assumption, by assumption⟩), if_neg (by first | assumption | omega | exact fun q => absurd (twB_iff.mp q).1.1 (by assumption) | exact fun q => absurd (twB_iff.mp q).1.2 (by assumption) | exact fun q => absurd (by assumption) (twB_iff.mp q).2 | exact twB_iff.mpr ⟨⟨by assumption, by assumption⟩, by assumption⟩ | exact fun q => q.2.2.2.2.1 (by assumption) | exact fun q => q.2.2.2.2.2 (by assumption) | exact fun q => absurd q.1 (by assumption) | exact fun q => absurd q.2.1 (by assumption) | exact fun q => absurd q.2.2.1 (by assumption) | exact fun q => absurd q.2.2.2.1 (by assumption) | exact ⟨by assumption, by assumption, by assumption, by assumption, by assumption, by assumption⟩)])]; rfl : g8.2.1 196 11 = cd_reach A x1 x2)
  · next y1 =>
      refine pa_if_f (pc' := 12) dX12_reach_9 (by decide) (by decide) rfl ?_
      refine pa_aload_n (pc' := 13) dX12_reach_12 rfl rfl ?_
      refine pa_iconst (v := nI 1) (pc' := 14) dX12_reach_13 (by decide) rfl ?_
      refine pa_callv (pc' := 17) (vs := [.inl (nI 1)]) (rest := []) dX12_reach_14 ml_12_170 (by decide) rfl rfl rfl (fun d' _ => (m_no z196)) (fun v g8 hq => ?_)
      obtain ⟨ev, eh⟩ := hq
      subst ev
      show zPn N none d mX12_reach (17, _, [.inl ((-1))], g8) _
      refine pa_iret dX12_reach_17 rfl rfl ?_
      exact (by rw [eh, zsI_eq, show cd_reach A x1 x2 = 1 from (by unfold cd_reach; rw [if_neg (by first | assumption | omega | exact fun q => absurd (twB_iff.mp q).1.1 (by assumption) | exact fun q => absurd (twB_iff.mp q).1.2 (by assumption) | exact fun q => absurd (by assumption) (twB_iff.mp q).2 | exact twB_iff.mpr ⟨⟨by assumption, by assumption⟩, by assumption⟩ | exact fun q => q.2.2.2.2.1 (by assumption) | exact fun q => q.2.2.2.2.2 (by assumption) | exact fun q => absurd q.1 (by assumption) | exact fun q => absurd q.2.1 (by assumption) | exact fun q => absurd q.2.2.1 (by assumption) | exact fun q => absurd q.2.2.2.1 (by assumption) | exact ⟨by assumption, by assumption, by assumption, by assumption, by assumption, by assumption⟩)])]; rfl : g8.2.1 196 11 = cd_reach A x1 x2)
theorem R_watch11 (z : lZ A c s H J h) (hi : lInv t h) : zPa d mX11_watch [.inr (.inr (some 0)), .inl x1, .inl x2] h (fun _ g => g.2.1 0 2 = cd_watch A x1 x2) := by
  intro N
  have h1 := hi.2.2.2.2.1
  have hA := z.1.1
  have hT := z.1.2.1
  have hB := z.1.2.2
  have hI := hA.1
  have hN := z.2.1.1
  have K := hA.2.2.2.1
  have hc2 : c = 2 ∨ c = 42 := hA.2.1
  obtain ⟨b1, b2, b3, b4, b5⟩ := hI.2.2.1
  have s0 : zsh h 0 = some (11, 16) := zsh_by h1 (by decide +kernel)
  obtain ⟨sc, sc1, sc2, sc4, sc5, scw, scb⟩ := cSh hA.2.1 h1
  obtain ⟨c9, c12, c13, cw, cb⟩ := cRf_of hi.1 hA.2.1
  have S := hi.nw
  obtain ⟨⟨s86, s87, s88, s89, s90, s91⟩, r87, r88, r89, r90, r91⟩ := S.o86
  have r3 := hA.2.2.1
  have r6 := S.2.1
  obtain ⟨n1, n2, n3, n4⟩ := z.2.2.1.1
  have lt0 : (nI 1 : Int32).toInt = 1 := by decide
  show zPn N none d mX11_watch (0, [(0, .inr (.inr (some 0))), (1, .inl x1), (2, .inl x2)], [], h) _
  refine pa_aload_n (pc' := 1) dX11_watch_0 rfl rfl ?_
  refine pa_iload_n (pc' := 2) dX11_watch_1 rfl rfl ?_
  refine pa_iload_n (pc' := 3) dX11_watch_2 rfl rfl ?_
  refine pa_callv (pc' := 6) (vs := [.inl x1, .inl x2]) (rest := []) dX11_watch_3 ml_11_204 (by decide) rfl rfl rfl (fun d' _ => (N_areTwo hA h1)) (fun v g9 hq => ?_)
  obtain ⟨ev, eh⟩ := hq
  subst ev
  rw [eh]
  show zPn N none d mX11_watch (6, _, [.inl (if twB A x1 x2 = true then 1 else 0)], h) _
  split
  · next y1 =>
      refine pa_if_f (pc' := 9) dX11_watch_6 (by decide) (by decide) rfl ?_
      exact G_watch11 s0 (sh11 h1) (by decide +kernel) (fun v g q => q.trans (show cd_watch A x1 x2 = 0 from (by unfold cd_watch; rw [if_pos (by first | assumption | omega | exact fun q => absurd (twB_iff.mp q).1.1 (by assumption) | exact fun q => absurd (twB_iff.mp q).1.2 (by assumption) | exact fun q => absurd (by assumption) (twB_iff.mp q).2 | exact twB_iff.mpr ⟨⟨by assumption, by assumption⟩, by assumption⟩ | exact fun q => q.2.2.2.2.1 (by assumption) | exact fun q => q.2.2.2.2.2 (by assumption) | exact fun q => absurd q.1 (by assumption) | exact fun q => absurd q.2.1 (by assumption) | exact fun q => absurd q.2.2.1 (by assumption) | exact fun q => absurd q.2.2.2.1 (by assumption) | exact ⟨by assumption, by assumption, by assumption, by assumption, by assumption, by assumption⟩)])).symm)
  · next y1 =>
      refine pa_if_t (pc' := 32) dX11_watch_6 (by decide) (by decide) ?_
      refine pa_aload_n (pc' := 33) dX11_watch_32 rfl rfl ?_
      refine pa_iconst (v := nI 1) (pc' := 34) dX11_watch_33 (by decide) rfl ?_
      refine pa_callv (pc' := 37) (vs := [.inl (nI 1)]) (rest := []) dX11_watch_34 ml_11_98 (by decide) rfl rfl rfl (fun d' _ => (c_ref s0)) (fun v g8 hq => ?_)
      obtain ⟨ev, eh⟩ := hq
      subst ev
      show zPn N none d mX11_watch (37, _, [.inl ((-1))], g8) _
      refine pa_iret dX11_watch_37 rfl rfl ?_
      exact (by rw [eh, zsI_eq, show cd_watch A x1 x2 = 1 from (by unfold cd_watch; rw [if_neg (by first | assumption | omega | exact fun q => absurd (twB_iff.mp q).1.1 (by assumption) | exact fun q => absurd (twB_iff.mp q).1.2 (by assumption) | exact fun q => absurd (by assumption) (twB_iff.mp q).2 | exact twB_iff.mpr ⟨⟨by assumption, by assumption⟩, by assumption⟩ | exact fun q => q.2.2.2.2.1 (by assumption) | exact fun q => q.2.2.2.2.2 (by assumption) | exact fun q => absurd q.1 (by assumption) | exact fun q => absurd q.2.1 (by assumption) | exact fun q => absurd q.2.2.1 (by assumption) | exact fun q => absurd q.2.2.2.1 (by assumption) | exact ⟨by assumption, by assumption, by assumption, by assumption, by assumption, by assumption⟩)])]; rfl : g8.2.1 0 2 = cd_watch A x1 x2)
theorem R_watch12 (z : lZ A c s H J g) (m : lMid kk im t g h) : zPa d mX12_watch [.inr (.inr (some 196)), .inl x1, .inl x2] h (fun _ g => g.2.1 196 11 = cd_watch A x1 x2) := by
  intro N
  have hp := M_hasBt z m
  have s196 : zsh h 196 = some (12, 39) := zsh_by m.2.1.2.2.2 (by decide +kernel)
  generalize eg : zsI (zsI h 196 0 0) 196 11 0 = h2
  have e2 : ∀ a k, a ≠ 196 → h2.2.1 a k = h.2.1 a k := fun a k ha => by rw [← eg, zsI_no (by omega), zsI_no (by omega)]
  have e3 : ∀ k, k ≠ 0 → k ≠ 11 → h2.2.1 196 k = h.2.1 196 k := fun k w1 w2 => by rw [← eg, zsI_no (by omega), zsI_no (by omega)]
  have h1 : h2.1 = hh_487.1 := by rw [← eg]; exact m.2.1.2.2.2
  have hA : lPA A c h2 := by rw [← eg]; exact (m.pa z.1.1).gd
  have B : cI A ≠ 0 → bgM A s h2 := fun ne => by rw [← eg]; exact (z.bm m ne).gd
  have er : h2.2.2.2.1 = h.2.2.2.1 := by rw [← eg]; rfl
  have q15 : h2.2.2.2.1 196 15 = some 199 := by rw [er]; exact m.r15
  have q17 : h2.2.2.2.1 196 17 = some 201 := by rw [er]; exact m.mw.2.1
  have z196 : zsh h2 196 = some (12, 39) := zsh_by h1 (by decide +kernel)
  have z199 : zsh h2 199 = some (14, 363) := zsh_by h1 (by decide +kernel)
  have z201 : zsh h2 201 = some (14, 76) := zsh_by h1 (by decide +kernel)
  have M : nMo A s 201 0 h2 := (z.lm m).1.1.fr (fun k => e2 _ _ (by decide))
  have hT := z.1.2.1
  have hB := z.1.2.2
  have hI := z.1.1.1
  have hN := z.2.1.1
  have k0 : (0 : Int32).toInt = 0 := by decide
  obtain ⟨b1, b2, b3, b4, b5⟩ := hI.2.2.1
  rw [← e3 14 (by decide) (by decide)] at hp
  have lt0 : (nI 0 : Int32).toInt = 0 := by decide
  have lt1 : (nI 1 : Int32).toInt = 1 := by decide
  have lt2 : (nI 5 : Int32).toInt = 5 := by decide
  show zPn N none d mX12_watch (0, [(0, .inr (.inr (some 196))), (1, .inl x1), (2, .inl x2)], [], h) _
  refine pa_aload_n (pc' := 1) dX12_watch_0 rfl rfl ?_
  refine pa_callv (pc' := 4) (vs := []) (rest := []) dX12_watch_1 ml_12_167 (by decide) rfl rfl rfl (fun d' _ => (m_good s196)) (fun v h3 hq => ?_)
  obtain ⟨ev, eh⟩ := hq
  subst ev
  show zPn N none d mX12_watch (4, _, [], h3) _
  rw [eg] at eh
  subst eh
  have t0 : h3.2.1 196 11 = 0 := by rw [← eg]; exact zsI_eq
  refine pa_aload_n (pc' := 5) dX12_watch_4 rfl rfl ?_
  refine pa_iload_n (pc' := 6) dX12_watch_5 rfl rfl ?_
  refine pa_callv (pc' := 9) (vs := [.inl x1]) (rest := []) dX12_watch_6 ml_12_277 (by decide) rfl rfl rfl (fun d' _ => (N_isI12 hA q15 h1)) (fun v g9 hq => ?_)
  obtain ⟨ev, eh⟩ := hq
  subst ev
  rw [eh]
  show zPn N none d mX12_watch (9, _, [.inl (if 0 ≤ (x1).toInt ∧ (x1).toInt < (cI A:Int) then 1 else 0)], h3) _
  split
  · next y1 =>
      refine pa_if_f (pc' := 12) dX12_watch_9 (by decide) (by decide) rfl ?_
      refine pa_aload_n (pc' := 13) dX12_watch_12 rfl rfl ?_
      refine pa_iload_n (pc' := 14) dX12_watch_13 rfl rfl ?_
      refine pa_callv (pc' := 17) (vs := [.inl x2]) (rest := []) dX12_watch_14 ml_12_277 (by decide) rfl rfl rfl (fun d' _ => (N_isI12 hA q15 h1)) (fun v g9 hq => ?_)
      obtain ⟨ev, eh⟩ := hq
      subst ev
      rw [eh]
      show zPn N none d mX12_watch (17, _, [.inl (if 0 ≤ (x2).toInt ∧ (x2).toInt < (cI A:Int) then 1 else 0)], h3) _
      split
      · next y2 =>
          refine pa_if_f (pc' := 20) dX12_watch_17 (by decide) (by decide) rfl ?_
          refine pa_iload_n (pc' := 21) dX12_watch_20 rfl rfl ?_
          refine pa_iload_n (pc' := 22) dX12_watch_21 rfl rfl ?_
          by_cases y3 : x1 = x2
          · refine pa_icmp_f (pc' := 25) dX12_watch_22 (decide_eq_false (not_not_intro y3)) (by decide) rfl ?_
            refine pa_aload_n (pc' := 26) dX12_watch_25 rfl rfl ?_
            refine pa_iconst (v := nI 1) (pc' := 27) dX12_watch_26 (by decide) rfl ?_
            refine pa_callv (pc' := 30) (vs := [.inl (nI 1)]) (rest := []) dX12_watch_27 ml_12_170 (by decide) rfl rfl rfl (fun d' _ => (m_no z196)) (fun v g8 hq => ?_)
            obtain ⟨ev, eh⟩ := hq
            subst ev
            show zPn N none d mX12_watch (30, _, [.inl ((-1))], g8) _
            refine pa_iret dX12_watch_30 rfl rfl ?_
            exact (by rw [eh, zsI_eq, show cd_watch A x1 x2 = 1 from (by unfold cd_watch; rw [if_neg (by first | assumption | omega | exact fun q => absurd (twB_iff.mp q).1.1 (by assumption) | exact fun q => absurd (twB_iff.mp q).1.2 (by assumption) | exact fun q => absurd (by assumption) (twB_iff.mp q).2 | exact twB_iff.mpr ⟨⟨by assumption, by assumption⟩, by assumption⟩ | exact fun q => q.2.2.2.2.1 (by assumption) | exact fun q => q.2.2.2.2.2 (by assumption) | exact fun q => absurd q.1 (by assumption) | exact fun q => absurd q.2.1 (by assumption) | exact fun q => absurd q.2.2.1 (by assumption) | exact fun q => absurd q.2.2.2.1 (by assumption) | exact ⟨by assumption, by assumption, by assumption, by assumption, by assumption, by assumption⟩)])]; rfl : g8.2.1 196 11 = cd_watch A x1 x2)
          · refine pa_icmp_t (pc' := 31) dX12_watch_22 (decide_eq_true y3) (by decide) ?_
            exact G_watch12 (by decide +kernel) (fun v g q => (q.2.2 39 z196).trans (t0.trans (show cd_watch A x1 x2 = 0 from (by unfold cd_watch; rw [if_pos (by first | assumption | omega | exact fun q => absurd (twB_iff.mp q).1.1 (by assumption) | exact fun q => absurd (twB_iff.mp q).1.2 (by assumption) | exact fun q => absurd (by assumption) (twB_iff.mp q).2 | exact twB_iff.mpr ⟨⟨by assumption, by assumption⟩, by assumption⟩ | exact fun q => q.2.2.2.2.1 (by assumption) | exact fun q => q.2.2.2.2.2 (by assumption) | exact fun q => absurd q.1 (by assumption) | exact fun q => absurd q.2.1 (by assumption) | exact fun q => absurd q.2.2.1 (by assumption) | exact fun q => absurd q.2.2.2.1 (by assumption) | exact ⟨by assumption, by assumption, by assumption, by assumption, by assumption, by assumption⟩)])).symm))
      · next y2 =>
          refine pa_if_t (pc' := 25) dX12_watch_17 (by decide) (by decide) ?_
          refine pa_aload_n (pc' := 26) dX12_watch_25 rfl rfl ?_
          refine pa_iconst (v := nI 1) (pc' := 27) dX12_watch_26 (by decide) rfl ?_
          refine pa_callv (pc' := 30) (vs := [.inl (nI 1)]) (rest := []) dX12_watch_27 ml_12_170 (by decide) rfl rfl rfl (fun d' _ => (m_no z196)) (fun v g8 hq => ?_)
          obtain ⟨ev, eh⟩ := hq
          subst ev
          show zPn N none d mX12_watch (30, _, [.inl ((-1))], g8) _
          refine pa_iret dX12_watch_30 rfl rfl ?_
          exact (by rw [eh, zsI_eq, show cd_watch A x1 x2 = 1 from (by unfold cd_watch; rw [if_neg (by first | assumption | omega | exact fun q => absurd (twB_iff.mp q).1.1 (by assumption) | exact fun q => absurd (twB_iff.mp q).1.2 (by assumption) | exact fun q => absurd (by assumption) (twB_iff.mp q).2 | exact twB_iff.mpr ⟨⟨by assumption, by assumption⟩, by assumption⟩ | exact fun q => q.2.2.2.2.1 (by assumption) | exact fun q => q.2.2.2.2.2 (by assumption) | exact fun q => absurd q.1 (by assumption) | exact fun q => absurd q.2.1 (by assumption) | exact fun q => absurd q.2.2.1 (by assumption) | exact fun q => absurd q.2.2.2.1 (by assumption) | exact ⟨by assumption, by assumption, by assumption, by assumption, by assumption, by assumption⟩)])]; rfl : g8.2.1 196 11 = cd_watch A x1 x2)
  · next y1 =>
      refine pa_if_t (pc' := 25) dX12_watch_9 (by decide) (by decide) ?_
      refine pa_aload_n (pc' := 26) dX12_watch_25 rfl rfl ?_
      refine pa_iconst (v := nI 1) (pc' := 27) dX12_watch_26 (by decide) rfl ?_
      refine pa_callv (pc' := 30) (vs := [.inl (nI 1)]) (rest := []) dX12_watch_27 ml_12_170 (by decide) rfl rfl rfl (fun d' _ => (m_no z196)) (fun v g8 hq => ?_)
      obtain ⟨ev, eh⟩ := hq
      subst ev
      show zPn N none d mX12_watch (30, _, [.inl ((-1))], g8) _
      refine pa_iret dX12_watch_30 rfl rfl ?_
      exact (by rw [eh, zsI_eq, show cd_watch A x1 x2 = 1 from (by unfold cd_watch; rw [if_neg (by first | assumption | omega | exact fun q => absurd (twB_iff.mp q).1.1 (by assumption) | exact fun q => absurd (twB_iff.mp q).1.2 (by assumption) | exact fun q => absurd (by assumption) (twB_iff.mp q).2 | exact twB_iff.mpr ⟨⟨by assumption, by assumption⟩, by assumption⟩ | exact fun q => q.2.2.2.2.1 (by assumption) | exact fun q => q.2.2.2.2.2 (by assumption) | exact fun q => absurd q.1 (by assumption) | exact fun q => absurd q.2.1 (by assumption) | exact fun q => absurd q.2.2.1 (by assumption) | exact fun q => absurd q.2.2.2.1 (by assumption) | exact ⟨by assumption, by assumption, by assumption, by assumption, by assumption, by assumption⟩)])]; rfl : g8.2.1 196 11 = cd_watch A x1 x2)
theorem R_round11 (z : lZ A c s H J h) (hi : lInv t h) : zPa d mX11_round [.inr (.inr (some 0)), .inl x1] h (fun _ g => g.2.1 0 2 = cd_round A x1) := by
  intro N
  have h1 := hi.2.2.2.2.1
  have hA := z.1.1
  have hT := z.1.2.1
  have hB := z.1.2.2
  have hI := hA.1
  have hN := z.2.1.1
  have K := hA.2.2.2.1
  have hc2 : c = 2 ∨ c = 42 := hA.2.1
  obtain ⟨b1, b2, b3, b4, b5⟩ := hI.2.2.1
  have s0 : zsh h 0 = some (11, 16) := zsh_by h1 (by decide +kernel)
  obtain ⟨sc, sc1, sc2, sc4, sc5, scw, scb⟩ := cSh hA.2.1 h1
  obtain ⟨c9, c12, c13, cw, cb⟩ := cRf_of hi.1 hA.2.1
  have S := hi.nw
  obtain ⟨⟨s86, s87, s88, s89, s90, s91⟩, r87, r88, r89, r90, r91⟩ := S.o86
  have r3 := hA.2.2.1
  have r6 := S.2.1
  obtain ⟨n1, n2, n3, n4⟩ := z.2.2.1.1
  have lt0 : (nI 1 : Int32).toInt = 1 := by decide
  show zPn N none d mX11_round (0, [(0, .inr (.inr (some 0))), (1, .inl x1)], [], h) _
  refine pa_aload_n (pc' := 1) dX11_round_0 rfl rfl ?_
  refine pa_iload_n (pc' := 2) dX11_round_1 rfl rfl ?_
  refine pa_callv (pc' := 5) (vs := [.inl x1]) (rest := []) dX11_round_2 ml_11_174 (by decide) rfl rfl rfl (fun d' _ => (N_isI11 hA h1)) (fun v g9 hq => ?_)
  obtain ⟨ev, eh⟩ := hq
  subst ev
  rw [eh]
  show zPn N none d mX11_round (5, _, [.inl (if 0 ≤ (x1).toInt ∧ (x1).toInt < (cI A:Int) then 1 else 0)], h) _
  split
  · next y1 =>
      refine pa_if_f (pc' := 8) dX11_round_5 (by decide) (by decide) rfl ?_
      exact G_round11 s0 (sh11 h1) (by decide +kernel) (fun v g q => q.trans (show cd_round A x1 = 0 from (by unfold cd_round; rw [if_pos (by first | assumption | omega | exact fun q => absurd (twB_iff.mp q).1.1 (by assumption) | exact fun q => absurd (twB_iff.mp q).1.2 (by assumption) | exact fun q => absurd (by assumption) (twB_iff.mp q).2 | exact twB_iff.mpr ⟨⟨by assumption, by assumption⟩, by assumption⟩ | exact fun q => q.2.2.2.2.1 (by assumption) | exact fun q => q.2.2.2.2.2 (by assumption) | exact fun q => absurd q.1 (by assumption) | exact fun q => absurd q.2.1 (by assumption) | exact fun q => absurd q.2.2.1 (by assumption) | exact fun q => absurd q.2.2.2.1 (by assumption) | exact ⟨by assumption, by assumption, by assumption, by assumption, by assumption, by assumption⟩)])).symm)
  · next y1 =>
      refine pa_if_t (pc' := 30) dX11_round_5 (by decide) (by decide) ?_
      refine pa_aload_n (pc' := 31) dX11_round_30 rfl rfl ?_
      refine pa_iconst (v := nI 1) (pc' := 32) dX11_round_31 (by decide) rfl ?_
      refine pa_callv (pc' := 35) (vs := [.inl (nI 1)]) (rest := []) dX11_round_32 ml_11_98 (by decide) rfl rfl rfl (fun d' _ => (c_ref s0)) (fun v g8 hq => ?_)
      obtain ⟨ev, eh⟩ := hq
      subst ev
      show zPn N none d mX11_round (35, _, [.inl ((-1))], g8) _
      refine pa_iret dX11_round_35 rfl rfl ?_
      exact (by rw [eh, zsI_eq, show cd_round A x1 = 1 from (by unfold cd_round; rw [if_neg (by first | assumption | omega | exact fun q => absurd (twB_iff.mp q).1.1 (by assumption) | exact fun q => absurd (twB_iff.mp q).1.2 (by assumption) | exact fun q => absurd (by assumption) (twB_iff.mp q).2 | exact twB_iff.mpr ⟨⟨by assumption, by assumption⟩, by assumption⟩ | exact fun q => q.2.2.2.2.1 (by assumption) | exact fun q => q.2.2.2.2.2 (by assumption) | exact fun q => absurd q.1 (by assumption) | exact fun q => absurd q.2.1 (by assumption) | exact fun q => absurd q.2.2.1 (by assumption) | exact fun q => absurd q.2.2.2.1 (by assumption) | exact ⟨by assumption, by assumption, by assumption, by assumption, by assumption, by assumption⟩)])]; rfl : g8.2.1 0 2 = cd_round A x1)
theorem R_round12 (z : lZ A c s H J g) (m : lMid kk im t g h) : zPa d mX12_round [.inr (.inr (some 196)), .inl x1] h (fun _ g => g.2.1 196 11 = cd_round A x1) := by
  intro N
  have hp := M_hasBt z m
  have s196 : zsh h 196 = some (12, 39) := zsh_by m.2.1.2.2.2 (by decide +kernel)
  generalize eg : zsI (zsI h 196 0 0) 196 11 0 = h2
  have e2 : ∀ a k, a ≠ 196 → h2.2.1 a k = h.2.1 a k := fun a k ha => by rw [← eg, zsI_no (by omega), zsI_no (by omega)]
  have e3 : ∀ k, k ≠ 0 → k ≠ 11 → h2.2.1 196 k = h.2.1 196 k := fun k w1 w2 => by rw [← eg, zsI_no (by omega), zsI_no (by omega)]
  have h1 : h2.1 = hh_487.1 := by rw [← eg]; exact m.2.1.2.2.2
  have hA : lPA A c h2 := by rw [← eg]; exact (m.pa z.1.1).gd
  have B : cI A ≠ 0 → bgM A s h2 := fun ne => by rw [← eg]; exact (z.bm m ne).gd
  have er : h2.2.2.2.1 = h.2.2.2.1 := by rw [← eg]; rfl
  have q15 : h2.2.2.2.1 196 15 = some 199 := by rw [er]; exact m.r15
  have q17 : h2.2.2.2.1 196 17 = some 201 := by rw [er]; exact m.mw.2.1
  have z196 : zsh h2 196 = some (12, 39) := zsh_by h1 (by decide +kernel)
  have z199 : zsh h2 199 = some (14, 363) := zsh_by h1 (by decide +kernel)
  have z201 : zsh h2 201 = some (14, 76) := zsh_by h1 (by decide +kernel)
  have M : nMo A s 201 0 h2 := (z.lm m).1.1.fr (fun k => e2 _ _ (by decide))
  have hT := z.1.2.1
  have hB := z.1.2.2
  have hI := z.1.1.1
  have hN := z.2.1.1
  have k0 : (0 : Int32).toInt = 0 := by decide
  obtain ⟨b1, b2, b3, b4, b5⟩ := hI.2.2.1
  rw [← e3 14 (by decide) (by decide)] at hp
  have lt0 : (nI 1 : Int32).toInt = 1 := by decide
  show zPn N none d mX12_round (0, [(0, .inr (.inr (some 196))), (1, .inl x1)], [], h) _
  refine pa_aload_n (pc' := 1) dX12_round_0 rfl rfl ?_
  refine pa_callv (pc' := 4) (vs := []) (rest := []) dX12_round_1 ml_12_167 (by decide) rfl rfl rfl (fun d' _ => (m_good s196)) (fun v h3 hq => ?_)
  obtain ⟨ev, eh⟩ := hq
  subst ev
  show zPn N none d mX12_round (4, _, [], h3) _
  rw [eg] at eh
  subst eh
  have t0 : h3.2.1 196 11 = 0 := by rw [← eg]; exact zsI_eq
  refine pa_aload_n (pc' := 5) dX12_round_4 rfl rfl ?_
  refine pa_iload_n (pc' := 6) dX12_round_5 rfl rfl ?_
  refine pa_callv (pc' := 9) (vs := [.inl x1]) (rest := []) dX12_round_6 ml_12_277 (by decide) rfl rfl rfl (fun d' _ => (N_isI12 hA q15 h1)) (fun v g9 hq => ?_)
  obtain ⟨ev, eh⟩ := hq
  subst ev
  rw [eh]
  show zPn N none d mX12_round (9, _, [.inl (if 0 ≤ (x1).toInt ∧ (x1).toInt < (cI A:Int) then 1 else 0)], h3) _
  split
  · next y1 =>
      refine pa_if_f (pc' := 12) dX12_round_9 (by decide) (by decide) rfl ?_
      exact G_round12 (by decide +kernel) (fun v g q => (q.2.2 39 z196).trans (t0.trans (show cd_round A x1 = 0 from (by unfold cd_round; rw [if_pos (by first | assumption | omega | exact fun q => absurd (twB_iff.mp q).1.1 (by assumption) | exact fun q => absurd (twB_iff.mp q).1.2 (by assumption) | exact fun q => absurd (by assumption) (twB_iff.mp q).2 | exact twB_iff.mpr ⟨⟨by assumption, by assumption⟩, by assumption⟩ | exact fun q => q.2.2.2.2.1 (by assumption) | exact fun q => q.2.2.2.2.2 (by assumption) | exact fun q => absurd q.1 (by assumption) | exact fun q => absurd q.2.1 (by assumption) | exact fun q => absurd q.2.2.1 (by assumption) | exact fun q => absurd q.2.2.2.1 (by assumption) | exact ⟨by assumption, by assumption, by assumption, by assumption, by assumption, by assumption⟩)])).symm))
  · next y1 =>
      refine pa_if_t (pc' := 20) dX12_round_9 (by decide) (by decide) ?_
      refine pa_aload_n (pc' := 21) dX12_round_20 rfl rfl ?_
      refine pa_iconst (v := nI 1) (pc' := 22) dX12_round_21 (by decide) rfl ?_
      refine pa_callv (pc' := 25) (vs := [.inl (nI 1)]) (rest := []) dX12_round_22 ml_12_170 (by decide) rfl rfl rfl (fun d' _ => (m_no z196)) (fun v g8 hq => ?_)
      obtain ⟨ev, eh⟩ := hq
      subst ev
      show zPn N none d mX12_round (25, _, [.inl ((-1))], g8) _
      refine pa_iret dX12_round_25 rfl rfl ?_
      exact (by rw [eh, zsI_eq, show cd_round A x1 = 1 from (by unfold cd_round; rw [if_neg (by first | assumption | omega | exact fun q => absurd (twB_iff.mp q).1.1 (by assumption) | exact fun q => absurd (twB_iff.mp q).1.2 (by assumption) | exact fun q => absurd (by assumption) (twB_iff.mp q).2 | exact twB_iff.mpr ⟨⟨by assumption, by assumption⟩, by assumption⟩ | exact fun q => q.2.2.2.2.1 (by assumption) | exact fun q => q.2.2.2.2.2 (by assumption) | exact fun q => absurd q.1 (by assumption) | exact fun q => absurd q.2.1 (by assumption) | exact fun q => absurd q.2.2.1 (by assumption) | exact fun q => absurd q.2.2.2.1 (by assumption) | exact ⟨by assumption, by assumption, by assumption, by assumption, by assumption, by assumption⟩)])]; rfl : g8.2.1 196 11 = cd_round A x1)
theorem R_decade11 (z : lZ A c s H J h) (hi : lInv t h) : zPa d mX11_decade [.inr (.inr (some 0)), .inl x1, .inl x2] h (fun _ g => g.2.1 0 2 = cd_decade A x1 x2) := by
  intro N
  have h1 := hi.2.2.2.2.1
  have hA := z.1.1
  have hT := z.1.2.1
  have hB := z.1.2.2
  have hI := hA.1
  have hN := z.2.1.1
  have K := hA.2.2.2.1
  have hc2 : c = 2 ∨ c = 42 := hA.2.1
  obtain ⟨b1, b2, b3, b4, b5⟩ := hI.2.2.1
  have s0 : zsh h 0 = some (11, 16) := zsh_by h1 (by decide +kernel)
  obtain ⟨sc, sc1, sc2, sc4, sc5, scw, scb⟩ := cSh hA.2.1 h1
  obtain ⟨c9, c12, c13, cw, cb⟩ := cRf_of hi.1 hA.2.1
  have S := hi.nw
  obtain ⟨⟨s86, s87, s88, s89, s90, s91⟩, r87, r88, r89, r90, r91⟩ := S.o86
  have r3 := hA.2.2.1
  have r6 := S.2.1
  obtain ⟨n1, n2, n3, n4⟩ := z.2.2.1.1
  have lt0 : (65536 : Int32).toInt = 65536 := by decide
  have lt1 : (nI 0 : Int32).toInt = 0 := by decide
  have lt2 : (nI 1 : Int32).toInt = 1 := by decide
  have lt3 : (nI 2 : Int32).toInt = 2 := by decide
  have lt4 : (nI 50 : Int32).toInt = 50 := by decide
  show zPn N none d mX11_decade (0, [(0, .inr (.inr (some 0))), (1, .inl x1), (2, .inl x2)], [], h) _
  refine pa_aload_n (pc' := 1) dX11_decade_0 rfl rfl ?_
  refine pa_callv (pc' := 4) (vs := []) (rest := []) dX11_decade_1 ml_11_222 (by decide) rfl rfl rfl (fun d' _ => (N_hasPost hA h1)) (fun v g9 hq => ?_)
  obtain ⟨ev, eh⟩ := hq
  subst ev
  rw [eh]
  show zPn N none d mX11_decade (4, _, [.inl (if cI A = 0 then 0 else 1)], h) _
  split
  · next y1 =>
      refine pa_if_f (pc' := 7) dX11_decade_4 (by decide) (by decide) rfl ?_
      refine pa_aload_n (pc' := 8) dX11_decade_7 rfl rfl ?_
      refine pa_iconst (v := nI 1) (pc' := 9) dX11_decade_8 (by decide) rfl ?_
      refine pa_callv (pc' := 12) (vs := [.inl (nI 1)]) (rest := []) dX11_decade_9 ml_11_98 (by decide) rfl rfl rfl (fun d' _ => (c_ref s0)) (fun v g8 hq => ?_)
      obtain ⟨ev, eh⟩ := hq
      subst ev
      show zPn N none d mX11_decade (12, _, [.inl ((-1))], g8) _
      refine pa_iret dX11_decade_12 rfl rfl ?_
      exact (by rw [eh, zsI_eq, show cd_decade A x1 x2 = 1 from (by unfold cd_decade; rw [if_neg (by first | assumption | omega | exact fun q => absurd (twB_iff.mp q).1.1 (by assumption) | exact fun q => absurd (twB_iff.mp q).1.2 (by assumption) | exact fun q => absurd (by assumption) (twB_iff.mp q).2 | exact twB_iff.mpr ⟨⟨by assumption, by assumption⟩, by assumption⟩ | exact fun q => q.2.2.2.2.1 (by assumption) | exact fun q => q.2.2.2.2.2 (by assumption) | exact fun q => absurd q.1 (by assumption) | exact fun q => absurd q.2.1 (by assumption) | exact fun q => absurd q.2.2.1 (by assumption) | exact fun q => absurd q.2.2.2.1 (by assumption) | exact ⟨by assumption, by assumption, by assumption, by assumption, by assumption, by assumption⟩)])]; rfl : g8.2.1 0 2 = cd_decade A x1 x2)
  · next y1 =>
      refine pa_if_t (pc' := 13) dX11_decade_4 (by decide) (by decide) ?_
      refine pa_iload_n (pc' := 14) dX11_decade_13 rfl rfl ?_
      refine pa_ldcw (pc' := 17) dX11_decade_14 cl_11_334 rfl rfl ?_
      refine pa_calls (pc' := 20) (kd := 1) (vs := [.inl x1, .inl 65536]) (rest := []) dX11_decade_17 ml_11_227 (.inl rfl) rfl rfl rfl (fun d' _ => (N_within)) (fun v g9 hq => ?_)
      obtain ⟨ev, eh⟩ := hq
      subst ev
      rw [eh]
      show zPn N none d mX11_decade (20, _, [.inl (if 0 ≤ (x1).toInt ∧ (x1).toInt ≤ ((65536 : Int32)).toInt then 1 else 0)], h) _
      split
      · next y2 =>
          refine pa_if_f (pc' := 23) dX11_decade_20 (by decide) (by decide) rfl ?_
          refine pa_iload_n (pc' := 24) dX11_decade_23 rfl rfl ?_
          refine pa_bipush (v := nI 50) (pc' := 26) dX11_decade_24 (by decide) rfl ?_
          refine pa_calls (pc' := 29) (kd := 1) (vs := [.inl x2, .inl (nI 50)]) (rest := []) dX11_decade_26 ml_11_227 (.inl rfl) rfl rfl rfl (fun d' _ => (N_within)) (fun v g9 hq => ?_)
          obtain ⟨ev, eh⟩ := hq
          subst ev
          rw [eh]
          show zPn N none d mX11_decade (29, _, [.inl (if 0 ≤ (x2).toInt ∧ (x2).toInt ≤ ((nI 50)).toInt then 1 else 0)], h) _
          split
          · next y3 =>
              refine pa_if_t (pc' := 38) dX11_decade_29 (by decide) (by decide) ?_
              exact G_decade11 s0 (sh11 h1) (by decide +kernel) (fun v g q => q.trans (show cd_decade A x1 x2 = 0 from (by unfold cd_decade; rw [if_pos (by first | assumption | omega | exact fun q => absurd (twB_iff.mp q).1.1 (by assumption) | exact fun q => absurd (twB_iff.mp q).1.2 (by assumption) | exact fun q => absurd (by assumption) (twB_iff.mp q).2 | exact twB_iff.mpr ⟨⟨by assumption, by assumption⟩, by assumption⟩ | exact fun q => q.2.2.2.2.1 (by assumption) | exact fun q => q.2.2.2.2.2 (by assumption) | exact fun q => absurd q.1 (by assumption) | exact fun q => absurd q.2.1 (by assumption) | exact fun q => absurd q.2.2.1 (by assumption) | exact fun q => absurd q.2.2.2.1 (by assumption) | exact ⟨by assumption, by assumption, by assumption, by assumption, by assumption, by assumption⟩), if_pos (by first | assumption | omega | exact fun q => absurd (twB_iff.mp q).1.1 (by assumption) | exact fun q => absurd (twB_iff.mp q).1.2 (by assumption) | exact fun q => absurd (by assumption) (twB_iff.mp q).2 | exact twB_iff.mpr ⟨⟨by assumption, by assumption⟩, by assumption⟩ | exact fun q => q.2.2.2.2.1 (by assumption) | exact fun q => q.2.2.2.2.2 (by assumption) | exact fun q => absurd q.1 (by assumption) | exact fun q => absurd q.2.1 (by assumption) | exact fun q => absurd q.2.2.1 (by assumption) | exact fun q => absurd q.2.2.2.1 (by assumption) | exact ⟨by assumption, by assumption, by assumption, by assumption, by assumption, by assumption⟩)])).symm)
          · next y3 =>
              refine pa_if_f (pc' := 32) dX11_decade_29 (by decide) (by decide) rfl ?_
              refine pa_aload_n (pc' := 33) dX11_decade_32 rfl rfl ?_
              refine pa_iconst (v := nI 2) (pc' := 34) dX11_decade_33 (by decide) rfl ?_
              refine pa_callv (pc' := 37) (vs := [.inl (nI 2)]) (rest := []) dX11_decade_34 ml_11_98 (by decide) rfl rfl rfl (fun d' _ => (c_ref s0)) (fun v g8 hq => ?_)
              obtain ⟨ev, eh⟩ := hq
              subst ev
              show zPn N none d mX11_decade (37, _, [.inl ((-1))], g8) _
              refine pa_iret dX11_decade_37 rfl rfl ?_
              exact (by rw [eh, zsI_eq, show cd_decade A x1 x2 = 2 from (by unfold cd_decade; rw [if_pos (by first | assumption | omega | exact fun q => absurd (twB_iff.mp q).1.1 (by assumption) | exact fun q => absurd (twB_iff.mp q).1.2 (by assumption) | exact fun q => absurd (by assumption) (twB_iff.mp q).2 | exact twB_iff.mpr ⟨⟨by assumption, by assumption⟩, by assumption⟩ | exact fun q => q.2.2.2.2.1 (by assumption) | exact fun q => q.2.2.2.2.2 (by assumption) | exact fun q => absurd q.1 (by assumption) | exact fun q => absurd q.2.1 (by assumption) | exact fun q => absurd q.2.2.1 (by assumption) | exact fun q => absurd q.2.2.2.1 (by assumption) | exact ⟨by assumption, by assumption, by assumption, by assumption, by assumption, by assumption⟩), if_neg (by first | assumption | omega | exact fun q => absurd (twB_iff.mp q).1.1 (by assumption) | exact fun q => absurd (twB_iff.mp q).1.2 (by assumption) | exact fun q => absurd (by assumption) (twB_iff.mp q).2 | exact twB_iff.mpr ⟨⟨by assumption, by assumption⟩, by assumption⟩ | exact fun q => q.2.2.2.2.1 (by assumption) | exact fun q => q.2.2.2.2.2 (by assumption) | exact fun q => absurd q.1 (by assumption) | exact fun q => absurd q.2.1 (by assumption) | exact fun q => absurd q.2.2.1 (by assumption) | exact fun q => absurd q.2.2.2.1 (by assumption) | exact ⟨by assumption, by assumption, by assumption, by assumption, by assumption, by assumption⟩)])]; rfl : g8.2.1 0 2 = cd_decade A x1 x2)
      · next y2 =>
          refine pa_if_t (pc' := 32) dX11_decade_20 (by decide) (by decide) ?_
          refine pa_aload_n (pc' := 33) dX11_decade_32 rfl rfl ?_
          refine pa_iconst (v := nI 2) (pc' := 34) dX11_decade_33 (by decide) rfl ?_
          refine pa_callv (pc' := 37) (vs := [.inl (nI 2)]) (rest := []) dX11_decade_34 ml_11_98 (by decide) rfl rfl rfl (fun d' _ => (c_ref s0)) (fun v g8 hq => ?_)
          obtain ⟨ev, eh⟩ := hq
          subst ev
          show zPn N none d mX11_decade (37, _, [.inl ((-1))], g8) _
          refine pa_iret dX11_decade_37 rfl rfl ?_
          exact (by rw [eh, zsI_eq, show cd_decade A x1 x2 = 2 from (by unfold cd_decade; rw [if_pos (by first | assumption | omega | exact fun q => absurd (twB_iff.mp q).1.1 (by assumption) | exact fun q => absurd (twB_iff.mp q).1.2 (by assumption) | exact fun q => absurd (by assumption) (twB_iff.mp q).2 | exact twB_iff.mpr ⟨⟨by assumption, by assumption⟩, by assumption⟩ | exact fun q => q.2.2.2.2.1 (by assumption) | exact fun q => q.2.2.2.2.2 (by assumption) | exact fun q => absurd q.1 (by assumption) | exact fun q => absurd q.2.1 (by assumption) | exact fun q => absurd q.2.2.1 (by assumption) | exact fun q => absurd q.2.2.2.1 (by assumption) | exact ⟨by assumption, by assumption, by assumption, by assumption, by assumption, by assumption⟩), if_neg (by first | assumption | omega | exact fun q => absurd (twB_iff.mp q).1.1 (by assumption) | exact fun q => absurd (twB_iff.mp q).1.2 (by assumption) | exact fun q => absurd (by assumption) (twB_iff.mp q).2 | exact twB_iff.mpr ⟨⟨by assumption, by assumption⟩, by assumption⟩ | exact fun q => q.2.2.2.2.1 (by assumption) | exact fun q => q.2.2.2.2.2 (by assumption) | exact fun q => absurd q.1 (by assumption) | exact fun q => absurd q.2.1 (by assumption) | exact fun q => absurd q.2.2.1 (by assumption) | exact fun q => absurd q.2.2.2.1 (by assumption) | exact ⟨by assumption, by assumption, by assumption, by assumption, by assumption, by assumption⟩)])]; rfl : g8.2.1 0 2 = cd_decade A x1 x2)
theorem R_decade12 (z : lZ A c s H J g) (m : lMid kk im t g h) : zPa d mX12_decade [.inr (.inr (some 196)), .inl x1, .inl x2] h (fun _ g => g.2.1 196 11 = cd_decade A x1 x2) := by
  intro N
  have hp := M_hasBt z m
  have s196 : zsh h 196 = some (12, 39) := zsh_by m.2.1.2.2.2 (by decide +kernel)
  generalize eg : zsI (zsI h 196 0 0) 196 11 0 = h2
  have e2 : ∀ a k, a ≠ 196 → h2.2.1 a k = h.2.1 a k := fun a k ha => by rw [← eg, zsI_no (by omega), zsI_no (by omega)]
  have e3 : ∀ k, k ≠ 0 → k ≠ 11 → h2.2.1 196 k = h.2.1 196 k := fun k w1 w2 => by rw [← eg, zsI_no (by omega), zsI_no (by omega)]
  have h1 : h2.1 = hh_487.1 := by rw [← eg]; exact m.2.1.2.2.2
  have hA : lPA A c h2 := by rw [← eg]; exact (m.pa z.1.1).gd
  have B : cI A ≠ 0 → bgM A s h2 := fun ne => by rw [← eg]; exact (z.bm m ne).gd
  have er : h2.2.2.2.1 = h.2.2.2.1 := by rw [← eg]; rfl
  have q15 : h2.2.2.2.1 196 15 = some 199 := by rw [er]; exact m.r15
  have q17 : h2.2.2.2.1 196 17 = some 201 := by rw [er]; exact m.mw.2.1
  have z196 : zsh h2 196 = some (12, 39) := zsh_by h1 (by decide +kernel)
  have z199 : zsh h2 199 = some (14, 363) := zsh_by h1 (by decide +kernel)
  have z201 : zsh h2 201 = some (14, 76) := zsh_by h1 (by decide +kernel)
  have M : nMo A s 201 0 h2 := (z.lm m).1.1.fr (fun k => e2 _ _ (by decide))
  have hT := z.1.2.1
  have hB := z.1.2.2
  have hI := z.1.1.1
  have hN := z.2.1.1
  have k0 : (0 : Int32).toInt = 0 := by decide
  obtain ⟨b1, b2, b3, b4, b5⟩ := hI.2.2.1
  rw [← e3 14 (by decide) (by decide)] at hp
  have lt0 : (65536 : Int32).toInt = 65536 := by decide
  have lt1 : (65537 : Int32).toInt = 65537 := by decide
  have lt2 : (nI 0 : Int32).toInt = 0 := by decide
  have lt3 : (nI 1 : Int32).toInt = 1 := by decide
  have lt4 : (nI 2 : Int32).toInt = 2 := by decide
  have lt5 : (nI 3 : Int32).toInt = 3 := by decide
  have lt6 : (nI 7 : Int32).toInt = 7 := by decide
  have lt7 : (nI 50 : Int32).toInt = 50 := by decide
  have lt8 : (nI 74 : Int32).toInt = 74 := by decide
  have lt9 : (nI 75 : Int32).toInt = 75 := by decide
  have lt10 : (nI 100 : Int32).toInt = 100 := by decide
  show zPn N none d mX12_decade (0, [(0, .inr (.inr (some 196))), (1, .inl x1), (2, .inl x2)], [], h) _
  refine pa_aload_n (pc' := 1) dX12_decade_0 rfl rfl ?_
  refine pa_callv (pc' := 4) (vs := []) (rest := []) dX12_decade_1 ml_12_167 (by decide) rfl rfl rfl (fun d' _ => (m_good s196)) (fun v h3 hq => ?_)
  obtain ⟨ev, eh⟩ := hq
  subst ev
  show zPn N none d mX12_decade (4, _, [], h3) _
  rw [eg] at eh
  subst eh
  have t0 : h3.2.1 196 11 = 0 := by rw [← eg]; exact zsI_eq
  rcases hp with ⟨y1, hp⟩ | ⟨y1, hp⟩
  · refine pa_aload_n (pc' := 5) dX12_decade_4 rfl rfl ?_
    refine pa_getI (pc' := 8) (n := 39) (v := 0) dX12_decade_5 fl_12_180 z196 (by decide) hp rfl ?_
    refine pa_if_f (pc' := 11) dX12_decade_8 (by decide) (by decide) rfl ?_
    refine pa_aload_n (pc' := 12) dX12_decade_11 rfl rfl ?_
    refine pa_iconst (v := nI 1) (pc' := 13) dX12_decade_12 (by decide) rfl ?_
    refine pa_callv (pc' := 16) (vs := [.inl (nI 1)]) (rest := []) dX12_decade_13 ml_12_170 (by decide) rfl rfl rfl (fun d' _ => (m_no z196)) (fun v g8 hq => ?_)
    obtain ⟨ev, eh⟩ := hq
    subst ev
    show zPn N none d mX12_decade (16, _, [.inl ((-1))], g8) _
    refine pa_iret dX12_decade_16 rfl rfl ?_
    exact (by rw [eh, zsI_eq, show cd_decade A x1 x2 = 1 from (by unfold cd_decade; rw [if_neg (by first | assumption | omega | exact fun q => absurd (twB_iff.mp q).1.1 (by assumption) | exact fun q => absurd (twB_iff.mp q).1.2 (by assumption) | exact fun q => absurd (by assumption) (twB_iff.mp q).2 | exact twB_iff.mpr ⟨⟨by assumption, by assumption⟩, by assumption⟩ | exact fun q => q.2.2.2.2.1 (by assumption) | exact fun q => q.2.2.2.2.2 (by assumption) | exact fun q => absurd q.1 (by assumption) | exact fun q => absurd q.2.1 (by assumption) | exact fun q => absurd q.2.2.1 (by assumption) | exact fun q => absurd q.2.2.2.1 (by assumption) | exact ⟨by assumption, by assumption, by assumption, by assumption, by assumption, by assumption⟩)])]; rfl : g8.2.1 196 11 = cd_decade A x1 x2)
  refine pa_aload_n (pc' := 5) dX12_decade_4 rfl rfl ?_
  refine pa_getI (pc' := 8) (n := 39) (v := 1) dX12_decade_5 fl_12_180 z196 (by decide) hp rfl ?_
  refine pa_if_t (pc' := 17) dX12_decade_8 (by decide) (by decide) ?_
  refine pa_iload_n (pc' := 18) dX12_decade_17 rfl rfl ?_
  refine pa_iconst (v := nI 0) (pc' := 19) dX12_decade_18 (by decide) rfl ?_
  refine pa_ldcw (pc' := 22) dX12_decade_19 cl_12_422 rfl rfl ?_
  refine pa_calls (pc' := 25) (kd := 1) (vs := [.inl x1, .inl (nI 0), .inl 65536]) (rest := []) dX12_decade_22 ml_12_149 (.inl rfl) rfl rfl rfl (fun d' _ => (in_v)) (fun v g9 hq => ?_)
  obtain ⟨ev, eh⟩ := hq
  subst ev
  rw [eh]
  show zPn N none d mX12_decade (25, _, [.inl (if ((nI 0)).toInt ≤ (x1).toInt ∧ (x1).toInt ≤ ((65536 : Int32)).toInt then 1 else 0)], h3) _
  split
  · next y2 =>
      refine pa_if_f (pc' := 28) dX12_decade_25 (by decide) (by decide) rfl ?_
      refine pa_iload_n (pc' := 29) dX12_decade_28 rfl rfl ?_
      refine pa_iconst (v := nI 0) (pc' := 30) dX12_decade_29 (by decide) rfl ?_
      refine pa_bipush (v := nI 50) (pc' := 32) dX12_decade_30 (by decide) rfl ?_
      refine pa_calls (pc' := 35) (kd := 1) (vs := [.inl x2, .inl (nI 0), .inl (nI 50)]) (rest := []) dX12_decade_32 ml_12_149 (.inl rfl) rfl rfl rfl (fun d' _ => (in_v)) (fun v g9 hq => ?_)
      obtain ⟨ev, eh⟩ := hq
      subst ev
      rw [eh]
      show zPn N none d mX12_decade (35, _, [.inl (if ((nI 0)).toInt ≤ (x2).toInt ∧ (x2).toInt ≤ ((nI 50)).toInt then 1 else 0)], h3) _
      split
      · next y3 =>
          refine pa_if_t (pc' := 44) dX12_decade_35 (by decide) (by decide) ?_
          exact G_decade12 (by decide +kernel) (fun v g q => (q.2.2 39 z196).trans (t0.trans (show cd_decade A x1 x2 = 0 from (by unfold cd_decade; rw [if_pos (by first | assumption | omega | exact fun q => absurd (twB_iff.mp q).1.1 (by assumption) | exact fun q => absurd (twB_iff.mp q).1.2 (by assumption) | exact fun q => absurd (by assumption) (twB_iff.mp q).2 | exact twB_iff.mpr ⟨⟨by assumption, by assumption⟩, by assumption⟩ | exact fun q => q.2.2.2.2.1 (by assumption) | exact fun q => q.2.2.2.2.2 (by assumption) | exact fun q => absurd q.1 (by assumption) | exact fun q => absurd q.2.1 (by assumption) | exact fun q => absurd q.2.2.1 (by assumption) | exact fun q => absurd q.2.2.2.1 (by assumption) | exact ⟨by assumption, by assumption, by assumption, by assumption, by assumption, by assumption⟩), if_pos (by first | assumption | omega | exact fun q => absurd (twB_iff.mp q).1.1 (by assumption) | exact fun q => absurd (twB_iff.mp q).1.2 (by assumption) | exact fun q => absurd (by assumption) (twB_iff.mp q).2 | exact twB_iff.mpr ⟨⟨by assumption, by assumption⟩, by assumption⟩ | exact fun q => q.2.2.2.2.1 (by assumption) | exact fun q => q.2.2.2.2.2 (by assumption) | exact fun q => absurd q.1 (by assumption) | exact fun q => absurd q.2.1 (by assumption) | exact fun q => absurd q.2.2.1 (by assumption) | exact fun q => absurd q.2.2.2.1 (by assumption) | exact ⟨by assumption, by assumption, by assumption, by assumption, by assumption, by assumption⟩)])).symm))
      · next y3 =>
          refine pa_if_f (pc' := 38) dX12_decade_35 (by decide) (by decide) rfl ?_
          refine pa_aload_n (pc' := 39) dX12_decade_38 rfl rfl ?_
          refine pa_iconst (v := nI 2) (pc' := 40) dX12_decade_39 (by decide) rfl ?_
          refine pa_callv (pc' := 43) (vs := [.inl (nI 2)]) (rest := []) dX12_decade_40 ml_12_170 (by decide) rfl rfl rfl (fun d' _ => (m_no z196)) (fun v g8 hq => ?_)
          obtain ⟨ev, eh⟩ := hq
          subst ev
          show zPn N none d mX12_decade (43, _, [.inl ((-1))], g8) _
          refine pa_iret dX12_decade_43 rfl rfl ?_
          exact (by rw [eh, zsI_eq, show cd_decade A x1 x2 = 2 from (by unfold cd_decade; rw [if_pos (by first | assumption | omega | exact fun q => absurd (twB_iff.mp q).1.1 (by assumption) | exact fun q => absurd (twB_iff.mp q).1.2 (by assumption) | exact fun q => absurd (by assumption) (twB_iff.mp q).2 | exact twB_iff.mpr ⟨⟨by assumption, by assumption⟩, by assumption⟩ | exact fun q => q.2.2.2.2.1 (by assumption) | exact fun q => q.2.2.2.2.2 (by assumption) | exact fun q => absurd q.1 (by assumption) | exact fun q => absurd q.2.1 (by assumption) | exact fun q => absurd q.2.2.1 (by assumption) | exact fun q => absurd q.2.2.2.1 (by assumption) | exact ⟨by assumption, by assumption, by assumption, by assumption, by assumption, by assumption⟩), if_neg (by first | assumption | omega | exact fun q => absurd (twB_iff.mp q).1.1 (by assumption) | exact fun q => absurd (twB_iff.mp q).1.2 (by assumption) | exact fun q => absurd (by assumption) (twB_iff.mp q).2 | exact twB_iff.mpr ⟨⟨by assumption, by assumption⟩, by assumption⟩ | exact fun q => q.2.2.2.2.1 (by assumption) | exact fun q => q.2.2.2.2.2 (by assumption) | exact fun q => absurd q.1 (by assumption) | exact fun q => absurd q.2.1 (by assumption) | exact fun q => absurd q.2.2.1 (by assumption) | exact fun q => absurd q.2.2.2.1 (by assumption) | exact ⟨by assumption, by assumption, by assumption, by assumption, by assumption, by assumption⟩)])]; rfl : g8.2.1 196 11 = cd_decade A x1 x2)
  · next y2 =>
      refine pa_if_t (pc' := 38) dX12_decade_25 (by decide) (by decide) ?_
      refine pa_aload_n (pc' := 39) dX12_decade_38 rfl rfl ?_
      refine pa_iconst (v := nI 2) (pc' := 40) dX12_decade_39 (by decide) rfl ?_
      refine pa_callv (pc' := 43) (vs := [.inl (nI 2)]) (rest := []) dX12_decade_40 ml_12_170 (by decide) rfl rfl rfl (fun d' _ => (m_no z196)) (fun v g8 hq => ?_)
      obtain ⟨ev, eh⟩ := hq
      subst ev
      show zPn N none d mX12_decade (43, _, [.inl ((-1))], g8) _
      refine pa_iret dX12_decade_43 rfl rfl ?_
      exact (by rw [eh, zsI_eq, show cd_decade A x1 x2 = 2 from (by unfold cd_decade; rw [if_pos (by first | assumption | omega | exact fun q => absurd (twB_iff.mp q).1.1 (by assumption) | exact fun q => absurd (twB_iff.mp q).1.2 (by assumption) | exact fun q => absurd (by assumption) (twB_iff.mp q).2 | exact twB_iff.mpr ⟨⟨by assumption, by assumption⟩, by assumption⟩ | exact fun q => q.2.2.2.2.1 (by assumption) | exact fun q => q.2.2.2.2.2 (by assumption) | exact fun q => absurd q.1 (by assumption) | exact fun q => absurd q.2.1 (by assumption) | exact fun q => absurd q.2.2.1 (by assumption) | exact fun q => absurd q.2.2.2.1 (by assumption) | exact ⟨by assumption, by assumption, by assumption, by assumption, by assumption, by assumption⟩), if_neg (by first | assumption | omega | exact fun q => absurd (twB_iff.mp q).1.1 (by assumption) | exact fun q => absurd (twB_iff.mp q).1.2 (by assumption) | exact fun q => absurd (by assumption) (twB_iff.mp q).2 | exact twB_iff.mpr ⟨⟨by assumption, by assumption⟩, by assumption⟩ | exact fun q => q.2.2.2.2.1 (by assumption) | exact fun q => q.2.2.2.2.2 (by assumption) | exact fun q => absurd q.1 (by assumption) | exact fun q => absurd q.2.1 (by assumption) | exact fun q => absurd q.2.2.1 (by assumption) | exact fun q => absurd q.2.2.2.1 (by assumption) | exact ⟨by assumption, by assumption, by assumption, by assumption, by assumption, by assumption⟩)])]; rfl : g8.2.1 196 11 = cd_decade A x1 x2)
theorem R_pier11 (z : lZ A c s H J h) (hi : lInv t h) : zPa d mX11_pier [.inr (.inr (some 0)), .inl x1] h (fun _ g => g.2.1 0 2 = cd_pier A x1) := by
  intro N
  have h1 := hi.2.2.2.2.1
  have hA := z.1.1
  have hT := z.1.2.1
  have hB := z.1.2.2
  have hI := hA.1
  have hN := z.2.1.1
  have K := hA.2.2.2.1
  have hc2 : c = 2 ∨ c = 42 := hA.2.1
  obtain ⟨b1, b2, b3, b4, b5⟩ := hI.2.2.1
  have s0 : zsh h 0 = some (11, 16) := zsh_by h1 (by decide +kernel)
  obtain ⟨sc, sc1, sc2, sc4, sc5, scw, scb⟩ := cSh hA.2.1 h1
  obtain ⟨c9, c12, c13, cw, cb⟩ := cRf_of hi.1 hA.2.1
  have S := hi.nw
  obtain ⟨⟨s86, s87, s88, s89, s90, s91⟩, r87, r88, r89, r90, r91⟩ := S.o86
  have r3 := hA.2.2.1
  have r6 := S.2.1
  obtain ⟨n1, n2, n3, n4⟩ := z.2.2.1.1
  have lt0 : (99999 : Int32).toInt = 99999 := by decide
  have lt1 : (nI 1 : Int32).toInt = 1 := by decide
  have lt2 : (nI 2 : Int32).toInt = 2 := by decide
  show zPn N none d mX11_pier (0, [(0, .inr (.inr (some 0))), (1, .inl x1)], [], h) _
  refine pa_aload_n (pc' := 1) dX11_pier_0 rfl rfl ?_
  refine pa_callv (pc' := 4) (vs := []) (rest := []) dX11_pier_1 ml_11_222 (by decide) rfl rfl rfl (fun d' _ => (N_hasPost hA h1)) (fun v g9 hq => ?_)
  obtain ⟨ev, eh⟩ := hq
  subst ev
  rw [eh]
  show zPn N none d mX11_pier (4, _, [.inl (if cI A = 0 then 0 else 1)], h) _
  split
  · next y1 =>
      refine pa_if_f (pc' := 7) dX11_pier_4 (by decide) (by decide) rfl ?_
      refine pa_aload_n (pc' := 8) dX11_pier_7 rfl rfl ?_
      refine pa_iconst (v := nI 1) (pc' := 9) dX11_pier_8 (by decide) rfl ?_
      refine pa_callv (pc' := 12) (vs := [.inl (nI 1)]) (rest := []) dX11_pier_9 ml_11_98 (by decide) rfl rfl rfl (fun d' _ => (c_ref s0)) (fun v g8 hq => ?_)
      obtain ⟨ev, eh⟩ := hq
      subst ev
      show zPn N none d mX11_pier (12, _, [.inl ((-1))], g8) _
      refine pa_iret dX11_pier_12 rfl rfl ?_
      exact (by rw [eh, zsI_eq, show cd_pier A x1 = 1 from (by unfold cd_pier; rw [if_neg (by first | assumption | omega | exact fun q => absurd (twB_iff.mp q).1.1 (by assumption) | exact fun q => absurd (twB_iff.mp q).1.2 (by assumption) | exact fun q => absurd (by assumption) (twB_iff.mp q).2 | exact twB_iff.mpr ⟨⟨by assumption, by assumption⟩, by assumption⟩ | exact fun q => q.2.2.2.2.1 (by assumption) | exact fun q => q.2.2.2.2.2 (by assumption) | exact fun q => absurd q.1 (by assumption) | exact fun q => absurd q.2.1 (by assumption) | exact fun q => absurd q.2.2.1 (by assumption) | exact fun q => absurd q.2.2.2.1 (by assumption) | exact ⟨by assumption, by assumption, by assumption, by assumption, by assumption, by assumption⟩)])]; rfl : g8.2.1 0 2 = cd_pier A x1)
  · next y1 =>
      refine pa_if_t (pc' := 13) dX11_pier_4 (by decide) (by decide) ?_
      refine pa_iload_n (pc' := 14) dX11_pier_13 rfl rfl ?_
      refine pa_ldc (pc' := 16) dX11_pier_14 cl_11_226 rfl rfl ?_
      refine pa_calls (pc' := 19) (kd := 1) (vs := [.inl x1, .inl 99999]) (rest := []) dX11_pier_16 ml_11_227 (.inl rfl) rfl rfl rfl (fun d' _ => (N_within)) (fun v g9 hq => ?_)
      obtain ⟨ev, eh⟩ := hq
      subst ev
      rw [eh]
      show zPn N none d mX11_pier (19, _, [.inl (if 0 ≤ (x1).toInt ∧ (x1).toInt ≤ ((99999 : Int32)).toInt then 1 else 0)], h) _
      split
      · next y2 =>
          refine pa_if_t (pc' := 28) dX11_pier_19 (by decide) (by decide) ?_
          exact G_pier11 s0 (sh11 h1) (by decide +kernel) (fun v g q => q.trans (show cd_pier A x1 = 0 from (by unfold cd_pier; rw [if_pos (by first | assumption | omega | exact fun q => absurd (twB_iff.mp q).1.1 (by assumption) | exact fun q => absurd (twB_iff.mp q).1.2 (by assumption) | exact fun q => absurd (by assumption) (twB_iff.mp q).2 | exact twB_iff.mpr ⟨⟨by assumption, by assumption⟩, by assumption⟩ | exact fun q => q.2.2.2.2.1 (by assumption) | exact fun q => q.2.2.2.2.2 (by assumption) | exact fun q => absurd q.1 (by assumption) | exact fun q => absurd q.2.1 (by assumption) | exact fun q => absurd q.2.2.1 (by assumption) | exact fun q => absurd q.2.2.2.1 (by assumption) | exact ⟨by assumption, by assumption, by assumption, by assumption, by assumption, by assumption⟩), if_pos (by first | assumption | omega | exact fun q => absurd (twB_iff.mp q).1.1 (by assumption) | exact fun q => absurd (twB_iff.mp q).1.2 (by assumption) | exact fun q => absurd (by assumption) (twB_iff.mp q).2 | exact twB_iff.mpr ⟨⟨by assumption, by assumption⟩, by assumption⟩ | exact fun q => q.2.2.2.2.1 (by assumption) | exact fun q => q.2.2.2.2.2 (by assumption) | exact fun q => absurd q.1 (by assumption) | exact fun q => absurd q.2.1 (by assumption) | exact fun q => absurd q.2.2.1 (by assumption) | exact fun q => absurd q.2.2.2.1 (by assumption) | exact ⟨by assumption, by assumption, by assumption, by assumption, by assumption, by assumption⟩)])).symm)
      · next y2 =>
          refine pa_if_f (pc' := 22) dX11_pier_19 (by decide) (by decide) rfl ?_
          refine pa_aload_n (pc' := 23) dX11_pier_22 rfl rfl ?_
          refine pa_iconst (v := nI 2) (pc' := 24) dX11_pier_23 (by decide) rfl ?_
          refine pa_callv (pc' := 27) (vs := [.inl (nI 2)]) (rest := []) dX11_pier_24 ml_11_98 (by decide) rfl rfl rfl (fun d' _ => (c_ref s0)) (fun v g8 hq => ?_)
          obtain ⟨ev, eh⟩ := hq
          subst ev
          show zPn N none d mX11_pier (27, _, [.inl ((-1))], g8) _
          refine pa_iret dX11_pier_27 rfl rfl ?_
          exact (by rw [eh, zsI_eq, show cd_pier A x1 = 2 from (by unfold cd_pier; rw [if_pos (by first | assumption | omega | exact fun q => absurd (twB_iff.mp q).1.1 (by assumption) | exact fun q => absurd (twB_iff.mp q).1.2 (by assumption) | exact fun q => absurd (by assumption) (twB_iff.mp q).2 | exact twB_iff.mpr ⟨⟨by assumption, by assumption⟩, by assumption⟩ | exact fun q => q.2.2.2.2.1 (by assumption) | exact fun q => q.2.2.2.2.2 (by assumption) | exact fun q => absurd q.1 (by assumption) | exact fun q => absurd q.2.1 (by assumption) | exact fun q => absurd q.2.2.1 (by assumption) | exact fun q => absurd q.2.2.2.1 (by assumption) | exact ⟨by assumption, by assumption, by assumption, by assumption, by assumption, by assumption⟩), if_neg (by first | assumption | omega | exact fun q => absurd (twB_iff.mp q).1.1 (by assumption) | exact fun q => absurd (twB_iff.mp q).1.2 (by assumption) | exact fun q => absurd (by assumption) (twB_iff.mp q).2 | exact twB_iff.mpr ⟨⟨by assumption, by assumption⟩, by assumption⟩ | exact fun q => q.2.2.2.2.1 (by assumption) | exact fun q => q.2.2.2.2.2 (by assumption) | exact fun q => absurd q.1 (by assumption) | exact fun q => absurd q.2.1 (by assumption) | exact fun q => absurd q.2.2.1 (by assumption) | exact fun q => absurd q.2.2.2.1 (by assumption) | exact ⟨by assumption, by assumption, by assumption, by assumption, by assumption, by assumption⟩)])]; rfl : g8.2.1 0 2 = cd_pier A x1)
theorem R_pier12 (z : lZ A c s H J g) (m : lMid kk im t g h) : zPa d mX12_pier [.inr (.inr (some 196)), .inl x1] h (fun _ g => g.2.1 196 11 = cd_pier A x1) := by
  intro N
  have hp := M_hasBt z m
  have s196 : zsh h 196 = some (12, 39) := zsh_by m.2.1.2.2.2 (by decide +kernel)
  generalize eg : zsI (zsI h 196 0 0) 196 11 0 = h2
  have e2 : ∀ a k, a ≠ 196 → h2.2.1 a k = h.2.1 a k := fun a k ha => by rw [← eg, zsI_no (by omega), zsI_no (by omega)]
  have e3 : ∀ k, k ≠ 0 → k ≠ 11 → h2.2.1 196 k = h.2.1 196 k := fun k w1 w2 => by rw [← eg, zsI_no (by omega), zsI_no (by omega)]
  have h1 : h2.1 = hh_487.1 := by rw [← eg]; exact m.2.1.2.2.2
  have hA : lPA A c h2 := by rw [← eg]; exact (m.pa z.1.1).gd
  have B : cI A ≠ 0 → bgM A s h2 := fun ne => by rw [← eg]; exact (z.bm m ne).gd
  have er : h2.2.2.2.1 = h.2.2.2.1 := by rw [← eg]; rfl
  have q15 : h2.2.2.2.1 196 15 = some 199 := by rw [er]; exact m.r15
  have q17 : h2.2.2.2.1 196 17 = some 201 := by rw [er]; exact m.mw.2.1
  have z196 : zsh h2 196 = some (12, 39) := zsh_by h1 (by decide +kernel)
  have z199 : zsh h2 199 = some (14, 363) := zsh_by h1 (by decide +kernel)
  have z201 : zsh h2 201 = some (14, 76) := zsh_by h1 (by decide +kernel)
  have M : nMo A s 201 0 h2 := (z.lm m).1.1.fr (fun k => e2 _ _ (by decide))
  have hT := z.1.2.1
  have hB := z.1.2.2
  have hI := z.1.1.1
  have hN := z.2.1.1
  have k0 : (0 : Int32).toInt = 0 := by decide
  obtain ⟨b1, b2, b3, b4, b5⟩ := hI.2.2.1
  rw [← e3 14 (by decide) (by decide)] at hp
  have lt0 : (99999 : Int32).toInt = 99999 := by decide
  have lt1 : (1000000 : Int32).toInt = 1000000 := by decide
  have lt2 : (nI 0 : Int32).toInt = 0 := by decide
  have lt3 : (nI 1 : Int32).toInt = 1 := by decide
  have lt4 : (nI 2 : Int32).toInt = 2 := by decide
  have lt5 : (nI 4 : Int32).toInt = 4 := by decide
  have lt6 : (nI 6 : Int32).toInt = 6 := by decide
  show zPn N none d mX12_pier (0, [(0, .inr (.inr (some 196))), (1, .inl x1)], [], h) _
  refine pa_aload_n (pc' := 1) dX12_pier_0 rfl rfl ?_
  refine pa_callv (pc' := 4) (vs := []) (rest := []) dX12_pier_1 ml_12_167 (by decide) rfl rfl rfl (fun d' _ => (m_good s196)) (fun v h3 hq => ?_)
  obtain ⟨ev, eh⟩ := hq
  subst ev
  show zPn N none d mX12_pier (4, _, [], h3) _
  rw [eg] at eh
  subst eh
  have t0 : h3.2.1 196 11 = 0 := by rw [← eg]; exact zsI_eq
  rcases hp with ⟨y1, hp⟩ | ⟨y1, hp⟩
  · refine pa_aload_n (pc' := 5) dX12_pier_4 rfl rfl ?_
    refine pa_getI (pc' := 8) (n := 39) (v := 0) dX12_pier_5 fl_12_180 z196 (by decide) hp rfl ?_
    refine pa_if_f (pc' := 11) dX12_pier_8 (by decide) (by decide) rfl ?_
    refine pa_aload_n (pc' := 12) dX12_pier_11 rfl rfl ?_
    refine pa_iconst (v := nI 1) (pc' := 13) dX12_pier_12 (by decide) rfl ?_
    refine pa_callv (pc' := 16) (vs := [.inl (nI 1)]) (rest := []) dX12_pier_13 ml_12_170 (by decide) rfl rfl rfl (fun d' _ => (m_no z196)) (fun v g8 hq => ?_)
    obtain ⟨ev, eh⟩ := hq
    subst ev
    show zPn N none d mX12_pier (16, _, [.inl ((-1))], g8) _
    refine pa_iret dX12_pier_16 rfl rfl ?_
    exact (by rw [eh, zsI_eq, show cd_pier A x1 = 1 from (by unfold cd_pier; rw [if_neg (by first | assumption | omega | exact fun q => absurd (twB_iff.mp q).1.1 (by assumption) | exact fun q => absurd (twB_iff.mp q).1.2 (by assumption) | exact fun q => absurd (by assumption) (twB_iff.mp q).2 | exact twB_iff.mpr ⟨⟨by assumption, by assumption⟩, by assumption⟩ | exact fun q => q.2.2.2.2.1 (by assumption) | exact fun q => q.2.2.2.2.2 (by assumption) | exact fun q => absurd q.1 (by assumption) | exact fun q => absurd q.2.1 (by assumption) | exact fun q => absurd q.2.2.1 (by assumption) | exact fun q => absurd q.2.2.2.1 (by assumption) | exact ⟨by assumption, by assumption, by assumption, by assumption, by assumption, by assumption⟩)])]; rfl : g8.2.1 196 11 = cd_pier A x1)
  refine pa_aload_n (pc' := 5) dX12_pier_4 rfl rfl ?_
  refine pa_getI (pc' := 8) (n := 39) (v := 1) dX12_pier_5 fl_12_180 z196 (by decide) hp rfl ?_
  refine pa_if_t (pc' := 17) dX12_pier_8 (by decide) (by decide) ?_
  refine pa_iload_n (pc' := 18) dX12_pier_17 rfl rfl ?_
  refine pa_iconst (v := nI 0) (pc' := 19) dX12_pier_18 (by decide) rfl ?_
  refine pa_ldcw (pc' := 22) dX12_pier_19 cl_12_340 rfl rfl ?_
  refine pa_calls (pc' := 25) (kd := 1) (vs := [.inl x1, .inl (nI 0), .inl 99999]) (rest := []) dX12_pier_22 ml_12_149 (.inl rfl) rfl rfl rfl (fun d' _ => (in_v)) (fun v g9 hq => ?_)
  obtain ⟨ev, eh⟩ := hq
  subst ev
  rw [eh]
  show zPn N none d mX12_pier (25, _, [.inl (if ((nI 0)).toInt ≤ (x1).toInt ∧ (x1).toInt ≤ ((99999 : Int32)).toInt then 1 else 0)], h3) _
  split
  · next y2 =>
      refine pa_if_t (pc' := 34) dX12_pier_25 (by decide) (by decide) ?_
      exact G_pier12 (by decide +kernel) (fun v g q => (q.2.2 39 z196).trans (t0.trans (show cd_pier A x1 = 0 from (by unfold cd_pier; rw [if_pos (by first | assumption | omega | exact fun q => absurd (twB_iff.mp q).1.1 (by assumption) | exact fun q => absurd (twB_iff.mp q).1.2 (by assumption) | exact fun q => absurd (by assumption) (twB_iff.mp q).2 | exact twB_iff.mpr ⟨⟨by assumption, by assumption⟩, by assumption⟩ | exact fun q => q.2.2.2.2.1 (by assumption) | exact fun q => q.2.2.2.2.2 (by assumption) | exact fun q => absurd q.1 (by assumption) | exact fun q => absurd q.2.1 (by assumption) | exact fun q => absurd q.2.2.1 (by assumption) | exact fun q => absurd q.2.2.2.1 (by assumption) | exact ⟨by assumption, by assumption, by assumption, by assumption, by assumption, by assumption⟩), if_pos (by first | assumption | omega | exact fun q => absurd (twB_iff.mp q).1.1 (by assumption) | exact fun q => absurd (twB_iff.mp q).1.2 (by assumption) | exact fun q => absurd (by assumption) (twB_iff.mp q).2 | exact twB_iff.mpr ⟨⟨by assumption, by assumption⟩, by assumption⟩ | exact fun q => q.2.2.2.2.1 (by assumption) | exact fun q => q.2.2.2.2.2 (by assumption) | exact fun q => absurd q.1 (by assumption) | exact fun q => absurd q.2.1 (by assumption) | exact fun q => absurd q.2.2.1 (by assumption) | exact fun q => absurd q.2.2.2.1 (by assumption) | exact ⟨by assumption, by assumption, by assumption, by assumption, by assumption, by assumption⟩)])).symm))
  · next y2 =>
      refine pa_if_f (pc' := 28) dX12_pier_25 (by decide) (by decide) rfl ?_
      refine pa_aload_n (pc' := 29) dX12_pier_28 rfl rfl ?_
      refine pa_iconst (v := nI 2) (pc' := 30) dX12_pier_29 (by decide) rfl ?_
      refine pa_callv (pc' := 33) (vs := [.inl (nI 2)]) (rest := []) dX12_pier_30 ml_12_170 (by decide) rfl rfl rfl (fun d' _ => (m_no z196)) (fun v g8 hq => ?_)
      obtain ⟨ev, eh⟩ := hq
      subst ev
      show zPn N none d mX12_pier (33, _, [.inl ((-1))], g8) _
      refine pa_iret dX12_pier_33 rfl rfl ?_
      exact (by rw [eh, zsI_eq, show cd_pier A x1 = 2 from (by unfold cd_pier; rw [if_pos (by first | assumption | omega | exact fun q => absurd (twB_iff.mp q).1.1 (by assumption) | exact fun q => absurd (twB_iff.mp q).1.2 (by assumption) | exact fun q => absurd (by assumption) (twB_iff.mp q).2 | exact twB_iff.mpr ⟨⟨by assumption, by assumption⟩, by assumption⟩ | exact fun q => q.2.2.2.2.1 (by assumption) | exact fun q => q.2.2.2.2.2 (by assumption) | exact fun q => absurd q.1 (by assumption) | exact fun q => absurd q.2.1 (by assumption) | exact fun q => absurd q.2.2.1 (by assumption) | exact fun q => absurd q.2.2.2.1 (by assumption) | exact ⟨by assumption, by assumption, by assumption, by assumption, by assumption, by assumption⟩), if_neg (by first | assumption | omega | exact fun q => absurd (twB_iff.mp q).1.1 (by assumption) | exact fun q => absurd (twB_iff.mp q).1.2 (by assumption) | exact fun q => absurd (by assumption) (twB_iff.mp q).2 | exact twB_iff.mpr ⟨⟨by assumption, by assumption⟩, by assumption⟩ | exact fun q => q.2.2.2.2.1 (by assumption) | exact fun q => q.2.2.2.2.2 (by assumption) | exact fun q => absurd q.1 (by assumption) | exact fun q => absurd q.2.1 (by assumption) | exact fun q => absurd q.2.2.1 (by assumption) | exact fun q => absurd q.2.2.2.1 (by assumption) | exact ⟨by assumption, by assumption, by assumption, by assumption, by assumption, by assumption⟩)])]; rfl : g8.2.1 196 11 = cd_pier A x1)
theorem R_sung11 (z : lZ A c s H J h) (hi : lInv t h) : zPa d mX11_sung [.inr (.inr (some 0)), .inl x1, .inl x2] h (fun _ g => g.2.1 0 2 = cd_sung A x1 x2) := by
  intro N
  have h1 := hi.2.2.2.2.1
  have hA := z.1.1
  have hT := z.1.2.1
  have hB := z.1.2.2
  have hI := hA.1
  have hN := z.2.1.1
  have K := hA.2.2.2.1
  have hc2 : c = 2 ∨ c = 42 := hA.2.1
  obtain ⟨b1, b2, b3, b4, b5⟩ := hI.2.2.1
  have s0 : zsh h 0 = some (11, 16) := zsh_by h1 (by decide +kernel)
  obtain ⟨sc, sc1, sc2, sc4, sc5, scw, scb⟩ := cSh hA.2.1 h1
  obtain ⟨c9, c12, c13, cw, cb⟩ := cRf_of hi.1 hA.2.1
  have S := hi.nw
  obtain ⟨⟨s86, s87, s88, s89, s90, s91⟩, r87, r88, r89, r90, r91⟩ := S.o86
  have r3 := hA.2.2.1
  have r6 := S.2.1
  obtain ⟨n1, n2, n3, n4⟩ := z.2.2.1.1
  have lt0 : (nI 1 : Int32).toInt = 1 := by decide
  show zPn N none d mX11_sung (0, [(0, .inr (.inr (some 0))), (1, .inl x1), (2, .inl x2)], [], h) _
  refine pa_aload_n (pc' := 1) dX11_sung_0 rfl rfl ?_
  refine pa_iload_n (pc' := 2) dX11_sung_1 rfl rfl ?_
  refine pa_iload_n (pc' := 3) dX11_sung_2 rfl rfl ?_
  refine pa_callv (pc' := 6) (vs := [.inl x1, .inl x2]) (rest := []) dX11_sung_3 ml_11_191 (by decide) rfl rfl rfl (fun d' _ => (N_isNote z hi)) (fun v g9 hq => ?_)
  obtain ⟨ev, eh⟩ := hq
  subst ev
  rw [eh]
  show zPn N none d mX11_sung (6, _, [.inl (if (0 ≤ x1.toInt ∧ x1.toInt < (cB A:Int)) ∧ 0 ≤ x2.toInt ∧ x2.toInt < (lB A x1.toInt.toNat:Int) then 1 else 0)], h) _
  split
  · next y1 =>
      refine pa_if_t (pc' := 15) dX11_sung_6 (by decide) (by decide) ?_
      exact G_sung11 s0 (sh11 h1) (by decide +kernel) (fun v g q => q.trans (show cd_sung A x1 x2 = 0 from (by unfold cd_sung; rw [if_pos (by first | assumption | omega | exact fun q => absurd (twB_iff.mp q).1.1 (by assumption) | exact fun q => absurd (twB_iff.mp q).1.2 (by assumption) | exact fun q => absurd (by assumption) (twB_iff.mp q).2 | exact twB_iff.mpr ⟨⟨by assumption, by assumption⟩, by assumption⟩ | exact fun q => q.2.2.2.2.1 (by assumption) | exact fun q => q.2.2.2.2.2 (by assumption) | exact fun q => absurd q.1 (by assumption) | exact fun q => absurd q.2.1 (by assumption) | exact fun q => absurd q.2.2.1 (by assumption) | exact fun q => absurd q.2.2.2.1 (by assumption) | exact ⟨by assumption, by assumption, by assumption, by assumption, by assumption, by assumption⟩)])).symm)
  · next y1 =>
      refine pa_if_f (pc' := 9) dX11_sung_6 (by decide) (by decide) rfl ?_
      refine pa_aload_n (pc' := 10) dX11_sung_9 rfl rfl ?_
      refine pa_iconst (v := nI 1) (pc' := 11) dX11_sung_10 (by decide) rfl ?_
      refine pa_callv (pc' := 14) (vs := [.inl (nI 1)]) (rest := []) dX11_sung_11 ml_11_98 (by decide) rfl rfl rfl (fun d' _ => (c_ref s0)) (fun v g8 hq => ?_)
      obtain ⟨ev, eh⟩ := hq
      subst ev
      show zPn N none d mX11_sung (14, _, [.inl ((-1))], g8) _
      refine pa_iret dX11_sung_14 rfl rfl ?_
      exact (by rw [eh, zsI_eq, show cd_sung A x1 x2 = 1 from (by unfold cd_sung; rw [if_neg (by first | assumption | omega | exact fun q => absurd (twB_iff.mp q).1.1 (by assumption) | exact fun q => absurd (twB_iff.mp q).1.2 (by assumption) | exact fun q => absurd (by assumption) (twB_iff.mp q).2 | exact twB_iff.mpr ⟨⟨by assumption, by assumption⟩, by assumption⟩ | exact fun q => q.2.2.2.2.1 (by assumption) | exact fun q => q.2.2.2.2.2 (by assumption) | exact fun q => absurd q.1 (by assumption) | exact fun q => absurd q.2.1 (by assumption) | exact fun q => absurd q.2.2.1 (by assumption) | exact fun q => absurd q.2.2.2.1 (by assumption) | exact ⟨by assumption, by assumption, by assumption, by assumption, by assumption, by assumption⟩)])]; rfl : g8.2.1 0 2 = cd_sung A x1 x2)
theorem R_sent12 (z : lZ A c s H J g) (m : lMid kk im t g h) : zPa d mX12_sent [.inr (.inr (some 196)), .inl x1] h (fun _ g => g.2.1 196 11 = cd_sent A x1) := by
  intro N
  have hp := M_hasBt z m
  have s196 : zsh h 196 = some (12, 39) := zsh_by m.2.1.2.2.2 (by decide +kernel)
  generalize eg : zsI (zsI h 196 0 0) 196 11 0 = h2
  have e2 : ∀ a k, a ≠ 196 → h2.2.1 a k = h.2.1 a k := fun a k ha => by rw [← eg, zsI_no (by omega), zsI_no (by omega)]
  have e3 : ∀ k, k ≠ 0 → k ≠ 11 → h2.2.1 196 k = h.2.1 196 k := fun k w1 w2 => by rw [← eg, zsI_no (by omega), zsI_no (by omega)]
  have h1 : h2.1 = hh_487.1 := by rw [← eg]; exact m.2.1.2.2.2
  have hA : lPA A c h2 := by rw [← eg]; exact (m.pa z.1.1).gd
  have B : cI A ≠ 0 → bgM A s h2 := fun ne => by rw [← eg]; exact (z.bm m ne).gd
  have er : h2.2.2.2.1 = h.2.2.2.1 := by rw [← eg]; rfl
  have q15 : h2.2.2.2.1 196 15 = some 199 := by rw [er]; exact m.r15
  have q17 : h2.2.2.2.1 196 17 = some 201 := by rw [er]; exact m.mw.2.1
  have z196 : zsh h2 196 = some (12, 39) := zsh_by h1 (by decide +kernel)
  have z199 : zsh h2 199 = some (14, 363) := zsh_by h1 (by decide +kernel)
  have z201 : zsh h2 201 = some (14, 76) := zsh_by h1 (by decide +kernel)
  have M : nMo A s 201 0 h2 := (z.lm m).1.1.fr (fun k => e2 _ _ (by decide))
  have hT := z.1.2.1
  have hB := z.1.2.2
  have hI := z.1.1.1
  have hN := z.2.1.1
  have k0 : (0 : Int32).toInt = 0 := by decide
  obtain ⟨b1, b2, b3, b4, b5⟩ := hI.2.2.1
  rw [← e3 14 (by decide) (by decide)] at hp
  have lt0 : (nI 0 : Int32).toInt = 0 := by decide
  have lt1 : (nI 1 : Int32).toInt = 1 := by decide
  have lt2 : (nI 2 : Int32).toInt = 2 := by decide
  have lt3 : (nI 3 : Int32).toInt = 3 := by decide
  have lt4 : (nI 7 : Int32).toInt = 7 := by decide
  have lt5 : (nI 12 : Int32).toInt = 12 := by decide
  have lt6 : (nI 20 : Int32).toInt = 20 := by decide
  show zPn N none d mX12_sent (0, [(0, .inr (.inr (some 196))), (1, .inl x1)], [], h) _
  refine pa_aload_n (pc' := 1) dX12_sent_0 rfl rfl ?_
  refine pa_callv (pc' := 4) (vs := []) (rest := []) dX12_sent_1 ml_12_167 (by decide) rfl rfl rfl (fun d' _ => (m_good s196)) (fun v h3 hq => ?_)
  obtain ⟨ev, eh⟩ := hq
  subst ev
  show zPn N none d mX12_sent (4, _, [], h3) _
  rw [eg] at eh
  subst eh
  have t0 : h3.2.1 196 11 = 0 := by rw [← eg]; exact zsI_eq
  rcases hp with ⟨y1, hp⟩ | ⟨y1, hp⟩
  · refine pa_aload_n (pc' := 5) dX12_sent_4 rfl rfl ?_
    refine pa_getI (pc' := 8) (n := 39) (v := 0) dX12_sent_5 fl_12_180 z196 (by decide) hp rfl ?_
    refine pa_if_t (pc' := 20) dX12_sent_8 (by decide) (by decide) ?_
    refine pa_aload_n (pc' := 21) dX12_sent_20 rfl rfl ?_
    refine pa_iconst (v := nI 1) (pc' := 22) dX12_sent_21 (by decide) rfl ?_
    refine pa_callv (pc' := 25) (vs := [.inl (nI 1)]) (rest := []) dX12_sent_22 ml_12_170 (by decide) rfl rfl rfl (fun d' _ => (m_no z196)) (fun v g8 hq => ?_)
    obtain ⟨ev, eh⟩ := hq
    subst ev
    show zPn N none d mX12_sent (25, _, [.inl ((-1))], g8) _
    refine pa_iret dX12_sent_25 rfl rfl ?_
    exact (by rw [eh, zsI_eq, show cd_sent A x1 = 1 from (by unfold cd_sent; rw [if_neg (by first | assumption | omega | exact fun q => absurd (twB_iff.mp q).1.1 (by assumption) | exact fun q => absurd (twB_iff.mp q).1.2 (by assumption) | exact fun q => absurd (by assumption) (twB_iff.mp q).2 | exact twB_iff.mpr ⟨⟨by assumption, by assumption⟩, by assumption⟩ | exact fun q => q.2.2.2.2.1 (by assumption) | exact fun q => q.2.2.2.2.2 (by assumption) | exact fun q => absurd q.1 (by assumption) | exact fun q => absurd q.2.1 (by assumption) | exact fun q => absurd q.2.2.1 (by assumption) | exact fun q => absurd q.2.2.2.1 (by assumption) | exact ⟨by assumption, by assumption, by assumption, by assumption, by assumption, by assumption⟩)])]; rfl : g8.2.1 196 11 = cd_sent A x1)
  refine pa_aload_n (pc' := 5) dX12_sent_4 rfl rfl ?_
  refine pa_getI (pc' := 8) (n := 39) (v := 1) dX12_sent_5 fl_12_180 z196 (by decide) hp rfl ?_
  refine pa_if_f (pc' := 11) dX12_sent_8 (by decide) (by decide) rfl ?_
  refine pa_iload_n (pc' := 12) dX12_sent_11 rfl rfl ?_
  refine pa_iconst (v := nI 0) (pc' := 13) dX12_sent_12 (by decide) rfl ?_
  refine pa_iconst (v := nI 2) (pc' := 14) dX12_sent_13 (by decide) rfl ?_
  refine pa_calls (pc' := 17) (kd := 1) (vs := [.inl x1, .inl (nI 0), .inl (nI 2)]) (rest := []) dX12_sent_14 ml_12_149 (.inl rfl) rfl rfl rfl (fun d' _ => (in_v)) (fun v g9 hq => ?_)
  obtain ⟨ev, eh⟩ := hq
  subst ev
  rw [eh]
  show zPn N none d mX12_sent (17, _, [.inl (if ((nI 0)).toInt ≤ (x1).toInt ∧ (x1).toInt ≤ ((nI 2)).toInt then 1 else 0)], h3) _
  split
  · next y2 =>
      refine pa_if_t (pc' := 26) dX12_sent_17 (by decide) (by decide) ?_
      exact G_sent12 (by decide +kernel) (fun v g q => (q.2.2 39 z196).trans (t0.trans (show cd_sent A x1 = 0 from (by unfold cd_sent; rw [if_pos (by first | assumption | omega | exact fun q => absurd (twB_iff.mp q).1.1 (by assumption) | exact fun q => absurd (twB_iff.mp q).1.2 (by assumption) | exact fun q => absurd (by assumption) (twB_iff.mp q).2 | exact twB_iff.mpr ⟨⟨by assumption, by assumption⟩, by assumption⟩ | exact fun q => q.2.2.2.2.1 (by assumption) | exact fun q => q.2.2.2.2.2 (by assumption) | exact fun q => absurd q.1 (by assumption) | exact fun q => absurd q.2.1 (by assumption) | exact fun q => absurd q.2.2.1 (by assumption) | exact fun q => absurd q.2.2.2.1 (by assumption) | exact ⟨by assumption, by assumption, by assumption, by assumption, by assumption, by assumption⟩)])).symm))
  · next y2 =>
      refine pa_if_f (pc' := 20) dX12_sent_17 (by decide) (by decide) rfl ?_
      refine pa_aload_n (pc' := 21) dX12_sent_20 rfl rfl ?_
      refine pa_iconst (v := nI 1) (pc' := 22) dX12_sent_21 (by decide) rfl ?_
      refine pa_callv (pc' := 25) (vs := [.inl (nI 1)]) (rest := []) dX12_sent_22 ml_12_170 (by decide) rfl rfl rfl (fun d' _ => (m_no z196)) (fun v g8 hq => ?_)
      obtain ⟨ev, eh⟩ := hq
      subst ev
      show zPn N none d mX12_sent (25, _, [.inl ((-1))], g8) _
      refine pa_iret dX12_sent_25 rfl rfl ?_
      exact (by rw [eh, zsI_eq, show cd_sent A x1 = 1 from (by unfold cd_sent; rw [if_neg (by first | assumption | omega | exact fun q => absurd (twB_iff.mp q).1.1 (by assumption) | exact fun q => absurd (twB_iff.mp q).1.2 (by assumption) | exact fun q => absurd (by assumption) (twB_iff.mp q).2 | exact twB_iff.mpr ⟨⟨by assumption, by assumption⟩, by assumption⟩ | exact fun q => q.2.2.2.2.1 (by assumption) | exact fun q => q.2.2.2.2.2 (by assumption) | exact fun q => absurd q.1 (by assumption) | exact fun q => absurd q.2.1 (by assumption) | exact fun q => absurd q.2.2.1 (by assumption) | exact fun q => absurd q.2.2.2.1 (by assumption) | exact ⟨by assumption, by assumption, by assumption, by assumption, by assumption, by assumption⟩)])]; rfl : g8.2.1 196 11 = cd_sent A x1)
theorem R_meet11 (z : lZ A c s H J h) (hi : lInv t h) : zPa d mX11_meet [.inr (.inr (some 0)), .inl x1, .inl x2, .inl x3, .inl x4] h (fun _ g => g.2.1 0 2 = cd_meet A x1 x2 x3 x4) := by
  intro N
  have h1 := hi.2.2.2.2.1
  have hA := z.1.1
  have hT := z.1.2.1
  have hB := z.1.2.2
  have hI := hA.1
  have hN := z.2.1.1
  have K := hA.2.2.2.1
  have hc2 : c = 2 ∨ c = 42 := hA.2.1
  obtain ⟨b1, b2, b3, b4, b5⟩ := hI.2.2.1
  have s0 : zsh h 0 = some (11, 16) := zsh_by h1 (by decide +kernel)
  obtain ⟨sc, sc1, sc2, sc4, sc5, scw, scb⟩ := cSh hA.2.1 h1
  obtain ⟨c9, c12, c13, cw, cb⟩ := cRf_of hi.1 hA.2.1
  have S := hi.nw
  obtain ⟨⟨s86, s87, s88, s89, s90, s91⟩, r87, r88, r89, r90, r91⟩ := S.o86
  have r3 := hA.2.2.1
  have r6 := S.2.1
  obtain ⟨n1, n2, n3, n4⟩ := z.2.2.1.1
  have lt0 : (nI 1 : Int32).toInt = 1 := by decide
  show zPn N none d mX11_meet (0, [(0, .inr (.inr (some 0))), (1, .inl x1), (2, .inl x2), (3, .inl x3), (4, .inl x4)], [], h) _
  refine pa_aload_n (pc' := 1) dX11_meet_0 rfl rfl ?_
  refine pa_iload_n (pc' := 2) dX11_meet_1 rfl rfl ?_
  refine pa_callv (pc' := 5) (vs := [.inl x1]) (rest := []) dX11_meet_2 ml_11_147 (by decide) rfl rfl rfl (fun d' _ => (N_isBox hA h1)) (fun v g9 hq => ?_)
  obtain ⟨ev, eh⟩ := hq
  subst ev
  rw [eh]
  show zPn N none d mX11_meet (5, _, [.inl (if 0 ≤ (x1).toInt ∧ (x1).toInt < (cB A:Int) then 1 else 0)], h) _
  split
  · next y1 =>
      refine pa_if_f (pc' := 8) dX11_meet_5 (by decide) (by decide) rfl ?_
      refine pa_aload_n (pc' := 9) dX11_meet_8 rfl rfl ?_
      refine pa_iload_n (pc' := 10) dX11_meet_9 rfl rfl ?_
      refine pa_callv (pc' := 13) (vs := [.inl x3]) (rest := []) dX11_meet_10 ml_11_147 (by decide) rfl rfl rfl (fun d' _ => (N_isBox hA h1)) (fun v g9 hq => ?_)
      obtain ⟨ev, eh⟩ := hq
      subst ev
      rw [eh]
      show zPn N none d mX11_meet (13, _, [.inl (if 0 ≤ (x3).toInt ∧ (x3).toInt < (cB A:Int) then 1 else 0)], h) _
      split
      · next y2 =>
          refine pa_if_f (pc' := 16) dX11_meet_13 (by decide) (by decide) rfl ?_
          refine pa_aload_n (pc' := 17) dX11_meet_16 rfl rfl ?_
          refine pa_iload_n (pc' := 18) dX11_meet_17 rfl rfl ?_
          refine pa_callv (pc' := 21) (vs := [.inl x2]) (rest := []) dX11_meet_18 ml_11_121 (by decide) rfl rfl rfl (fun d' _ => (N_isWhale hA h1)) (fun v g9 hq => ?_)
          obtain ⟨ev, eh⟩ := hq
          subst ev
          rw [eh]
          show zPn N none d mX11_meet (21, _, [.inl (if 0 ≤ (x2).toInt ∧ (x2).toInt < (cH A:Int) then 1 else 0)], h) _
          split
          · next y3 =>
              refine pa_if_f (pc' := 24) dX11_meet_21 (by decide) (by decide) rfl ?_
              refine pa_aload_n (pc' := 25) dX11_meet_24 rfl rfl ?_
              refine pa_iload (pc' := 27) dX11_meet_25 rfl rfl ?_
              refine pa_callv (pc' := 30) (vs := [.inl x4]) (rest := []) dX11_meet_27 ml_11_121 (by decide) rfl rfl rfl (fun d' _ => (N_isWhale hA h1)) (fun v g9 hq => ?_)
              obtain ⟨ev, eh⟩ := hq
              subst ev
              rw [eh]
              show zPn N none d mX11_meet (30, _, [.inl (if 0 ≤ (x4).toInt ∧ (x4).toInt < (cH A:Int) then 1 else 0)], h) _
              split
              · next y4 =>
                  refine pa_if_f (pc' := 33) dX11_meet_30 (by decide) (by decide) rfl ?_
                  refine pa_iload_n (pc' := 34) dX11_meet_33 rfl rfl ?_
                  refine pa_iload_n (pc' := 35) dX11_meet_34 rfl rfl ?_
                  by_cases y5 : x1 = x3
                  · refine pa_icmp_t (pc' := 44) dX11_meet_35 (decide_eq_true y5) (by decide) ?_
                    refine pa_aload_n (pc' := 45) dX11_meet_44 rfl rfl ?_
                    refine pa_iconst (v := nI 1) (pc' := 46) dX11_meet_45 (by decide) rfl ?_
                    refine pa_callv (pc' := 49) (vs := [.inl (nI 1)]) (rest := []) dX11_meet_46 ml_11_98 (by decide) rfl rfl rfl (fun d' _ => (c_ref s0)) (fun v g8 hq => ?_)
                    obtain ⟨ev, eh⟩ := hq
                    subst ev
                    show zPn N none d mX11_meet (49, _, [.inl ((-1))], g8) _
                    refine pa_iret dX11_meet_49 rfl rfl ?_
                    exact (by rw [eh, zsI_eq, show cd_meet A x1 x2 x3 x4 = 1 from (by unfold cd_meet; rw [if_neg (by first | assumption | omega | exact fun q => absurd (twB_iff.mp q).1.1 (by assumption) | exact fun q => absurd (twB_iff.mp q).1.2 (by assumption) | exact fun q => absurd (by assumption) (twB_iff.mp q).2 | exact twB_iff.mpr ⟨⟨by assumption, by assumption⟩, by assumption⟩ | exact fun q => q.2.2.2.2.1 (by assumption) | exact fun q => q.2.2.2.2.2 (by assumption) | exact fun q => absurd q.1 (by assumption) | exact fun q => absurd q.2.1 (by assumption) | exact fun q => absurd q.2.2.1 (by assumption) | exact fun q => absurd q.2.2.2.1 (by assumption) | exact ⟨by assumption, by assumption, by assumption, by assumption, by assumption, by assumption⟩)])]; rfl : g8.2.1 0 2 = cd_meet A x1 x2 x3 x4)
                  · refine pa_icmp_f (pc' := 38) dX11_meet_35 (decide_eq_false y5) (by decide) rfl ?_
                    refine pa_iload_n (pc' := 39) dX11_meet_38 rfl rfl ?_
                    refine pa_iload (pc' := 41) dX11_meet_39 rfl rfl ?_
                    by_cases y6 : x2 = x4
                    · refine pa_icmp_f (pc' := 44) dX11_meet_41 (decide_eq_false (not_not_intro y6)) (by decide) rfl ?_
                      refine pa_aload_n (pc' := 45) dX11_meet_44 rfl rfl ?_
                      refine pa_iconst (v := nI 1) (pc' := 46) dX11_meet_45 (by decide) rfl ?_
                      refine pa_callv (pc' := 49) (vs := [.inl (nI 1)]) (rest := []) dX11_meet_46 ml_11_98 (by decide) rfl rfl rfl (fun d' _ => (c_ref s0)) (fun v g8 hq => ?_)
                      obtain ⟨ev, eh⟩ := hq
                      subst ev
                      show zPn N none d mX11_meet (49, _, [.inl ((-1))], g8) _
                      refine pa_iret dX11_meet_49 rfl rfl ?_
                      exact (by rw [eh, zsI_eq, show cd_meet A x1 x2 x3 x4 = 1 from (by unfold cd_meet; rw [if_neg (by first | assumption | omega | exact fun q => absurd (twB_iff.mp q).1.1 (by assumption) | exact fun q => absurd (twB_iff.mp q).1.2 (by assumption) | exact fun q => absurd (by assumption) (twB_iff.mp q).2 | exact twB_iff.mpr ⟨⟨by assumption, by assumption⟩, by assumption⟩ | exact fun q => q.2.2.2.2.1 (by assumption) | exact fun q => q.2.2.2.2.2 (by assumption) | exact fun q => absurd q.1 (by assumption) | exact fun q => absurd q.2.1 (by assumption) | exact fun q => absurd q.2.2.1 (by assumption) | exact fun q => absurd q.2.2.2.1 (by assumption) | exact ⟨by assumption, by assumption, by assumption, by assumption, by assumption, by assumption⟩)])]; rfl : g8.2.1 0 2 = cd_meet A x1 x2 x3 x4)
                    · refine pa_icmp_t (pc' := 50) dX11_meet_41 (decide_eq_true y6) (by decide) ?_
                      exact G_meet11 s0 (sh11 h1) (by decide +kernel) (fun v g q => q.trans (show cd_meet A x1 x2 x3 x4 = 0 from (by unfold cd_meet; rw [if_pos (by first | assumption | omega | exact fun q => absurd (twB_iff.mp q).1.1 (by assumption) | exact fun q => absurd (twB_iff.mp q).1.2 (by assumption) | exact fun q => absurd (by assumption) (twB_iff.mp q).2 | exact twB_iff.mpr ⟨⟨by assumption, by assumption⟩, by assumption⟩ | exact fun q => q.2.2.2.2.1 (by assumption) | exact fun q => q.2.2.2.2.2 (by assumption) | exact fun q => absurd q.1 (by assumption) | exact fun q => absurd q.2.1 (by assumption) | exact fun q => absurd q.2.2.1 (by assumption) | exact fun q => absurd q.2.2.2.1 (by assumption) | exact ⟨by assumption, by assumption, by assumption, by assumption, by assumption, by assumption⟩)])).symm)
              · next y4 =>
                  refine pa_if_t (pc' := 44) dX11_meet_30 (by decide) (by decide) ?_
                  refine pa_aload_n (pc' := 45) dX11_meet_44 rfl rfl ?_
                  refine pa_iconst (v := nI 1) (pc' := 46) dX11_meet_45 (by decide) rfl ?_
                  refine pa_callv (pc' := 49) (vs := [.inl (nI 1)]) (rest := []) dX11_meet_46 ml_11_98 (by decide) rfl rfl rfl (fun d' _ => (c_ref s0)) (fun v g8 hq => ?_)
                  obtain ⟨ev, eh⟩ := hq
                  subst ev
                  show zPn N none d mX11_meet (49, _, [.inl ((-1))], g8) _
                  refine pa_iret dX11_meet_49 rfl rfl ?_
                  exact (by rw [eh, zsI_eq, show cd_meet A x1 x2 x3 x4 = 1 from (by unfold cd_meet; rw [if_neg (by first | assumption | omega | exact fun q => absurd (twB_iff.mp q).1.1 (by assumption) | exact fun q => absurd (twB_iff.mp q).1.2 (by assumption) | exact fun q => absurd (by assumption) (twB_iff.mp q).2 | exact twB_iff.mpr ⟨⟨by assumption, by assumption⟩, by assumption⟩ | exact fun q => q.2.2.2.2.1 (by assumption) | exact fun q => q.2.2.2.2.2 (by assumption) | exact fun q => absurd q.1 (by assumption) | exact fun q => absurd q.2.1 (by assumption) | exact fun q => absurd q.2.2.1 (by assumption) | exact fun q => absurd q.2.2.2.1 (by assumption) | exact ⟨by assumption, by assumption, by assumption, by assumption, by assumption, by assumption⟩)])]; rfl : g8.2.1 0 2 = cd_meet A x1 x2 x3 x4)
          · next y3 =>
              refine pa_if_t (pc' := 44) dX11_meet_21 (by decide) (by decide) ?_
              refine pa_aload_n (pc' := 45) dX11_meet_44 rfl rfl ?_
              refine pa_iconst (v := nI 1) (pc' := 46) dX11_meet_45 (by decide) rfl ?_
              refine pa_callv (pc' := 49) (vs := [.inl (nI 1)]) (rest := []) dX11_meet_46 ml_11_98 (by decide) rfl rfl rfl (fun d' _ => (c_ref s0)) (fun v g8 hq => ?_)
              obtain ⟨ev, eh⟩ := hq
              subst ev
              show zPn N none d mX11_meet (49, _, [.inl ((-1))], g8) _
              refine pa_iret dX11_meet_49 rfl rfl ?_
              exact (by rw [eh, zsI_eq, show cd_meet A x1 x2 x3 x4 = 1 from (by unfold cd_meet; rw [if_neg (by first | assumption | omega | exact fun q => absurd (twB_iff.mp q).1.1 (by assumption) | exact fun q => absurd (twB_iff.mp q).1.2 (by assumption) | exact fun q => absurd (by assumption) (twB_iff.mp q).2 | exact twB_iff.mpr ⟨⟨by assumption, by assumption⟩, by assumption⟩ | exact fun q => q.2.2.2.2.1 (by assumption) | exact fun q => q.2.2.2.2.2 (by assumption) | exact fun q => absurd q.1 (by assumption) | exact fun q => absurd q.2.1 (by assumption) | exact fun q => absurd q.2.2.1 (by assumption) | exact fun q => absurd q.2.2.2.1 (by assumption) | exact ⟨by assumption, by assumption, by assumption, by assumption, by assumption, by assumption⟩)])]; rfl : g8.2.1 0 2 = cd_meet A x1 x2 x3 x4)
      · next y2 =>
          refine pa_if_t (pc' := 44) dX11_meet_13 (by decide) (by decide) ?_
          refine pa_aload_n (pc' := 45) dX11_meet_44 rfl rfl ?_
          refine pa_iconst (v := nI 1) (pc' := 46) dX11_meet_45 (by decide) rfl ?_
          refine pa_callv (pc' := 49) (vs := [.inl (nI 1)]) (rest := []) dX11_meet_46 ml_11_98 (by decide) rfl rfl rfl (fun d' _ => (c_ref s0)) (fun v g8 hq => ?_)
          obtain ⟨ev, eh⟩ := hq
          subst ev
          show zPn N none d mX11_meet (49, _, [.inl ((-1))], g8) _
          refine pa_iret dX11_meet_49 rfl rfl ?_
          exact (by rw [eh, zsI_eq, show cd_meet A x1 x2 x3 x4 = 1 from (by unfold cd_meet; rw [if_neg (by first | assumption | omega | exact fun q => absurd (twB_iff.mp q).1.1 (by assumption) | exact fun q => absurd (twB_iff.mp q).1.2 (by assumption) | exact fun q => absurd (by assumption) (twB_iff.mp q).2 | exact twB_iff.mpr ⟨⟨by assumption, by assumption⟩, by assumption⟩ | exact fun q => q.2.2.2.2.1 (by assumption) | exact fun q => q.2.2.2.2.2 (by assumption) | exact fun q => absurd q.1 (by assumption) | exact fun q => absurd q.2.1 (by assumption) | exact fun q => absurd q.2.2.1 (by assumption) | exact fun q => absurd q.2.2.2.1 (by assumption) | exact ⟨by assumption, by assumption, by assumption, by assumption, by assumption, by assumption⟩)])]; rfl : g8.2.1 0 2 = cd_meet A x1 x2 x3 x4)
  · next y1 =>
      refine pa_if_t (pc' := 44) dX11_meet_5 (by decide) (by decide) ?_
      refine pa_aload_n (pc' := 45) dX11_meet_44 rfl rfl ?_
      refine pa_iconst (v := nI 1) (pc' := 46) dX11_meet_45 (by decide) rfl ?_
      refine pa_callv (pc' := 49) (vs := [.inl (nI 1)]) (rest := []) dX11_meet_46 ml_11_98 (by decide) rfl rfl rfl (fun d' _ => (c_ref s0)) (fun v g8 hq => ?_)
      obtain ⟨ev, eh⟩ := hq
      subst ev
      show zPn N none d mX11_meet (49, _, [.inl ((-1))], g8) _
      refine pa_iret dX11_meet_49 rfl rfl ?_
      exact (by rw [eh, zsI_eq, show cd_meet A x1 x2 x3 x4 = 1 from (by unfold cd_meet; rw [if_neg (by first | assumption | omega | exact fun q => absurd (twB_iff.mp q).1.1 (by assumption) | exact fun q => absurd (twB_iff.mp q).1.2 (by assumption) | exact fun q => absurd (by assumption) (twB_iff.mp q).2 | exact twB_iff.mpr ⟨⟨by assumption, by assumption⟩, by assumption⟩ | exact fun q => q.2.2.2.2.1 (by assumption) | exact fun q => q.2.2.2.2.2 (by assumption) | exact fun q => absurd q.1 (by assumption) | exact fun q => absurd q.2.1 (by assumption) | exact fun q => absurd q.2.2.1 (by assumption) | exact fun q => absurd q.2.2.2.1 (by assumption) | exact ⟨by assumption, by assumption, by assumption, by assumption, by assumption, by assumption⟩)])]; rfl : g8.2.1 0 2 = cd_meet A x1 x2 x3 x4)
theorem R_meet12 (z : lZ A c s H J g) (m : lMid kk im t g h) : zPa d mX12_meet [.inr (.inr (some 196)), .inl x1, .inl x2, .inl x3, .inl x4] h (fun _ g => g.2.1 196 11 = cd_meet A x1 x2 x3 x4) := by
  intro N
  have hp := M_hasBt z m
  have s196 : zsh h 196 = some (12, 39) := zsh_by m.2.1.2.2.2 (by decide +kernel)
  generalize eg : zsI (zsI h 196 0 0) 196 11 0 = h2
  have e2 : ∀ a k, a ≠ 196 → h2.2.1 a k = h.2.1 a k := fun a k ha => by rw [← eg, zsI_no (by omega), zsI_no (by omega)]
  have e3 : ∀ k, k ≠ 0 → k ≠ 11 → h2.2.1 196 k = h.2.1 196 k := fun k w1 w2 => by rw [← eg, zsI_no (by omega), zsI_no (by omega)]
  have h1 : h2.1 = hh_487.1 := by rw [← eg]; exact m.2.1.2.2.2
  have hA : lPA A c h2 := by rw [← eg]; exact (m.pa z.1.1).gd
  have B : cI A ≠ 0 → bgM A s h2 := fun ne => by rw [← eg]; exact (z.bm m ne).gd
  have er : h2.2.2.2.1 = h.2.2.2.1 := by rw [← eg]; rfl
  have q15 : h2.2.2.2.1 196 15 = some 199 := by rw [er]; exact m.r15
  have q17 : h2.2.2.2.1 196 17 = some 201 := by rw [er]; exact m.mw.2.1
  have z196 : zsh h2 196 = some (12, 39) := zsh_by h1 (by decide +kernel)
  have z199 : zsh h2 199 = some (14, 363) := zsh_by h1 (by decide +kernel)
  have z201 : zsh h2 201 = some (14, 76) := zsh_by h1 (by decide +kernel)
  have M : nMo A s 201 0 h2 := (z.lm m).1.1.fr (fun k => e2 _ _ (by decide))
  have hT := z.1.2.1
  have hB := z.1.2.2
  have hI := z.1.1.1
  have hN := z.2.1.1
  have k0 : (0 : Int32).toInt = 0 := by decide
  obtain ⟨b1, b2, b3, b4, b5⟩ := hI.2.2.1
  rw [← e3 14 (by decide) (by decide)] at hp
  have lt0 : (nI 0 : Int32).toInt = 0 := by decide
  have lt1 : (nI 1 : Int32).toInt = 1 := by decide
  show zPn N none d mX12_meet (0, [(0, .inr (.inr (some 196))), (1, .inl x1), (2, .inl x2), (3, .inl x3), (4, .inl x4)], [], h) _
  refine pa_aload_n (pc' := 1) dX12_meet_0 rfl rfl ?_
  refine pa_callv (pc' := 4) (vs := []) (rest := []) dX12_meet_1 ml_12_167 (by decide) rfl rfl rfl (fun d' _ => (m_good s196)) (fun v h3 hq => ?_)
  obtain ⟨ev, eh⟩ := hq
  subst ev
  show zPn N none d mX12_meet (4, _, [], h3) _
  rw [eg] at eh
  subst eh
  have t0 : h3.2.1 196 11 = 0 := by rw [← eg]; exact zsI_eq
  refine pa_aload_n (pc' := 5) dX12_meet_4 rfl rfl ?_
  refine pa_iload_n (pc' := 6) dX12_meet_5 rfl rfl ?_
  refine pa_callv (pc' := 9) (vs := [.inl x1]) (rest := []) dX12_meet_6 ml_12_274 (by decide) rfl rfl rfl (fun d' _ => (M_isBox hA q15 h1)) (fun v g9 hq => ?_)
  obtain ⟨ev, eh⟩ := hq
  subst ev
  rw [eh]
  show zPn N none d mX12_meet (9, _, [.inl (if 0 ≤ (x1).toInt ∧ (x1).toInt < (cB A:Int) then 1 else 0)], h3) _
  split
  · next y1 =>
      refine pa_if_f (pc' := 12) dX12_meet_9 (by decide) (by decide) rfl ?_
      refine pa_aload_n (pc' := 13) dX12_meet_12 rfl rfl ?_
      refine pa_iload_n (pc' := 14) dX12_meet_13 rfl rfl ?_
      refine pa_callv (pc' := 17) (vs := [.inl x3]) (rest := []) dX12_meet_14 ml_12_274 (by decide) rfl rfl rfl (fun d' _ => (M_isBox hA q15 h1)) (fun v g9 hq => ?_)
      obtain ⟨ev, eh⟩ := hq
      subst ev
      rw [eh]
      show zPn N none d mX12_meet (17, _, [.inl (if 0 ≤ (x3).toInt ∧ (x3).toInt < (cB A:Int) then 1 else 0)], h3) _
      split
      · next y2 =>
          refine pa_if_f (pc' := 20) dX12_meet_17 (by decide) (by decide) rfl ?_
          refine pa_aload_n (pc' := 21) dX12_meet_20 rfl rfl ?_
          refine pa_iload_n (pc' := 22) dX12_meet_21 rfl rfl ?_
          refine pa_callv (pc' := 25) (vs := [.inl x2]) (rest := []) dX12_meet_22 ml_12_268 (by decide) rfl rfl rfl (fun d' _ => (M_isWhale hA q15 h1)) (fun v g9 hq => ?_)
          obtain ⟨ev, eh⟩ := hq
          subst ev
          rw [eh]
          show zPn N none d mX12_meet (25, _, [.inl (if 0 ≤ (x2).toInt ∧ (x2).toInt < (cH A:Int) then 1 else 0)], h3) _
          split
          · next y3 =>
              refine pa_if_f (pc' := 28) dX12_meet_25 (by decide) (by decide) rfl ?_
              refine pa_aload_n (pc' := 29) dX12_meet_28 rfl rfl ?_
              refine pa_iload (pc' := 31) dX12_meet_29 rfl rfl ?_
              refine pa_callv (pc' := 34) (vs := [.inl x4]) (rest := []) dX12_meet_31 ml_12_268 (by decide) rfl rfl rfl (fun d' _ => (M_isWhale hA q15 h1)) (fun v g9 hq => ?_)
              obtain ⟨ev, eh⟩ := hq
              subst ev
              rw [eh]
              show zPn N none d mX12_meet (34, _, [.inl (if 0 ≤ (x4).toInt ∧ (x4).toInt < (cH A:Int) then 1 else 0)], h3) _
              split
              · next y4 =>
                  refine pa_if_f (pc' := 37) dX12_meet_34 (by decide) (by decide) rfl ?_
                  refine pa_iload_n (pc' := 38) dX12_meet_37 rfl rfl ?_
                  refine pa_iload_n (pc' := 39) dX12_meet_38 rfl rfl ?_
                  by_cases y5 : x1 = x3
                  · refine pa_icmp_t (pc' := 48) dX12_meet_39 (decide_eq_true y5) (by decide) ?_
                    refine pa_aload_n (pc' := 49) dX12_meet_48 rfl rfl ?_
                    refine pa_iconst (v := nI 1) (pc' := 50) dX12_meet_49 (by decide) rfl ?_
                    refine pa_callv (pc' := 53) (vs := [.inl (nI 1)]) (rest := []) dX12_meet_50 ml_12_170 (by decide) rfl rfl rfl (fun d' _ => (m_no z196)) (fun v g8 hq => ?_)
                    obtain ⟨ev, eh⟩ := hq
                    subst ev
                    show zPn N none d mX12_meet (53, _, [.inl ((-1))], g8) _
                    refine pa_iret dX12_meet_53 rfl rfl ?_
                    exact (by rw [eh, zsI_eq, show cd_meet A x1 x2 x3 x4 = 1 from (by unfold cd_meet; rw [if_neg (by first | assumption | omega | exact fun q => absurd (twB_iff.mp q).1.1 (by assumption) | exact fun q => absurd (twB_iff.mp q).1.2 (by assumption) | exact fun q => absurd (by assumption) (twB_iff.mp q).2 | exact twB_iff.mpr ⟨⟨by assumption, by assumption⟩, by assumption⟩ | exact fun q => q.2.2.2.2.1 (by assumption) | exact fun q => q.2.2.2.2.2 (by assumption) | exact fun q => absurd q.1 (by assumption) | exact fun q => absurd q.2.1 (by assumption) | exact fun q => absurd q.2.2.1 (by assumption) | exact fun q => absurd q.2.2.2.1 (by assumption) | exact ⟨by assumption, by assumption, by assumption, by assumption, by assumption, by assumption⟩)])]; rfl : g8.2.1 196 11 = cd_meet A x1 x2 x3 x4)
                  · refine pa_icmp_f (pc' := 42) dX12_meet_39 (decide_eq_false y5) (by decide) rfl ?_
                    refine pa_iload_n (pc' := 43) dX12_meet_42 rfl rfl ?_
                    refine pa_iload (pc' := 45) dX12_meet_43 rfl rfl ?_
                    by_cases y6 : x2 = x4
                    · refine pa_icmp_f (pc' := 48) dX12_meet_45 (decide_eq_false (not_not_intro y6)) (by decide) rfl ?_
                      refine pa_aload_n (pc' := 49) dX12_meet_48 rfl rfl ?_
                      refine pa_iconst (v := nI 1) (pc' := 50) dX12_meet_49 (by decide) rfl ?_
                      refine pa_callv (pc' := 53) (vs := [.inl (nI 1)]) (rest := []) dX12_meet_50 ml_12_170 (by decide) rfl rfl rfl (fun d' _ => (m_no z196)) (fun v g8 hq => ?_)
                      obtain ⟨ev, eh⟩ := hq
                      subst ev
                      show zPn N none d mX12_meet (53, _, [.inl ((-1))], g8) _
                      refine pa_iret dX12_meet_53 rfl rfl ?_
                      exact (by rw [eh, zsI_eq, show cd_meet A x1 x2 x3 x4 = 1 from (by unfold cd_meet; rw [if_neg (by first | assumption | omega | exact fun q => absurd (twB_iff.mp q).1.1 (by assumption) | exact fun q => absurd (twB_iff.mp q).1.2 (by assumption) | exact fun q => absurd (by assumption) (twB_iff.mp q).2 | exact twB_iff.mpr ⟨⟨by assumption, by assumption⟩, by assumption⟩ | exact fun q => q.2.2.2.2.1 (by assumption) | exact fun q => q.2.2.2.2.2 (by assumption) | exact fun q => absurd q.1 (by assumption) | exact fun q => absurd q.2.1 (by assumption) | exact fun q => absurd q.2.2.1 (by assumption) | exact fun q => absurd q.2.2.2.1 (by assumption) | exact ⟨by assumption, by assumption, by assumption, by assumption, by assumption, by assumption⟩)])]; rfl : g8.2.1 196 11 = cd_meet A x1 x2 x3 x4)
                    · refine pa_icmp_t (pc' := 54) dX12_meet_45 (decide_eq_true y6) (by decide) ?_
                      exact G_meet12 (by decide +kernel) (fun v g q => (q.2.2 39 z196).trans (t0.trans (show cd_meet A x1 x2 x3 x4 = 0 from (by unfold cd_meet; rw [if_pos (by first | assumption | omega | exact fun q => absurd (twB_iff.mp q).1.1 (by assumption) | exact fun q => absurd (twB_iff.mp q).1.2 (by assumption) | exact fun q => absurd (by assumption) (twB_iff.mp q).2 | exact twB_iff.mpr ⟨⟨by assumption, by assumption⟩, by assumption⟩ | exact fun q => q.2.2.2.2.1 (by assumption) | exact fun q => q.2.2.2.2.2 (by assumption) | exact fun q => absurd q.1 (by assumption) | exact fun q => absurd q.2.1 (by assumption) | exact fun q => absurd q.2.2.1 (by assumption) | exact fun q => absurd q.2.2.2.1 (by assumption) | exact ⟨by assumption, by assumption, by assumption, by assumption, by assumption, by assumption⟩)])).symm))
              · next y4 =>
                  refine pa_if_t (pc' := 48) dX12_meet_34 (by decide) (by decide) ?_
                  refine pa_aload_n (pc' := 49) dX12_meet_48 rfl rfl ?_
                  refine pa_iconst (v := nI 1) (pc' := 50) dX12_meet_49 (by decide) rfl ?_
                  refine pa_callv (pc' := 53) (vs := [.inl (nI 1)]) (rest := []) dX12_meet_50 ml_12_170 (by decide) rfl rfl rfl (fun d' _ => (m_no z196)) (fun v g8 hq => ?_)
                  obtain ⟨ev, eh⟩ := hq
                  subst ev
                  show zPn N none d mX12_meet (53, _, [.inl ((-1))], g8) _
                  refine pa_iret dX12_meet_53 rfl rfl ?_
                  exact (by rw [eh, zsI_eq, show cd_meet A x1 x2 x3 x4 = 1 from (by unfold cd_meet; rw [if_neg (by first | assumption | omega | exact fun q => absurd (twB_iff.mp q).1.1 (by assumption) | exact fun q => absurd (twB_iff.mp q).1.2 (by assumption) | exact fun q => absurd (by assumption) (twB_iff.mp q).2 | exact twB_iff.mpr ⟨⟨by assumption, by assumption⟩, by assumption⟩ | exact fun q => q.2.2.2.2.1 (by assumption) | exact fun q => q.2.2.2.2.2 (by assumption) | exact fun q => absurd q.1 (by assumption) | exact fun q => absurd q.2.1 (by assumption) | exact fun q => absurd q.2.2.1 (by assumption) | exact fun q => absurd q.2.2.2.1 (by assumption) | exact ⟨by assumption, by assumption, by assumption, by assumption, by assumption, by assumption⟩)])]; rfl : g8.2.1 196 11 = cd_meet A x1 x2 x3 x4)
          · next y3 =>
              refine pa_if_t (pc' := 48) dX12_meet_25 (by decide) (by decide) ?_
              refine pa_aload_n (pc' := 49) dX12_meet_48 rfl rfl ?_
              refine pa_iconst (v := nI 1) (pc' := 50) dX12_meet_49 (by decide) rfl ?_
              refine pa_callv (pc' := 53) (vs := [.inl (nI 1)]) (rest := []) dX12_meet_50 ml_12_170 (by decide) rfl rfl rfl (fun d' _ => (m_no z196)) (fun v g8 hq => ?_)
              obtain ⟨ev, eh⟩ := hq
              subst ev
              show zPn N none d mX12_meet (53, _, [.inl ((-1))], g8) _
              refine pa_iret dX12_meet_53 rfl rfl ?_
              exact (by rw [eh, zsI_eq, show cd_meet A x1 x2 x3 x4 = 1 from (by unfold cd_meet; rw [if_neg (by first | assumption | omega | exact fun q => absurd (twB_iff.mp q).1.1 (by assumption) | exact fun q => absurd (twB_iff.mp q).1.2 (by assumption) | exact fun q => absurd (by assumption) (twB_iff.mp q).2 | exact twB_iff.mpr ⟨⟨by assumption, by assumption⟩, by assumption⟩ | exact fun q => q.2.2.2.2.1 (by assumption) | exact fun q => q.2.2.2.2.2 (by assumption) | exact fun q => absurd q.1 (by assumption) | exact fun q => absurd q.2.1 (by assumption) | exact fun q => absurd q.2.2.1 (by assumption) | exact fun q => absurd q.2.2.2.1 (by assumption) | exact ⟨by assumption, by assumption, by assumption, by assumption, by assumption, by assumption⟩)])]; rfl : g8.2.1 196 11 = cd_meet A x1 x2 x3 x4)
      · next y2 =>
          refine pa_if_t (pc' := 48) dX12_meet_17 (by decide) (by decide) ?_
          refine pa_aload_n (pc' := 49) dX12_meet_48 rfl rfl ?_
          refine pa_iconst (v := nI 1) (pc' := 50) dX12_meet_49 (by decide) rfl ?_
          refine pa_callv (pc' := 53) (vs := [.inl (nI 1)]) (rest := []) dX12_meet_50 ml_12_170 (by decide) rfl rfl rfl (fun d' _ => (m_no z196)) (fun v g8 hq => ?_)
          obtain ⟨ev, eh⟩ := hq
          subst ev
          show zPn N none d mX12_meet (53, _, [.inl ((-1))], g8) _
          refine pa_iret dX12_meet_53 rfl rfl ?_
          exact (by rw [eh, zsI_eq, show cd_meet A x1 x2 x3 x4 = 1 from (by unfold cd_meet; rw [if_neg (by first | assumption | omega | exact fun q => absurd (twB_iff.mp q).1.1 (by assumption) | exact fun q => absurd (twB_iff.mp q).1.2 (by assumption) | exact fun q => absurd (by assumption) (twB_iff.mp q).2 | exact twB_iff.mpr ⟨⟨by assumption, by assumption⟩, by assumption⟩ | exact fun q => q.2.2.2.2.1 (by assumption) | exact fun q => q.2.2.2.2.2 (by assumption) | exact fun q => absurd q.1 (by assumption) | exact fun q => absurd q.2.1 (by assumption) | exact fun q => absurd q.2.2.1 (by assumption) | exact fun q => absurd q.2.2.2.1 (by assumption) | exact ⟨by assumption, by assumption, by assumption, by assumption, by assumption, by assumption⟩)])]; rfl : g8.2.1 196 11 = cd_meet A x1 x2 x3 x4)
  · next y1 =>
      refine pa_if_t (pc' := 48) dX12_meet_9 (by decide) (by decide) ?_
      refine pa_aload_n (pc' := 49) dX12_meet_48 rfl rfl ?_
      refine pa_iconst (v := nI 1) (pc' := 50) dX12_meet_49 (by decide) rfl ?_
      refine pa_callv (pc' := 53) (vs := [.inl (nI 1)]) (rest := []) dX12_meet_50 ml_12_170 (by decide) rfl rfl rfl (fun d' _ => (m_no z196)) (fun v g8 hq => ?_)
      obtain ⟨ev, eh⟩ := hq
      subst ev
      show zPn N none d mX12_meet (53, _, [.inl ((-1))], g8) _
      refine pa_iret dX12_meet_53 rfl rfl ?_
      exact (by rw [eh, zsI_eq, show cd_meet A x1 x2 x3 x4 = 1 from (by unfold cd_meet; rw [if_neg (by first | assumption | omega | exact fun q => absurd (twB_iff.mp q).1.1 (by assumption) | exact fun q => absurd (twB_iff.mp q).1.2 (by assumption) | exact fun q => absurd (by assumption) (twB_iff.mp q).2 | exact twB_iff.mpr ⟨⟨by assumption, by assumption⟩, by assumption⟩ | exact fun q => q.2.2.2.2.1 (by assumption) | exact fun q => q.2.2.2.2.2 (by assumption) | exact fun q => absurd q.1 (by assumption) | exact fun q => absurd q.2.1 (by assumption) | exact fun q => absurd q.2.2.1 (by assumption) | exact fun q => absurd q.2.2.2.1 (by assumption) | exact ⟨by assumption, by assumption, by assumption, by assumption, by assumption, by assumption⟩)])]; rfl : g8.2.1 196 11 = cd_meet A x1 x2 x3 x4)
end RFS
/-! trouble: what a call leaves, by hand -/
def cd_whale (A : pA) (x y : Int32) : Int32 := if (0 ≤ x.toInt ∧ x.toInt < (cH A : Int)) ∧ 0 ≤ y.toInt ∧ y.toInt < 5 then 0 else 1
def cd_box (A : pA) (x y : Int32) : Int32 := if (0 ≤ x.toInt ∧ x.toInt < (cB A : Int)) ∧ 0 ≤ y.toInt ∧ y.toInt < 6 then 0 else 1
def cd_note (A : pA) (x y : Int32) : Int32 := if (0 ≤ x.toInt ∧ x.toInt < (cI A : Int)) ∧ 0 ≤ y.toInt ∧ y.toInt < ((A.2.2.1 x.toInt.toNat).length : Int) then 0 else 1
def cd_new (A : pA) (x y : Int32) : Int32 := if cI A = 0 then 1 else if (2 ≤ x.toInt ∧ x.toInt ≤ 5) ∧ 1 ≤ y.toInt ∧ y.toInt ≤ 5 then 0 else 2
theorem rt_c {g h : zH} {v T : Int32} (e : g = zsI h 0 2 v) (e0 : T = v) : g.2.1 0 2 = T := by rw [e, zsI_eq, e0]
theorem rt_m {g h : zH} {v T : Int32} (e : g = zsI h 196 11 v) (e0 : T = v) : g.2.1 196 11 = T := by rw [e, zsI_eq, e0]
theorem fl_pa {d : Nat} {cm : zM} {vs : List zV} {h : zH} (hF : aF fK cm) : zPa d cm vs h (fun _ g => hQ h g) := by
  obtain ⟨S, s1, s2, s3⟩ := hF
  exact fun N n _ v h' e => fkeep fK_ok n d cm S 0 _ _ v h h' s1 s2 s3 e
section RFH
variable {t d c : Nat} {h g : zH} {A : pA} {s : nS} {H J : List nS} {x y k : Int32} {kk : Bool} {im : Int32}
theorem R_whale11 (z : lZ A c s H J h) (hi : lInv t h) : zPa d mX11_whale [.inr (.inr (some 0)), .inl x, .inl y] h (fun _ g => g.2.1 0 2 = cd_whale A x y) := by
  intro N
  have h1 := hi.2.2.2.2.1
  have hA := z.1.1
  have hT := z.1.2.1
  have hB := z.1.2.2
  have hI := hA.1
  have hN := z.2.1.1
  have K := hA.2.2.2.1
  have hc2 : c = 2 ∨ c = 42 := hA.2.1
  obtain ⟨b1, b2, b3, b4, b5⟩ := hI.2.2.1
  have s0 : zsh h 0 = some (11, 16) := zsh_by h1 (by decide +kernel)
  obtain ⟨sc, sc1, sc2, sc4, sc5, scw, scb⟩ := cSh hA.2.1 h1
  obtain ⟨c9, c12, c13, cw, cb⟩ := cRf_of hi.1 hA.2.1
  have S := hi.nw
  obtain ⟨⟨s86, s87, s88, s89, s90, s91⟩, r87, r88, r89, r90, r91⟩ := S.o86
  have r3 := hA.2.2.1
  have r6 := S.2.1
  obtain ⟨n1, n2, n3, n4⟩ := z.2.2.1.1
  show zPn N none d mX11_whale (0, [(0, .inr (.inr (some 0))), (1, .inl x), (2, .inl y)], [], h) _
  refine pa_aload_n (pc' := 1) dX11_whale_0 rfl rfl ?_
  refine pa_iload_n (pc' := 2) dX11_whale_1 rfl rfl ?_
  refine pa_callv (pc' := 5) (vs := [.inl x]) (rest := []) dX11_whale_2 ml_11_121 (by decide) rfl rfl rfl (fun d' _ => (N_isWhale hA h1)) (fun v g9 hq => ?_)
  obtain ⟨ev, eh⟩ := hq
  subst ev
  rw [eh]
  show zPn N none d mX11_whale (5, _, [.inl (if 0 ≤ x.toInt ∧ x.toInt < (cH A:Int) then 1 else 0)], h) _
  by_cases hx : 0 ≤ x.toInt ∧ x.toInt < (cH A : Int)
  case neg =>
    rw [if_neg hx]
    refine pa_if_f (pc' := 8) dX11_whale_5 (by decide) (by decide) rfl ?_
    refine pa_aload_n (pc' := 9) dX11_whale_8 rfl rfl ?_
    refine pa_iconst (v := nI 1) (pc' := 10) dX11_whale_9 (by decide) rfl ?_
    refine pa_callv (pc' := 13) (vs := [.inl (nI 1)]) (rest := []) dX11_whale_10 ml_11_98 (by decide) rfl rfl rfl (fun d' _ => (c_ref s0)) (fun v g8 hq => ?_)
    obtain ⟨ev, eh⟩ := hq
    subst ev
    show zPn N none d mX11_whale (13, _, [.inl ((-1))], g8) _
    refine pa_iret dX11_whale_13 rfl rfl ?_
    exact rt_c eh (by unfold cd_whale; rw [if_neg (fun q => hx q.1)]; rfl)
  rw [if_pos hx]
  refine pa_if_t (pc' := 14) dX11_whale_5 (by decide) (by decide) ?_
  refine pa_iload_n (pc' := 15) dX11_whale_14 rfl rfl ?_
  by_cases hy : 0 ≤ y.toInt ∧ y.toInt < 5
  case neg =>
    refine pa_switch (pc' := 127) dX11_whale_15 (fun _ => rfl) (fun q => absurd (show y.toInt < 0 ∨ 4 < y.toInt by omega) q) ?_
    refine pa_aload_n (pc' := 128) dX11_whale_127 rfl rfl ?_
    refine pa_iconst (v := nI 1) (pc' := 129) dX11_whale_128 (by decide) rfl ?_
    refine pa_callv (pc' := 132) (vs := [.inl (nI 1)]) (rest := []) dX11_whale_129 ml_11_98 (by decide) rfl rfl rfl (fun d' _ => (c_ref s0)) (fun v g8 hq => ?_)
    obtain ⟨ev, eh⟩ := hq
    subst ev
    show zPn N none d mX11_whale (132, _, [.inl ((-1))], g8) _
    refine pa_iret dX11_whale_132 rfl rfl ?_
    exact rt_c eh (by unfold cd_whale; rw [if_neg (fun q => hy q.2)]; rfl)
  have V : cd_whale A x y = 0 := by unfold cd_whale; rw [if_pos ⟨hx, hy⟩]
  obtain ⟨q, rfl, hq, eq⟩ := nI_ob (n := 5) hy.1 hy.2
  have hq : q = 0 ∨ q = 1 ∨ q = 2 ∨ q = 3 ∨ q = 4 := by omega
  rcases hq with rfl | rfl | rfl | rfl | rfl
  · refine pa_switch (pc' := 48) dX11_whale_15 (fun e => absurd e (by decide)) (fun _ => ⟨33, by decide, rfl⟩) ?_
    exact G_whale11 s0 (sh11 h1) (by decide +kernel) (fun v g q => q.trans V.symm)
  · refine pa_switch (pc' := 65) dX11_whale_15 (fun e => absurd e (by decide)) (fun _ => ⟨50, by decide, rfl⟩) ?_
    exact G_whale11 s0 (sh11 h1) (by decide +kernel) (fun v g q => q.trans V.symm)
  · refine pa_switch (pc' := 79) dX11_whale_15 (fun e => absurd e (by decide)) (fun _ => ⟨64, by decide, rfl⟩) ?_
    exact G_whale11 s0 (sh11 h1) (by decide +kernel) (fun v g q => q.trans V.symm)
  · refine pa_switch (pc' := 93) dX11_whale_15 (fun e => absurd e (by decide)) (fun _ => ⟨78, by decide, rfl⟩) ?_
    exact G_whale11 s0 (sh11 h1) (by decide +kernel) (fun v g q => q.trans V.symm)
  · refine pa_switch (pc' := 110) dX11_whale_15 (fun e => absurd e (by decide)) (fun _ => ⟨95, by decide, rfl⟩) ?_
    exact G_whale11 s0 (sh11 h1) (by decide +kernel) (fun v g q => q.trans V.symm)
theorem R_whale12 (z : lZ A c s H J g) (m : lMid kk im t g h) : zPa d mX12_whale [.inr (.inr (some 196)), .inl x, .inl y] h (fun _ g => g.2.1 196 11 = cd_whale A x y) := by
  intro N
  have s196 : zsh h 196 = some (12, 39) := zsh_by m.2.1.2.2.2 (by decide +kernel)
  generalize eg : zsI (zsI h 196 0 0) 196 11 0 = h2
  have e2 : ∀ a k, a ≠ 196 → h2.2.1 a k = h.2.1 a k := fun a k ha => by rw [← eg, zsI_no (by omega), zsI_no (by omega)]
  have e3 : ∀ k, k ≠ 0 → k ≠ 11 → h2.2.1 196 k = h.2.1 196 k := fun k w1 w2 => by rw [← eg, zsI_no (by omega), zsI_no (by omega)]
  have h1 : h2.1 = hh_487.1 := by rw [← eg]; exact m.2.1.2.2.2
  have hA : lPA A c h2 := by rw [← eg]; exact (m.pa z.1.1).gd
  have B : cI A ≠ 0 → bgM A s h2 := fun ne => by rw [← eg]; exact (z.bm m ne).gd
  have er : h2.2.2.2.1 = h.2.2.2.1 := by rw [← eg]; rfl
  have q15 : h2.2.2.2.1 196 15 = some 199 := by rw [er]; exact m.r15
  have q17 : h2.2.2.2.1 196 17 = some 201 := by rw [er]; exact m.mw.2.1
  have z196 : zsh h2 196 = some (12, 39) := zsh_by h1 (by decide +kernel)
  have z199 : zsh h2 199 = some (14, 363) := zsh_by h1 (by decide +kernel)
  have z201 : zsh h2 201 = some (14, 76) := zsh_by h1 (by decide +kernel)
  have M : nMo A s 201 0 h2 := (z.lm m).1.1.fr (fun k => e2 _ _ (by decide))
  have hT := z.1.2.1
  have hB := z.1.2.2
  have hI := z.1.1.1
  have hN := z.2.1.1
  have k0 : (0 : Int32).toInt = 0 := by decide
  obtain ⟨b1, b2, b3, b4, b5⟩ := hI.2.2.1
  show zPn N none d mX12_whale (0, [(0, .inr (.inr (some 196))), (1, .inl x), (2, .inl y)], [], h) _
  refine pa_aload_n (pc' := 1) dX12_whale_0 rfl rfl ?_
  refine pa_callv (pc' := 4) (vs := []) (rest := []) dX12_whale_1 ml_12_167 (by decide) rfl rfl rfl (fun d' _ => (m_good s196)) (fun v h3 hq => ?_)
  obtain ⟨ev, eh⟩ := hq
  subst ev
  show zPn N none d mX12_whale (4, _, [], h3) _
  rw [eg] at eh
  subst eh
  have t0 : h3.2.1 196 11 = 0 := by rw [← eg]; exact zsI_eq
  refine pa_aload_n (pc' := 5) dX12_whale_4 rfl rfl ?_
  refine pa_iload_n (pc' := 6) dX12_whale_5 rfl rfl ?_
  refine pa_callv (pc' := 9) (vs := [.inl x]) (rest := []) dX12_whale_6 ml_12_268 (by decide) rfl rfl rfl (fun d' _ => (M_isWhale hA q15 h1)) (fun v g9 hq => ?_)
  obtain ⟨ev, eh⟩ := hq
  subst ev
  rw [eh]
  show zPn N none d mX12_whale (9, _, [.inl (if 0 ≤ x.toInt ∧ x.toInt < (cH A:Int) then 1 else 0)], h3) _
  by_cases hx : 0 ≤ x.toInt ∧ x.toInt < (cH A : Int)
  case neg =>
    rw [if_neg hx]
    refine pa_if_t (pc' := 21) dX12_whale_9 (by decide) (by decide) ?_
    refine pa_aload_n (pc' := 22) dX12_whale_21 rfl rfl ?_
    refine pa_iconst (v := nI 1) (pc' := 23) dX12_whale_22 (by decide) rfl ?_
    refine pa_callv (pc' := 26) (vs := [.inl (nI 1)]) (rest := []) dX12_whale_23 ml_12_170 (by decide) rfl rfl rfl (fun d' _ => (m_no z196)) (fun v g8 hq => ?_)
    obtain ⟨ev, eh⟩ := hq
    subst ev
    show zPn N none d mX12_whale (26, _, [.inl ((-1))], g8) _
    refine pa_iret dX12_whale_26 rfl rfl ?_
    exact rt_m eh (by unfold cd_whale; rw [if_neg (fun q => hx q.1)]; rfl)
  rw [if_pos hx]
  refine pa_if_f (pc' := 12) dX12_whale_9 (by decide) (by decide) rfl ?_
  refine pa_iload_n (pc' := 13) dX12_whale_12 rfl rfl ?_
  refine pa_iconst (v := 0) (pc' := 14) dX12_whale_13 (by decide) rfl ?_
  refine pa_iconst (v := 4) (pc' := 15) dX12_whale_14 (by decide) rfl ?_
  refine pa_calls (pc' := 18) (kd := 1) (vs := [.inl y, .inl 0, .inl 4]) (rest := []) dX12_whale_15 ml_12_149 (.inl rfl) rfl rfl rfl (fun d' _ => in_v) (fun v g9 hq => ?_)
  obtain ⟨ev, eh⟩ := hq
  subst ev
  rw [eh]
  show zPn N none d mX12_whale (18, _, [.inl (if ((0 : Int32)).toInt ≤ (y).toInt ∧ (y).toInt ≤ ((4 : Int32)).toInt then 1 else 0)], h3) _
  rw [k0, show (4 : Int32).toInt = 4 by decide]
  by_cases hy : 0 ≤ y.toInt ∧ y.toInt ≤ 4
  case neg =>
    rw [if_neg hy]
    refine pa_if_f (pc' := 21) dX12_whale_18 (by decide) (by decide) rfl ?_
    refine pa_aload_n (pc' := 22) dX12_whale_21 rfl rfl ?_
    refine pa_iconst (v := nI 1) (pc' := 23) dX12_whale_22 (by decide) rfl ?_
    refine pa_callv (pc' := 26) (vs := [.inl (nI 1)]) (rest := []) dX12_whale_23 ml_12_170 (by decide) rfl rfl rfl (fun d' _ => (m_no z196)) (fun v g8 hq => ?_)
    obtain ⟨ev, eh⟩ := hq
    subst ev
    show zPn N none d mX12_whale (26, _, [.inl ((-1))], g8) _
    refine pa_iret dX12_whale_26 rfl rfl ?_
    exact rt_m eh (by unfold cd_whale; rw [if_neg (fun q => hy (by omega))]; rfl)
  rw [if_pos hy]
  refine pa_if_t (pc' := 27) dX12_whale_18 (by decide) (by decide) ?_
  have V : cd_whale A x y = 0 := by unfold cd_whale; rw [if_pos ⟨hx, by omega⟩]
  exact G_whale12 (by decide +kernel) (fun v g q => (q.2.2 39 z196).trans (t0.trans V.symm))
theorem R_box11 (z : lZ A c s H J h) (hi : lInv t h) : zPa d mX11_box [.inr (.inr (some 0)), .inl x, .inl y] h (fun _ g => g.2.1 0 2 = cd_box A x y) := by
  intro N
  have h1 := hi.2.2.2.2.1
  have hA := z.1.1
  have hT := z.1.2.1
  have hB := z.1.2.2
  have hI := hA.1
  have hN := z.2.1.1
  have K := hA.2.2.2.1
  have hc2 : c = 2 ∨ c = 42 := hA.2.1
  obtain ⟨b1, b2, b3, b4, b5⟩ := hI.2.2.1
  have s0 : zsh h 0 = some (11, 16) := zsh_by h1 (by decide +kernel)
  obtain ⟨sc, sc1, sc2, sc4, sc5, scw, scb⟩ := cSh hA.2.1 h1
  obtain ⟨c9, c12, c13, cw, cb⟩ := cRf_of hi.1 hA.2.1
  have S := hi.nw
  obtain ⟨⟨s86, s87, s88, s89, s90, s91⟩, r87, r88, r89, r90, r91⟩ := S.o86
  have r3 := hA.2.2.1
  have r6 := S.2.1
  obtain ⟨n1, n2, n3, n4⟩ := z.2.2.1.1
  show zPn N none d mX11_box (0, [(0, .inr (.inr (some 0))), (1, .inl x), (2, .inl y)], [], h) _
  refine pa_aload_n (pc' := 1) dX11_box_0 rfl rfl ?_
  refine pa_iload_n (pc' := 2) dX11_box_1 rfl rfl ?_
  refine pa_callv (pc' := 5) (vs := [.inl x]) (rest := []) dX11_box_2 ml_11_147 (by decide) rfl rfl rfl (fun d' _ => (N_isBox hA h1)) (fun v g9 hq => ?_)
  obtain ⟨ev, eh⟩ := hq
  subst ev
  rw [eh]
  show zPn N none d mX11_box (5, _, [.inl (if 0 ≤ x.toInt ∧ x.toInt < (cB A:Int) then 1 else 0)], h) _
  by_cases hx : 0 ≤ x.toInt ∧ x.toInt < (cB A : Int)
  case neg =>
    rw [if_neg hx]
    refine pa_if_f (pc' := 8) dX11_box_5 (by decide) (by decide) rfl ?_
    refine pa_aload_n (pc' := 9) dX11_box_8 rfl rfl ?_
    refine pa_iconst (v := nI 1) (pc' := 10) dX11_box_9 (by decide) rfl ?_
    refine pa_callv (pc' := 13) (vs := [.inl (nI 1)]) (rest := []) dX11_box_10 ml_11_98 (by decide) rfl rfl rfl (fun d' _ => (c_ref s0)) (fun v g8 hq => ?_)
    obtain ⟨ev, eh⟩ := hq
    subst ev
    show zPn N none d mX11_box (13, _, [.inl ((-1))], g8) _
    refine pa_iret dX11_box_13 rfl rfl ?_
    exact rt_c eh (by unfold cd_box; rw [if_neg (fun q => hx q.1)]; rfl)
  rw [if_pos hx]
  refine pa_if_t (pc' := 14) dX11_box_5 (by decide) (by decide) ?_
  refine pa_iload_n (pc' := 15) dX11_box_14 rfl rfl ?_
  by_cases hy : 0 ≤ y.toInt ∧ y.toInt < 6
  case neg =>
    refine pa_switch (pc' := 148) dX11_box_15 (fun _ => rfl) (fun q => absurd (show y.toInt < 0 ∨ 5 < y.toInt by omega) q) ?_
    refine pa_aload_n (pc' := 149) dX11_box_148 rfl rfl ?_
    refine pa_iconst (v := nI 1) (pc' := 150) dX11_box_149 (by decide) rfl ?_
    refine pa_callv (pc' := 153) (vs := [.inl (nI 1)]) (rest := []) dX11_box_150 ml_11_98 (by decide) rfl rfl rfl (fun d' _ => (c_ref s0)) (fun v g8 hq => ?_)
    obtain ⟨ev, eh⟩ := hq
    subst ev
    show zPn N none d mX11_box (153, _, [.inl ((-1))], g8) _
    refine pa_iret dX11_box_153 rfl rfl ?_
    exact rt_c eh (by unfold cd_box; rw [if_neg (fun q => hy q.2)]; rfl)
  have V : cd_box A x y = 0 := by unfold cd_box; rw [if_pos ⟨hx, hy⟩]
  obtain ⟨q, rfl, hq, eq⟩ := nI_ob (n := 6) hy.1 hy.2
  have hq : q = 0 ∨ q = 1 ∨ q = 2 ∨ q = 3 ∨ q = 4 ∨ q = 5 := by omega
  rcases hq with rfl | rfl | rfl | rfl | rfl | rfl
  · refine pa_switch (pc' := 52) dX11_box_15 (fun e => absurd e (by decide)) (fun _ => ⟨37, by decide, rfl⟩) ?_
    exact G_box11 s0 (sh11 h1) (by decide +kernel) (fun v g q => q.trans V.symm)
  · refine pa_switch (pc' := 69) dX11_box_15 (fun e => absurd e (by decide)) (fun _ => ⟨54, by decide, rfl⟩) ?_
    exact G_box11 s0 (sh11 h1) (by decide +kernel) (fun v g q => q.trans V.symm)
  · refine pa_switch (pc' := 86) dX11_box_15 (fun e => absurd e (by decide)) (fun _ => ⟨71, by decide, rfl⟩) ?_
    exact G_box11 s0 (sh11 h1) (by decide +kernel) (fun v g q => q.trans V.symm)
  · refine pa_switch (pc' := 103) dX11_box_15 (fun e => absurd e (by decide)) (fun _ => ⟨88, by decide, rfl⟩) ?_
    exact G_box11 s0 (sh11 h1) (by decide +kernel) (fun v g q => q.trans V.symm)
  · refine pa_switch (pc' := 120) dX11_box_15 (fun e => absurd e (by decide)) (fun _ => ⟨105, by decide, rfl⟩) ?_
    exact G_box11 s0 (sh11 h1) (by decide +kernel) (fun v g q => q.trans V.symm)
  · refine pa_switch (pc' := 134) dX11_box_15 (fun e => absurd e (by decide)) (fun _ => ⟨119, by decide, rfl⟩) ?_
    exact G_box11 s0 (sh11 h1) (by decide +kernel) (fun v g q => q.trans V.symm)
theorem R_box12 (z : lZ A c s H J g) (m : lMid kk im t g h) : zPa d mX12_box [.inr (.inr (some 196)), .inl x, .inl y] h (fun _ g => g.2.1 196 11 = cd_box A x y) := by
  intro N
  have s196 : zsh h 196 = some (12, 39) := zsh_by m.2.1.2.2.2 (by decide +kernel)
  generalize eg : zsI (zsI h 196 0 0) 196 11 0 = h2
  have e2 : ∀ a k, a ≠ 196 → h2.2.1 a k = h.2.1 a k := fun a k ha => by rw [← eg, zsI_no (by omega), zsI_no (by omega)]
  have e3 : ∀ k, k ≠ 0 → k ≠ 11 → h2.2.1 196 k = h.2.1 196 k := fun k w1 w2 => by rw [← eg, zsI_no (by omega), zsI_no (by omega)]
  have h1 : h2.1 = hh_487.1 := by rw [← eg]; exact m.2.1.2.2.2
  have hA : lPA A c h2 := by rw [← eg]; exact (m.pa z.1.1).gd
  have B : cI A ≠ 0 → bgM A s h2 := fun ne => by rw [← eg]; exact (z.bm m ne).gd
  have er : h2.2.2.2.1 = h.2.2.2.1 := by rw [← eg]; rfl
  have q15 : h2.2.2.2.1 196 15 = some 199 := by rw [er]; exact m.r15
  have q17 : h2.2.2.2.1 196 17 = some 201 := by rw [er]; exact m.mw.2.1
  have z196 : zsh h2 196 = some (12, 39) := zsh_by h1 (by decide +kernel)
  have z199 : zsh h2 199 = some (14, 363) := zsh_by h1 (by decide +kernel)
  have z201 : zsh h2 201 = some (14, 76) := zsh_by h1 (by decide +kernel)
  have M : nMo A s 201 0 h2 := (z.lm m).1.1.fr (fun k => e2 _ _ (by decide))
  have hT := z.1.2.1
  have hB := z.1.2.2
  have hI := z.1.1.1
  have hN := z.2.1.1
  have k0 : (0 : Int32).toInt = 0 := by decide
  obtain ⟨b1, b2, b3, b4, b5⟩ := hI.2.2.1
  show zPn N none d mX12_box (0, [(0, .inr (.inr (some 196))), (1, .inl x), (2, .inl y)], [], h) _
  refine pa_aload_n (pc' := 1) dX12_box_0 rfl rfl ?_
  refine pa_callv (pc' := 4) (vs := []) (rest := []) dX12_box_1 ml_12_167 (by decide) rfl rfl rfl (fun d' _ => (m_good s196)) (fun v h3 hq => ?_)
  obtain ⟨ev, eh⟩ := hq
  subst ev
  show zPn N none d mX12_box (4, _, [], h3) _
  rw [eg] at eh
  subst eh
  have t0 : h3.2.1 196 11 = 0 := by rw [← eg]; exact zsI_eq
  refine pa_aload_n (pc' := 5) dX12_box_4 rfl rfl ?_
  refine pa_iload_n (pc' := 6) dX12_box_5 rfl rfl ?_
  refine pa_callv (pc' := 9) (vs := [.inl x]) (rest := []) dX12_box_6 ml_12_274 (by decide) rfl rfl rfl (fun d' _ => (M_isBox hA q15 h1)) (fun v g9 hq => ?_)
  obtain ⟨ev, eh⟩ := hq
  subst ev
  rw [eh]
  show zPn N none d mX12_box (9, _, [.inl (if 0 ≤ x.toInt ∧ x.toInt < (cB A:Int) then 1 else 0)], h3) _
  by_cases hx : 0 ≤ x.toInt ∧ x.toInt < (cB A : Int)
  case neg =>
    rw [if_neg hx]
    refine pa_if_t (pc' := 21) dX12_box_9 (by decide) (by decide) ?_
    refine pa_aload_n (pc' := 22) dX12_box_21 rfl rfl ?_
    refine pa_iconst (v := nI 1) (pc' := 23) dX12_box_22 (by decide) rfl ?_
    refine pa_callv (pc' := 26) (vs := [.inl (nI 1)]) (rest := []) dX12_box_23 ml_12_170 (by decide) rfl rfl rfl (fun d' _ => (m_no z196)) (fun v g8 hq => ?_)
    obtain ⟨ev, eh⟩ := hq
    subst ev
    show zPn N none d mX12_box (26, _, [.inl ((-1))], g8) _
    refine pa_iret dX12_box_26 rfl rfl ?_
    exact rt_m eh (by unfold cd_box; rw [if_neg (fun q => hx q.1)]; rfl)
  rw [if_pos hx]
  refine pa_if_f (pc' := 12) dX12_box_9 (by decide) (by decide) rfl ?_
  refine pa_iload_n (pc' := 13) dX12_box_12 rfl rfl ?_
  refine pa_iconst (v := 0) (pc' := 14) dX12_box_13 (by decide) rfl ?_
  refine pa_iconst (v := 5) (pc' := 15) dX12_box_14 (by decide) rfl ?_
  refine pa_calls (pc' := 18) (kd := 1) (vs := [.inl y, .inl 0, .inl 5]) (rest := []) dX12_box_15 ml_12_149 (.inl rfl) rfl rfl rfl (fun d' _ => in_v) (fun v g9 hq => ?_)
  obtain ⟨ev, eh⟩ := hq
  subst ev
  rw [eh]
  show zPn N none d mX12_box (18, _, [.inl (if ((0 : Int32)).toInt ≤ (y).toInt ∧ (y).toInt ≤ ((5 : Int32)).toInt then 1 else 0)], h3) _
  rw [k0, show (5 : Int32).toInt = 5 by decide]
  by_cases hy : 0 ≤ y.toInt ∧ y.toInt ≤ 5
  case neg =>
    rw [if_neg hy]
    refine pa_if_f (pc' := 21) dX12_box_18 (by decide) (by decide) rfl ?_
    refine pa_aload_n (pc' := 22) dX12_box_21 rfl rfl ?_
    refine pa_iconst (v := nI 1) (pc' := 23) dX12_box_22 (by decide) rfl ?_
    refine pa_callv (pc' := 26) (vs := [.inl (nI 1)]) (rest := []) dX12_box_23 ml_12_170 (by decide) rfl rfl rfl (fun d' _ => (m_no z196)) (fun v g8 hq => ?_)
    obtain ⟨ev, eh⟩ := hq
    subst ev
    show zPn N none d mX12_box (26, _, [.inl ((-1))], g8) _
    refine pa_iret dX12_box_26 rfl rfl ?_
    exact rt_m eh (by unfold cd_box; rw [if_neg (fun q => hy (by omega))]; rfl)
  rw [if_pos hy]
  refine pa_if_t (pc' := 27) dX12_box_18 (by decide) (by decide) ?_
  have V : cd_box A x y = 0 := by unfold cd_box; rw [if_pos ⟨hx, by omega⟩]
  exact G_box12 (by decide +kernel) (fun v g q => (q.2.2 39 z196).trans (t0.trans V.symm))
theorem R_note11 (z : lZ A c s H J h) (hi : lInv t h) : zPa d mX11_note [.inr (.inr (some 0)), .inl x, .inl y] h (fun _ g => g.2.1 0 2 = cd_note A x y) := by
  intro N
  have h1 := hi.2.2.2.2.1
  have hA := z.1.1
  have hT := z.1.2.1
  have hB := z.1.2.2
  have hI := hA.1
  have hN := z.2.1.1
  have K := hA.2.2.2.1
  have hc2 : c = 2 ∨ c = 42 := hA.2.1
  obtain ⟨b1, b2, b3, b4, b5⟩ := hI.2.2.1
  have s0 : zsh h 0 = some (11, 16) := zsh_by h1 (by decide +kernel)
  obtain ⟨sc, sc1, sc2, sc4, sc5, scw, scb⟩ := cSh hA.2.1 h1
  obtain ⟨c9, c12, c13, cw, cb⟩ := cRf_of hi.1 hA.2.1
  have S := hi.nw
  obtain ⟨⟨s86, s87, s88, s89, s90, s91⟩, r87, r88, r89, r90, r91⟩ := S.o86
  have r3 := hA.2.2.1
  have r6 := S.2.1
  obtain ⟨n1, n2, n3, n4⟩ := z.2.2.1.1
  have k0 : (0 : Int32).toInt = 0 := by decide
  have no : ¬ ((0 ≤ x.toInt ∧ x.toInt < (cI A : Int)) ∧ 0 ≤ y.toInt ∧ y.toInt < ((A.2.2.1 x.toInt.toNat).length : Int)) → ∀ N, zPn N none d mX11_note (25, [(0, .inr (.inr (some 0))), (1, .inl x), (2, .inl y)], [], h) (fun _ g => g.2.1 0 2 = cd_note A x y) := fun q N => by
    refine pa_aload_n (pc' := 26) dX11_note_25 rfl rfl ?_
    refine pa_iconst (v := nI 1) (pc' := 27) dX11_note_26 (by decide) rfl ?_
    refine pa_callv (pc' := 30) (vs := [.inl (nI 1)]) (rest := []) dX11_note_27 ml_11_98 (by decide) rfl rfl rfl (fun d' _ => (c_ref s0)) (fun v g8 hq => ?_)
    obtain ⟨ev, eh⟩ := hq
    subst ev
    show zPn N none d mX11_note (30, _, [.inl ((-1))], g8) _
    refine pa_iret dX11_note_30 rfl rfl ?_
    exact rt_c eh (by unfold cd_note; rw [if_neg q]; rfl)
  show zPn N none d mX11_note (0, [(0, .inr (.inr (some 0))), (1, .inl x), (2, .inl y)], [], h) _
  refine pa_aload_n (pc' := 1) dX11_note_0 rfl rfl ?_
  refine pa_iload_n (pc' := 2) dX11_note_1 rfl rfl ?_
  refine pa_callv (pc' := 5) (vs := [.inl x]) (rest := []) dX11_note_2 ml_11_174 (by decide) rfl rfl rfl (fun d' _ => (N_isI11 hA h1)) (fun v g9 hq => ?_)
  obtain ⟨ev, eh⟩ := hq
  subst ev
  rw [eh]
  show zPn N none d mX11_note (5, _, [.inl (if 0 ≤ x.toInt ∧ x.toInt < (cI A:Int) then 1 else 0)], h) _
  by_cases hx : 0 ≤ x.toInt ∧ x.toInt < (cI A : Int)
  case neg =>
    rw [if_neg hx]
    refine pa_if_t (pc' := 25) dX11_note_5 (by decide) (by decide) ?_
    exact no (fun q => hx q.1) _
  rw [if_pos hx]
  refine pa_if_f (pc' := 8) dX11_note_5 (by decide) (by decide) rfl ?_
  refine pa_iload_n (pc' := 9) dX11_note_8 rfl rfl ?_
  refine pa_if (pc' := 25) (pc2 := 12) dX11_note_9 (by decide) rfl (fun q => ?_) (fun q => ?_)
  · have q := zi_lt q
    rw [k0] at q
    exact no (fun q' => by omega) _
  have q := zi_nlt q
  rw [k0] at q
  obtain ⟨i, rfl, hi2, ei⟩ := nI_ob hx.1 hx.2
  have B := z.bc hi (show cI A ≠ 0 by omega)
  obtain ⟨el, es, oS, lS⟩ := B.2.2.1.2.2.2.2.2 i hi2
  have e0 := B.2.2.1.2.2.2.1.1
  have r9 := B.2.2.1.2.2.1.2.1
  have r10 := B.2.2.1.2.2.1.2.2
  refine pa_iload_n (pc' := 13) dX11_note_12 rfl rfl ?_
  refine pa_aload_n (pc' := 14) dX11_note_13 rfl rfl ?_
  refine pa_getR (pc' := 17) (n := 16) (r := c) dX11_note_14 fl_11_23 s0 (by decide) r3 rfl ?_
  refine pa_getR (pc' := 20) (n := 15) (r := c + 2) dX11_note_17 fl_11_177 sc (by decide) r10 rfl ?_
  refine pa_iload_n (pc' := 21) dX11_note_20 rfl rfl ?_
  refine pa_iald (pc' := 22) dX11_note_21 sc2 rfl (fun _ => ?_)
  rw [nI_clamp (by omega), el]
  rw [ei] at no
  refine pa_icmp (pc' := 31) (pc2 := 25) dX11_note_22 (by decide) rfl (fun u => ?_) (fun u => ?_)
  rotate_left
  · have u := of_decide_eq_false u
    rw [lt_i, nI_toInt (by omega)] at u
    exact no (fun q' => by omega) _
  have u := lt_i.mp (of_decide_eq_true u)
  rw [nI_toInt (by omega)] at u
  have V : cd_note A (nI i) y = 0 := by unfold cd_note; rw [ei, if_pos ⟨hx, by omega, u⟩]
  exact G_note11 s0 (sh11 h1) (by decide +kernel) (fun v g q => q.trans V.symm)
theorem R_note12 (z : lZ A c s H J g) (m : lMid kk im t g h) : zPa d mX12_note [.inr (.inr (some 196)), .inl x, .inl y] h (fun _ g => g.2.1 196 11 = cd_note A x y) := by
  intro N
  have s196 : zsh h 196 = some (12, 39) := zsh_by m.2.1.2.2.2 (by decide +kernel)
  generalize eg : zsI (zsI h 196 0 0) 196 11 0 = h2
  have e2 : ∀ a k, a ≠ 196 → h2.2.1 a k = h.2.1 a k := fun a k ha => by rw [← eg, zsI_no (by omega), zsI_no (by omega)]
  have e3 : ∀ k, k ≠ 0 → k ≠ 11 → h2.2.1 196 k = h.2.1 196 k := fun k w1 w2 => by rw [← eg, zsI_no (by omega), zsI_no (by omega)]
  have h1 : h2.1 = hh_487.1 := by rw [← eg]; exact m.2.1.2.2.2
  have hA : lPA A c h2 := by rw [← eg]; exact (m.pa z.1.1).gd
  have B : cI A ≠ 0 → bgM A s h2 := fun ne => by rw [← eg]; exact (z.bm m ne).gd
  have er : h2.2.2.2.1 = h.2.2.2.1 := by rw [← eg]; rfl
  have q15 : h2.2.2.2.1 196 15 = some 199 := by rw [er]; exact m.r15
  have q17 : h2.2.2.2.1 196 17 = some 201 := by rw [er]; exact m.mw.2.1
  have z196 : zsh h2 196 = some (12, 39) := zsh_by h1 (by decide +kernel)
  have z199 : zsh h2 199 = some (14, 363) := zsh_by h1 (by decide +kernel)
  have z201 : zsh h2 201 = some (14, 76) := zsh_by h1 (by decide +kernel)
  have M : nMo A s 201 0 h2 := (z.lm m).1.1.fr (fun k => e2 _ _ (by decide))
  have hT := z.1.2.1
  have hB := z.1.2.2
  have hI := z.1.1.1
  have hN := z.2.1.1
  have k0 : (0 : Int32).toInt = 0 := by decide
  obtain ⟨b1, b2, b3, b4, b5⟩ := hI.2.2.1
  show zPn N none d mX12_note (0, [(0, .inr (.inr (some 196))), (1, .inl x), (2, .inl y)], [], h) _
  refine pa_aload_n (pc' := 1) dX12_note_0 rfl rfl ?_
  refine pa_callv (pc' := 4) (vs := []) (rest := []) dX12_note_1 ml_12_167 (by decide) rfl rfl rfl (fun d' _ => (m_good s196)) (fun v h3 hq => ?_)
  obtain ⟨ev, eh⟩ := hq
  subst ev
  show zPn N none d mX12_note (4, _, [], h3) _
  rw [eg] at eh
  subst eh
  have t0 : h3.2.1 196 11 = 0 := by rw [← eg]; exact zsI_eq
  refine pa_aload_n (pc' := 5) dX12_note_4 rfl rfl ?_
  refine pa_iload_n (pc' := 6) dX12_note_5 rfl rfl ?_
  refine pa_callv (pc' := 9) (vs := [.inl x]) (rest := []) dX12_note_6 ml_12_277 (by decide) rfl rfl rfl (fun d' _ => (N_isI12 hA q15 h1)) (fun v g9 hq => ?_)
  obtain ⟨ev, eh⟩ := hq
  subst ev
  rw [eh]
  show zPn N none d mX12_note (9, _, [.inl (if 0 ≤ x.toInt ∧ x.toInt < (cI A:Int) then 1 else 0)], h3) _
  by_cases hx : 0 ≤ x.toInt ∧ x.toInt < (cI A : Int)
  case neg =>
    rw [if_neg hx]
    refine pa_if_t (pc' := 42) dX12_note_9 (by decide) (by decide) ?_
    refine pa_aload_n (pc' := 43) dX12_note_42 rfl rfl ?_
    refine pa_iconst (v := nI 1) (pc' := 44) dX12_note_43 (by decide) rfl ?_
    refine pa_callv (pc' := 47) (vs := [.inl (nI 1)]) (rest := []) dX12_note_44 ml_12_170 (by decide) rfl rfl rfl (fun d' _ => (m_no z196)) (fun v g8 hq => ?_)
    obtain ⟨ev, eh⟩ := hq
    subst ev
    show zPn N none d mX12_note (47, _, [.inl ((-1))], g8) _
    refine pa_iret dX12_note_47 rfl rfl ?_
    exact rt_m eh (by unfold cd_note; rw [if_neg (fun q => hx q.1)]; rfl)
  rw [if_pos hx]
  obtain ⟨i, rfl, hi2, ei⟩ := nI_ob hx.1 hx.2
  have B := B (show cI A ≠ 0 by omega)
  obtain ⟨-, lS, l2, -⟩ := okN_of hI hi2
  refine pa_if_f (pc' := 12) dX12_note_9 (by decide) (by decide) rfl ?_
  refine pa_iload_n (pc' := 13) dX12_note_12 rfl rfl ?_
  refine pa_iconst (v := 0) (pc' := 14) dX12_note_13 (by decide) rfl ?_
  refine pa_aload_n (pc' := 15) dX12_note_14 rfl rfl ?_
  refine pa_iload_n (pc' := 16) dX12_note_15 rfl rfl ?_
  refine pa_callv (pc' := 19) (vs := [.inl (nI i)]) (rest := [.inl 0, .inl y]) dX12_note_16 ml_12_265 (by decide) rfl rfl rfl (fun d' _ => (M_songLong B.2.2.1 hi2)) (fun v g9 hq => ?_)
  obtain ⟨ev, eh⟩ := hq
  subst ev
  rw [eh]
  show zPn N none d mX12_note (19, _, [.inl (nI ((A.2.2.1 i).length)), .inl 0, .inl y], h3) _
  refine pa_iconst (v := nI 1) (pc' := 20) dX12_note_19 (by decide) rfl ?_
  refine pa_isub (pc' := 21) (v := nI (((A.2.2.1 i).length) - 1)) dX12_note_20 (nI_sub (by omega)) rfl ?_
  refine pa_calls (pc' := 24) (kd := 1) (vs := [.inl y, .inl 0, .inl (nI (((A.2.2.1 i).length) - 1))]) (rest := []) dX12_note_21 ml_12_149 (.inl rfl) rfl rfl rfl (fun d' _ => in_v) (fun v g9 hq => ?_)
  obtain ⟨ev, eh⟩ := hq
  subst ev
  rw [eh]
  show zPn N none d mX12_note (24, _, [.inl (if ((0 : Int32)).toInt ≤ (y).toInt ∧ (y).toInt ≤ ((nI (((A.2.2.1 i).length) - 1))).toInt then 1 else 0)], h3) _
  rw [k0, nI_toInt (n := (A.2.2.1 i).length - 1) (by omega)]
  by_cases hy : 0 ≤ y.toInt ∧ y.toInt ≤ (((A.2.2.1 i).length - 1 : Nat) : Int)
  case neg =>
    rw [if_neg hy]
    refine pa_if_t (pc' := 42) dX12_note_24 (by decide) (by decide) ?_
    refine pa_aload_n (pc' := 43) dX12_note_42 rfl rfl ?_
    refine pa_iconst (v := nI 1) (pc' := 44) dX12_note_43 (by decide) rfl ?_
    refine pa_callv (pc' := 47) (vs := [.inl (nI 1)]) (rest := []) dX12_note_44 ml_12_170 (by decide) rfl rfl rfl (fun d' _ => (m_no z196)) (fun v g8 hq => ?_)
    obtain ⟨ev, eh⟩ := hq
    subst ev
    show zPn N none d mX12_note (47, _, [.inl ((-1))], g8) _
    refine pa_iret dX12_note_47 rfl rfl ?_
    exact rt_m eh (by unfold cd_note; rw [ei, if_neg (fun q => hy (by omega))]; rfl)
  rw [if_pos hy]
  refine pa_if_f (pc' := 27) dX12_note_24 (by decide) (by decide) rfl ?_
  have V : cd_note A (nI i) y = 0 := by unfold cd_note; rw [ei, if_pos ⟨hx, by omega⟩]
  exact G_note12 (by decide +kernel) (fun v g q => (q.2.2 39 z196).trans (t0.trans V.symm))
theorem R_sung12 (z : lZ A c s H J g) (m : lMid kk im t g h) : zPa d mX12_sung [.inr (.inr (some 196)), .inl x, .inl y] h (fun _ g => g.2.1 196 11 = cd_sung A x y) := by
  intro N
  have s196 : zsh h 196 = some (12, 39) := zsh_by m.2.1.2.2.2 (by decide +kernel)
  generalize eg : zsI (zsI h 196 0 0) 196 11 0 = h2
  have e2 : ∀ a k, a ≠ 196 → h2.2.1 a k = h.2.1 a k := fun a k ha => by rw [← eg, zsI_no (by omega), zsI_no (by omega)]
  have e3 : ∀ k, k ≠ 0 → k ≠ 11 → h2.2.1 196 k = h.2.1 196 k := fun k w1 w2 => by rw [← eg, zsI_no (by omega), zsI_no (by omega)]
  have h1 : h2.1 = hh_487.1 := by rw [← eg]; exact m.2.1.2.2.2
  have hA : lPA A c h2 := by rw [← eg]; exact (m.pa z.1.1).gd
  have B : cI A ≠ 0 → bgM A s h2 := fun ne => by rw [← eg]; exact (z.bm m ne).gd
  have er : h2.2.2.2.1 = h.2.2.2.1 := by rw [← eg]; rfl
  have q15 : h2.2.2.2.1 196 15 = some 199 := by rw [er]; exact m.r15
  have q17 : h2.2.2.2.1 196 17 = some 201 := by rw [er]; exact m.mw.2.1
  have z196 : zsh h2 196 = some (12, 39) := zsh_by h1 (by decide +kernel)
  have z199 : zsh h2 199 = some (14, 363) := zsh_by h1 (by decide +kernel)
  have z201 : zsh h2 201 = some (14, 76) := zsh_by h1 (by decide +kernel)
  have M : nMo A s 201 0 h2 := (z.lm m).1.1.fr (fun k => e2 _ _ (by decide))
  have hT := z.1.2.1
  have hB := z.1.2.2
  have hI := z.1.1.1
  have hN := z.2.1.1
  have k0 : (0 : Int32).toInt = 0 := by decide
  obtain ⟨b1, b2, b3, b4, b5⟩ := hI.2.2.1
  show zPn N none d mX12_sung (0, [(0, .inr (.inr (some 196))), (1, .inl x), (2, .inl y)], [], h) _
  refine pa_aload_n (pc' := 1) dX12_sung_0 rfl rfl ?_
  refine pa_callv (pc' := 4) (vs := []) (rest := []) dX12_sung_1 ml_12_167 (by decide) rfl rfl rfl (fun d' _ => (m_good s196)) (fun v h3 hq => ?_)
  obtain ⟨ev, eh⟩ := hq
  subst ev
  show zPn N none d mX12_sung (4, _, [], h3) _
  rw [eg] at eh
  subst eh
  have t0 : h3.2.1 196 11 = 0 := by rw [← eg]; exact zsI_eq
  refine pa_aload_n (pc' := 5) dX12_sung_4 rfl rfl ?_
  refine pa_iload_n (pc' := 6) dX12_sung_5 rfl rfl ?_
  refine pa_callv (pc' := 9) (vs := [.inl x]) (rest := []) dX12_sung_6 ml_12_274 (by decide) rfl rfl rfl (fun d' _ => (M_isBox hA q15 h1)) (fun v g9 hq => ?_)
  obtain ⟨ev, eh⟩ := hq
  subst ev
  rw [eh]
  show zPn N none d mX12_sung (9, _, [.inl (if 0 ≤ x.toInt ∧ x.toInt < (cB A:Int) then 1 else 0)], h3) _
  by_cases hx : 0 ≤ x.toInt ∧ x.toInt < (cB A : Int)
  case neg =>
    rw [if_neg hx]
    refine pa_if_t (pc' := 44) dX12_sung_9 (by decide) (by decide) ?_
    refine pa_aload_n (pc' := 45) dX12_sung_44 rfl rfl ?_
    refine pa_iconst (v := nI 1) (pc' := 46) dX12_sung_45 (by decide) rfl ?_
    refine pa_callv (pc' := 49) (vs := [.inl (nI 1)]) (rest := []) dX12_sung_46 ml_12_170 (by decide) rfl rfl rfl (fun d' _ => (m_no z196)) (fun v g8 hq => ?_)
    obtain ⟨ev, eh⟩ := hq
    subst ev
    show zPn N none d mX12_sung (49, _, [.inl ((-1))], g8) _
    refine pa_iret dX12_sung_49 rfl rfl ?_
    exact rt_m eh (by unfold cd_sung; rw [if_neg (fun q => hx q.1)]; rfl)
  rw [if_pos hx]
  obtain ⟨b, rfl, hb, eb⟩ := nI_ob hx.1 hx.2
  obtain ⟨l6, l2⟩ := lb_ok hI hB hT hb
  have B := B (hA.has hb)
  have eto : h3.2.1 199 (127 + 4 * b + 1) = nI (nu A (128 + 4 * b)) := by
    rw [B.2.2.2.2.2 b hb 1 (by decide), (num_box hI hB hT hb).2.2.2.2 1 (by decide), show 127 + 4 * b + 1 = 128 + 4 * b by omega]
  refine pa_if_f (pc' := 12) dX12_sung_9 (by decide) (by decide) rfl ?_
  refine pa_iload_n (pc' := 13) dX12_sung_12 rfl rfl ?_
  refine pa_iconst (v := 0) (pc' := 14) dX12_sung_13 (by decide) rfl ?_
  refine pa_aload_n (pc' := 15) dX12_sung_14 rfl rfl ?_
  refine pa_iload_n (pc' := 16) dX12_sung_15 rfl rfl ?_
  refine pa_callv (pc' := 19) (vs := [.inl (nI b)]) (rest := [.inl 0, .inl y]) dX12_sung_16 ml_12_284 (by decide) rfl rfl rfl (fun d' _ => (M_boxLong B.2.2.1 (by omega) eto (num_box hI hB hT hb).2.1)) (fun v g9 hq => ?_)
  obtain ⟨ev, eh⟩ := hq
  subst ev
  rw [eh]
  show zPn N none d mX12_sung (19, _, [.inl (nI (lB A b)), .inl 0, .inl y], h3) _
  refine pa_iconst (v := nI 1) (pc' := 20) dX12_sung_19 (by decide) rfl ?_
  refine pa_isub (pc' := 21) (v := nI ((lB A b) - 1)) dX12_sung_20 (nI_sub (by omega)) rfl ?_
  refine pa_calls (pc' := 24) (kd := 1) (vs := [.inl y, .inl 0, .inl (nI ((lB A b) - 1))]) (rest := []) dX12_sung_21 ml_12_149 (.inl rfl) rfl rfl rfl (fun d' _ => in_v) (fun v g9 hq => ?_)
  obtain ⟨ev, eh⟩ := hq
  subst ev
  rw [eh]
  show zPn N none d mX12_sung (24, _, [.inl (if ((0 : Int32)).toInt ≤ (y).toInt ∧ (y).toInt ≤ ((nI ((lB A b) - 1))).toInt then 1 else 0)], h3) _
  rw [k0, nI_toInt (n := lB A b - 1) (by omega)]
  by_cases hy : 0 ≤ y.toInt ∧ y.toInt ≤ ((lB A b - 1 : Nat) : Int)
  case neg =>
    rw [if_neg hy]
    refine pa_if_t (pc' := 44) dX12_sung_24 (by decide) (by decide) ?_
    refine pa_aload_n (pc' := 45) dX12_sung_44 rfl rfl ?_
    refine pa_iconst (v := nI 1) (pc' := 46) dX12_sung_45 (by decide) rfl ?_
    refine pa_callv (pc' := 49) (vs := [.inl (nI 1)]) (rest := []) dX12_sung_46 ml_12_170 (by decide) rfl rfl rfl (fun d' _ => (m_no z196)) (fun v g8 hq => ?_)
    obtain ⟨ev, eh⟩ := hq
    subst ev
    show zPn N none d mX12_sung (49, _, [.inl ((-1))], g8) _
    refine pa_iret dX12_sung_49 rfl rfl ?_
    exact rt_m eh (by unfold cd_sung; rw [eb, if_neg (fun q => hy (by omega))]; rfl)
  rw [if_pos hy]
  refine pa_if_f (pc' := 27) dX12_sung_24 (by decide) (by decide) rfl ?_
  have V : cd_sung A (nI b) y = 0 := by unfold cd_sung; rw [eb, if_pos ⟨hx, by omega⟩]
  exact G_sung12 (by decide +kernel) (fun v g q => (q.2.2 39 z196).trans (t0.trans V.symm))
theorem R_sent11 (z : lZ A c s H J h) (hi : lInv t h) : zPa d mX11_sent [.inr (.inr (some 0)), .inl x] h (fun _ g => g.2.1 0 2 = cd_sent A x) := by
  intro N
  have h1 := hi.2.2.2.2.1
  have hA := z.1.1
  have hT := z.1.2.1
  have hB := z.1.2.2
  have hI := hA.1
  have hN := z.2.1.1
  have K := hA.2.2.2.1
  have hc2 : c = 2 ∨ c = 42 := hA.2.1
  obtain ⟨b1, b2, b3, b4, b5⟩ := hI.2.2.1
  have s0 : zsh h 0 = some (11, 16) := zsh_by h1 (by decide +kernel)
  obtain ⟨sc, sc1, sc2, sc4, sc5, scw, scb⟩ := cSh hA.2.1 h1
  obtain ⟨c9, c12, c13, cw, cb⟩ := cRf_of hi.1 hA.2.1
  have S := hi.nw
  obtain ⟨⟨s86, s87, s88, s89, s90, s91⟩, r87, r88, r89, r90, r91⟩ := S.o86
  have r3 := hA.2.2.1
  have r6 := S.2.1
  obtain ⟨n1, n2, n3, n4⟩ := z.2.2.1.1
  have k0 : (0 : Int32).toInt = 0 := by decide
  have ref : ¬ (cI A ≠ 0 ∧ 0 ≤ x.toInt ∧ x.toInt ≤ 2) → ∀ N, zPn N none d mX11_sent (16, [(0, .inr (.inr (some 0))), (1, .inl x)], [], h) (fun _ g => g.2.1 0 2 = cd_sent A x) := fun q N => by
    refine pa_aload_n (pc' := 17) dX11_sent_16 rfl rfl ?_
    refine pa_iconst (v := nI 1) (pc' := 18) dX11_sent_17 (by decide) rfl ?_
    refine pa_callv (pc' := 21) (vs := [.inl (nI 1)]) (rest := []) dX11_sent_18 ml_11_98 (by decide) rfl rfl rfl (fun d' _ => (c_ref s0)) (fun v g8 hq => ?_)
    obtain ⟨ev, eh⟩ := hq
    subst ev
    show zPn N none d mX11_sent (21, _, [.inl ((-1))], g8) _
    refine pa_iret dX11_sent_21 rfl rfl ?_
    exact rt_c eh (by unfold cd_sent; rw [if_neg q]; rfl)
  show zPn N none d mX11_sent (0, [(0, .inr (.inr (some 0))), (1, .inl x)], [], h) _
  refine pa_aload_n (pc' := 1) dX11_sent_0 rfl rfl ?_
  refine pa_callv (pc' := 4) (vs := []) (rest := []) dX11_sent_1 ml_11_222 (by decide) rfl rfl rfl (fun d' _ => (N_hasPost hA h1)) (fun v g9 hq => ?_)
  obtain ⟨ev, eh⟩ := hq
  subst ev
  rw [eh]
  show zPn N none d mX11_sent (4, _, [.inl (if cI A = 0 then 0 else 1)], h) _
  by_cases z0 : cI A = 0
  · rw [if_pos z0]
    refine pa_if_t (pc' := 16) dX11_sent_4 (by decide) (by decide) ?_
    exact ref (fun q => q.1 z0) _
  rw [if_neg z0]
  refine pa_if_f (pc' := 7) dX11_sent_4 (by decide) (by decide) rfl ?_
  refine pa_iload_n (pc' := 8) dX11_sent_7 rfl rfl ?_
  refine pa_if (pc' := 16) (pc2 := 11) dX11_sent_8 (by decide) rfl (fun q => ?_) (fun q => ?_)
  · have q := zi_lt q
    rw [k0] at q
    exact ref (fun q' => by omega) _
  have q := zi_nlt q
  rw [k0] at q
  refine pa_iload_n (pc' := 12) dX11_sent_11 rfl rfl ?_
  refine pa_iconst (v := nI 2) (pc' := 13) dX11_sent_12 (by decide) rfl ?_
  refine pa_icmp (pc' := 22) (pc2 := 16) dX11_sent_13 (by decide) rfl (fun u => ?_) (fun u => ?_)
  rotate_left
  · have u := zi_gt (zk_le_gt u)
    rw [nI_toInt (by omega)] at u
    exact ref (fun q' => by omega) _
  have u := zi_ngt (zk_le_gt u)
  rw [nI_toInt (by omega)] at u
  have V : cd_sent A x = 0 := by unfold cd_sent; rw [if_pos ⟨z0, by omega, by omega⟩]
  exact G_sent11 s0 (sh11 h1) (by decide +kernel) (fun v g q => q.trans V.symm)
theorem R_sets12 (z : lZ A c s H J g) (m : lMid kk im t g h) : zPa d mX12_sets [.inr (.inr (some 196)), .inl x, .inl k, .inl y] h (fun _ g => g.2.1 196 11 = cd_sets A x k y) := by
  intro N
  have s196 : zsh h 196 = some (12, 39) := zsh_by m.2.1.2.2.2 (by decide +kernel)
  generalize eg : zsI (zsI h 196 0 0) 196 11 0 = h2
  have e2 : ∀ a k, a ≠ 196 → h2.2.1 a k = h.2.1 a k := fun a k ha => by rw [← eg, zsI_no (by omega), zsI_no (by omega)]
  have e3 : ∀ k, k ≠ 0 → k ≠ 11 → h2.2.1 196 k = h.2.1 196 k := fun k w1 w2 => by rw [← eg, zsI_no (by omega), zsI_no (by omega)]
  have h1 : h2.1 = hh_487.1 := by rw [← eg]; exact m.2.1.2.2.2
  have hA : lPA A c h2 := by rw [← eg]; exact (m.pa z.1.1).gd
  have B : cI A ≠ 0 → bgM A s h2 := fun ne => by rw [← eg]; exact (z.bm m ne).gd
  have er : h2.2.2.2.1 = h.2.2.2.1 := by rw [← eg]; rfl
  have q15 : h2.2.2.2.1 196 15 = some 199 := by rw [er]; exact m.r15
  have q17 : h2.2.2.2.1 196 17 = some 201 := by rw [er]; exact m.mw.2.1
  have z196 : zsh h2 196 = some (12, 39) := zsh_by h1 (by decide +kernel)
  have z199 : zsh h2 199 = some (14, 363) := zsh_by h1 (by decide +kernel)
  have z201 : zsh h2 201 = some (14, 76) := zsh_by h1 (by decide +kernel)
  have M : nMo A s 201 0 h2 := (z.lm m).1.1.fr (fun k => e2 _ _ (by decide))
  have hT := z.1.2.1
  have hB := z.1.2.2
  have hI := z.1.1.1
  have hN := z.2.1.1
  have k0 : (0 : Int32).toInt = 0 := by decide
  obtain ⟨b1, b2, b3, b4, b5⟩ := hI.2.2.1
  show zPn N none d mX12_sets (0, [(0, .inr (.inr (some 196))), (1, .inl x), (2, .inl k), (3, .inl y)], [], h) _
  refine pa_aload_n (pc' := 1) dX12_sets_0 rfl rfl ?_
  refine pa_callv (pc' := 4) (vs := []) (rest := []) dX12_sets_1 ml_12_167 (by decide) rfl rfl rfl (fun d' _ => (m_good s196)) (fun v h3 hq => ?_)
  obtain ⟨ev, eh⟩ := hq
  subst ev
  show zPn N none d mX12_sets (4, _, [], h3) _
  rw [eg] at eh
  subst eh
  have t0 : h3.2.1 196 11 = 0 := by rw [← eg]; exact zsI_eq
  refine pa_aload_n (pc' := 5) dX12_sets_4 rfl rfl ?_
  refine pa_iload_n (pc' := 6) dX12_sets_5 rfl rfl ?_
  refine pa_callv (pc' := 9) (vs := [.inl x]) (rest := []) dX12_sets_6 ml_12_268 (by decide) rfl rfl rfl (fun d' _ => (M_isWhale hA q15 h1)) (fun v g9 hq => ?_)
  obtain ⟨ev, eh⟩ := hq
  subst ev
  rw [eh]
  show zPn N none d mX12_sets (9, _, [.inl (if 0 ≤ x.toInt ∧ x.toInt < (cH A:Int) then 1 else 0)], h3) _
  by_cases hx : 0 ≤ x.toInt ∧ x.toInt < (cH A : Int)
  case neg =>
    rw [if_neg hx]
    refine pa_if_t (pc' := 28) dX12_sets_9 (by decide) (by decide) ?_
    refine pa_aload_n (pc' := 29) dX12_sets_28 rfl rfl ?_
    refine pa_iconst (v := nI 1) (pc' := 30) dX12_sets_29 (by decide) rfl ?_
    refine pa_callv (pc' := 33) (vs := [.inl (nI 1)]) (rest := []) dX12_sets_30 ml_12_170 (by decide) rfl rfl rfl (fun d' _ => (m_no z196)) (fun v g8 hq => ?_)
    obtain ⟨ev, eh⟩ := hq
    subst ev
    show zPn N none d mX12_sets (33, _, [.inl ((-1))], g8) _
    refine pa_iret dX12_sets_33 rfl rfl ?_
    exact rt_m eh (by unfold cd_sets; rw [if_neg (fun q => hx q.1)]; rfl)
  rw [if_pos hx]
  obtain ⟨w, rfl, hw, ew⟩ := nI_ob hx.1 hx.2
  have B := B (hA.hasH hw)
  have e5 := B.2.1.2.2.2.2.1.2.1
  have pr := nI_prd (cW A) (by omega)
  refine pa_if_f (pc' := 12) dX12_sets_9 (by decide) (by decide) rfl ?_
  refine pa_iload_n (pc' := 13) dX12_sets_12 rfl rfl ?_
  refine pa_iconst (v := 0) (pc' := 14) dX12_sets_13 (by decide) rfl ?_
  refine pa_aload_n (pc' := 15) dX12_sets_14 rfl rfl ?_
  refine pa_getR (pc' := 18) (n := 39) (r := 199) dX12_sets_15 fl_12_20 z196 (by decide) q15 rfl ?_
  refine pa_iconst (v := nI 5) (pc' := 19) dX12_sets_18 (by decide) rfl ?_
  refine pa_iald (pc' := 20) dX12_sets_19 z199 rfl (fun _ => ?_)
  rw [nI_clamp (by omega), e5]
  refine pa_iconst (v := 1) (pc' := 21) dX12_sets_20 (by decide) rfl ?_
  refine pa_isub (pc' := 22) dX12_sets_21 rfl rfl ?_
  refine pa_calls (pc' := 25) (kd := 1) (vs := [.inl k, .inl 0, .inl ((nI (cW A)) - 1)]) (rest := []) dX12_sets_22 ml_12_149 (.inl rfl) rfl rfl rfl (fun d' _ => in_v) (fun v g9 hq => ?_)
  obtain ⟨ev, eh⟩ := hq
  subst ev
  rw [eh]
  show zPn N none d mX12_sets (25, _, [.inl (if ((0 : Int32)).toInt ≤ (k).toInt ∧ (k).toInt ≤ (((nI (cW A)) - 1)).toInt then 1 else 0)], h3) _
  rw [k0, pr]
  by_cases hk : 0 ≤ k.toInt ∧ k.toInt ≤ (cW A : Int) - 1
  case neg =>
    rw [if_neg hk]
    refine pa_if_f (pc' := 28) dX12_sets_25 (by decide) (by decide) rfl ?_
    refine pa_aload_n (pc' := 29) dX12_sets_28 rfl rfl ?_
    refine pa_iconst (v := nI 1) (pc' := 30) dX12_sets_29 (by decide) rfl ?_
    refine pa_callv (pc' := 33) (vs := [.inl (nI 1)]) (rest := []) dX12_sets_30 ml_12_170 (by decide) rfl rfl rfl (fun d' _ => (m_no z196)) (fun v g8 hq => ?_)
    obtain ⟨ev, eh⟩ := hq
    subst ev
    show zPn N none d mX12_sets (33, _, [.inl ((-1))], g8) _
    refine pa_iret dX12_sets_33 rfl rfl ?_
    exact rt_m eh (by unfold cd_sets; rw [if_neg (fun q => hk (by omega))]; rfl)
  rw [if_pos hk]
  have hk : 0 ≤ k.toInt ∧ k.toInt < (cW A : Int) := by omega
  refine pa_if_t (pc' := 34) dX12_sets_25 (by decide) (by decide) ?_
  refine pa_iload_n (pc' := 35) dX12_sets_34 rfl rfl ?_
  refine pa_iconst (v := 0) (pc' := 36) dX12_sets_35 (by decide) rfl ?_
  refine pa_sipush (v := 9999) (pc' := 39) dX12_sets_36 (by decide) rfl ?_
  refine pa_calls (pc' := 42) (kd := 1) (vs := [.inl y, .inl 0, .inl 9999]) (rest := []) dX12_sets_39 ml_12_149 (.inl rfl) rfl rfl rfl (fun d' _ => in_v) (fun v g9 hq => ?_)
  obtain ⟨ev, eh⟩ := hq
  subst ev
  rw [eh]
  show zPn N none d mX12_sets (42, _, [.inl (if ((0 : Int32)).toInt ≤ (y).toInt ∧ (y).toInt ≤ ((9999 : Int32)).toInt then 1 else 0)], h3) _
  rw [k0, show (9999 : Int32).toInt = 9999 by decide]
  by_cases hy : 0 ≤ y.toInt ∧ y.toInt ≤ 9999
  case neg =>
    rw [if_neg hy]
    refine pa_if_f (pc' := 45) dX12_sets_42 (by decide) (by decide) rfl ?_
    refine pa_aload_n (pc' := 46) dX12_sets_45 rfl rfl ?_
    refine pa_iconst (v := nI 2) (pc' := 47) dX12_sets_46 (by decide) rfl ?_
    refine pa_callv (pc' := 50) (vs := [.inl (nI 2)]) (rest := []) dX12_sets_47 ml_12_170 (by decide) rfl rfl rfl (fun d' _ => (m_no z196)) (fun v g8 hq => ?_)
    obtain ⟨ev, eh⟩ := hq
    subst ev
    show zPn N none d mX12_sets (50, _, [.inl ((-1))], g8) _
    refine pa_iret dX12_sets_50 rfl rfl ?_
    exact rt_m eh (by unfold cd_sets; rw [if_pos ⟨hx, hk⟩, if_neg hy]; rfl)
  rw [if_pos hy]
  refine pa_if_t (pc' := 51) dX12_sets_42 (by decide) (by decide) ?_
  have V : cd_sets A (nI w) k y = 0 := by unfold cd_sets; rw [if_pos ⟨hx, hk⟩, if_pos hy]
  exact G_sets12 (by decide +kernel) (fun v g q => (q.2.2 39 z196).trans (t0.trans V.symm))
theorem R_fresh11 (z : lZ A c s H J h) (hi : lInv t h) : zPa d mX11_fresh [.inr (.inr (some 0)), .inl x, .inl y] h (fun _ g => g.2.1 0 2 = cd_new A x y) := by
  intro N
  have h1 := hi.2.2.2.2.1
  have hA := z.1.1
  have hT := z.1.2.1
  have hB := z.1.2.2
  have hI := hA.1
  have hN := z.2.1.1
  have K := hA.2.2.2.1
  have hc2 : c = 2 ∨ c = 42 := hA.2.1
  obtain ⟨b1, b2, b3, b4, b5⟩ := hI.2.2.1
  have s0 : zsh h 0 = some (11, 16) := zsh_by h1 (by decide +kernel)
  obtain ⟨sc, sc1, sc2, sc4, sc5, scw, scb⟩ := cSh hA.2.1 h1
  obtain ⟨c9, c12, c13, cw, cb⟩ := cRf_of hi.1 hA.2.1
  have S := hi.nw
  obtain ⟨⟨s86, s87, s88, s89, s90, s91⟩, r87, r88, r89, r90, r91⟩ := S.o86
  have r3 := hA.2.2.1
  have r6 := S.2.1
  obtain ⟨n1, n2, n3, n4⟩ := z.2.2.1.1
  show zPn N none d mX11_fresh (0, [(0, .inr (.inr (some 0))), (1, .inl x), (2, .inl y)], [], h) _
  refine pa_aload_n (pc' := 1) dX11_fresh_0 rfl rfl ?_
  refine pa_iload_n (pc' := 2) dX11_fresh_1 rfl rfl ?_
  refine pa_iload_n (pc' := 3) dX11_fresh_2 rfl rfl ?_
  refine pa_callv (pc' := 6) (vs := [.inl x, .inl y]) (rest := []) dX11_fresh_3 ml_11_258 (by decide) rfl rfl rfl (fun d' _ => (N_refNew hA h1)) (fun v g9 hq => ?_)
  obtain ⟨ev, eh⟩ := hq
  subst ev
  rw [eh]
  show zPn N none d mX11_fresh (6, _, [.inl (if cI A = 0 then 1 else if (2 ≤ x.toInt ∧ x.toInt ≤ 5) ∧ 1 ≤ y.toInt ∧ y.toInt ≤ 5 then 0 else 2)], h) _
  by_cases z0 : cI A = 0
  · rw [if_pos z0]
    refine pa_istore_n (pc' := 7) dX11_fresh_6 (by decide) rfl rfl ?_
    refine pa_iload_n (pc' := 8) dX11_fresh_7 rfl rfl ?_
    refine pa_if_f (pc' := 11) dX11_fresh_8 (by decide) (by decide) rfl ?_
    refine pa_aload_n (pc' := 12) dX11_fresh_11 rfl rfl ?_
    refine pa_iload_n (pc' := 13) dX11_fresh_12 rfl rfl ?_
    refine pa_callv (pc' := 16) (vs := [.inl 1]) (rest := []) dX11_fresh_13 ml_11_98 (by decide) rfl rfl rfl (fun d' _ => (c_ref s0)) (fun v g8 hq => ?_)
    obtain ⟨ev, eh⟩ := hq
    subst ev
    show zPn N none d mX11_fresh (16, _, [.inl ((-1))], g8) _
    refine pa_iret dX11_fresh_16 rfl rfl ?_
    exact rt_c eh (by unfold cd_new; rw [if_pos z0])
  rw [if_neg z0]
  by_cases hq : (2 ≤ x.toInt ∧ x.toInt ≤ 5) ∧ 1 ≤ y.toInt ∧ y.toInt ≤ 5
  case neg =>
    rw [if_neg hq]
    refine pa_istore_n (pc' := 7) dX11_fresh_6 (by decide) rfl rfl ?_
    refine pa_iload_n (pc' := 8) dX11_fresh_7 rfl rfl ?_
    refine pa_if_f (pc' := 11) dX11_fresh_8 (by decide) (by decide) rfl ?_
    refine pa_aload_n (pc' := 12) dX11_fresh_11 rfl rfl ?_
    refine pa_iload_n (pc' := 13) dX11_fresh_12 rfl rfl ?_
    refine pa_callv (pc' := 16) (vs := [.inl 2]) (rest := []) dX11_fresh_13 ml_11_98 (by decide) rfl rfl rfl (fun d' _ => (c_ref s0)) (fun v g8 hq => ?_)
    obtain ⟨ev, eh⟩ := hq
    subst ev
    show zPn N none d mX11_fresh (16, _, [.inl ((-1))], g8) _
    refine pa_iret dX11_fresh_16 rfl rfl ?_
    exact rt_c eh (by unfold cd_new; rw [if_neg z0, if_neg hq])
  rw [if_pos hq]
  refine pa_istore_n (pc' := 7) dX11_fresh_6 (by decide) rfl rfl ?_
  refine pa_iload_n (pc' := 8) dX11_fresh_7 rfl rfl ?_
  refine pa_if_t (pc' := 17) dX11_fresh_8 (by decide) (by decide) ?_
  have V : cd_new A x y = 0 := by unfold cd_new; rw [if_neg z0, if_pos hq]
  exact G_fresh11 s0 (sh11 h1) (by decide +kernel) (fun v g q => q.trans V.symm)
theorem R_fresh12 (z : lZ A c s H J g) (m : lMid kk im t g h) : zPa d mX12_fresh [.inr (.inr (some 196)), .inl x, .inl y] h (fun _ g => g.2.1 196 11 = cd_new A x y) := by
  intro N
  have s196 : zsh h 196 = some (12, 39) := zsh_by m.2.1.2.2.2 (by decide +kernel)
  generalize eg : zsI (zsI h 196 0 0) 196 11 0 = h2
  have e2 : ∀ a k, a ≠ 196 → h2.2.1 a k = h.2.1 a k := fun a k ha => by rw [← eg, zsI_no (by omega), zsI_no (by omega)]
  have e3 : ∀ k, k ≠ 0 → k ≠ 11 → h2.2.1 196 k = h.2.1 196 k := fun k w1 w2 => by rw [← eg, zsI_no (by omega), zsI_no (by omega)]
  have h1 : h2.1 = hh_487.1 := by rw [← eg]; exact m.2.1.2.2.2
  have hA : lPA A c h2 := by rw [← eg]; exact (m.pa z.1.1).gd
  have B : cI A ≠ 0 → bgM A s h2 := fun ne => by rw [← eg]; exact (z.bm m ne).gd
  have er : h2.2.2.2.1 = h.2.2.2.1 := by rw [← eg]; rfl
  have q15 : h2.2.2.2.1 196 15 = some 199 := by rw [er]; exact m.r15
  have q17 : h2.2.2.2.1 196 17 = some 201 := by rw [er]; exact m.mw.2.1
  have z196 : zsh h2 196 = some (12, 39) := zsh_by h1 (by decide +kernel)
  have z199 : zsh h2 199 = some (14, 363) := zsh_by h1 (by decide +kernel)
  have z201 : zsh h2 201 = some (14, 76) := zsh_by h1 (by decide +kernel)
  have M : nMo A s 201 0 h2 := (z.lm m).1.1.fr (fun k => e2 _ _ (by decide))
  have hT := z.1.2.1
  have hB := z.1.2.2
  have hI := z.1.1.1
  have hN := z.2.1.1
  have k0 : (0 : Int32).toInt = 0 := by decide
  obtain ⟨b1, b2, b3, b4, b5⟩ := hI.2.2.1
  show zPn N none d mX12_fresh (0, [(0, .inr (.inr (some 196))), (1, .inl x), (2, .inl y)], [], h) _
  refine pa_aload_n (pc' := 1) dX12_fresh_0 rfl rfl ?_
  refine pa_callv (pc' := 4) (vs := []) (rest := []) dX12_fresh_1 ml_12_167 (by decide) rfl rfl rfl (fun d' _ => (m_good s196)) (fun v h3 hq => ?_)
  obtain ⟨ev, eh⟩ := hq
  subst ev
  show zPn N none d mX12_fresh (4, _, [], h3) _
  rw [eg] at eh
  subst eh
  have t0 : h3.2.1 196 11 = 0 := by rw [← eg]; exact zsI_eq
  refine pa_aload_n (pc' := 5) dX12_fresh_4 rfl rfl ?_
  refine pa_iload_n (pc' := 6) dX12_fresh_5 rfl rfl ?_
  refine pa_iload_n (pc' := 7) dX12_fresh_6 rfl rfl ?_
  refine pa_callv (pc' := 10) (vs := [.inl x, .inl y]) (rest := []) dX12_fresh_7 ml_12_324 (by decide) rfl rfl rfl (fun d' _ => (M_songWhy hA h1)) (fun v g9 hq => ?_)
  obtain ⟨ev, eh⟩ := hq
  subst ev
  rw [eh]
  show zPn N none d mX12_fresh (10, _, [.inl (if cI A = 0 then 1 else if (2 ≤ x.toInt ∧ x.toInt ≤ 5) ∧ 1 ≤ y.toInt ∧ y.toInt ≤ 5 then 0 else 2)], h3) _
  by_cases z0 : cI A = 0
  · rw [if_pos z0]
    refine pa_istore_n (pc' := 11) dX12_fresh_10 (by decide) rfl rfl ?_
    refine pa_iload_n (pc' := 12) dX12_fresh_11 rfl rfl ?_
    refine pa_if_f (pc' := 15) dX12_fresh_12 (by decide) (by decide) rfl ?_
    refine pa_aload_n (pc' := 16) dX12_fresh_15 rfl rfl ?_
    refine pa_iload_n (pc' := 17) dX12_fresh_16 rfl rfl ?_
    refine pa_callv (pc' := 20) (vs := [.inl 1]) (rest := []) dX12_fresh_17 ml_12_170 (by decide) rfl rfl rfl (fun d' _ => (m_no z196)) (fun v g8 hq => ?_)
    obtain ⟨ev, eh⟩ := hq
    subst ev
    show zPn N none d mX12_fresh (20, _, [.inl ((-1))], g8) _
    refine pa_goto (pc' := 30) dX12_fresh_20 (by decide) ?_
    refine pa_iret dX12_fresh_30 rfl rfl ?_
    exact rt_m eh (by unfold cd_new; rw [if_pos z0])
  rw [if_neg z0]
  by_cases hq : (2 ≤ x.toInt ∧ x.toInt ≤ 5) ∧ 1 ≤ y.toInt ∧ y.toInt ≤ 5
  case neg =>
    rw [if_neg hq]
    refine pa_istore_n (pc' := 11) dX12_fresh_10 (by decide) rfl rfl ?_
    refine pa_iload_n (pc' := 12) dX12_fresh_11 rfl rfl ?_
    refine pa_if_f (pc' := 15) dX12_fresh_12 (by decide) (by decide) rfl ?_
    refine pa_aload_n (pc' := 16) dX12_fresh_15 rfl rfl ?_
    refine pa_iload_n (pc' := 17) dX12_fresh_16 rfl rfl ?_
    refine pa_callv (pc' := 20) (vs := [.inl 2]) (rest := []) dX12_fresh_17 ml_12_170 (by decide) rfl rfl rfl (fun d' _ => (m_no z196)) (fun v g8 hq => ?_)
    obtain ⟨ev, eh⟩ := hq
    subst ev
    show zPn N none d mX12_fresh (20, _, [.inl ((-1))], g8) _
    refine pa_goto (pc' := 30) dX12_fresh_20 (by decide) ?_
    refine pa_iret dX12_fresh_30 rfl rfl ?_
    exact rt_m eh (by unfold cd_new; rw [if_neg z0, if_neg hq])
  rw [if_pos hq]
  refine pa_istore_n (pc' := 11) dX12_fresh_10 (by decide) rfl rfl ?_
  refine pa_iload_n (pc' := 12) dX12_fresh_11 rfl rfl ?_
  refine pa_if_t (pc' := 23) dX12_fresh_12 (by decide) (by decide) ?_
  have V : cd_new A x y = 0 := by unfold cd_new; rw [if_neg z0, if_pos hq]
  exact G_fresh12 (by decide +kernel) (fun v g q => (q.2.2 39 z196).trans (t0.trans V.symm))
theorem R_byTurns11 (z : lZ A c s H J h) (hi : lInv t h) : zPa d mX11_byTurns [.inr (.inr (some 0)), .inl x, .inl y] h (fun _ g => g.2.1 0 2 = cd_new A x y) := by
  intro N
  have h1 := hi.2.2.2.2.1
  have hA := z.1.1
  have hT := z.1.2.1
  have hB := z.1.2.2
  have hI := hA.1
  have hN := z.2.1.1
  have K := hA.2.2.2.1
  have hc2 : c = 2 ∨ c = 42 := hA.2.1
  obtain ⟨b1, b2, b3, b4, b5⟩ := hI.2.2.1
  have s0 : zsh h 0 = some (11, 16) := zsh_by h1 (by decide +kernel)
  obtain ⟨sc, sc1, sc2, sc4, sc5, scw, scb⟩ := cSh hA.2.1 h1
  obtain ⟨c9, c12, c13, cw, cb⟩ := cRf_of hi.1 hA.2.1
  have S := hi.nw
  obtain ⟨⟨s86, s87, s88, s89, s90, s91⟩, r87, r88, r89, r90, r91⟩ := S.o86
  have r3 := hA.2.2.1
  have r6 := S.2.1
  obtain ⟨n1, n2, n3, n4⟩ := z.2.2.1.1
  show zPn N none d mX11_byTurns (0, [(0, .inr (.inr (some 0))), (1, .inl x), (2, .inl y)], [], h) _
  refine pa_aload_n (pc' := 1) dX11_byTurns_0 rfl rfl ?_
  refine pa_iload_n (pc' := 2) dX11_byTurns_1 rfl rfl ?_
  refine pa_iload_n (pc' := 3) dX11_byTurns_2 rfl rfl ?_
  refine pa_callv (pc' := 6) (vs := [.inl x, .inl y]) (rest := []) dX11_byTurns_3 ml_11_258 (by decide) rfl rfl rfl (fun d' _ => (N_refNew hA h1)) (fun v g9 hq => ?_)
  obtain ⟨ev, eh⟩ := hq
  subst ev
  rw [eh]
  show zPn N none d mX11_byTurns (6, _, [.inl (if cI A = 0 then 1 else if (2 ≤ x.toInt ∧ x.toInt ≤ 5) ∧ 1 ≤ y.toInt ∧ y.toInt ≤ 5 then 0 else 2)], h) _
  by_cases z0 : cI A = 0
  · rw [if_pos z0]
    refine pa_istore_n (pc' := 7) dX11_byTurns_6 (by decide) rfl rfl ?_
    refine pa_iload_n (pc' := 8) dX11_byTurns_7 rfl rfl ?_
    refine pa_if_f (pc' := 11) dX11_byTurns_8 (by decide) (by decide) rfl ?_
    refine pa_aload_n (pc' := 12) dX11_byTurns_11 rfl rfl ?_
    refine pa_iload_n (pc' := 13) dX11_byTurns_12 rfl rfl ?_
    refine pa_callv (pc' := 16) (vs := [.inl 1]) (rest := []) dX11_byTurns_13 ml_11_98 (by decide) rfl rfl rfl (fun d' _ => (c_ref s0)) (fun v g8 hq => ?_)
    obtain ⟨ev, eh⟩ := hq
    subst ev
    show zPn N none d mX11_byTurns (16, _, [.inl ((-1))], g8) _
    refine pa_iret dX11_byTurns_16 rfl rfl ?_
    exact rt_c eh (by unfold cd_new; rw [if_pos z0])
  rw [if_neg z0]
  by_cases hq : (2 ≤ x.toInt ∧ x.toInt ≤ 5) ∧ 1 ≤ y.toInt ∧ y.toInt ≤ 5
  case neg =>
    rw [if_neg hq]
    refine pa_istore_n (pc' := 7) dX11_byTurns_6 (by decide) rfl rfl ?_
    refine pa_iload_n (pc' := 8) dX11_byTurns_7 rfl rfl ?_
    refine pa_if_f (pc' := 11) dX11_byTurns_8 (by decide) (by decide) rfl ?_
    refine pa_aload_n (pc' := 12) dX11_byTurns_11 rfl rfl ?_
    refine pa_iload_n (pc' := 13) dX11_byTurns_12 rfl rfl ?_
    refine pa_callv (pc' := 16) (vs := [.inl 2]) (rest := []) dX11_byTurns_13 ml_11_98 (by decide) rfl rfl rfl (fun d' _ => (c_ref s0)) (fun v g8 hq => ?_)
    obtain ⟨ev, eh⟩ := hq
    subst ev
    show zPn N none d mX11_byTurns (16, _, [.inl ((-1))], g8) _
    refine pa_iret dX11_byTurns_16 rfl rfl ?_
    exact rt_c eh (by unfold cd_new; rw [if_neg z0, if_neg hq])
  rw [if_pos hq]
  refine pa_istore_n (pc' := 7) dX11_byTurns_6 (by decide) rfl rfl ?_
  refine pa_iload_n (pc' := 8) dX11_byTurns_7 rfl rfl ?_
  refine pa_if_t (pc' := 17) dX11_byTurns_8 (by decide) (by decide) ?_
  have V : cd_new A x y = 0 := by unfold cd_new; rw [if_neg z0, if_pos hq]
  exact G_byTurns11 s0 (sh11 h1) (by decide +kernel) (fun v g q => q.trans V.symm)
theorem R_byTurns12 (z : lZ A c s H J g) (m : lMid kk im t g h) : zPa d mX12_byTurns [.inr (.inr (some 196)), .inl x, .inl y] h (fun _ g => g.2.1 196 11 = cd_new A x y) := by
  intro N
  have s196 : zsh h 196 = some (12, 39) := zsh_by m.2.1.2.2.2 (by decide +kernel)
  generalize eg : zsI (zsI h 196 0 0) 196 11 0 = h2
  have e2 : ∀ a k, a ≠ 196 → h2.2.1 a k = h.2.1 a k := fun a k ha => by rw [← eg, zsI_no (by omega), zsI_no (by omega)]
  have e3 : ∀ k, k ≠ 0 → k ≠ 11 → h2.2.1 196 k = h.2.1 196 k := fun k w1 w2 => by rw [← eg, zsI_no (by omega), zsI_no (by omega)]
  have h1 : h2.1 = hh_487.1 := by rw [← eg]; exact m.2.1.2.2.2
  have hA : lPA A c h2 := by rw [← eg]; exact (m.pa z.1.1).gd
  have B : cI A ≠ 0 → bgM A s h2 := fun ne => by rw [← eg]; exact (z.bm m ne).gd
  have er : h2.2.2.2.1 = h.2.2.2.1 := by rw [← eg]; rfl
  have q15 : h2.2.2.2.1 196 15 = some 199 := by rw [er]; exact m.r15
  have q17 : h2.2.2.2.1 196 17 = some 201 := by rw [er]; exact m.mw.2.1
  have z196 : zsh h2 196 = some (12, 39) := zsh_by h1 (by decide +kernel)
  have z199 : zsh h2 199 = some (14, 363) := zsh_by h1 (by decide +kernel)
  have z201 : zsh h2 201 = some (14, 76) := zsh_by h1 (by decide +kernel)
  have M : nMo A s 201 0 h2 := (z.lm m).1.1.fr (fun k => e2 _ _ (by decide))
  have hT := z.1.2.1
  have hB := z.1.2.2
  have hI := z.1.1.1
  have hN := z.2.1.1
  have k0 : (0 : Int32).toInt = 0 := by decide
  obtain ⟨b1, b2, b3, b4, b5⟩ := hI.2.2.1
  show zPn N none d mX12_byTurns (0, [(0, .inr (.inr (some 196))), (1, .inl x), (2, .inl y)], [], h) _
  refine pa_aload_n (pc' := 1) dX12_byTurns_0 rfl rfl ?_
  refine pa_callv (pc' := 4) (vs := []) (rest := []) dX12_byTurns_1 ml_12_167 (by decide) rfl rfl rfl (fun d' _ => (m_good s196)) (fun v h3 hq => ?_)
  obtain ⟨ev, eh⟩ := hq
  subst ev
  show zPn N none d mX12_byTurns (4, _, [], h3) _
  rw [eg] at eh
  subst eh
  have t0 : h3.2.1 196 11 = 0 := by rw [← eg]; exact zsI_eq
  refine pa_aload_n (pc' := 5) dX12_byTurns_4 rfl rfl ?_
  refine pa_iload_n (pc' := 6) dX12_byTurns_5 rfl rfl ?_
  refine pa_iload_n (pc' := 7) dX12_byTurns_6 rfl rfl ?_
  refine pa_callv (pc' := 10) (vs := [.inl x, .inl y]) (rest := []) dX12_byTurns_7 ml_12_324 (by decide) rfl rfl rfl (fun d' _ => (M_songWhy hA h1)) (fun v g9 hq => ?_)
  obtain ⟨ev, eh⟩ := hq
  subst ev
  rw [eh]
  show zPn N none d mX12_byTurns (10, _, [.inl (if cI A = 0 then 1 else if (2 ≤ x.toInt ∧ x.toInt ≤ 5) ∧ 1 ≤ y.toInt ∧ y.toInt ≤ 5 then 0 else 2)], h3) _
  by_cases z0 : cI A = 0
  · rw [if_pos z0]
    refine pa_istore_n (pc' := 11) dX12_byTurns_10 (by decide) rfl rfl ?_
    refine pa_iload_n (pc' := 12) dX12_byTurns_11 rfl rfl ?_
    refine pa_if_f (pc' := 15) dX12_byTurns_12 (by decide) (by decide) rfl ?_
    refine pa_aload_n (pc' := 16) dX12_byTurns_15 rfl rfl ?_
    refine pa_iload_n (pc' := 17) dX12_byTurns_16 rfl rfl ?_
    refine pa_callv (pc' := 20) (vs := [.inl 1]) (rest := []) dX12_byTurns_17 ml_12_170 (by decide) rfl rfl rfl (fun d' _ => (m_no z196)) (fun v g8 hq => ?_)
    obtain ⟨ev, eh⟩ := hq
    subst ev
    show zPn N none d mX12_byTurns (20, _, [.inl ((-1))], g8) _
    refine pa_goto (pc' := 30) dX12_byTurns_20 (by decide) ?_
    refine pa_iret dX12_byTurns_30 rfl rfl ?_
    exact rt_m eh (by unfold cd_new; rw [if_pos z0])
  rw [if_neg z0]
  by_cases hq : (2 ≤ x.toInt ∧ x.toInt ≤ 5) ∧ 1 ≤ y.toInt ∧ y.toInt ≤ 5
  case neg =>
    rw [if_neg hq]
    refine pa_istore_n (pc' := 11) dX12_byTurns_10 (by decide) rfl rfl ?_
    refine pa_iload_n (pc' := 12) dX12_byTurns_11 rfl rfl ?_
    refine pa_if_f (pc' := 15) dX12_byTurns_12 (by decide) (by decide) rfl ?_
    refine pa_aload_n (pc' := 16) dX12_byTurns_15 rfl rfl ?_
    refine pa_iload_n (pc' := 17) dX12_byTurns_16 rfl rfl ?_
    refine pa_callv (pc' := 20) (vs := [.inl 2]) (rest := []) dX12_byTurns_17 ml_12_170 (by decide) rfl rfl rfl (fun d' _ => (m_no z196)) (fun v g8 hq => ?_)
    obtain ⟨ev, eh⟩ := hq
    subst ev
    show zPn N none d mX12_byTurns (20, _, [.inl ((-1))], g8) _
    refine pa_goto (pc' := 30) dX12_byTurns_20 (by decide) ?_
    refine pa_iret dX12_byTurns_30 rfl rfl ?_
    exact rt_m eh (by unfold cd_new; rw [if_neg z0, if_neg hq])
  rw [if_pos hq]
  refine pa_istore_n (pc' := 11) dX12_byTurns_10 (by decide) rfl rfl ?_
  refine pa_iload_n (pc' := 12) dX12_byTurns_11 rfl rfl ?_
  refine pa_if_t (pc' := 23) dX12_byTurns_12 (by decide) (by decide) ?_
  have V : cd_new A x y = 0 := by unfold cd_new; rw [if_neg z0, if_pos hq]
  exact G_byTurns12 (by decide +kernel) (fun v g q => (q.2.2 39 z196).trans (t0.trans V.symm))
end RFH
/-! trouble: what a call leaves, registered and roundAt -/
def cd_registered (A : pA) (s : nS) (x : Int32) : Int32 := if 0 ≤ x.toInt ∧ x.toInt < (cB A : Int) then (match suF A s x.toInt.toNat none (cH A) with | none => 6 | some _ => 0) else 1
def cd_roundAt (A : pA) (s : nS) (x y : Int32) : Int32 := if (0 ≤ x.toInt ∧ x.toInt < (cI A : Int)) ∧ 0 ≤ y.toInt ∧ y.toInt < (cI A : Int) then (if roT A s x.toInt.toNat < 1000000 then 0 else 6) else 1
section RFI
variable {t d c : Nat} {h g : zH} {A : pA} {s : nS} {H J : List nS} {x y k : Int32} {kk : Bool} {im : Int32}
theorem R_registered11 (z : lZ A c s H J h) (hi : lInv t h) : zPa d mX11_registered [.inr (.inr (some 0)), .inl x, .inl y] h (fun _ g => g.2.1 0 2 = cd_registered A s x) := by
  intro N
  have h1 := hi.2.2.2.2.1
  have hA := z.1.1
  have hT := z.1.2.1
  have hB := z.1.2.2
  have hI := hA.1
  have hN := z.2.1.1
  have K := hA.2.2.2.1
  have hc2 : c = 2 ∨ c = 42 := hA.2.1
  obtain ⟨b1, b2, b3, b4, b5⟩ := hI.2.2.1
  have s0 : zsh h 0 = some (11, 16) := zsh_by h1 (by decide +kernel)
  obtain ⟨sc, sc1, sc2, sc4, sc5, scw, scb⟩ := cSh hA.2.1 h1
  obtain ⟨c9, c12, c13, cw, cb⟩ := cRf_of hi.1 hA.2.1
  have S := hi.nw
  obtain ⟨⟨s86, s87, s88, s89, s90, s91⟩, r87, r88, r89, r90, r91⟩ := S.o86
  have r3 := hA.2.2.1
  have r6 := S.2.1
  obtain ⟨n1, n2, n3, n4⟩ := z.2.2.1.1
  show zPn N none d mX11_registered (0, [(0, .inr (.inr (some 0))), (1, .inl x), (2, .inl y)], [], h) _
  refine pa_aload_n (pc' := 1) dX11_registered_0 rfl rfl ?_
  refine pa_iload_n (pc' := 2) dX11_registered_1 rfl rfl ?_
  refine pa_callv (pc' := 5) (vs := [.inl x]) (rest := []) dX11_registered_2 ml_11_147 (by decide) rfl rfl rfl (fun d' _ => (N_isBox hA h1)) (fun v g9 hq => ?_)
  obtain ⟨ev, eh⟩ := hq
  subst ev
  rw [eh]
  show zPn N none d mX11_registered (5, _, [.inl (if 0 ≤ (x).toInt ∧ (x).toInt < (cB A:Int) then 1 else 0)], h) _
  by_cases hx : 0 ≤ x.toInt ∧ x.toInt < (cB A : Int)
  case neg =>
    rw [if_neg hx]
    refine pa_if_f (pc' := 8) dX11_registered_5 (by decide) (by decide) rfl ?_
    refine pa_aload_n (pc' := 9) dX11_registered_8 rfl rfl ?_
    refine pa_iconst (v := nI 1) (pc' := 10) dX11_registered_9 (by decide) rfl ?_
    refine pa_callv (pc' := 13) (vs := [.inl (nI 1)]) (rest := []) dX11_registered_10 ml_11_98 (by decide) rfl rfl rfl (fun d' _ => (c_ref s0)) (fun v g8 hq => ?_)
    obtain ⟨ev, eh⟩ := hq
    subst ev
    show zPn N none d mX11_registered (13, _, [.inl ((-1))], g8) _
    refine pa_i2l (pc' := 14) dX11_registered_13 rfl rfl ?_
    refine pa_lret dX11_registered_14 rfl ?_
    exact rt_c eh (by unfold cd_registered; rw [if_neg hx]; rfl)
  rw [if_pos hx]
  obtain ⟨b, rfl, hb, eb⟩ := nI_ob hx.1 hx.2
  have B := z.bc hi (hA.has hb)
  have r8 := hi.r8
  refine pa_if_t (pc' := 15) dX11_registered_5 (by decide) (by decide) ?_
  refine pa_aload_n (pc' := 16) dX11_registered_15 rfl rfl ?_
  refine pa_getR (pc' := 19) (n := 16) (r := 94) dX11_registered_16 fl_11_60 s0 (by decide) r8 rfl ?_
  refine pa_iload_n (pc' := 20) dX11_registered_19 rfl rfl ?_
  refine pa_bipush (v := (-2)) (pc' := 22) dX11_registered_20 (by decide) rfl ?_
  refine pa_callv (pc' := 25) (vs := [.inl (nI b), .inl ((-2))]) (rest := []) dX11_registered_22 ml_11_289 (by decide) rfl rfl rfl (fun d' _ => (N_surest (but := none) B K hb (fun q e => nomatch e))) (fun v g1 hq => ?_)
  obtain ⟨ev, eh⟩ := hq
  subst ev
  show zPn N none d mX11_registered (25, _, [.inl (buV (suF A s b none (cH A)))], g1) _
  refine pa_istore_n (pc' := 26) dX11_registered_25 (by decide) rfl rfl ?_
  refine pa_iload_n (pc' := 27) dX11_registered_26 rfl rfl ?_
  refine pa_bipush (v := (-2)) (pc' := 29) dX11_registered_27 (by decide) rfl ?_
  have F1 := eh
  have t0 : zsh g1 0 = some (11, 16) := zsh_by (F1.1.trans h1) (by decide +kernel)
  cases o1 : suF A s b none (cH A) with
  | none =>
    refine pa_icmp_f (pc' := 32) dX11_registered_29 (show zcond .ne (buV none) (-2) = false by decide) (by decide) rfl ?_
    refine pa_aload_n (pc' := 33) dX11_registered_32 rfl rfl ?_
    refine pa_bipush (v := nI 6) (pc' := 35) dX11_registered_33 (by decide) rfl ?_
    refine pa_callv (pc' := 38) (vs := [.inl (nI 6)]) (rest := []) dX11_registered_35 ml_11_98 (by decide) rfl rfl rfl (fun d' _ => (c_ref t0)) (fun v g9 hq => ?_)
    obtain ⟨ev, eh⟩ := hq
    subst ev
    show zPn N none d mX11_registered (38, _, [.inl ((-1))], g9) _
    refine pa_i2l (pc' := 39) dX11_registered_38 rfl rfl ?_
    refine pa_lret dX11_registered_39 rfl ?_
    exact rt_c eh (by unfold cd_registered; rw [if_pos hx, eb, o1]; rfl)
  | some p =>
    obtain ⟨hp, -⟩ := suF_in (cH A) p o1
    rw [show buV (some p) = nI p from rfl]
    refine pa_icmp_t (pc' := 40) dX11_registered_29 (decide_eq_true (n2ne (by omega))) (by decide) ?_
    have V : cd_registered A s (nI b) = 0 := by unfold cd_registered; rw [if_pos hx, eb, o1]
    exact G_registered11 t0 (sh11 (F1.1.trans h1)) (by decide +kernel) (fun v g q => q.trans V.symm)
theorem R_registered12 (z : lZ A c s H J g) (m : lMid kk im t g h) : zPa d mX12_registered [.inr (.inr (some 196)), .inl x, .inl y] h (fun _ g => g.2.1 196 11 = cd_registered A s x) := by
  intro N
  have s196 : zsh h 196 = some (12, 39) := zsh_by m.2.1.2.2.2 (by decide +kernel)
  generalize eg : zsI (zsI h 196 0 0) 196 11 0 = h2
  have e2 : ∀ a k, a ≠ 196 → h2.2.1 a k = h.2.1 a k := fun a k ha => by rw [← eg, zsI_no (by omega), zsI_no (by omega)]
  have e3 : ∀ k, k ≠ 0 → k ≠ 11 → h2.2.1 196 k = h.2.1 196 k := fun k w1 w2 => by rw [← eg, zsI_no (by omega), zsI_no (by omega)]
  have h1 : h2.1 = hh_487.1 := by rw [← eg]; exact m.2.1.2.2.2
  have hA : lPA A c h2 := by rw [← eg]; exact (m.pa z.1.1).gd
  have B : cI A ≠ 0 → bgM A s h2 := fun ne => by rw [← eg]; exact (z.bm m ne).gd
  have er : h2.2.2.2.1 = h.2.2.2.1 := by rw [← eg]; rfl
  have q15 : h2.2.2.2.1 196 15 = some 199 := by rw [er]; exact m.r15
  have q17 : h2.2.2.2.1 196 17 = some 201 := by rw [er]; exact m.mw.2.1
  have z196 : zsh h2 196 = some (12, 39) := zsh_by h1 (by decide +kernel)
  have z199 : zsh h2 199 = some (14, 363) := zsh_by h1 (by decide +kernel)
  have z201 : zsh h2 201 = some (14, 76) := zsh_by h1 (by decide +kernel)
  have M : nMo A s 201 0 h2 := (z.lm m).1.1.fr (fun k => e2 _ _ (by decide))
  have hT := z.1.2.1
  have hB := z.1.2.2
  have hI := z.1.1.1
  have hN := z.2.1.1
  have k0 : (0 : Int32).toInt = 0 := by decide
  obtain ⟨b1, b2, b3, b4, b5⟩ := hI.2.2.1
  show zPn N none d mX12_registered (0, [(0, .inr (.inr (some 196))), (1, .inl x), (2, .inl y)], [], h) _
  refine pa_aload_n (pc' := 1) dX12_registered_0 rfl rfl ?_
  refine pa_callv (pc' := 4) (vs := []) (rest := []) dX12_registered_1 ml_12_167 (by decide) rfl rfl rfl (fun d' _ => (m_good s196)) (fun v h3 hq => ?_)
  obtain ⟨ev, eh⟩ := hq
  subst ev
  show zPn N none d mX12_registered (4, _, [], h3) _
  rw [eg] at eh
  subst eh
  have t0 : h3.2.1 196 11 = 0 := by rw [← eg]; exact zsI_eq
  refine pa_aload_n (pc' := 5) dX12_registered_4 rfl rfl ?_
  refine pa_iload_n (pc' := 6) dX12_registered_5 rfl rfl ?_
  refine pa_callv (pc' := 9) (vs := [.inl x]) (rest := []) dX12_registered_6 ml_12_274 (by decide) rfl rfl rfl (fun d' _ => (M_isBox hA q15 h1)) (fun v g9 hq => ?_)
  obtain ⟨ev, eh⟩ := hq
  subst ev
  rw [eh]
  show zPn N none d mX12_registered (9, _, [.inl (if 0 ≤ (x).toInt ∧ (x).toInt < (cB A:Int) then 1 else 0)], h3) _
  by_cases hx : 0 ≤ x.toInt ∧ x.toInt < (cB A : Int)
  case neg =>
    rw [if_neg hx]
    refine pa_if_f (pc' := 12) dX12_registered_9 (by decide) (by decide) rfl ?_
    refine pa_aload_n (pc' := 13) dX12_registered_12 rfl rfl ?_
    refine pa_iconst (v := nI 1) (pc' := 14) dX12_registered_13 (by decide) rfl ?_
    refine pa_callv (pc' := 17) (vs := [.inl (nI 1)]) (rest := []) dX12_registered_14 ml_12_170 (by decide) rfl rfl rfl (fun d' _ => (m_no z196)) (fun v g8 hq => ?_)
    obtain ⟨ev, eh⟩ := hq
    subst ev
    show zPn N none d mX12_registered (17, _, [.inl ((-1))], g8) _
    refine pa_i2l (pc' := 18) dX12_registered_17 rfl rfl ?_
    refine pa_lret dX12_registered_18 rfl ?_
    exact rt_m eh (by unfold cd_registered; rw [if_neg hx]; rfl)
  rw [if_pos hx]
  obtain ⟨b, rfl, hb, eb⟩ := nI_ob hx.1 hx.2
  have B := B (hA.has hb)
  have e6 := M_6 hA (hA.has hb)
  refine pa_if_t (pc' := 19) dX12_registered_9 (by decide) (by decide) ?_
  refine pa_aload_n (pc' := 20) dX12_registered_19 rfl rfl ?_
  refine pa_iload_n (pc' := 21) dX12_registered_20 rfl rfl ?_
  refine pa_iconst (v := (-1)) (pc' := 22) dX12_registered_21 (by decide) rfl ?_
  refine pa_callv (pc' := 25) (vs := [.inl (nI b), .inl ((-1))]) (rest := []) dX12_registered_22 ml_12_370 (by decide) rfl rfl rfl (fun d' _ => (M_surest (but := none) B e6 hb m1_no)) (fun v g1 hq => ?_)
  obtain ⟨ev, eh⟩ := hq
  subst ev
  show zPn N none d mX12_registered (25, _, [.inl (buV (suF A s b none (cH A)))], g1) _
  refine pa_istore_n (pc' := 26) dX12_registered_25 (by decide) rfl rfl ?_
  refine pa_iload_n (pc' := 27) dX12_registered_26 rfl rfl ?_
  have F1 := eh
  have B1 := B.fr F1
  have t196 := sh_196' B1.2.1.1
  have t1 : g1.2.1 196 11 = 0 := (F1.2.2 196 11 (by decide) (by decide) (by decide)).trans t0
  cases o1 : suF A s b none (cH A) with
  | none =>
    refine pa_if_f (pc' := 30) dX12_registered_27 (show zcond .ge (buV none) 0 = false by decide) (by decide) rfl ?_
    refine pa_aload_n (pc' := 31) dX12_registered_30 rfl rfl ?_
    refine pa_bipush (v := nI 6) (pc' := 33) dX12_registered_31 (by decide) rfl ?_
    refine pa_callv (pc' := 36) (vs := [.inl (nI 6)]) (rest := []) dX12_registered_33 ml_12_170 (by decide) rfl rfl rfl (fun d' _ => (m_no t196)) (fun v g9 hq => ?_)
    obtain ⟨ev, eh⟩ := hq
    subst ev
    show zPn N none d mX12_registered (36, _, [.inl ((-1))], g9) _
    refine pa_i2l (pc' := 37) dX12_registered_36 rfl rfl ?_
    refine pa_lret dX12_registered_37 rfl ?_
    exact rt_m eh (by unfold cd_registered; rw [if_pos hx, eb, o1]; rfl)
  | some p =>
    obtain ⟨hp, -⟩ := suF_in (cH A) p o1
    rw [show buV (some p) = nI p from rfl]
    refine pa_if_t (pc' := 38) dX12_registered_27 (zk_lt_ge (b := false) (zlt_f (n2ge (by omega)))) (by decide) ?_
    have V : cd_registered A s (nI b) = 0 := by unfold cd_registered; rw [if_pos hx, eb, o1]
    exact G_registered12 (by decide +kernel) (fun v g q => (q.2.2 39 t196).trans (t1.trans V.symm))
theorem R_roundAt11 (z : lZ A c s H J h) (hi : lInv t h) (hx0 : lX A c s H J h) : zPa d mX11_roundAt [.inr (.inr (some 0)), .inl x, .inl y] h (fun _ g => g.2.1 0 2 = cd_roundAt A s x y) := by
  intro N
  have h1 := hi.2.2.2.2.1
  have hA := z.1.1
  have hT := z.1.2.1
  have hB := z.1.2.2
  have hI := hA.1
  have hN := z.2.1.1
  have K := hA.2.2.2.1
  have hc2 : c = 2 ∨ c = 42 := hA.2.1
  obtain ⟨b1, b2, b3, b4, b5⟩ := hI.2.2.1
  have s0 : zsh h 0 = some (11, 16) := zsh_by h1 (by decide +kernel)
  obtain ⟨sc, sc1, sc2, sc4, sc5, scw, scb⟩ := cSh hA.2.1 h1
  obtain ⟨c9, c12, c13, cw, cb⟩ := cRf_of hi.1 hA.2.1
  have S := hi.nw
  obtain ⟨⟨s86, s87, s88, s89, s90, s91⟩, r87, r88, r89, r90, r91⟩ := S.o86
  have r3 := hA.2.2.1
  have r6 := S.2.1
  obtain ⟨n1, n2, n3, n4⟩ := z.2.2.1.1
  have no : ¬ ((0 ≤ x.toInt ∧ x.toInt < (cI A : Int)) ∧ 0 ≤ y.toInt ∧ y.toInt < (cI A : Int)) → ∀ N, zPn N none d mX11_roundAt (16, [(0, .inr (.inr (some 0))), (1, .inl x), (2, .inl y)], [], h) (fun _ g => g.2.1 0 2 = cd_roundAt A s x y) := fun q N => by
    refine pa_aload_n (pc' := 17) dX11_roundAt_16 rfl rfl ?_
    refine pa_iconst (v := nI 1) (pc' := 18) dX11_roundAt_17 (by decide) rfl ?_
    refine pa_callv (pc' := 21) (vs := [.inl (nI 1)]) (rest := []) dX11_roundAt_18 ml_11_98 (by decide) rfl rfl rfl (fun d' _ => (c_ref s0)) (fun v g8 hq => ?_)
    obtain ⟨ev, eh⟩ := hq
    subst ev
    show zPn N none d mX11_roundAt (21, _, [.inl ((-1))], g8) _
    refine pa_iret dX11_roundAt_21 rfl rfl ?_
    exact rt_c eh (by unfold cd_roundAt; rw [if_neg q]; rfl)
  show zPn N none d mX11_roundAt (0, [(0, .inr (.inr (some 0))), (1, .inl x), (2, .inl y)], [], h) _
  refine pa_aload_n (pc' := 1) dX11_roundAt_0 rfl rfl ?_
  refine pa_iload_n (pc' := 2) dX11_roundAt_1 rfl rfl ?_
  refine pa_callv (pc' := 5) (vs := [.inl x]) (rest := []) dX11_roundAt_2 ml_11_174 (by decide) rfl rfl rfl (fun d' _ => (N_isI11 hA h1)) (fun v g9 hq => ?_)
  obtain ⟨ev, eh⟩ := hq
  subst ev
  rw [eh]
  show zPn N none d mX11_roundAt (5, _, [.inl (if 0 ≤ (x).toInt ∧ (x).toInt < (cI A:Int) then 1 else 0)], h) _
  by_cases hx : 0 ≤ x.toInt ∧ x.toInt < (cI A : Int)
  case neg =>
    rw [if_neg hx]
    refine pa_if_t (pc' := 16) dX11_roundAt_5 (by decide) (by decide) ?_
    exact no (fun q => hx q.1) _
  rw [if_pos hx]
  refine pa_if_f (pc' := 8) dX11_roundAt_5 (by decide) (by decide) rfl ?_
  refine pa_aload_n (pc' := 9) dX11_roundAt_8 rfl rfl ?_
  refine pa_iload_n (pc' := 10) dX11_roundAt_9 rfl rfl ?_
  refine pa_callv (pc' := 13) (vs := [.inl y]) (rest := []) dX11_roundAt_10 ml_11_174 (by decide) rfl rfl rfl (fun d' _ => (N_isI11 hA h1)) (fun v g9 hq => ?_)
  obtain ⟨ev, eh⟩ := hq
  subst ev
  rw [eh]
  show zPn N none d mX11_roundAt (13, _, [.inl (if 0 ≤ (y).toInt ∧ (y).toInt < (cI A:Int) then 1 else 0)], h) _
  by_cases hy : 0 ≤ y.toInt ∧ y.toInt < (cI A : Int)
  case neg =>
    rw [if_neg hy]
    refine pa_if_f (pc' := 16) dX11_roundAt_13 (by decide) (by decide) rfl ?_
    exact no (fun q => hy q.2) _
  rw [if_pos hy]
  obtain ⟨i, rfl, hi2, ei⟩ := nI_ob hx.1 hx.2
  clear no
  have B := z.bc hi (show cI A ≠ 0 by omega)
  have r9 : h.2.2.2.1 0 9 = some 96 := hi.1.2.2.1 0 9 96 (by decide +kernel)
  have r97 : h.2.2.2.1 96 1 = some 97 := hi.1.2.2.1 96 1 97 (by decide +kernel)
  have r96 := (hi.r92 hA).2.2
  have e4 := B.2.2.1.2.2.2.1.2.2.2
  refine pa_if_t (pc' := 22) dX11_roundAt_13 (by decide) (by decide) ?_
  refine pa_aload_n (pc' := 23) dX11_roundAt_22 rfl rfl ?_
  refine pa_getR (pc' := 26) (n := 16) (r := 96) dX11_roundAt_23 fl_11_67 s0 (by decide) r9 rfl ?_
  refine pa_iload_n (pc' := 27) dX11_roundAt_26 rfl rfl ?_
  refine pa_aload_n (pc' := 28) dX11_roundAt_27 rfl rfl ?_
  refine pa_getR (pc' := 31) (n := 16) (r := 86) dX11_roundAt_28 fl_11_42 s0 (by decide) r6 rfl ?_
  refine pa_getI (pc' := 34) (n := 7) (v := s.2.1) dX11_roundAt_31 fl_11_322 s86 (by decide) n2 rfl ?_
  refine pa_callv (pc' := 37) (vs := [.inl (nI i), .inl s.2.1]) (rest := []) dX11_roundAt_34 ml_11_328 (by decide) rfl rfl rfl (fun d' _ => N_findRound (d := d') B hx0.1 r96 r97 (hi.1.2.2.1 96 2 98 (by decide +kernel)) (hi.1.2.2.1 96 3 99 (by decide +kernel)) e4 hi2) (fun v g hq => ?_)
  obtain ⟨f, hq⟩ := hq
  have s0g : zsh g 0 = some (11, 16) := zsh_by (f.1.trans h1) (by decide +kernel)
  rcases hq with ⟨lt, ev, eo⟩ | ⟨lt, ev⟩
  · subst ev
    have V : cd_roundAt A s (nI i) y = 0 := by unfold cd_roundAt; rw [if_pos ⟨hx, hy⟩, ei, if_pos (show roT A s i < 1000000 from lt)]
    show zPn N none d mX11_roundAt (37, _, [.inl (nI (roT A s i))], g) _
    refine pa_bipush (v := (-2)) (pc' := 39) dX11_roundAt_37 (by decide) rfl ?_
    have cl : roT A s i ≤ 1000000 := Nat.le_of_lt lt
    refine pa_icmp_t (pc' := 49) dX11_roundAt_39 (decide_eq_true (nI_m2r (by omega))) (by decide) ?_
    exact G_roundAt11 s0g (sh11 (f.1.trans h1)) (by decide +kernel) (fun v g q => q.trans V.symm)
  · subst ev
    have V : cd_roundAt A s (nI i) y = 6 := by unfold cd_roundAt; rw [if_pos ⟨hx, hy⟩, ei, if_neg (show ¬ roT A s i < 1000000 from lt)]
    show zPn N none d mX11_roundAt (37, _, [.inl (-2)], g) _
    refine pa_bipush (v := (-2)) (pc' := 39) dX11_roundAt_37 (by decide) rfl ?_
    refine pa_icmp_f (pc' := 42) dX11_roundAt_39 (show zcond .ne (-2 : Int32) (-2) = false by decide) (by decide) rfl ?_
    refine pa_aload_n (pc' := 43) dX11_roundAt_42 rfl rfl ?_
    refine pa_bipush (v := nI 6) (pc' := 45) dX11_roundAt_43 (by decide) rfl ?_
    refine pa_callv (pc' := 48) (vs := [.inl (nI 6)]) (rest := []) dX11_roundAt_45 ml_11_98 (by decide) rfl rfl rfl (fun d' _ => (c_ref s0g)) (fun v g8 hq => ?_)
    obtain ⟨ev, eh⟩ := hq
    subst ev
    show zPn N none d mX11_roundAt (48, _, [.inl ((-1))], g8) _
    refine pa_iret dX11_roundAt_48 rfl rfl ?_
    exact rt_c eh (V.trans rfl)
theorem R_roundAt12 (z : lZ A c s H J g) (m : lMid kk im t g h) (hx0 : lX A c s H J g) : zPa d mX12_roundAt [.inr (.inr (some 196)), .inl x, .inl y] h (fun _ g => g.2.1 196 11 = cd_roundAt A s x y) := by
  intro N
  have s196 : zsh h 196 = some (12, 39) := zsh_by m.2.1.2.2.2 (by decide +kernel)
  generalize eg : zsI (zsI h 196 0 0) 196 11 0 = h2
  have e2 : ∀ a k, a ≠ 196 → h2.2.1 a k = h.2.1 a k := fun a k ha => by rw [← eg, zsI_no (by omega), zsI_no (by omega)]
  have e3 : ∀ k, k ≠ 0 → k ≠ 11 → h2.2.1 196 k = h.2.1 196 k := fun k w1 w2 => by rw [← eg, zsI_no (by omega), zsI_no (by omega)]
  have h1 : h2.1 = hh_487.1 := by rw [← eg]; exact m.2.1.2.2.2
  have hA : lPA A c h2 := by rw [← eg]; exact (m.pa z.1.1).gd
  have B : cI A ≠ 0 → bgM A s h2 := fun ne => by rw [← eg]; exact (z.bm m ne).gd
  have er : h2.2.2.2.1 = h.2.2.2.1 := by rw [← eg]; rfl
  have q15 : h2.2.2.2.1 196 15 = some 199 := by rw [er]; exact m.r15
  have q17 : h2.2.2.2.1 196 17 = some 201 := by rw [er]; exact m.mw.2.1
  have z196 : zsh h2 196 = some (12, 39) := zsh_by h1 (by decide +kernel)
  have z199 : zsh h2 199 = some (14, 363) := zsh_by h1 (by decide +kernel)
  have z201 : zsh h2 201 = some (14, 76) := zsh_by h1 (by decide +kernel)
  have M : nMo A s 201 0 h2 := (z.lm m).1.1.fr (fun k => e2 _ _ (by decide))
  have hT := z.1.2.1
  have hB := z.1.2.2
  have hI := z.1.1.1
  have hN := z.2.1.1
  have k0 : (0 : Int32).toInt = 0 := by decide
  obtain ⟨b1, b2, b3, b4, b5⟩ := hI.2.2.1
  have rm : h2.2.2.2.1 196 35 = some 210 ∧ h2.2.2.2.1 196 36 = some 211 ∧ h2.2.2.2.1 196 37 = some 212 := by rw [er]; exact ⟨m.2.1.1.2.2.1 196 35 210 (by decide +kernel), m.2.1.1.2.2.1 196 36 211 (by decide +kernel), m.2.1.1.2.2.1 196 37 212 (by decide +kernel)⟩
  have no : ¬ ((0 ≤ x.toInt ∧ x.toInt < (cI A : Int)) ∧ 0 ≤ y.toInt ∧ y.toInt < (cI A : Int)) → ∀ N, zPn N none d mX12_roundAt (28, [(0, .inr (.inr (some 196))), (1, .inl x), (2, .inl y)], [], h2) (fun _ g => g.2.1 196 11 = cd_roundAt A s x y) := fun q N => by
    refine pa_aload_n (pc' := 29) dX12_roundAt_28 rfl rfl ?_
    refine pa_iconst (v := nI 1) (pc' := 30) dX12_roundAt_29 (by decide) rfl ?_
    refine pa_callv (pc' := 33) (vs := [.inl (nI 1)]) (rest := []) dX12_roundAt_30 ml_12_170 (by decide) rfl rfl rfl (fun d' _ => (m_no z196)) (fun v g8 hq => ?_)
    obtain ⟨ev, eh⟩ := hq
    subst ev
    show zPn N none d mX12_roundAt (33, _, [.inl ((-1))], g8) _
    refine pa_iret dX12_roundAt_33 rfl rfl ?_
    exact rt_m eh (by unfold cd_roundAt; rw [if_neg q]; rfl)
  show zPn N none d mX12_roundAt (0, [(0, .inr (.inr (some 196))), (1, .inl x), (2, .inl y)], [], h) _
  refine pa_aload_n (pc' := 1) dX12_roundAt_0 rfl rfl ?_
  refine pa_callv (pc' := 4) (vs := []) (rest := []) dX12_roundAt_1 ml_12_167 (by decide) rfl rfl rfl (fun d' _ => (m_good s196)) (fun v h3 hq => ?_)
  obtain ⟨ev, eh⟩ := hq
  subst ev
  show zPn N none d mX12_roundAt (4, _, [], h3) _
  rw [eg] at eh
  subst eh
  have t0 : h3.2.1 196 11 = 0 := by rw [← eg]; exact zsI_eq
  refine pa_aload_n (pc' := 5) dX12_roundAt_4 rfl rfl ?_
  refine pa_iload_n (pc' := 6) dX12_roundAt_5 rfl rfl ?_
  refine pa_callv (pc' := 9) (vs := [.inl x]) (rest := []) dX12_roundAt_6 ml_12_277 (by decide) rfl rfl rfl (fun d' _ => (N_isI12 hA q15 h1)) (fun v g9 hq => ?_)
  obtain ⟨ev, eh⟩ := hq
  subst ev
  rw [eh]
  show zPn N none d mX12_roundAt (9, _, [.inl (if 0 ≤ (x).toInt ∧ (x).toInt < (cI A:Int) then 1 else 0)], h3) _
  by_cases hx : 0 ≤ x.toInt ∧ x.toInt < (cI A : Int)
  case neg =>
    rw [if_neg hx]
    refine pa_if_t (pc' := 28) dX12_roundAt_9 (by decide) (by decide) ?_
    exact no (fun q => hx q.1) _
  rw [if_pos hx]
  have B := B (show cI A ≠ 0 by omega)
  have e4 := B.2.1.2.2.2.2.1.1
  refine pa_if_f (pc' := 12) dX12_roundAt_9 (by decide) (by decide) rfl ?_
  refine pa_iload_n (pc' := 13) dX12_roundAt_12 rfl rfl ?_
  refine pa_iconst (v := nI 0) (pc' := 14) dX12_roundAt_13 (by decide) rfl ?_
  refine pa_aload_n (pc' := 15) dX12_roundAt_14 rfl rfl ?_
  refine pa_getR (pc' := 18) (n := 39) (r := 199) dX12_roundAt_15 fl_12_20 z196 (by decide) q15 rfl ?_
  refine pa_iconst (v := nI 4) (pc' := 19) dX12_roundAt_18 (by decide) rfl ?_
  refine pa_iald (pc' := 20) dX12_roundAt_19 z199 rfl (fun _ => ?_)
  rw [nI_clamp (by omega), e4]
  refine pa_iconst (v := nI 1) (pc' := 21) dX12_roundAt_20 (by decide) rfl ?_
  refine pa_isub (pc' := 22) (v := nI ((cI A) - 1)) dX12_roundAt_21 (nI_sub (by omega)) rfl ?_
  refine pa_calls (pc' := 25) (kd := 1) (vs := [.inl y, .inl (nI 0), .inl (nI ((cI A) - 1))]) (rest := []) dX12_roundAt_22 ml_12_149 (.inl rfl) rfl rfl rfl (fun d' _ => in_v) (fun v g9 hq => ?_)
  obtain ⟨ev, eh⟩ := hq
  subst ev
  rw [eh]
  show zPn N none d mX12_roundAt (25, _, [.inl (if ((nI 0)).toInt ≤ (y).toInt ∧ (y).toInt ≤ ((nI ((cI A) - 1))).toInt then 1 else 0)], h3) _
  rw [nI_toInt (n := 0) (by decide), nI_toInt (n := cI A - 1) (by omega)]
  by_cases hy : ((0 : Nat) : Int) ≤ y.toInt ∧ y.toInt ≤ ((cI A - 1 : Nat) : Int)
  case neg =>
    rw [if_neg hy]
    refine pa_if_f (pc' := 28) dX12_roundAt_25 (by decide) (by decide) rfl ?_
    exact no (fun q => hy (by omega)) _
  rw [if_pos hy]
  have hy2 : 0 ≤ y.toInt ∧ y.toInt < (cI A : Int) := by omega
  obtain ⟨i, rfl, hi2, ei⟩ := nI_ob hx.1 hx.2
  clear no
  refine pa_if_t (pc' := 34) dX12_roundAt_25 (by decide) (by decide) ?_
  refine pa_aload_n (pc' := 35) dX12_roundAt_34 rfl rfl ?_
  refine pa_iload_n (pc' := 36) dX12_roundAt_35 rfl rfl ?_
  refine pa_callv (pc' := 39) (vs := [.inl (nI i)]) (rest := []) dX12_roundAt_36 ml_12_419 (by decide) rfl rfl rfl (fun d' _ => zPa.two (M_seekR (d := d') B rm.1 rm.2.1 rm.2.2 hi2) (fl_pa fa_X12_seekRound)) (fun v g9 hq => ?_)
  obtain ⟨⟨f1, f2, hq⟩, hk⟩ := hq
  have w196 : zsh g9 196 = some (12, 39) := zsh_by (f1.trans h1) (by decide +kernel)
  have t9 : g9.2.1 196 11 = 0 := (hk.2.2 39 z196).trans t0
  rcases hq with ⟨lt, ev, eo⟩ | ⟨lt, ev⟩
  · subst ev
    have V : cd_roundAt A s (nI i) y = 0 := by unfold cd_roundAt; rw [if_pos ⟨hx, hy2⟩, ei, if_pos (show roT A s i < 1000000 from lt)]
    have cl : roT A s i ≤ 1000000 := Nat.le_of_lt lt
    show zPn N none d mX12_roundAt (39, _, [.inl (nI (roT A s i))], g9) _
    refine pa_if_t (pc' := 51) dX12_roundAt_39 (zk_lt_ge (b := false) (zlR (by omega))) (by decide) ?_
    exact G_roundAt12 (by decide +kernel) (fun v g q => (q.2.2 39 w196).trans (t9.trans V.symm))
  · subst ev
    have V : cd_roundAt A s (nI i) y = 6 := by unfold cd_roundAt; rw [if_pos ⟨hx, hy2⟩, ei, if_neg (show ¬ roT A s i < 1000000 from lt)]
    show zPn N none d mX12_roundAt (39, _, [.inl (-2)], g9) _
    refine pa_if_f (pc' := 42) dX12_roundAt_39 (show zcond .ge (-2 : Int32) 0 = false by decide) (by decide) rfl ?_
    refine pa_aload_n (pc' := 43) dX12_roundAt_42 rfl rfl ?_
    refine pa_bipush (v := nI 6) (pc' := 45) dX12_roundAt_43 (by decide) rfl ?_
    refine pa_callv (pc' := 48) (vs := [.inl (nI 6)]) (rest := []) dX12_roundAt_45 ml_12_170 (by decide) rfl rfl rfl (fun d' _ => (m_no w196)) (fun v g8 hq => ?_)
    obtain ⟨ev, eh⟩ := hq
    subst ev
    show zPn N none d mX12_roundAt (48, _, [.inl ((-1))], g8) _
    refine pa_goto (pc' := 57) dX12_roundAt_48 (by decide) ?_
    refine pa_iret dX12_roundAt_57 rfl rfl ?_
    exact rt_m eh (V.trans rfl)
end RFI
/-! trouble: between two calls class and reference tell the same -/
section RFK
variable {t d c : Nat} {h g h' : zH} {A : pA} {s : nS} {H J : List nS} {kk : Bool} {im : Int32} {ct : aCt} {vs : List zV}
theorem N_trouble11 (h1 : h.1 = hh_487.1) : zPa d mX11_trouble [.inr (.inr (some 0))] h (fun v _ => v = some (.inl (h.2.1 0 2))) := by
  intro N
  have s0 : zsh h 0 = some (11, 16) := zsh_by h1 (by decide +kernel)
  show zPn N none d mX11_trouble (0, [(0, .inr (.inr (some 0)))], [], h) _
  refine pa_aload_n (pc' := 1) dX11_trouble_0 rfl rfl ?_
  refine pa_getI (pc' := 4) (n := 16) (v := h.2.1 0 2) dX11_trouble_1 fl_11_17 s0 (by decide) rfl rfl ?_
  exact pa_iret dX11_trouble_4 rfl rfl rfl
theorem N_trouble12 (h1 : h.1 = hh_487.1) : zPa d mX12_trouble [.inr (.inr (some 196))] h (fun v _ => v = some (.inl (h.2.1 196 11))) := by
  intro N
  have s196 := sh_196' h1
  show zPn N none d mX12_trouble (0, [(0, .inr (.inr (some 196)))], [], h) _
  refine pa_aload_n (pc' := 1) dX12_trouble_0 rfl rfl ?_
  refine pa_iconst (v := 0) (pc' := 2) dX12_trouble_1 (by decide) rfl ?_
  refine pa_putI (pc' := 5) (n := 39) dX12_trouble_2 fl_12_62 s196 (Or.inl rfl) (Or.inl rfl) rfl ?_
  refine pa_aload_n (pc' := 6) dX12_trouble_5 rfl rfl ?_
  refine pa_getI (pc' := 9) (n := 39) (v := h.2.1 196 11) dX12_trouble_6 fl_12_65 s196 (by decide) (zsI_no (by omega)) rfl ?_
  exact pa_iret dX12_trouble_9 rfl rfl rfl
theorem n_mtr (hS : aSpec wd ct) (hk : ((!(inM ct.2.2.2.2.1 196 11)) && lkX lkNM ct []) = true) (ha : aArgs vs ct.2.1) (ho : lIn0 t h) : zPa 1004 ct.1 vs h (fun _ h' => h'.2.1 196 11 = h.2.1 196 11) := by
  rw [Bool.and_eq_true, Bool.not_eq_true'] at hk
  have hk2 := hk.2
  unfold lkX at hk2
  rw [Bool.and_eq_true, Bool.and_eq_true] at hk2
  exact zPa.of (zEx.mono (hS 1004 (Nat.le_of_ble_eq_true hk2.1.2) vs h ha ho.1 (lkP_in hk2.2 (fun q hq => nomatch hq))) (fun v h' hq => hq.2.1.2.2.1 196 11 hk.1))
theorem tr_post {s : Nat} {x v w : Int32} (a : pQ1 x s h v g) (b : pQ2 (h.2.1 1) x s g w h') : h'.2.1 0 2 = h'.2.1 196 11 := by
  obtain ⟨a1, a2⟩ := a
  obtain ⟨b1, b2, b3, b4⟩ := b
  rw [b1 0 2 (.inl (by decide))]
  rcases a2 with ⟨a3, a4, a5⟩ | ⟨a3, c, b', hc, hb, a4⟩
  · rcases b4 with ⟨b5, b6, b7⟩ | ⟨b5, -⟩
    · rw [b7, zsI_eq, a5]
      exact zsI_eq
    · exact absurd b5 a3
  · rcases b4 with ⟨b5, -⟩ | ⟨-, b5⟩
    · exact absurd a3 b5
    · cases er : pst (h.2.1 1) x with
      | inl e =>
        rw [er] at a4 b5
        obtain ⟨-, f1, f3, -⟩ := a4
        obtain ⟨-, g9, g10, g11, -⟩ := b5
        exact f3.trans g11.symm
      | inr A =>
        rw [er] at a4 b5
        obtain ⟨-, f1, f2, f3, f4, f5, f6, f7⟩ := a4
        obtain ⟨g1, -⟩ := b5
        have ew : w ≠ -1 := by
          cases g1
          intro q
          have := congrArg Int32.toInt q
          have b7 := f2.2.2.1.1
          rw [nI_toInt (by omega), show (-1 : Int32).toInt = -1 by decide] at this
          omega
        exact f5.trans (b3 ew).1.symm
def lZq (h : zH) : Prop := lZs h ∧ h.2.1 0 2 = h.2.1 196 11
theorem lZq_beg : lZq hh_487 := ⟨lZ_beg, by decide +kernel⟩
end RFK
