/-! LOCKSTEP: methods that write nothing, from two heaps that agree where they read -/
def pH (i : Instr) : Bool := match i with
  | .iconst _ => true
  | .bipush _ => true
  | .iload _ => true
  | .iload_n _ => true
  | .aload _ => true
  | .aload_n _ => true
  | .istore _ => true
  | .istore_n _ => true
  | .iinc _ _ => true
  | .ifCond _ _ => true
  | .if_icmp _ _ => true
  | .goto _ => true
  | .iadd => true
  | .isub => true
  | .imul => true
  | .idiv => true
  | .irem => true
  | _ => false
def sw (h : zH) (x : zC ⊕ zR) : zC ⊕ zR := match x with
  | .inl (p, l, s, _) => .inl (p, l, s, h)
  | .inr (v, _) => .inr (v, h)
theorem hf {call call' : zM → List zV → zH → Option zR} {deep deep' : Bool} {m : zM} {i : Instr} {len pc : Nat} {ls : zL} {st : List zV} {h h' : zH} (hp : pH i = true) : zexec none call deep m i len pc ls st h = (zexec none call' deep' m i len pc ls st h').map (sw h) := by
  cases i <;> first | (exact absurd hp Bool.false_ne_true) | skip
  case iadd => unfold zexec zarith; (repeat' split) <;> first | rfl | (simp_all [sw, zbin, zun, zlbin])
  case isub => unfold zexec zarith; (repeat' split) <;> first | rfl | (simp_all [sw, zbin, zun, zlbin])
  case imul => unfold zexec zarith; (repeat' split) <;> first | rfl | (simp_all [sw, zbin, zun, zlbin])
  case idiv => unfold zexec zarith; (repeat' split) <;> first | rfl | (simp_all [sw, zbin, zun, zlbin])
  case irem => unfold zexec zarith; (repeat' split) <;> first | rfl | (simp_all [sw, zbin, zun, zlbin])
  all_goals simp only [zexec, zload, zstore, zbr, zjump, zgo]
  all_goals (repeat' split)
  all_goals first | rfl | (simp_all [sw])
def nxs (i : Instr) (len pc : Nat) : List Nat := match i with
  | .goto off => [((pc : Int) + off).toNat]
  | .ifCond _ off => [((pc : Int) + off).toNat, pc + len]
  | .if_icmp _ off => [((pc : Int) + off).toNat, pc + len]
  | .invokevirtual _ => [pc + 3]
  | .ireturn => []
  | _ => [pc + len]
theorem zarith_pc {i : Instr} {len pc : Nat} {ls : zL} {st : List zV} {h : zH} {g : zC} (hx : zarith i len pc ls st h = some (.inl g)) : g.1 = pc + len := by
  unfold zarith at hx
  (repeat' split at hx) <;> first | (cases hx; done) | (cases hx; rfl)
theorem zarith_nr {i : Instr} {len pc : Nat} {ls : zL} {st : List zV} {h : zH} {g : zR} (hx : zarith i len pc ls st h = some (.inr g)) : False := by
  unfold zarith at hx
  (repeat' split at hx) <;> cases hx
theorem hfn {call : zM → List zV → zH → Option zR} {deep : Bool} {m : zM} {i : Instr} {len pc : Nat} {ls : zL} {st : List zV} {h : zH} {g : zC} (hp : pH i = true) (hx : zexec none call deep m i len pc ls st h = some (.inl g)) : g.1 ∈ nxs i len pc := by
  cases i <;> first | (exact absurd hp Bool.false_ne_true) | skip
  case iadd => exact List.mem_singleton.mpr (zarith_pc (by unfold zexec at hx; exact hx))
  case isub => exact List.mem_singleton.mpr (zarith_pc (by unfold zexec at hx; exact hx))
  case imul => exact List.mem_singleton.mpr (zarith_pc (by unfold zexec at hx; exact hx))
  case idiv => exact List.mem_singleton.mpr (zarith_pc (by unfold zexec at hx; exact hx))
  case irem => exact List.mem_singleton.mpr (zarith_pc (by unfold zexec at hx; exact hx))
  all_goals simp only [zexec, zload, zstore, zbr, zjump, zgo] at hx
  all_goals (repeat' split at hx)
  all_goals first | (cases hx; done) | (have := Sum.inl.inj (Option.some.inj hx); rw [← this]; simp [nxs])

def pJ (K : List Nat) (own : Nat) (i : Instr) : Bool := match i with
  | .getfield k => (match zfld own k with
    | some (ci, f) => Nat.blt ci 13 && Nat.beq ((zft ci).getD f 0) 3
    | none => false)
  | .iaload => true
  | .ireturn => true
  | .invokevirtual k => K.any (fun q => Nat.beq q k)
  | i => pH i
/-- g has fewer cells (kind 99 for those that aren't to be read); what it has is the same in h -/
def lkR (g h : zH) : Prop := h.1.1 = g.1.1 ∧ (∀ a k n, zsh g a = some (k, n) → k ≠ 99 → zsh h a = some (k, n)) ∧ (∀ a n, zsh g a = some (14, n) → h.2.1 a = g.2.1 a) ∧ (∀ a k, h.2.2.2.1 a k = g.2.2.2.1 a k)
section LK
variable {F : zM → Prop} {K : List Nat} {g h : zH} {call call' : zM → List zV → zH → Option zR} {deep deep' : Bool} {m : zM} {i : Instr} {len pc : Nat} {ls : zL} {st : List zV}
theorem lk_ld {a : Nat} {j v : Int32} (hr : lkR g h) (hx : zld none g 14 a j = some v) : zld none h 14 a j = some v := by
  unfold zld at hx ⊢
  cases e : zsh g a with
  | some q =>
    obtain ⟨k, n⟩ := q
    rw [e] at hx
    dsimp only at hx
    by_cases ek : k = 14
    · subst ek
      rw [hr.2.1 a 14 n e (by decide)]
      dsimp only
      rw [hr.2.2.1 a n e]
      exact hx
    · rw [if_neg ek] at hx
      cases hx
  | none =>
    rw [e] at hx
    have e2 : zsh h a = none := by
      unfold zsh at e ⊢
      rw [hr.1]
      split at e
      · cases e
      · next z => rw [if_neg z]
    rw [e2]
    exact hx
theorem lk_ex {x : zC ⊕ zR} (hr : lkR g h) (hp : pJ K m.2.1 i = true) (hK : ∀ k ∈ K, ∃ na cm, zmth m.2.1 k = some (0, na, cm) ∧ cm.2.1 < 13 ∧ F cm) (hcall : ∀ cm vs r h1, F cm → call cm vs g = some (r, h1) → h1 = g ∧ call' cm vs h = some (r, h)) (hx : zexec none call deep m i len pc ls st g = some x) : zexec none call' deep' m i len pc ls st h = some (sw h x) ∧ sw g x = x ∧ (∀ c, x = .inl c → c.1 ∈ nxs i len pc) := by
  have pure : pH i = true → zexec none call' deep' m i len pc ls st h = some (sw h x) ∧ sw g x = x ∧ (∀ c, x = .inl c → c.1 ∈ nxs i len pc) := by
    intro hp
    refine ⟨?_, ?_, fun c e => ?_⟩
    · rw [hf (h' := g) (call' := call) (deep' := deep) hp, hx]; rfl
    · have := hf (call := call) (deep := deep) (call' := call) (deep' := deep) (m := m) (len := len) (pc := pc) (ls := ls) (st := st) (h := g) (h' := g) hp
      rw [hx] at this
      exact (Option.some.inj this).symm
    · subst e; exact hfn hp hx
  cases i <;> first | (exact pure hp) | skip
  case getfield k =>
    simp only [zexec] at hx ⊢
    unfold pJ at hp
    dsimp only at hp
    split at hx
    · next a st' =>
      split at hx
      · next ci f kd n e1 e2 =>
        rw [e1] at hp
        simp only [Bool.and_eq_true, Nat.blt_eq, Nat.beq_eq] at hp
        split at hx
        · next ek =>
          subst ek
          have e3 := hr.2.1 a kd n e2 (by omega)
          have hx := Option.some.inj hx
          subst hx
          simp only [e1, e3, if_pos]
          have ev : zfv h kd a f = zfv g kd a f := by
            unfold zfv
            rw [if_pos hp.2, if_pos hp.2, hr.2.2.2]
          rw [ev]
          exact ⟨rfl, rfl, fun c e => by cases e; simp [nxs]⟩
        · cases hx
      · cases hx
    · cases hx
  case iaload =>
    simp only [zexec] at hx ⊢
    split at hx
    · next j a st' =>
      split at hx
      · next v e1 =>
        have hx := Option.some.inj hx
        subst hx
        rw [lk_ld hr e1]
        exact ⟨rfl, rfl, fun c e => by cases e; simp [nxs]⟩
      · cases hx
    · cases hx
  case ireturn =>
    simp only [zexec] at hx ⊢
    split at hx
    · next y =>
      split at hx
      · next ty e1 =>
        split at hx
        · next e2 =>
          have hx := Option.some.inj hx
          subst hx
          simp only [e1, if_pos e2]
          exact ⟨rfl, rfl, fun c e => by cases e⟩
        · cases hx
      · cases hx
    · cases hx
  case invokevirtual k =>
    simp only [zexec] at hx ⊢
    obtain ⟨k', hk', ek⟩ := List.any_eq_true.mp hp
    have ek : k' = k := by simpa using ek
    subst ek
    obtain ⟨na, cm, e1, h2, h3⟩ := hK _ hk'
    rw [e1] at hx ⊢
    dsimp only at hx ⊢
    · skip
      rw [if_pos rfl, if_neg (show ¬ cm.2.1 = 14 by omega)] at hx ⊢
      unfold zcall at hx ⊢
      split at hx
      · next e2 =>
        rw [if_pos e2]
        rw [if_neg (by decide)] at hx ⊢
        split at hx
        · next a vs e3 =>
          split at hx
          · next kk n e4 =>
            split at hx
            · next e5 =>
              split at hx
              · next r h1 e6 =>
                obtain ⟨q1, q2⟩ := hcall _ _ _ _ h3 e6
                subst q1
                have hx := Option.some.inj hx
                subst hx
                simp only [e3, hr.2.1 a kk n e4 (by omega), if_pos e5, q2]
                exact ⟨rfl, rfl, fun c e => by cases e; simp [nxs]⟩
              · cases hx
            · cases hx
          · cases hx
        · cases hx
      · cases hx
def aClo (K : List Nat) (own : Nat) (S : aCd) : Bool := S.any (fun q => Nat.beq q.1 0) && S.all (fun q => pJ K own q.2.1 && (nxs q.2.1 q.2.2 q.1).all (fun t => S.any (fun p => Nat.beq p.1 t)))
theorem lock {own : Nat} (hT : ∀ m, F m → m.2.1 = own ∧ ∃ S : aCd, (∀ q ∈ S, decode m.1 q.1 = .ok (q.2.1, q.2.2)) ∧ aClo K own S = true) (hK : ∀ k ∈ K, ∃ na cm, zmth own k = some (0, na, cm) ∧ cm.2.1 < 13 ∧ F cm) (hr : lkR g h) : ∀ (n d d' : Nat) (m : zM) (S : aCd) (pc : Nat) (ls : zL) (st : List zV) (v : Option zV) (h1 : zH), d ≤ d' → m.2.1 = own → (∀ q ∈ S, decode m.1 q.1 = .ok (q.2.1, q.2.2)) → aClo K own S = true → S.any (fun p => Nat.beq p.1 pc) = true → zrun n none d m (pc, ls, st, g) = some (v, h1) → h1 = g ∧ zrun n none d' m (pc, ls, st, h) = some (v, h) := by
  intro n
  induction n with
  | zero => intro d d' m S pc ls st v h1 _ _ _ _ _ hz; cases hz
  | succ n ih =>
    intro d d' m S pc ls st v h1 hdd ho hS hC hpc hz
    have hC' := hC
    simp only [aClo, Bool.and_eq_true, List.all_eq_true] at hC
    obtain ⟨q, hq, eq⟩ := List.any_eq_true.mp hpc
    have eq : q.1 = pc := by simpa using eq
    subst eq
    have hdec := hS q hq
    obtain ⟨p1, p2⟩ := hC.2 q hq
    have hcall : ∀ cm vs r h1, F cm → zcf n d cm vs g = some (r, h1) → h1 = g ∧ zcf n d' cm vs h = some (r, h) := by
      intro cm vs r h1 hF hc
      unfold zcf at hc ⊢
      cases d with
      | zero => cases hc
      | succ d =>
        obtain ⟨d', rfl⟩ : ∃ k, d' = k + 1 := ⟨d' - 1, by omega⟩
        dsimp only at hc ⊢
        split at hc
        · next hw =>
          rw [if_pos hw]
          obtain ⟨so, S', s1, s2⟩ := hT cm hF
          have s3 := s2
          simp only [aClo, Bool.and_eq_true] at s3
          exact ih d d' cm S' 0 _ _ r h1 (by omega) so s1 s2 s3.1 hc
        · cases hc
    rw [zrun_succ] at hz ⊢
    unfold zstep at hz ⊢
    dsimp only at hz ⊢
    rw [hdec] at hz ⊢
    dsimp only at hz ⊢
    by_cases hl : zilen q.2.1 = 0 ∨ q.2.2 = zilen q.2.1
    · rw [if_pos hl] at hz ⊢
      cases ex : zexec none (zcf n d) (decide (0 < d)) m q.2.1 q.2.2 q.1 ls st g with
      | none => rw [ex] at hz; cases hz
      | some x =>
        rw [ex] at hz
        obtain ⟨k1, k2, k3⟩ := lk_ex (call' := zcf n d') (deep' := decide (0 < d')) hr (by rw [ho]; exact p1) (by rw [ho]; exact hK) hcall ex
        rw [k1]
        cases x with
        | inl c =>
          obtain ⟨pc', ls', st', g'⟩ := c
          have e : g = g' := by
            have := Sum.inl.inj k2
            exact congrArg (fun z : zC => z.2.2.2) this
          subst e
          exact ih d d' m S pc' ls' st' v h1 hdd ho hS hC' (p2 pc' (k3 _ rfl)) hz
        | inr r =>
          obtain ⟨v', g'⟩ := r
          have e : g = g' := by
            have := Sum.inr.inj k2
            exact congrArg Prod.snd this
          subst e
          have hz := Option.some.inj hz
          have e1 : v' = v := congrArg Prod.fst hz
          have e2 : g = h1 := congrArg Prod.snd hz
          subst e1; subst e2
          exact ⟨rfl, rfl⟩
    · rw [if_neg hl] at hz
      cases hz
end LK
